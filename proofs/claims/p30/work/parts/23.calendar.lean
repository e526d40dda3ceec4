/-! Calendar -/
def fz_wf (V : Nat → Nat → Int32) (nt nc nq nl wk : Nat) : Prop := V 3 0 = nI nt ∧ nt ≤ 6 ∧ V 8 0 = nI nc ∧ nc ≤ 30 ∧ V 8 1 = nI nq ∧ nq ≤ nc ∧ V 17 0 = nI nl ∧ nl ≤ 12 ∧ V 0 0 = nI wk ∧ wk ≤ 39 ∧ (∀ i, i < nc → ∃ j, j < nt ∧ V 9 i = nI j) ∧ (∀ i, i < nq → ∃ j, j < nc ∧ V 16 i = nI j) ∧ (∀ i, i < nl → ∃ j, j < nt ∧ V 18 i = nI j) ∧ (∀ i, i < nl → ∃ j, j < nt ∧ V 19 i = nI j)
def fz_owes (b lf du : Nat → Int32) (w : Int32) (nl : Nat) (t : Int32) : Bool := fz_any (fun i => decide (b i = t) && !(decide (lf i ≤ 0)) && !(decide (w ≤ du i))) nl
def fz_reason (V : Nat → Nat → Int32) (nl z : Nat) : Int32 := if V 11 z = 0 then (if fz_owes (V 19) (V 21) (V 22) (V 0 0) nl (V 9 z) = true then 2 else if V 10 z * V 1 0 ≤ V 4 (V 9 z).toNatClampNeg then 0 else 3) else 1
/-- the first week from k on that is not frozen -/
def fz_thaw (f : Nat → Int32) (k : Nat) : Int32 := match (List.range' k (40 - k)).find? (fun i => decide (f i = 0)) with
  | some i => nI i
  | none => -1
theorem fz_thaw_e {f : Nat → Int32} {k : Nat} (h : 40 ≤ k) : fz_thaw f k = -1 := by
  rw [fz_thaw, show 40 - k = 0 by omega]
  rfl
theorem fz_thaw_y {f : Nat → Int32} {k : Nat} (h : k < 40) (h0 : f k = 0) : fz_thaw f k = nI k := by
  rw [fz_thaw, show 40 - k = (39 - k) + 1 by omega, List.range'_succ, List.find?_cons, h0]
  rfl
theorem fz_thaw_n {f : Nat → Int32} {k : Nat} (h : k < 40) (h0 : ¬ f k = 0) : fz_thaw f k = fz_thaw f (k + 1) := by
  rw [fz_thaw, fz_thaw, show 40 - k = (39 - k) + 1 by omega, List.range'_succ, List.find?_cons, show 40 - (k + 1) = 39 - k by omega]
  simp [h0]
/-- the frozen weeks from k on -/
def fz_frz (f : Nat → Int32) (k : Nat) : Int32 := ((List.range' k (40 - k)).map (fun i => fz_nz (f i))).sum
theorem fz_frz_e {f : Nat → Int32} : fz_frz f 40 = 0 := rfl
theorem fz_frz_s {f : Nat → Int32} {k : Nat} (h : k < 40) : fz_frz f k = fz_nz (f k) + fz_frz f (k + 1) := by
  rw [fz_frz, fz_frz, show 40 - k = (39 - k) + 1 by omega, List.range'_succ, List.map_cons, List.sum_cons, show 40 - (k + 1) = 39 - k by omega]
def fz_bring (V : Nat → Nat → Int32) (nt : Nat) (x : Int32) : Int32 × (Nat → Nat → Int32) := if x < 0 then (-2, V) else if x ≤ 999 then (if 6 ≤ nt then (-3, V) else (nI nt, fz_up (fz_up (fz_up (fz_up (fz_up V 3 (upd (V 3) 0 (nI (nt + 1)))) 4 (upd (V 4) nt x)) 5 (upd (V 5) nt x)) 6 (upd (V 6) nt 0)) 7 (upd (V 7) nt 0))) else (-2, V)
/-- x credits of loan z are paid back: free credits, and what is left -/
def fz_pb (g b : Nat → Int32) (z : Nat) (x : Int32) (q : (Nat → Int32) × (Nat → Int32)) : (Nat → Int32) × (Nat → Int32) := (upd (upd q.1 (b z).toNatClampNeg (q.1 (b z).toNatClampNeg - x)) (g z).toNatClampNeg (upd q.1 (b z).toNatClampNeg (q.1 (b z).toNatClampNeg - x) (g z).toNatClampNeg + x), upd q.2 z (q.2 z - x))
theorem fz_pb_eq {f b : Nat → Int32} {z : Nat} {x : Int32} {q : (Nat → Int32) × (Nat → Int32)} {j g : Nat} (ej : b z = nI j) (eg : f z = nI g) (hj : j < 2 ^ 31) (hg : g < 2 ^ 31) : fz_pb f b z x q = (upd (upd q.1 j (q.1 j - x)) g (upd q.1 j (q.1 j - x) g + x), upd q.2 z (q.2 z - x)) := by
  rw [fz_pb, fz_tnat ej hj, fz_tnat eg hg]
def fz_flt (tm sx md : Nat → Int32) (nc : Nat) (t w : Int32) : Bool := fz_any (fun i => decide (tm i = t) && decide (sx i = 3) && decide (md i = w)) nc
/-- what the first k teams earn: the sum, free and earned credits -/
def fz_ea (V : Nat → Nat → Int32) (nc wk : Nat) : Nat → Int32 × (Nat → Int32) × (Nat → Int32)
  | 0 => (0, V 4, V 6)
  | k + 1 => bif fz_flt (V 9) (V 11) (V 14) nc (nI k) (nI wk) then fz_ea V nc wk k else ((fz_ea V nc wk k).1 + fz_earn ((fz_ea V nc wk k).2.1 k) (V 1 1) (V 1 3), upd (fz_ea V nc wk k).2.1 k ((fz_ea V nc wk k).2.1 k + fz_earn ((fz_ea V nc wk k).2.1 k) (V 1 1) (V 1 3)), upd (fz_ea V nc wk k).2.2 k ((fz_ea V nc wk k).2.2 k + fz_earn ((fz_ea V nc wk k).2.1 k) (V 1 1) (V 1 3)))
set_option maxHeartbeats 4000000 in
set_option maxRecDepth 100000 in
/-- Calendar.creditsOf -/
theorem c_X1_creditsOf (l : Launch) (D : va_G) (cy : Nat → ClassId) (a : Nat → Nat) (V : Nat → Nat → Int32) (nt nc nq nl wk : Nat) (wf : fz_wf V nt nc nq nl wk) (x : Int32) : fz_RI l yX1_creditsOf wsX1_creditsOf 0 0 D cy [.ref (a 0), .int x] (CW cy a V) fz_T (x * V 1 0) := by
  refine Met.ofW (cc := cX1_creditsOf) (maxL := 2) (ret := (some .int)) (by decide) rfl ?_
  intro p e s m args below meth c s₁ B hml hv
  obtain ⟨rfl, hP, hK, hE⟩ := hv
  have hx := B.exec
  have hb := B.bytes
  have hr := B.returns
  have hts := atoms_spec (ws := wsX1_creditsOf) B.pre
  have hown : s.vm.findClass RX1 = some m.cls := findClass_of_methodNamed B.named
  have hlocks := B.notSynchronized
  have hl := lv_entry ([.ref (a 0), .int x]) (n := 2) (Nat.le_of_ble_eq_true rfl)
  rw [lg_entry_eq]
  generalize (lg_sl ([.ref (a 0), .int x]) ++ List.replicate (2 - (lg_sl ([.ref (a 0), .int x])).length) Slot.unset).toArray = ls at hl ⊢
  have hl : lv_has ls 2 [(0, .ref (a 0)), (1, .int x)] := hl
  have k_18 := hts (.fieldLink RX1 18 "FreezeCredits$Calendar" "settings" "[I") (by decide +kernel)
  have inX1 : ∀ w ∈ u_ws RX1 TX1 6, w ∈ wsX1_creditsOf := by decide +kernel
  obtain ⟨hnt, hnt6, hnc, hnc30, hnq, hqc, hnl, hnl12, hwk, hwk39, hT, hQ, hG, hB⟩ := id wf
  refine lv_iload_n hx hb dX1_creditsOf_0 rfl (lv_at hl 1 rfl) ?_
  refine lv_aload_n hx hb dX1_creditsOf_1 rfl (lv_at hl 0 rfl) ?_
  refine va_get (D := D) (ci := 0) (v := .ref (a 1)) (C := RX1) (T := TX1) (N := 6) hx hb hts inX1 hown hK hP 0 rfl rfl 1 (by decide) k_18 (fun _ h9 => h9) rfl dX1_creditsOf_2 ?_
  refine lv_iconst (v := 0) hx hb dX1_creditsOf_5 (by decide) ?_
  refine fz_iald (f := V 1) hx hb hK hP 1 0 rfl rfl 0 rfl (by omega) (by decide) dX1_creditsOf_6 ?_
  refine lv_imul hx hb dX1_creditsOf_7 ?_
  exact W.iret (v := (x * (V 1 0))) hx hb hr (fun t9 ht9 hW9 => ⟨_, rfl, rfl, ht9⟩) (fun _ h => nomatch h) dX1_creditsOf_8
set_option maxHeartbeats 4000000 in
set_option maxRecDepth 100000 in
/-- Calendar.owes -/
theorem c_X1_owes (l : Launch) (D : va_G) (cy : Nat → ClassId) (a : Nat → Nat) (V : Nat → Nat → Int32) (nt nc nq nl wk : Nat) (wf : fz_wf V nt nc nq nl wk) (t : Int32) : fz_RI l yX1_owes wsX1_owes 1 23 D cy [.ref (a 0), .int t] (CW cy a V) fz_T (fz_b (fz_owes (V 19) (V 21) (V 22) (V 0 0) nl t)) := by
  refine Met.ofW (cc := cX1_owes) (maxL := 2) (ret := (some .boolean)) (by decide) rfl ?_
  intro p e s m args below meth c s₁ B hml hv
  obtain ⟨rfl, hP, hK, hE⟩ := hv
  have hx := B.exec
  have hb := B.bytes
  have hr := B.returns
  have hts := atoms_spec (ws := wsX1_owes) B.pre
  have hown : s.vm.findClass RX1 = some m.cls := findClass_of_methodNamed B.named
  have hlocks := B.notSynchronized
  have hl := lv_entry ([.ref (a 0), .int t]) (n := 2) (Nat.le_of_ble_eq_true rfl)
  rw [lg_entry_eq]
  generalize (lg_sl ([.ref (a 0), .int t]) ++ List.replicate (2 - (lg_sl ([.ref (a 0), .int t])).length) Slot.unset).toArray = ls at hl ⊢
  have hl : lv_has ls 2 [(0, .ref (a 0)), (1, .int t)] := hl
  have k_44 := hts (.fieldLink RX1 44 "FreezeCredits$Calendar" "loans" "LFreezeCredits$Loans;") (by decide +kernel)
  have inX1 : ∀ w ∈ u_ws RX1 TX1 6, w ∈ wsX1_owes := by decide +kernel
  have k_48 := hts (.fieldLink RX1 48 "FreezeCredits$Calendar" "week" "I") (by decide +kernel)
  obtain ⟨hnt, hnt6, hnc, hnc30, hnq, hqc, hnl, hnl12, hwk, hwk39, hT, hQ, hG, hB⟩ := id wf
  refine lv_aload_n hx hb dX1_owes_0 rfl (lv_at hl 0 rfl) ?_
  refine va_get (D := D) (ci := 0) (v := .ref (a 17)) (C := RX1) (T := TX1) (N := 6) hx hb hts inX1 hown hK hP 0 rfl rfl 5 (by decide) k_44 (fun _ h9 => h9) rfl dX1_owes_1 ?_
  refine lv_iload_n hx hb dX1_owes_4 rfl (lv_at hl 1 rfl) ?_
  refine lv_aload_n hx hb dX1_owes_5 rfl (lv_at hl 0 rfl) ?_
  refine va_get (D := D) (ci := 0) (v := .int (V 0 0)) (C := RX1) (T := TX1) (N := 6) hx hb hts inX1 hown hK hP 0 rfl rfl 0 (by decide) k_48 (fun _ h9 => h9) rfl dX1_owes_6 ?_
  refine fz_retR (va_runV (As := [.int t, .int (V 0 0)]) (rest := []) ⟨hx, hb, hml, hown, hts⟩ (c_X5_isOverdue l D cy a V t (V 0 0) nl hnl hnl12) (cwV 2 hts gX1_owes_X5_isOverdue rfl rfl rfl (by decide +kernel) ⟨Nat.le_of_ble_eq_true rfl, Nat.le_of_ble_eq_true rfl⟩) (fz_preV (ci := 4) (q0 := 0) hK (hP.sub (ws' := LW cy a V) [17, 18, 19, 20, 21, 22, 23] rfl) rfl rfl rfl fz_T_bl (fun _ _ _ => trivial)) rfl rfl hl.1 rfl (lv_room (Nat.le_of_ble_eq_true rfl)) dX1_owes_9 ⟨Nat.zero_le _, Nat.zero_le _⟩) ?_
  exact W.zret (v := (fz_b (fz_any (fun i => decide (V 19 i = t) && !(decide (V 21 i ≤ 0)) && !(decide ((V 0 0) ≤ V 22 i))) nl))) hx hb hr (fz_b_narrow (fz_any (fun i => decide (V 19 i = t) && !(decide (V 21 i ≤ 0)) && !(decide ((V 0 0) ≤ V 22 i))) nl)) (fun t9 ht9 hW9 => ⟨_, rfl, (by rw [fz_owes]), ht9⟩) (fun _ h => nomatch h) dX1_owes_12
set_option maxHeartbeats 4000000 in
set_option maxRecDepth 100000 in
/-- Calendar.reasonAgainst -/
theorem c_X1_reasonAgainst (l : Launch) (D : va_G) (cy : Nat → ClassId) (a : Nat → Nat) (V : Nat → Nat → Int32) (nt nc nq nl wk : Nat) (wf : fz_wf V nt nc nq nl wk) (z : Nat) (hz : z < nc) : fz_RI l yX1_reasonAgainst wsX1_reasonAgainst 2 44 D cy [.ref (a 0), .int (nI z)] (CW cy a V) fz_T (fz_reason V nl z) := by
  refine Met.ofW (cc := cX1_reasonAgainst) (maxL := 3) (ret := (some .int)) (by decide) rfl ?_
  intro p e s m args below meth c s₁ B hml hv
  obtain ⟨rfl, hP, hK, hE⟩ := hv
  have hx := B.exec
  have hb := B.bytes
  have hr := B.returns
  have hts := atoms_spec (ws := wsX1_reasonAgainst) B.pre
  have hown : s.vm.findClass RX1 = some m.cls := findClass_of_methodNamed B.named
  have hlocks := B.notSynchronized
  have hl := lv_entry ([.ref (a 0), .int (nI z)]) (n := 3) (Nat.le_of_ble_eq_true rfl)
  rw [lg_entry_eq]
  generalize (lg_sl ([.ref (a 0), .int (nI z)]) ++ List.replicate (3 - (lg_sl ([.ref (a 0), .int (nI z)])).length) Slot.unset).toArray = ls at hl ⊢
  have hl : lv_has ls 3 [(0, .ref (a 0)), (1, .int (nI z))] := hl
  have k_37 := hts (.fieldLink RX1 37 "FreezeCredits$Calendar" "changes" "LFreezeCredits$Changes;") (by decide +kernel)
  have inX1 : ∀ w ∈ u_ws RX1 TX1 6, w ∈ wsX1_reasonAgainst := by decide +kernel
  have k_154 := hts (.fieldLink RX1 154 "FreezeCredits$Changes" "state" "[I") (by decide +kernel)
  have inX2 : ∀ w ∈ u_ws RX2 TX2 10, w ∈ wsX1_reasonAgainst := by decide +kernel
  have k_148 := hts (.fieldLink RX1 148 "FreezeCredits$Changes" "team" "[I") (by decide +kernel)
  have k_30 := hts (.fieldLink RX1 30 "FreezeCredits$Calendar" "teams" "LFreezeCredits$Teams;") (by decide +kernel)
  have k_119 := hts (.fieldLink RX1 119 "FreezeCredits$Teams" "free" "[I") (by decide +kernel)
  have inX6 : ∀ w ∈ u_ws RX6 TX6 5, w ∈ wsX1_reasonAgainst := by decide +kernel
  have k_142 := hts (.fieldLink RX1 142 "FreezeCredits$Changes" "risk" "[I") (by decide +kernel)
  obtain ⟨hnt, hnt6, hnc, hnc30, hnq, hqc, hnl, hnl12, hwk, hwk39, hT, hQ, hG, hB⟩ := id wf
  refine lv_aload_n hx hb dX1_reasonAgainst_0 rfl (lv_at hl 0 rfl) ?_
  refine va_get (D := D) (ci := 0) (v := .ref (a 8)) (C := RX1) (T := TX1) (N := 6) hx hb hts inX1 hown hK hP 0 rfl rfl 4 (by decide) k_37 (fun _ h9 => h9) rfl dX1_reasonAgainst_1 ?_
  refine va_get (D := D) (ci := 1) (v := .ref (a 11)) (C := RX2) (T := TX2) (N := 10) hx hb hts inX2 hown hK hP 8 rfl rfl 3 (by decide) k_154 (fun _ h9 => h9) rfl dX1_reasonAgainst_4 ?_
  refine lv_iload_n hx hb dX1_reasonAgainst_7 rfl (lv_at hl 1 rfl) ?_
  refine fz_iald (f := V 11) hx hb hK hP 11 0 rfl rfl z rfl (by omega) (by decide) dX1_reasonAgainst_8 ?_
  refine lv_if_eq (tgt := 14) hx hb dX1_reasonAgainst_9 (by decide) (fun c_1 => ?_) (fun c_1 => ?_)
  · skip
    obtain ⟨j, hj, ej⟩ := hT z hz
    refine lv_aload_n hx hb dX1_reasonAgainst_14 rfl (lv_at hl 0 rfl) ?_
    refine va_get (D := D) (ci := 0) (v := .ref (a 8)) (C := RX1) (T := TX1) (N := 6) hx hb hts inX1 hown hK hP 0 rfl rfl 4 (by decide) k_37 (fun _ h9 => h9) rfl dX1_reasonAgainst_15 ?_
    refine va_get (D := D) (ci := 1) (v := .ref (a 9)) (C := RX2) (T := TX2) (N := 10) hx hb hts inX2 hown hK hP 8 rfl rfl 1 (by decide) k_148 (fun _ h9 => h9) rfl dX1_reasonAgainst_18 ?_
    refine lv_iload_n hx hb dX1_reasonAgainst_21 rfl (lv_at hl 1 rfl) ?_
    refine fz_iald (f := V 9) hx hb hK hP 9 0 rfl rfl z rfl (by omega) (by decide) dX1_reasonAgainst_22 ?_
    refine lv_istore_n (lv' := [(2, .int (V 9 z)), (0, .ref (a 0)), (1, .int (nI z))]) hx hb dX1_reasonAgainst_23 rfl hl (by decide) rfl (fun ls hl => ?_)
    refine lv_aload_n hx hb dX1_reasonAgainst_24 rfl (lv_at hl 1 rfl) ?_
    refine lv_iload_n hx hb dX1_reasonAgainst_25 rfl (lv_at hl 0 rfl) ?_
    refine fz_retR (va_runV (As := [.int (V 9 z)]) (rest := []) ⟨hx, hb, hml, hown, hts⟩ (c_X1_owes l D cy a V nt nc nq nl wk wf (V 9 z)) (cwV 1 hts gX1_reasonAgainst_X1_owes rfl rfl rfl (by decide +kernel) ⟨Nat.le_of_ble_eq_true rfl, Nat.le_of_ble_eq_true rfl⟩) (fz_preV (ci := 0) (q0 := 0) hK hP rfl rfl rfl fz_T_bl (fun _ _ _ => trivial)) rfl rfl hl.1 rfl (lv_room (Nat.le_of_ble_eq_true rfl)) dX1_reasonAgainst_26 ⟨Nat.zero_le _, Nat.zero_le _⟩) ?_
    refine fz_ifeqB (tgt := 34) hx hb dX1_reasonAgainst_29 (by decide) (fun c_2 => ?_) (fun c_2 => ?_)
    · skip
      refine lv_aload_n hx hb dX1_reasonAgainst_34 rfl (lv_at hl 1 rfl) ?_
      refine va_get (D := D) (ci := 0) (v := .ref (a 3)) (C := RX1) (T := TX1) (N := 6) hx hb hts inX1 hown hK hP 0 rfl rfl 3 (by decide) k_30 (fun _ h9 => h9) rfl dX1_reasonAgainst_35 ?_
      refine va_get (D := D) (ci := 5) (v := .ref (a 4)) (C := RX6) (T := TX6) (N := 5) hx hb hts inX6 hown hK hP 3 rfl rfl 1 (by decide) k_119 (fun _ h9 => h9) rfl dX1_reasonAgainst_38 ?_
      refine lv_iload_n hx hb dX1_reasonAgainst_41 rfl (lv_at hl 0 rfl) ?_
      refine fz_iald (f := V 4) hx hb hK hP 4 0 rfl rfl j ej (by omega) (by decide) dX1_reasonAgainst_42 ?_
      refine lv_aload_n hx hb dX1_reasonAgainst_43 rfl (lv_at hl 1 rfl) ?_
      refine lv_aload_n hx hb dX1_reasonAgainst_44 rfl (lv_at hl 1 rfl) ?_
      refine va_get (D := D) (ci := 0) (v := .ref (a 8)) (C := RX1) (T := TX1) (N := 6) hx hb hts inX1 hown hK hP 0 rfl rfl 4 (by decide) k_37 (fun _ h9 => h9) rfl dX1_reasonAgainst_45 ?_
      refine va_get (D := D) (ci := 1) (v := .ref (a 10)) (C := RX2) (T := TX2) (N := 10) hx hb hts inX2 hown hK hP 8 rfl rfl 2 (by decide) k_142 (fun _ h9 => h9) rfl dX1_reasonAgainst_48 ?_
      refine lv_iload_n hx hb dX1_reasonAgainst_51 rfl (lv_at hl 2 rfl) ?_
      refine fz_iald (f := V 10) hx hb hK hP 10 0 rfl rfl z rfl (by omega) (by decide) dX1_reasonAgainst_52 ?_
      refine fz_retR (va_runV (As := [.int (V 10 z)]) (rest := [.int (V 4 j)]) ⟨hx, hb, hml, hown, hts⟩ (c_X1_creditsOf l D cy a V nt nc nq nl wk wf (V 10 z)) (cwV 1 hts gX1_reasonAgainst_X1_creditsOf rfl rfl rfl (by decide +kernel) ⟨Nat.le_of_ble_eq_true rfl, Nat.le_of_ble_eq_true rfl⟩) (fz_preV (ci := 0) (q0 := 0) hK hP rfl rfl rfl fz_T_bl (fun _ _ _ => trivial)) rfl rfl hl.1 rfl (lv_room (Nat.le_of_ble_eq_true rfl)) dX1_reasonAgainst_53 ⟨Nat.zero_le _, Nat.zero_le _⟩) ?_
      refine lv_icmp_ge (tgt := 63) hx hb dX1_reasonAgainst_56 (by decide) (fun c_3 => ?_) (fun c_3 => ?_)
      · skip
        refine lv_iconst (v := 0) hx hb dX1_reasonAgainst_63 (by decide) ?_
        exact W.iret (v := 0) hx hb hr (fun t9 ht9 hW9 => ⟨_, rfl, (by simp [fz_reason, fz_tnat ej (by omega : j < 2 ^ 31), c_1, c_2, c_3]), ht9⟩) (fun _ h => nomatch h) dX1_reasonAgainst_64
      · skip
        refine lv_iconst (v := 3) hx hb dX1_reasonAgainst_59 (by decide) ?_
        refine lv_goto (tgt := 64) hx hb dX1_reasonAgainst_60 (by decide) ?_
        exact W.iret (v := 3) hx hb hr (fun t9 ht9 hW9 => ⟨_, rfl, (by simp [fz_reason, fz_tnat ej (by omega : j < 2 ^ 31), c_1, c_2, c_3]), ht9⟩) (fun _ h => nomatch h) dX1_reasonAgainst_64
    · skip
      refine lv_iconst (v := 2) hx hb dX1_reasonAgainst_32 (by decide) ?_
      exact W.iret (v := 2) hx hb hr (fun t9 ht9 hW9 => ⟨_, rfl, (by simp [fz_reason, fz_tnat ej (by omega : j < 2 ^ 31), c_1, c_2]), ht9⟩) (fun _ h => nomatch h) dX1_reasonAgainst_33
  · skip
    refine lv_iconst (v := 1) hx hb dX1_reasonAgainst_12 (by decide) ?_
    exact W.iret (v := 1) hx hb hr (fun t9 ht9 hW9 => ⟨_, rfl, (by simp [fz_reason, c_1]), ht9⟩) (fun _ h => nomatch h) dX1_reasonAgainst_13
set_option maxHeartbeats 4000000 in
set_option maxRecDepth 100000 in
/-- Calendar.firstThaw -/
theorem c_X1_firstThaw (l : Launch) (D : va_G) (cy : Nat → ClassId) (a : Nat → Nat) (V : Nat → Nat → Int32) (nt nc nq nl wk : Nat) (wf : fz_wf V nt nc nq nl wk) : fz_RI l yX1_firstThaw wsX1_firstThaw 0 0 D cy [.ref (a 0)] (CW cy a V) fz_T (fz_thaw (V 2) wk) := by
  refine Met.ofW (cc := cX1_firstThaw) (maxL := 2) (ret := (some .int)) (by decide) rfl ?_
  intro p e s m args below meth c s₁ B hml hv
  obtain ⟨rfl, hP, hK, hE⟩ := hv
  have hx := B.exec
  have hb := B.bytes
  have hr := B.returns
  have hts := atoms_spec (ws := wsX1_firstThaw) B.pre
  have hown : s.vm.findClass RX1 = some m.cls := findClass_of_methodNamed B.named
  have hlocks := B.notSynchronized
  have hl := lv_entry ([.ref (a 0)]) (n := 2) (Nat.le_of_ble_eq_true rfl)
  rw [lg_entry_eq]
  generalize (lg_sl ([.ref (a 0)]) ++ List.replicate (2 - (lg_sl ([.ref (a 0)])).length) Slot.unset).toArray = ls at hl ⊢
  have hl : lv_has ls 2 [(0, .ref (a 0))] := hl
  have k_48 := hts (.fieldLink RX1 48 "FreezeCredits$Calendar" "week" "I") (by decide +kernel)
  have inX1 : ∀ w ∈ u_ws RX1 TX1 6, w ∈ wsX1_firstThaw := by decide +kernel
  have k_23 := hts (.fieldLink RX1 23 "FreezeCredits$Calendar" "frozenWeeks" "[Z") (by decide +kernel)
  obtain ⟨hnt, hnt6, hnc, hnc30, hnq, hqc, hnl, hnl12, hwk, hwk39, hT, hQ, hG, hB⟩ := id wf
  refine lv_aload_n hx hb dX1_firstThaw_0 rfl (lv_at hl 0 rfl) ?_
  refine va_get (D := D) (ci := 0) (v := .int (V 0 0)) (C := RX1) (T := TX1) (N := 6) hx hb hts inX1 hown hK hP 0 rfl rfl 0 (by decide) k_48 (fun _ h9 => h9) rfl dX1_firstThaw_1 ?_
  refine lv_istore_n (lv' := [(1, .int (V 0 0)), (0, .ref (a 0))]) hx hb dX1_firstThaw_4 rfl hl (by decide) rfl (fun ls hl => ?_)
  rw [show V 0 0 = nI wk from hwk] at hl
  refine fz_loop (σ := Nat) (pc := 5) (nL := 2) (fun k => [(0, .ref (a 0)), (1, .int (nI k))]) (fun k => (k ≤ 40) ∧ (fz_thaw (V 2) k = fz_thaw (V 2) wk)) (fun k => 40 - k) ?_ wk (show (wk ≤ 40) ∧ (fz_thaw (V 2) wk = fz_thaw (V 2) wk) from ⟨(by omega), rfl⟩) ls (lv_sub hl [1, 0] rfl)
  rintro k ⟨hk, eT⟩ ih5 ls hl
  have hk : k ≤ 40 := hk
  have eT : fz_thaw (V 2) k = fz_thaw (V 2) wk := eT
  have hl : lv_has ls 2 [(0, .ref (a 0)), (1, .int (nI k))] := hl
  refine lv_iload_n hx hb dX1_firstThaw_5 rfl (lv_at hl 1 rfl) ?_
  refine lv_bipush (v := 40) hx hb dX1_firstThaw_6 (by decide) ?_
  refine fz_geN (tgt := 28) hx hb k 40 rfl rfl dX1_firstThaw_8 (by decide) (by omega) (by omega) (fun c_1 => ?_) (fun c_1 => ?_)
  · skip
    refine lv_iconst (v := (-1)) hx hb dX1_firstThaw_28 (by decide) ?_
    exact W.iret (v := (-1)) hx hb hr (fun t9 ht9 hW9 => ⟨_, rfl, (by rw [← eT]; exact (fz_thaw_e (by omega)).symm), ht9⟩) (fun _ h => nomatch h) dX1_firstThaw_29
  · skip
    refine lv_aload_n hx hb dX1_firstThaw_11 rfl (lv_at hl 0 rfl) ?_
    refine va_get (D := D) (ci := 0) (v := .ref (a 2)) (C := RX1) (T := TX1) (N := 6) hx hb hts inX1 hown hK hP 0 rfl rfl 2 (by decide) k_23 (fun _ h9 => h9) rfl dX1_firstThaw_12 ?_
    refine lv_iload_n hx hb dX1_firstThaw_15 rfl (lv_at hl 1 rfl) ?_
    refine fz_zald (f := V 2) hx hb hK hP 2 1 rfl rfl k rfl (by omega) (by decide) dX1_firstThaw_16 ?_
    refine lv_if_ne (tgt := 22) hx hb dX1_firstThaw_17 (by decide) (fun c_2 => ?_) (fun c_2 => ?_)
    · skip
      refine lv_iinc (v := nI (k + 1)) (lv' := [(1, .int (nI (k + 1))), (0, .ref (a 0))]) hx hb dX1_firstThaw_22 hl (k := 1) rfl (fz_inc rfl) (by decide) rfl (fun ls hl => ?_)
      refine lv_goto (tgt := 5) hx hb dX1_firstThaw_25 (by decide) ?_
      exact ih5 (k + 1) (show ((k + 1) ≤ 40) ∧ (fz_thaw (V 2) (k + 1) = fz_thaw (V 2) wk) from ⟨(by omega), (by rw [← eT]; exact (fz_thaw_n (by omega) c_2).symm)⟩) (by show 40 - (k + 1) < 40 - k; omega) ls (lv_sub hl [1, 0] rfl)
    · skip
      refine lv_iload_n hx hb dX1_firstThaw_20 rfl (lv_at hl 1 rfl) ?_
      exact W.iret (v := (nI k)) hx hb hr (fun t9 ht9 hW9 => ⟨_, rfl, (by rw [← eT]; exact (fz_thaw_y (by omega) c_2).symm), ht9⟩) (fun _ h => nomatch h) dX1_firstThaw_21
set_option maxHeartbeats 4000000 in
set_option maxRecDepth 100000 in
/-- Calendar.countFrozen -/
theorem c_X1_countFrozen (l : Launch) (D : va_G) (cy : Nat → ClassId) (a : Nat → Nat) (V : Nat → Nat → Int32) (nt nc nq nl wk : Nat) (wf : fz_wf V nt nc nq nl wk) (f : Nat) (hf : f ≤ 40) : fz_RI l yX1_countFrozen wsX1_countFrozen 1 20 D cy [.ref (a 0), .int (nI f)] (CW cy a V) fz_Nw (fz_frz (V 2) f) := by
  refine Met.ofW (cc := cX1_countFrozen) (maxL := 4) (ret := (some .int)) (by decide) rfl ?_
  intro p e s m args below meth c s₁ B hml hv
  obtain ⟨rfl, hP, hK, hE⟩ := hv
  have hx := B.exec
  have hb := B.bytes
  have hr := B.returns
  have hts := atoms_spec (ws := wsX1_countFrozen) B.pre
  have hown : s.vm.findClass RX1 = some m.cls := findClass_of_methodNamed B.named
  have hlocks := B.notSynchronized
  have hl := lv_entry ([.ref (a 0), .int (nI f)]) (n := 4) (Nat.le_of_ble_eq_true rfl)
  rw [lg_entry_eq]
  generalize (lg_sl ([.ref (a 0), .int (nI f)]) ++ List.replicate (4 - (lg_sl ([.ref (a 0), .int (nI f)])).length) Slot.unset).toArray = ls at hl ⊢
  have hl : lv_has ls 4 [(0, .ref (a 0)), (1, .int (nI f))] := hl
  have k_23 := hts (.fieldLink RX1 23 "FreezeCredits$Calendar" "frozenWeeks" "[Z") (by decide +kernel)
  have inX1 : ∀ w ∈ u_ws RX1 TX1 6, w ∈ wsX1_countFrozen := by decide +kernel
  obtain ⟨hnt, hnt6, hnc, hnc30, hnq, hqc, hnl, hnl12, hwk, hwk39, hT, hQ, hG, hB⟩ := id wf
  refine lv_iconst (v := 0) hx hb dX1_countFrozen_0 (by decide) ?_
  refine lv_istore_n (lv' := [(2, .int 0), (0, .ref (a 0)), (1, .int (nI f))]) hx hb dX1_countFrozen_1 rfl hl (by decide) rfl (fun ls hl => ?_)
  refine lv_iload_n hx hb dX1_countFrozen_2 rfl (lv_at hl 2 rfl) ?_
  refine lv_istore_n (lv' := [(3, .int (nI f)), (2, .int 0), (0, .ref (a 0)), (1, .int (nI f))]) hx hb dX1_countFrozen_3 rfl hl (by decide) rfl (fun ls hl => ?_)
  refine fz_loop (σ := Nat × Int32) (pc := 4) (nL := 4) (fun x => match x with | (k, r) => [(0, .ref (a 0)), (1, .int (nI f)), (2, .int r), (3, .int (nI k))]) (fun x => match x with | (k, r) => (f ≤ k) ∧ (k ≤ 40) ∧ (r + fz_frz (V 2) k = fz_frz (V 2) f)) (fun x => match x with | (k, r) => 40 - k) ?_ (f, 0) (show (f ≤ f) ∧ (f ≤ 40) ∧ (0 + fz_frz (V 2) f = fz_frz (V 2) f) from ⟨(by omega), (by omega), (by rw [Int32.zero_add])⟩) ls (lv_sub hl [2, 3, 1, 0] rfl)
  rintro ⟨k, r⟩ ⟨hfk, hk, er⟩ ih4 ls hl
  have hfk : f ≤ k := hfk
  have hk : k ≤ 40 := hk
  have er : r + fz_frz (V 2) k = fz_frz (V 2) f := er
  have hl : lv_has ls 4 [(0, .ref (a 0)), (1, .int (nI f)), (2, .int r), (3, .int (nI k))] := hl
  refine lv_iload_n hx hb dX1_countFrozen_4 rfl (lv_at hl 3 rfl) ?_
  refine lv_bipush (v := 40) hx hb dX1_countFrozen_5 (by decide) ?_
  refine fz_geN (tgt := 28) hx hb k 40 rfl rfl dX1_countFrozen_7 (by decide) (by omega) (by omega) (fun c_1 => ?_) (fun c_1 => ?_)
  · skip
    refine lv_iload_n hx hb dX1_countFrozen_28 rfl (lv_at hl 2 rfl) ?_
    exact W.iret (v := r) hx hb hr (fun t9 ht9 hW9 => ⟨_, rfl, (by rw [← er, show k = 40 by omega, fz_frz_e, Int32.add_zero]), ht9⟩) (fun _ h => nomatch h) dX1_countFrozen_29
  · skip
    refine lv_iload_n hx hb dX1_countFrozen_10 rfl (lv_at hl 2 rfl) ?_
    refine lv_aload_n hx hb dX1_countFrozen_11 rfl (lv_at hl 0 rfl) ?_
    refine va_get (D := D) (ci := 0) (v := .ref (a 2)) (C := RX1) (T := TX1) (N := 6) hx hb hts inX1 hown hK hP 0 rfl rfl 2 (by decide) k_23 (fun _ h9 => h9) rfl dX1_countFrozen_12 ?_
    refine lv_iload_n hx hb dX1_countFrozen_15 rfl (lv_at hl 3 rfl) ?_
    refine fz_zald (f := V 2) hx hb hK hP 2 1 rfl rfl k rfl (by omega) (by decide) dX1_countFrozen_16 ?_
    refine fz_retR (va_runSN (As := [.int (V 2 k)]) (rest := [.int r]) ⟨hx, hb, hml, hown, hts⟩ (c_X8_asNumber l D cy (V 2 k)) ⟨va_cnB 1 hts gX1_countFrozen_X8_asNumber_n166 rfl rfl rfl (fz_Nw_at hE 1 rfl) (hts (.initialized RX8) (by decide +kernel)) (by decide +kernel) ⟨Nat.le_of_ble_eq_true rfl, Nat.le_of_ble_eq_true rfl⟩, hts (.static yX8_asNumber) (by decide +kernel), trivial⟩ (fz_preS hK (fz_nil) fz_T_bl (fun _ _ _ => trivial)) rfl rfl hl.1 rfl (lv_room (Nat.le_of_ble_eq_true rfl)) dX1_countFrozen_17 ⟨Nat.zero_le _, Nat.zero_le _⟩) ?_
    refine lv_iadd hx hb dX1_countFrozen_20 ?_
    refine lv_istore_n (lv' := [(2, .int (r + (fz_nz (V 2 k)))), (0, .ref (a 0)), (1, .int (nI f)), (3, .int (nI k))]) hx hb dX1_countFrozen_21 rfl hl (by decide) rfl (fun ls hl => ?_)
    refine lv_iinc (v := nI (k + 1)) (lv' := [(3, .int (nI (k + 1))), (2, .int (r + (fz_nz (V 2 k)))), (0, .ref (a 0)), (1, .int (nI f))]) hx hb dX1_countFrozen_22 hl (k := 3) rfl (fz_inc rfl) (by decide) rfl (fun ls hl => ?_)
    refine lv_goto (tgt := 4) hx hb dX1_countFrozen_25 (by decide) ?_
    exact ih4 (k + 1, r + (fz_nz (V 2 k))) (show (f ≤ (k + 1)) ∧ ((k + 1) ≤ 40) ∧ ((r + (fz_nz (V 2 k))) + fz_frz (V 2) (k + 1) = fz_frz (V 2) f) from ⟨(by omega), (by omega), (by rw [← er, fz_frz_s (show k < 40 by omega), Int32.add_assoc])⟩) (by show 40 - (k + 1) < 40 - k; omega) ls (lv_sub hl [2, 3, 1, 0] rfl)
set_option maxHeartbeats 4000000 in
set_option maxRecDepth 100000 in
/-- Calendar.countOwing -/
theorem c_X1_countOwing (l : Launch) (D : va_G) (cy : Nat → ClassId) (a : Nat → Nat) (V : Nat → Nat → Int32) (nt nc nq nl wk : Nat) (wf : fz_wf V nt nc nq nl wk) : fz_RI l yX1_countOwing wsX1_countOwing 2 44 D cy [.ref (a 0)] (CW cy a V) fz_Nw (fz_sum (fun i => fz_b (fz_owes (V 19) (V 21) (V 22) (V 0 0) nl (nI i))) nt) := by
  refine Met.ofW (cc := cX1_countOwing) (maxL := 3) (ret := (some .int)) (by decide) rfl ?_
  intro p e s m args below meth c s₁ B hml hv
  obtain ⟨rfl, hP, hK, hE⟩ := hv
  have hx := B.exec
  have hb := B.bytes
  have hr := B.returns
  have hts := atoms_spec (ws := wsX1_countOwing) B.pre
  have hown : s.vm.findClass RX1 = some m.cls := findClass_of_methodNamed B.named
  have hlocks := B.notSynchronized
  have hl := lv_entry ([.ref (a 0)]) (n := 3) (Nat.le_of_ble_eq_true rfl)
  rw [lg_entry_eq]
  generalize (lg_sl ([.ref (a 0)]) ++ List.replicate (3 - (lg_sl ([.ref (a 0)])).length) Slot.unset).toArray = ls at hl ⊢
  have hl : lv_has ls 3 [(0, .ref (a 0))] := hl
  have k_30 := hts (.fieldLink RX1 30 "FreezeCredits$Calendar" "teams" "LFreezeCredits$Teams;") (by decide +kernel)
  have inX1 : ∀ w ∈ u_ws RX1 TX1 6, w ∈ wsX1_countOwing := by decide +kernel
  have k_68 := hts (.fieldLink RX1 68 "FreezeCredits$Teams" "count" "I") (by decide +kernel)
  have inX6 : ∀ w ∈ u_ws RX6 TX6 5, w ∈ wsX1_countOwing := by decide +kernel
  obtain ⟨hnt, hnt6, hnc, hnc30, hnq, hqc, hnl, hnl12, hwk, hwk39, hT, hQ, hG, hB⟩ := id wf
  refine lv_iconst (v := 0) hx hb dX1_countOwing_0 (by decide) ?_
  refine lv_istore_n (lv' := [(1, .int 0), (0, .ref (a 0))]) hx hb dX1_countOwing_1 rfl hl (by decide) rfl (fun ls hl => ?_)
  refine lv_iconst (v := 0) hx hb dX1_countOwing_2 (by decide) ?_
  refine lv_istore_n (lv' := [(2, .int 0), (1, .int 0), (0, .ref (a 0))]) hx hb dX1_countOwing_3 rfl hl (by decide) rfl (fun ls hl => ?_)
  refine fz_loop (σ := Nat × Int32) (pc := 4) (nL := 3) (fun x => match x with | (k, r) => [(0, .ref (a 0)), (1, .int r), (2, .int (nI k))]) (fun x => match x with | (k, r) => (k ≤ nt) ∧ (r = fz_sum (fun i => fz_b (fz_owes (V 19) (V 21) (V 22) (V 0 0) nl (nI i))) k)) (fun x => match x with | (k, r) => nt - k) ?_ (0, 0) (show (0 ≤ nt) ∧ (0 = fz_sum (fun i => fz_b (fz_owes (V 19) (V 21) (V 22) (V 0 0) nl (nI i))) 0) from ⟨(by omega), rfl⟩) ls (lv_sub hl [2, 1, 0] rfl)
  rintro ⟨k, r⟩ ⟨hk, er⟩ ih4 ls hl
  have hk : k ≤ nt := hk
  have er : r = fz_sum (fun i => fz_b (fz_owes (V 19) (V 21) (V 22) (V 0 0) nl (nI i))) k := er
  have hl : lv_has ls 3 [(0, .ref (a 0)), (1, .int r), (2, .int (nI k))] := hl
  refine lv_iload_n hx hb dX1_countOwing_4 rfl (lv_at hl 2 rfl) ?_
  refine lv_aload_n hx hb dX1_countOwing_5 rfl (lv_at hl 0 rfl) ?_
  refine va_get (D := D) (ci := 0) (v := .ref (a 3)) (C := RX1) (T := TX1) (N := 6) hx hb hts inX1 hown hK hP 0 rfl rfl 3 (by decide) k_30 (fun _ h9 => h9) rfl dX1_countOwing_6 ?_
  refine va_get (D := D) (ci := 5) (v := .int (V 3 0)) (C := RX6) (T := TX6) (N := 5) hx hb hts inX6 hown hK hP 3 rfl rfl 0 (by decide) k_68 (fun _ h9 => h9) rfl dX1_countOwing_9 ?_
  refine fz_geN (tgt := 32) hx hb k nt rfl hnt dX1_countOwing_12 (by decide) (by omega) (by omega) (fun c_1 => ?_) (fun c_1 => ?_)
  · skip
    refine lv_iload_n hx hb dX1_countOwing_32 rfl (lv_at hl 1 rfl) ?_
    exact W.iret (v := r) hx hb hr (fun t9 ht9 hW9 => ⟨_, rfl, (by rw [er, show k = nt by omega]), ht9⟩) (fun _ h => nomatch h) dX1_countOwing_33
  · skip
    refine lv_iload_n hx hb dX1_countOwing_15 rfl (lv_at hl 1 rfl) ?_
    refine lv_aload_n hx hb dX1_countOwing_16 rfl (lv_at hl 0 rfl) ?_
    refine lv_iload_n hx hb dX1_countOwing_17 rfl (lv_at hl 2 rfl) ?_
    refine fz_retR (va_runV (As := [.int (nI k)]) (rest := [.int r]) ⟨hx, hb, hml, hown, hts⟩ (c_X1_owes l D cy a V nt nc nq nl wk wf (nI k)) (cwV 1 hts gX1_countOwing_X1_owes rfl rfl rfl (by decide +kernel) ⟨Nat.le_of_ble_eq_true rfl, Nat.le_of_ble_eq_true rfl⟩) (fz_preV (ci := 0) (q0 := 0) hK hP rfl rfl rfl fz_T_bl (fun _ _ _ => trivial)) rfl rfl hl.1 rfl (lv_room (Nat.le_of_ble_eq_true rfl)) dX1_countOwing_18 ⟨Nat.zero_le _, Nat.zero_le _⟩) ?_
    refine fz_retR (va_runSN (As := [.int (fz_b (fz_owes (V 19) (V 21) (V 22) (V 0 0) nl (nI k)))]) (rest := [.int r]) ⟨hx, hb, hml, hown, hts⟩ (c_X8_asNumber l D cy (fz_b (fz_owes (V 19) (V 21) (V 22) (V 0 0) nl (nI k)))) ⟨va_cnB 1 hts gX1_countOwing_X8_asNumber_n166 rfl rfl rfl (fz_Nw_at hE 1 rfl) (hts (.initialized RX8) (by decide +kernel)) (by decide +kernel) ⟨Nat.le_of_ble_eq_true rfl, Nat.le_of_ble_eq_true rfl⟩, hts (.static yX8_asNumber) (by decide +kernel), trivial⟩ (fz_preS hK (fz_nil) fz_T_bl (fun _ _ _ => trivial)) rfl rfl hl.1 rfl (lv_room (Nat.le_of_ble_eq_true rfl)) dX1_countOwing_21 ⟨Nat.zero_le _, Nat.zero_le _⟩) ?_
    refine lv_iadd hx hb dX1_countOwing_24 ?_
    refine lv_istore_n (lv' := [(1, .int (r + (fz_nz (fz_b (fz_owes (V 19) (V 21) (V 22) (V 0 0) nl (nI k)))))), (0, .ref (a 0)), (2, .int (nI k))]) hx hb dX1_countOwing_25 rfl hl (by decide) rfl (fun ls hl => ?_)
    refine lv_iinc (v := nI (k + 1)) (lv' := [(2, .int (nI (k + 1))), (1, .int (r + (fz_nz (fz_b (fz_owes (V 19) (V 21) (V 22) (V 0 0) nl (nI k)))))), (0, .ref (a 0))]) hx hb dX1_countOwing_26 hl (k := 2) rfl (fz_inc rfl) (by decide) rfl (fun ls hl => ?_)
    refine lv_goto (tgt := 4) hx hb dX1_countOwing_29 (by decide) ?_
    exact ih4 (k + 1, r + (fz_nz (fz_b (fz_owes (V 19) (V 21) (V 22) (V 0 0) nl (nI k))))) (show ((k + 1) ≤ nt) ∧ ((r + (fz_nz (fz_b (fz_owes (V 19) (V 21) (V 22) (V 0 0) nl (nI k))))) = fz_sum (fun i => fz_b (fz_owes (V 19) (V 21) (V 22) (V 0 0) nl (nI i))) (k + 1)) from ⟨(by omega), (by rw [fz_sum, er, fz_nz_b])⟩) (by show nt - (k + 1) < nt - k; omega) ls (lv_sub hl [2, 1, 0] rfl)
set_option maxHeartbeats 4000000 in
set_option maxRecDepth 100000 in
/-- Calendar.wholeFree -/
theorem c_X1_wholeFree (l : Launch) (D : va_G) (cy : Nat → ClassId) (a : Nat → Nat) (V : Nat → Nat → Int32) (nt nc nq nl wk : Nat) (wf : fz_wf V nt nc nq nl wk) : fz_RI l yX1_wholeFree wsX1_wholeFree 1 23 D cy [.ref (a 0)] (CW cy a V) fz_Nw (fz_sum (V 4) nt) := by
  refine Met.ofW (cc := cX1_wholeFree) (maxL := 1) (ret := (some .int)) (by decide) rfl ?_
  intro p e s m args below meth c s₁ B hml hv
  obtain ⟨rfl, hP, hK, hE⟩ := hv
  have hx := B.exec
  have hb := B.bytes
  have hr := B.returns
  have hts := atoms_spec (ws := wsX1_wholeFree) B.pre
  have hown : s.vm.findClass RX1 = some m.cls := findClass_of_methodNamed B.named
  have hlocks := B.notSynchronized
  have hl := lv_entry ([.ref (a 0)]) (n := 1) (Nat.le_of_ble_eq_true rfl)
  rw [lg_entry_eq]
  generalize (lg_sl ([.ref (a 0)]) ++ List.replicate (1 - (lg_sl ([.ref (a 0)])).length) Slot.unset).toArray = ls at hl ⊢
  have hl : lv_has ls 1 [(0, .ref (a 0))] := hl
  have k_30 := hts (.fieldLink RX1 30 "FreezeCredits$Calendar" "teams" "LFreezeCredits$Teams;") (by decide +kernel)
  have inX1 : ∀ w ∈ u_ws RX1 TX1 6, w ∈ wsX1_wholeFree := by decide +kernel
  have k_119 := hts (.fieldLink RX1 119 "FreezeCredits$Teams" "free" "[I") (by decide +kernel)
  have inX6 : ∀ w ∈ u_ws RX6 TX6 5, w ∈ wsX1_wholeFree := by decide +kernel
  have k_68 := hts (.fieldLink RX1 68 "FreezeCredits$Teams" "count" "I") (by decide +kernel)
  obtain ⟨hnt, hnt6, hnc, hnc30, hnq, hqc, hnl, hnl12, hwk, hwk39, hT, hQ, hG, hB⟩ := id wf
  refine lv_aload_n hx hb dX1_wholeFree_0 rfl (lv_at hl 0 rfl) ?_
  refine va_get (D := D) (ci := 0) (v := .ref (a 3)) (C := RX1) (T := TX1) (N := 6) hx hb hts inX1 hown hK hP 0 rfl rfl 3 (by decide) k_30 (fun _ h9 => h9) rfl dX1_wholeFree_1 ?_
  refine va_get (D := D) (ci := 5) (v := .ref (a 4)) (C := RX6) (T := TX6) (N := 5) hx hb hts inX6 hown hK hP 3 rfl rfl 1 (by decide) k_119 (fun _ h9 => h9) rfl dX1_wholeFree_4 ?_
  refine lv_aload_n hx hb dX1_wholeFree_7 rfl (lv_at hl 0 rfl) ?_
  refine va_get (D := D) (ci := 0) (v := .ref (a 3)) (C := RX1) (T := TX1) (N := 6) hx hb hts inX1 hown hK hP 0 rfl rfl 3 (by decide) k_30 (fun _ h9 => h9) rfl dX1_wholeFree_8 ?_
  refine va_get (D := D) (ci := 5) (v := .int (V 3 0)) (C := RX6) (T := TX6) (N := 5) hx hb hts inX6 hown hK hP 3 rfl rfl 0 (by decide) k_68 (fun _ h9 => h9) rfl dX1_wholeFree_11 ?_
  refine fz_at0 (show V 3 0 = nI nt from hnt) ?_
  refine fz_retR (va_runSN (As := [.ref (a 4), .int (nI nt)]) (rest := []) ⟨hx, hb, hml, hown, hts⟩ (c_X8_sum l D cy (a 4) 6 (V 4) nt (by omega) (by omega)) ⟨va_cnB 2 hts gX1_wholeFree_X8_sum_n192 rfl rfl rfl (fz_Nw_at hE 2 rfl) (hts (.initialized RX8) (by decide +kernel)) (by decide +kernel) ⟨Nat.le_of_ble_eq_true rfl, Nat.le_of_ble_eq_true rfl⟩, hts (.static yX8_sum) (by decide +kernel), trivial⟩ (fz_preS hK (hP.sub (ws' := AW cy (a 4) 6 (V 4)) [4] rfl) fz_T_bl (fun _ _ _ => trivial)) rfl rfl hl.1 rfl (lv_room (Nat.le_of_ble_eq_true rfl)) dX1_wholeFree_14 ⟨Nat.zero_le _, Nat.zero_le _⟩) ?_
  exact W.iret (v := (fz_sum (V 4) nt)) hx hb hr (fun t9 ht9 hW9 => ⟨_, rfl, rfl, ht9⟩) (fun _ h => nomatch h) dX1_wholeFree_17
set_option maxHeartbeats 4000000 in
set_option maxRecDepth 100000 in
/-- Calendar.wholeHeld -/
theorem c_X1_wholeHeld (l : Launch) (D : va_G) (cy : Nat → ClassId) (a : Nat → Nat) (V : Nat → Nat → Int32) (nt nc nq nl wk : Nat) (wf : fz_wf V nt nc nq nl wk) : fz_RI l yX1_wholeHeld wsX1_wholeHeld 1 23 D cy [.ref (a 0)] (CW cy a V) fz_Nw (fz_sum (V 12) nc) := by
  refine Met.ofW (cc := cX1_wholeHeld) (maxL := 1) (ret := (some .int)) (by decide) rfl ?_
  intro p e s m args below meth c s₁ B hml hv
  obtain ⟨rfl, hP, hK, hE⟩ := hv
  have hx := B.exec
  have hb := B.bytes
  have hr := B.returns
  have hts := atoms_spec (ws := wsX1_wholeHeld) B.pre
  have hown : s.vm.findClass RX1 = some m.cls := findClass_of_methodNamed B.named
  have hlocks := B.notSynchronized
  have hl := lv_entry ([.ref (a 0)]) (n := 1) (Nat.le_of_ble_eq_true rfl)
  rw [lg_entry_eq]
  generalize (lg_sl ([.ref (a 0)]) ++ List.replicate (1 - (lg_sl ([.ref (a 0)])).length) Slot.unset).toArray = ls at hl ⊢
  have hl : lv_has ls 1 [(0, .ref (a 0))] := hl
  have k_37 := hts (.fieldLink RX1 37 "FreezeCredits$Calendar" "changes" "LFreezeCredits$Changes;") (by decide +kernel)
  have inX1 : ∀ w ∈ u_ws RX1 TX1 6, w ∈ wsX1_wholeHeld := by decide +kernel
  have k_151 := hts (.fieldLink RX1 151 "FreezeCredits$Changes" "held" "[I") (by decide +kernel)
  have inX2 : ∀ w ∈ u_ws RX2 TX2 10, w ∈ wsX1_wholeHeld := by decide +kernel
  have k_135 := hts (.fieldLink RX1 135 "FreezeCredits$Changes" "count" "I") (by decide +kernel)
  obtain ⟨hnt, hnt6, hnc, hnc30, hnq, hqc, hnl, hnl12, hwk, hwk39, hT, hQ, hG, hB⟩ := id wf
  refine lv_aload_n hx hb dX1_wholeHeld_0 rfl (lv_at hl 0 rfl) ?_
  refine va_get (D := D) (ci := 0) (v := .ref (a 8)) (C := RX1) (T := TX1) (N := 6) hx hb hts inX1 hown hK hP 0 rfl rfl 4 (by decide) k_37 (fun _ h9 => h9) rfl dX1_wholeHeld_1 ?_
  refine va_get (D := D) (ci := 1) (v := .ref (a 12)) (C := RX2) (T := TX2) (N := 10) hx hb hts inX2 hown hK hP 8 rfl rfl 4 (by decide) k_151 (fun _ h9 => h9) rfl dX1_wholeHeld_4 ?_
  refine lv_aload_n hx hb dX1_wholeHeld_7 rfl (lv_at hl 0 rfl) ?_
  refine va_get (D := D) (ci := 0) (v := .ref (a 8)) (C := RX1) (T := TX1) (N := 6) hx hb hts inX1 hown hK hP 0 rfl rfl 4 (by decide) k_37 (fun _ h9 => h9) rfl dX1_wholeHeld_8 ?_
  refine va_get (D := D) (ci := 1) (v := .int (V 8 0)) (C := RX2) (T := TX2) (N := 10) hx hb hts inX2 hown hK hP 8 rfl rfl 0 (by decide) k_135 (fun _ h9 => h9) rfl dX1_wholeHeld_11 ?_
  refine fz_at0 (show V 8 0 = nI nc from hnc) ?_
  refine fz_retR (va_runSN (As := [.ref (a 12), .int (nI nc)]) (rest := []) ⟨hx, hb, hml, hown, hts⟩ (c_X8_sum l D cy (a 12) 30 (V 12) nc (by omega) (by omega)) ⟨va_cnB 2 hts gX1_wholeHeld_X8_sum_n192 rfl rfl rfl (fz_Nw_at hE 2 rfl) (hts (.initialized RX8) (by decide +kernel)) (by decide +kernel) ⟨Nat.le_of_ble_eq_true rfl, Nat.le_of_ble_eq_true rfl⟩, hts (.static yX8_sum) (by decide +kernel), trivial⟩ (fz_preS hK (hP.sub (ws' := AW cy (a 12) 30 (V 12)) [12] rfl) fz_T_bl (fun _ _ _ => trivial)) rfl rfl hl.1 rfl (lv_room (Nat.le_of_ble_eq_true rfl)) dX1_wholeHeld_14 ⟨Nat.zero_le _, Nat.zero_le _⟩) ?_
  exact W.iret (v := (fz_sum (V 12) nc)) hx hb hr (fun t9 ht9 hW9 => ⟨_, rfl, rfl, ht9⟩) (fun _ h => nomatch h) dX1_wholeHeld_17
set_option maxHeartbeats 4000000 in
set_option maxRecDepth 100000 in
/-- Calendar.bringTeam -/
theorem c_X1_bringTeam (l : Launch) (D : va_G) (cy : Nat → ClassId) (a : Nat → Nat) (V : Nat → Nat → Int32) (nt nc nq nl wk : Nat) (wf : fz_wf V nt nc nq nl wk) (x : Int32) : fz_MI l yX1_bringTeam wsX1_bringTeam 1 22 D cy [.ref (a 0), .int x] (CW cy a V) fz_T ((fz_bring V nt x).1) (CW cy a ((fz_bring V nt x).2)) := by
  refine Met.ofW (cc := cX1_bringTeam) (maxL := 2) (ret := (some .int)) (by decide) rfl ?_
  intro p e s m args below meth c s₁ B hml hv
  obtain ⟨rfl, hP, hK, hD0, hE⟩ := hv
  have hx := B.exec
  have hb := B.bytes
  have hr := B.returns
  have hts := atoms_spec (ws := wsX1_bringTeam) B.pre
  have hown : s.vm.findClass RX1 = some m.cls := findClass_of_methodNamed B.named
  have hlocks := B.notSynchronized
  have hD := fz_self hD0
  generalize hAe : fz_in (CW cy a V) = A at hD ⊢
  have hS : va_S A s.heap s.heap [] := va_S.rf
  have hl := lv_entry ([.ref (a 0), .int x]) (n := 2) (Nat.le_of_ble_eq_true rfl)
  rw [lg_entry_eq]
  generalize (lg_sl ([.ref (a 0), .int x]) ++ List.replicate (2 - (lg_sl ([.ref (a 0), .int x])).length) Slot.unset).toArray = ls at hl ⊢
  have hl : lv_has ls 2 [(0, .ref (a 0)), (1, .int x)] := hl
  have k_30 := hts (.fieldLink RX1 30 "FreezeCredits$Calendar" "teams" "LFreezeCredits$Teams;") (by decide +kernel)
  have inX1 : ∀ w ∈ u_ws RX1 TX1 6, w ∈ wsX1_bringTeam := by decide +kernel
  have k_68 := hts (.fieldLink RX1 68 "FreezeCredits$Teams" "count" "I") (by decide +kernel)
  have inX6 : ∀ w ∈ u_ws RX6 TX6 5, w ∈ wsX1_bringTeam := by decide +kernel
  obtain ⟨hnt, hnt6, hnc, hnc30, hnq, hqc, hnl, hnl12, hwk, hwk39, hT, hQ, hG, hB⟩ := id wf
  refine lv_iload_n hx hb dX1_bringTeam_0 rfl (lv_at hl 1 rfl) ?_
  refine lv_if_lt (tgt := 11) hx hb dX1_bringTeam_1 (by decide) (fun c_1 => ?_) (fun c_1 => ?_)
  · skip
    refine lv_bipush (v := (-2)) hx hb dX1_bringTeam_11 (by decide) ?_
    have eF : fz_bring V nt x = ((-2), V) := by simp [fz_bring, c_1]
    exact W.iret (v := (-2)) hx hb hr (fun t9 ht9 hW9 => ⟨⟨_, (), rfl, (by rw [eF] <;> rfl), fz_to ht9 (by rw [eF]; exact hP)⟩, hS.F ht9⟩) hS.2.2 dX1_bringTeam_13
  · skip
    refine lv_iload_n hx hb dX1_bringTeam_4 rfl (lv_at hl 1 rfl) ?_
    refine lv_sipush (v := 999) hx hb dX1_bringTeam_5 (by decide) ?_
    refine lv_icmp_le (tgt := 14) hx hb dX1_bringTeam_8 (by decide) (fun c_2 => ?_) (fun c_2 => ?_)
    · skip
      refine lv_aload_n hx hb dX1_bringTeam_14 rfl (lv_at hl 0 rfl) ?_
      refine va_get (D := D) (ci := 0) (v := .ref (a 3)) (C := RX1) (T := TX1) (N := 6) hx hb hts inX1 hown hK hP 0 rfl rfl 3 (by decide) k_30 (fun _ h9 => h9) rfl dX1_bringTeam_15 ?_
      refine va_get (D := D) (ci := 5) (v := .int (V 3 0)) (C := RX6) (T := TX6) (N := 5) hx hb hts inX6 hown hK hP 3 rfl rfl 0 (by decide) k_68 (fun _ h9 => h9) rfl dX1_bringTeam_18 ?_
      refine lv_bipush (v := 6) hx hb dX1_bringTeam_21 (by decide) ?_
      refine fz_ltN (tgt := 29) hx hb nt 6 hnt rfl dX1_bringTeam_23 (by decide) (by omega) (by omega) (fun c_3 => ?_) (fun c_3 => ?_)
      · skip
        refine lv_aload_n hx hb dX1_bringTeam_29 rfl (lv_at hl 0 rfl) ?_
        refine va_get (D := D) (ci := 0) (v := .ref (a 3)) (C := RX1) (T := TX1) (N := 6) hx hb hts inX1 hown hK hP 0 rfl rfl 3 (by decide) k_30 (fun _ h9 => h9) rfl dX1_bringTeam_30 ?_
        refine lv_iload_n hx hb dX1_bringTeam_33 rfl (lv_at hl 1 rfl) ?_
        refine fz_retM (ws' := CE cy a (V 0 0) (nI (nt + 1)) (V 8 0) (V 8 1) (V 17 0) (V 1) (V 2) (upd (V 4) nt x) (upd (V 5) nt x) (upd (V 6) nt 0) (upd (V 7) nt 0) (V 9) (V 10) (V 11) (V 12) (V 13) (V 14) (V 15) (V 16) (V 18) (V 19) (V 20) (V 21) (V 22) (V 23)) (va_runV (As := [.int x]) (rest := []) ⟨hx, hb, hml, hown, hts⟩ (c_X6_append l D cy a V x nt hnt (by omega)) (cwV 1 hts gX1_bringTeam_X6_append rfl rfl rfl (by decide +kernel) ⟨Nat.le_of_ble_eq_true rfl, Nat.le_of_ble_eq_true rfl⟩) (fz_preMV (ci := 5) (q0 := 0) hK (hP.sub (ws' := TW cy a V) [3, 4, 5, 6, 7] rfl) (hD.sub (ws' := TW cy a V) [3, 4, 5, 6, 7] (by decide) rfl) rfl rfl rfl fz_T_bl (fun _ _ _ => trivial)) rfl rfl hl.1 rfl (lv_room (Nat.le_of_ble_eq_true rfl)) dX1_bringTeam_34 ⟨Nat.zero_le _, Nat.zero_le _⟩) hP hD hS [3, 4, 5, 6, 7] [0, 1, 2, 8, 9, 10, 11, 12, 13, 14, 15, 16, 17, 18, 19, 20, 21, 22, 23] rfl rfl [false, false, false, true, true, true, true, true, false, false, false, false, false, false, false, false, false, false, false, false, false, false, false, false] (And.intro rfl (And.intro rfl (And.intro rfl (And.intro rfl (And.intro rfl (And.intro rfl (And.intro rfl (And.intro rfl (And.intro rfl (And.intro rfl (And.intro rfl (And.intro rfl (And.intro rfl (And.intro rfl (And.intro rfl (And.intro rfl (And.intro rfl (And.intro rfl (And.intro rfl (And.intro rfl (And.intro rfl (And.intro rfl (And.intro rfl (And.intro rfl trivial)))))))))))))))))))))))) rfl rfl (fun H locs hP hD hS => ?_)
        have hP : va_P D vwCl (CE cy a (V 0 0) (nI (nt + 1)) (V 8 0) (V 8 1) (V 17 0) (V 1) (V 2) (upd (V 4) nt x) (upd (V 5) nt x) (upd (V 6) nt 0) (upd (V 7) nt 0) (V 9) (V 10) (V 11) (V 12) (V 13) (V 14) (V 15) (V 16) (V 18) (V 19) (V 20) (V 21) (V 22) (V 23)) H := hP
        have hD : va_D A (CE cy a (V 0 0) (nI (nt + 1)) (V 8 0) (V 8 1) (V 17 0) (V 1) (V 2) (upd (V 4) nt x) (upd (V 5) nt x) (upd (V 6) nt 0) (upd (V 7) nt 0) (V 9) (V 10) (V 11) (V 12) (V 13) (V 14) (V 15) (V 16) (V 18) (V 19) (V 20) (V 21) (V 22) (V 23)) := hD
        have eF : fz_bring V nt x = (nI nt, fz_up (fz_up (fz_up (fz_up (fz_up V 3 (upd (V 3) 0 (nI (nt + 1)))) 4 (upd (V 4) nt x)) 5 (upd (V 5) nt x)) 6 (upd (V 6) nt 0)) 7 (upd (V 7) nt 0)) := by simp [fz_bring, c_1, c_2, c_3, Nat.not_le.mpr c_3]
        exact W.iret (v := (nI nt)) hx hb hr (fun t9 ht9 hW9 => ⟨⟨_, (), rfl, (by rw [eF] <;> rfl), fz_to ht9 (by rw [eF]; exact hP)⟩, hS.F ht9⟩) hS.2.2 dX1_bringTeam_37
      · skip
        refine lv_bipush (v := (-3)) hx hb dX1_bringTeam_26 (by decide) ?_
        have eF : fz_bring V nt x = ((-3), V) := by simp [fz_bring, c_1, c_2, c_3, Nat.not_le.mpr c_3]
        exact W.iret (v := (-3)) hx hb hr (fun t9 ht9 hW9 => ⟨⟨_, (), rfl, (by rw [eF] <;> rfl), fz_to ht9 (by rw [eF]; exact hP)⟩, hS.F ht9⟩) hS.2.2 dX1_bringTeam_28
    · skip
      refine lv_bipush (v := (-2)) hx hb dX1_bringTeam_11 (by decide) ?_
      have eF : fz_bring V nt x = ((-2), V) := by simp [fz_bring, c_1, c_2]
      exact W.iret (v := (-2)) hx hb hr (fun t9 ht9 hW9 => ⟨⟨_, (), rfl, (by rw [eF] <;> rfl), fz_to ht9 (by rw [eF]; exact hP)⟩, hS.F ht9⟩) hS.2.2 dX1_bringTeam_13
set_option maxHeartbeats 4000000 in
set_option maxRecDepth 100000 in
/-- Calendar.freeOfTaker -/
theorem c_X1_freeOfTaker (l : Launch) (D : va_G) (cy : Nat → ClassId) (a : Nat → Nat) (V : Nat → Nat → Int32) (nt nc nq nl wk : Nat) (wf : fz_wf V nt nc nq nl wk) (z : Nat) (hz : z < nl) : fz_RI l yX1_freeOfTaker wsX1_freeOfTaker 0 0 D cy [.ref (a 0), .int (nI z)] (CW cy a V) fz_T (V 4 (V 19 z).toNatClampNeg) := by
  refine Met.ofW (cc := cX1_freeOfTaker) (maxL := 2) (ret := (some .int)) (by decide) rfl ?_
  intro p e s m args below meth c s₁ B hml hv
  obtain ⟨rfl, hP, hK, hE⟩ := hv
  have hx := B.exec
  have hb := B.bytes
  have hr := B.returns
  have hts := atoms_spec (ws := wsX1_freeOfTaker) B.pre
  have hown : s.vm.findClass RX1 = some m.cls := findClass_of_methodNamed B.named
  have hlocks := B.notSynchronized
  have hl := lv_entry ([.ref (a 0), .int (nI z)]) (n := 2) (Nat.le_of_ble_eq_true rfl)
  rw [lg_entry_eq]
  generalize (lg_sl ([.ref (a 0), .int (nI z)]) ++ List.replicate (2 - (lg_sl ([.ref (a 0), .int (nI z)])).length) Slot.unset).toArray = ls at hl ⊢
  have hl : lv_has ls 2 [(0, .ref (a 0)), (1, .int (nI z))] := hl
  have k_30 := hts (.fieldLink RX1 30 "FreezeCredits$Calendar" "teams" "LFreezeCredits$Teams;") (by decide +kernel)
  have inX1 : ∀ w ∈ u_ws RX1 TX1 6, w ∈ wsX1_freeOfTaker := by decide +kernel
  have k_119 := hts (.fieldLink RX1 119 "FreezeCredits$Teams" "free" "[I") (by decide +kernel)
  have inX6 : ∀ w ∈ u_ws RX6 TX6 5, w ∈ wsX1_freeOfTaker := by decide +kernel
  have k_44 := hts (.fieldLink RX1 44 "FreezeCredits$Calendar" "loans" "LFreezeCredits$Loans;") (by decide +kernel)
  have k_122 := hts (.fieldLink RX1 122 "FreezeCredits$Loans" "taker" "[I") (by decide +kernel)
  have inX5 : ∀ w ∈ u_ws RX5 TX5 7, w ∈ wsX1_freeOfTaker := by decide +kernel
  obtain ⟨hnt, hnt6, hnc, hnc30, hnq, hqc, hnl, hnl12, hwk, hwk39, hT, hQ, hG, hB⟩ := id wf
  obtain ⟨j, hj, ej⟩ := hB z hz
  refine lv_aload_n hx hb dX1_freeOfTaker_0 rfl (lv_at hl 0 rfl) ?_
  refine va_get (D := D) (ci := 0) (v := .ref (a 3)) (C := RX1) (T := TX1) (N := 6) hx hb hts inX1 hown hK hP 0 rfl rfl 3 (by decide) k_30 (fun _ h9 => h9) rfl dX1_freeOfTaker_1 ?_
  refine va_get (D := D) (ci := 5) (v := .ref (a 4)) (C := RX6) (T := TX6) (N := 5) hx hb hts inX6 hown hK hP 3 rfl rfl 1 (by decide) k_119 (fun _ h9 => h9) rfl dX1_freeOfTaker_4 ?_
  refine lv_aload_n hx hb dX1_freeOfTaker_7 rfl (lv_at hl 0 rfl) ?_
  refine va_get (D := D) (ci := 0) (v := .ref (a 17)) (C := RX1) (T := TX1) (N := 6) hx hb hts inX1 hown hK hP 0 rfl rfl 5 (by decide) k_44 (fun _ h9 => h9) rfl dX1_freeOfTaker_8 ?_
  refine va_get (D := D) (ci := 4) (v := .ref (a 19)) (C := RX5) (T := TX5) (N := 7) hx hb hts inX5 hown hK hP 17 rfl rfl 2 (by decide) k_122 (fun _ h9 => h9) rfl dX1_freeOfTaker_11 ?_
  refine lv_iload_n hx hb dX1_freeOfTaker_14 rfl (lv_at hl 1 rfl) ?_
  refine fz_iald (f := V 19) hx hb hK hP 19 0 rfl rfl z rfl (by omega) (by decide) dX1_freeOfTaker_15 ?_
  refine fz_iald (f := V 4) hx hb hK hP 4 0 rfl rfl j ej (by omega) (by decide) dX1_freeOfTaker_16 ?_
  exact W.iret (v := (V 4 j)) hx hb hr (fun t9 ht9 hW9 => ⟨_, rfl, (by rw [ej, nI_clamp (by omega)]), ht9⟩) (fun _ h => nomatch h) dX1_freeOfTaker_17
set_option maxHeartbeats 4000000 in
set_option maxRecDepth 100000 in
/-- Calendar.payBack -/
theorem c_X1_payBack (l : Launch) (D : va_G) (cy : Nat → ClassId) (a : Nat → Nat) (V : Nat → Nat → Int32) (nt nc nq nl wk : Nat) (wf : fz_wf V nt nc nq nl wk) (z : Nat) (hz : z < nl) (x : Int32) : fz_MV l yX1_payBack wsX1_payBack 0 0 D cy [.ref (a 0), .int (nI z), .int x] (CW cy a V) fz_T (CW cy a (fz_up (fz_up V 4 (fz_pb (V 18) (V 19) z x (V 4, V 21)).1) 21 (fz_pb (V 18) (V 19) z x (V 4, V 21)).2)) := by
  refine Met.ofW (cc := cX1_payBack) (maxL := 3) (ret := none) (by decide) rfl ?_
  intro p e s m args below meth c s₁ B hml hv
  obtain ⟨rfl, hP, hK, hD0, hE⟩ := hv
  have hx := B.exec
  have hb := B.bytes
  have hr := B.returns
  have hts := atoms_spec (ws := wsX1_payBack) B.pre
  have hown : s.vm.findClass RX1 = some m.cls := findClass_of_methodNamed B.named
  have hlocks := B.notSynchronized
  have hD := fz_self hD0
  generalize hAe : fz_in (CW cy a V) = A at hD ⊢
  have hS : va_S A s.heap s.heap [] := va_S.rf
  have hl := lv_entry ([.ref (a 0), .int (nI z), .int x]) (n := 3) (Nat.le_of_ble_eq_true rfl)
  rw [lg_entry_eq]
  generalize (lg_sl ([.ref (a 0), .int (nI z), .int x]) ++ List.replicate (3 - (lg_sl ([.ref (a 0), .int (nI z), .int x])).length) Slot.unset).toArray = ls at hl ⊢
  have hl : lv_has ls 3 [(0, .ref (a 0)), (1, .int (nI z)), (2, .int x)] := hl
  have k_44 := hts (.fieldLink RX1 44 "FreezeCredits$Calendar" "loans" "LFreezeCredits$Loans;") (by decide +kernel)
  have inX1 : ∀ w ∈ u_ws RX1 TX1 6, w ∈ wsX1_payBack := by decide +kernel
  have k_103 := hts (.fieldLink RX1 103 "FreezeCredits$Loans" "left" "[I") (by decide +kernel)
  have inX5 : ∀ w ∈ u_ws RX5 TX5 7, w ∈ wsX1_payBack := by decide +kernel
  have k_30 := hts (.fieldLink RX1 30 "FreezeCredits$Calendar" "teams" "LFreezeCredits$Teams;") (by decide +kernel)
  have k_119 := hts (.fieldLink RX1 119 "FreezeCredits$Teams" "free" "[I") (by decide +kernel)
  have inX6 : ∀ w ∈ u_ws RX6 TX6 5, w ∈ wsX1_payBack := by decide +kernel
  have k_122 := hts (.fieldLink RX1 122 "FreezeCredits$Loans" "taker" "[I") (by decide +kernel)
  have k_125 := hts (.fieldLink RX1 125 "FreezeCredits$Loans" "giver" "[I") (by decide +kernel)
  obtain ⟨hnt, hnt6, hnc, hnc30, hnq, hqc, hnl, hnl12, hwk, hwk39, hT, hQ, hG, hB⟩ := id wf
  obtain ⟨j, hj, ej⟩ := hB z hz
  obtain ⟨g, hg, eg⟩ := hG z hz
  refine lv_aload_n hx hb dX1_payBack_0 rfl (lv_at hl 0 rfl) ?_
  refine va_get (D := D) (ci := 0) (v := .ref (a 17)) (C := RX1) (T := TX1) (N := 6) hx hb hts inX1 hown hK hP 0 rfl rfl 5 (by decide) k_44 (fun _ h9 => h9) rfl dX1_payBack_1 ?_
  refine va_get (D := D) (ci := 4) (v := .ref (a 21)) (C := RX5) (T := TX5) (N := 7) hx hb hts inX5 hown hK hP 17 rfl rfl 4 (by decide) k_103 (fun _ h9 => h9) rfl dX1_payBack_4 ?_
  refine lv_iload_n hx hb dX1_payBack_7 rfl (lv_at hl 1 rfl) ?_
  refine lv_dup2_11 hx hb dX1_payBack_8 rfl rfl ?_
  refine fz_iald (f := V 21) hx hb hK hP 21 0 rfl rfl z rfl (by omega) (by decide) dX1_payBack_9 ?_
  refine lv_iload_n hx hb dX1_payBack_10 rfl (lv_at hl 2 rfl) ?_
  refine lv_isub hx hb dX1_payBack_11 ?_
  refine fz_iast (f := V 21) hx hb hK hP hD hS 21 0 rfl rfl z rfl (by omega) (by decide) dX1_payBack_12 (fun H locs hP hD hS => ?_)
  have hP : va_P D vwCl (CE cy a (V 0 0) (V 3 0) (V 8 0) (V 8 1) (V 17 0) (V 1) (V 2) (V 4) (V 5) (V 6) (V 7) (V 9) (V 10) (V 11) (V 12) (V 13) (V 14) (V 15) (V 16) (V 18) (V 19) (V 20) (upd (V 21) z ((V 21 z) - x)) (V 22) (V 23)) H := hP
  have hD : va_D A (CE cy a (V 0 0) (V 3 0) (V 8 0) (V 8 1) (V 17 0) (V 1) (V 2) (V 4) (V 5) (V 6) (V 7) (V 9) (V 10) (V 11) (V 12) (V 13) (V 14) (V 15) (V 16) (V 18) (V 19) (V 20) (upd (V 21) z ((V 21 z) - x)) (V 22) (V 23)) := hD
  refine lv_aload_n hx hb dX1_payBack_13 rfl (lv_at hl 0 rfl) ?_
  refine va_get (D := D) (ci := 0) (v := .ref (a 3)) (C := RX1) (T := TX1) (N := 6) hx hb hts inX1 hown hK hP 0 rfl rfl 3 (by decide) k_30 (fun _ h9 => h9) rfl dX1_payBack_14 ?_
  refine va_get (D := D) (ci := 5) (v := .ref (a 4)) (C := RX6) (T := TX6) (N := 5) hx hb hts inX6 hown hK hP 3 rfl rfl 1 (by decide) k_119 (fun _ h9 => h9) rfl dX1_payBack_17 ?_
  refine lv_aload_n hx hb dX1_payBack_20 rfl (lv_at hl 0 rfl) ?_
  refine va_get (D := D) (ci := 0) (v := .ref (a 17)) (C := RX1) (T := TX1) (N := 6) hx hb hts inX1 hown hK hP 0 rfl rfl 5 (by decide) k_44 (fun _ h9 => h9) rfl dX1_payBack_21 ?_
  refine va_get (D := D) (ci := 4) (v := .ref (a 19)) (C := RX5) (T := TX5) (N := 7) hx hb hts inX5 hown hK hP 17 rfl rfl 2 (by decide) k_122 (fun _ h9 => h9) rfl dX1_payBack_24 ?_
  refine lv_iload_n hx hb dX1_payBack_27 rfl (lv_at hl 1 rfl) ?_
  refine fz_iald (f := V 19) hx hb hK hP 19 0 rfl rfl z rfl (by omega) (by decide) dX1_payBack_28 ?_
  refine lv_dup2_11 hx hb dX1_payBack_29 rfl rfl ?_
  refine fz_iald (f := V 4) hx hb hK hP 4 0 rfl rfl j ej (by omega) (by decide) dX1_payBack_30 ?_
  refine lv_iload_n hx hb dX1_payBack_31 rfl (lv_at hl 2 rfl) ?_
  refine lv_isub hx hb dX1_payBack_32 ?_
  refine fz_iast (f := V 4) hx hb hK hP hD hS 4 0 rfl rfl j ej (by omega) (by decide) dX1_payBack_33 (fun H locs hP hD hS => ?_)
  have hP : va_P D vwCl (CE cy a (V 0 0) (V 3 0) (V 8 0) (V 8 1) (V 17 0) (V 1) (V 2) (upd (V 4) j ((V 4 j) - x)) (V 5) (V 6) (V 7) (V 9) (V 10) (V 11) (V 12) (V 13) (V 14) (V 15) (V 16) (V 18) (V 19) (V 20) (upd (V 21) z ((V 21 z) - x)) (V 22) (V 23)) H := hP
  have hD : va_D A (CE cy a (V 0 0) (V 3 0) (V 8 0) (V 8 1) (V 17 0) (V 1) (V 2) (upd (V 4) j ((V 4 j) - x)) (V 5) (V 6) (V 7) (V 9) (V 10) (V 11) (V 12) (V 13) (V 14) (V 15) (V 16) (V 18) (V 19) (V 20) (upd (V 21) z ((V 21 z) - x)) (V 22) (V 23)) := hD
  refine lv_aload_n hx hb dX1_payBack_34 rfl (lv_at hl 0 rfl) ?_
  refine va_get (D := D) (ci := 0) (v := .ref (a 3)) (C := RX1) (T := TX1) (N := 6) hx hb hts inX1 hown hK hP 0 rfl rfl 3 (by decide) k_30 (fun _ h9 => h9) rfl dX1_payBack_35 ?_
  refine va_get (D := D) (ci := 5) (v := .ref (a 4)) (C := RX6) (T := TX6) (N := 5) hx hb hts inX6 hown hK hP 3 rfl rfl 1 (by decide) k_119 (fun _ h9 => h9) rfl dX1_payBack_38 ?_
  refine lv_aload_n hx hb dX1_payBack_41 rfl (lv_at hl 0 rfl) ?_
  refine va_get (D := D) (ci := 0) (v := .ref (a 17)) (C := RX1) (T := TX1) (N := 6) hx hb hts inX1 hown hK hP 0 rfl rfl 5 (by decide) k_44 (fun _ h9 => h9) rfl dX1_payBack_42 ?_
  refine va_get (D := D) (ci := 4) (v := .ref (a 18)) (C := RX5) (T := TX5) (N := 7) hx hb hts inX5 hown hK hP 17 rfl rfl 1 (by decide) k_125 (fun _ h9 => h9) rfl dX1_payBack_45 ?_
  refine lv_iload_n hx hb dX1_payBack_48 rfl (lv_at hl 1 rfl) ?_
  refine fz_iald (f := V 18) hx hb hK hP 18 0 rfl rfl z rfl (by omega) (by decide) dX1_payBack_49 ?_
  refine lv_dup2_11 hx hb dX1_payBack_50 rfl rfl ?_
  refine fz_iald (f := upd (V 4) j ((V 4 j) - x)) hx hb hK hP 4 0 rfl rfl g eg (by omega) (by decide) dX1_payBack_51 ?_
  refine lv_iload_n hx hb dX1_payBack_52 rfl (lv_at hl 2 rfl) ?_
  refine lv_iadd hx hb dX1_payBack_53 ?_
  refine fz_iast (f := upd (V 4) j ((V 4 j) - x)) hx hb hK hP hD hS 4 0 rfl rfl g eg (by omega) (by decide) dX1_payBack_54 (fun H locs hP hD hS => ?_)
  have hP : va_P D vwCl (CE cy a (V 0 0) (V 3 0) (V 8 0) (V 8 1) (V 17 0) (V 1) (V 2) (upd (upd (V 4) j ((V 4 j) - x)) g (((upd (V 4) j ((V 4 j) - x)) g) + x)) (V 5) (V 6) (V 7) (V 9) (V 10) (V 11) (V 12) (V 13) (V 14) (V 15) (V 16) (V 18) (V 19) (V 20) (upd (V 21) z ((V 21 z) - x)) (V 22) (V 23)) H := hP
  have hD : va_D A (CE cy a (V 0 0) (V 3 0) (V 8 0) (V 8 1) (V 17 0) (V 1) (V 2) (upd (upd (V 4) j ((V 4 j) - x)) g (((upd (V 4) j ((V 4 j) - x)) g) + x)) (V 5) (V 6) (V 7) (V 9) (V 10) (V 11) (V 12) (V 13) (V 14) (V 15) (V 16) (V 18) (V 19) (V 20) (upd (V 21) z ((V 21 z) - x)) (V 22) (V 23)) := hD
  exact W.vret hx hb hr (fun t9 ht9 hW9 => ⟨⟨(), rfl, trivial, fz_to ht9 (by rw [fz_pb_eq ej eg (by omega) (by omega)]; exact hP)⟩, hS.F ht9⟩) hS.2.2 dX1_payBack_55
set_option maxHeartbeats 4000000 in
set_option maxRecDepth 100000 in
/-- Calendar.earnAll -/
theorem c_X1_earnAll (l : Launch) (D : va_G) (cy : Nat → ClassId) (a : Nat → Nat) (V : Nat → Nat → Int32) (nt nc nq nl wk : Nat) (wf : fz_wf V nt nc nq nl wk) : fz_MI l yX1_earnAll wsX1_earnAll 2 45 D cy [.ref (a 0)] (CW cy a V) fz_T ((fz_ea V nc wk nt).1) (CW cy a (fz_up (fz_up V 4 (fz_ea V nc wk nt).2.1) 6 (fz_ea V nc wk nt).2.2)) := by
  refine Met.ofW (cc := cX1_earnAll) (maxL := 3) (ret := (some .int)) (by decide) rfl ?_
  intro p e s m args below meth c s₁ B hml hv
  obtain ⟨rfl, hP, hK, hD0, hE⟩ := hv
  have hx := B.exec
  have hb := B.bytes
  have hr := B.returns
  have hts := atoms_spec (ws := wsX1_earnAll) B.pre
  have hown : s.vm.findClass RX1 = some m.cls := findClass_of_methodNamed B.named
  have hlocks := B.notSynchronized
  have hD := fz_self hD0
  generalize hAe : fz_in (CW cy a V) = A at hD ⊢
  have hS : va_S A s.heap s.heap [] := va_S.rf
  have hl := lv_entry ([.ref (a 0)]) (n := 3) (Nat.le_of_ble_eq_true rfl)
  rw [lg_entry_eq]
  generalize (lg_sl ([.ref (a 0)]) ++ List.replicate (3 - (lg_sl ([.ref (a 0)])).length) Slot.unset).toArray = ls at hl ⊢
  have hl : lv_has ls 3 [(0, .ref (a 0))] := hl
  have k_30 := hts (.fieldLink RX1 30 "FreezeCredits$Calendar" "teams" "LFreezeCredits$Teams;") (by decide +kernel)
  have inX1 : ∀ w ∈ u_ws RX1 TX1 6, w ∈ wsX1_earnAll := by decide +kernel
  have k_68 := hts (.fieldLink RX1 68 "FreezeCredits$Teams" "count" "I") (by decide +kernel)
  have inX6 : ∀ w ∈ u_ws RX6 TX6 5, w ∈ wsX1_earnAll := by decide +kernel
  have k_37 := hts (.fieldLink RX1 37 "FreezeCredits$Calendar" "changes" "LFreezeCredits$Changes;") (by decide +kernel)
  have k_48 := hts (.fieldLink RX1 48 "FreezeCredits$Calendar" "week" "I") (by decide +kernel)
  have k_18 := hts (.fieldLink RX1 18 "FreezeCredits$Calendar" "settings" "[I") (by decide +kernel)
  obtain ⟨hnt, hnt6, hnc, hnc30, hnq, hqc, hnl, hnl12, hwk, hwk39, hT, hQ, hG, hB⟩ := id wf
  refine lv_iconst (v := 0) hx hb dX1_earnAll_0 (by decide) ?_
  refine lv_istore_n (lv' := [(1, .int 0), (0, .ref (a 0))]) hx hb dX1_earnAll_1 rfl hl (by decide) rfl (fun ls hl => ?_)
  refine lv_iconst (v := 0) hx hb dX1_earnAll_2 (by decide) ?_
  refine lv_istore_n (lv' := [(2, .int 0), (1, .int 0), (0, .ref (a 0))]) hx hb dX1_earnAll_3 rfl hl (by decide) rfl (fun ls hl => ?_)
  refine fz_loopM (σ := Nat × Int32 × (Nat → Int32) × (Nat → Int32)) (pc := 4) (nL := 3) (fun x => match x with | (k, r, Y, Z) => [(0, .ref (a 0)), (1, .int r), (2, .int (nI k))]) (fun x => match x with | (k, r, Y, Z) => CE cy a (V 0 0) (V 3 0) (V 8 0) (V 8 1) (V 17 0) (V 1) (V 2) Y (V 5) Z (V 7) (V 9) (V 10) (V 11) (V 12) (V 13) (V 14) (V 15) (V 16) (V 18) (V 19) (V 20) (V 21) (V 22) (V 23)) (fun x => match x with | (k, r, Y, Z) => (k ≤ nt) ∧ (fz_ea V nc wk k = (r, Y, Z))) (fun x => match x with | (k, r, Y, Z) => nt - k) ?_ (0, 0, V 4, V 6) (show (0 ≤ nt) ∧ (fz_ea V nc wk 0 = (0, (V 4), (V 6))) from ⟨(by omega), rfl⟩) _ _ ls hP hD hS (lv_sub hl [2, 1, 0] rfl)
  rintro ⟨k, r, Y, Z⟩ ⟨hk, er⟩ ih4 H locs ls hP hD hS hl
  have hP : va_P D vwCl (CE cy a (V 0 0) (V 3 0) (V 8 0) (V 8 1) (V 17 0) (V 1) (V 2) Y (V 5) Z (V 7) (V 9) (V 10) (V 11) (V 12) (V 13) (V 14) (V 15) (V 16) (V 18) (V 19) (V 20) (V 21) (V 22) (V 23)) H := hP
  have hD : va_D A (CE cy a (V 0 0) (V 3 0) (V 8 0) (V 8 1) (V 17 0) (V 1) (V 2) Y (V 5) Z (V 7) (V 9) (V 10) (V 11) (V 12) (V 13) (V 14) (V 15) (V 16) (V 18) (V 19) (V 20) (V 21) (V 22) (V 23)) := hD
  have hk : k ≤ nt := hk
  have er : fz_ea V nc wk k = (r, Y, Z) := er
  have hl : lv_has ls 3 [(0, .ref (a 0)), (1, .int r), (2, .int (nI k))] := hl
  refine lv_iload_n hx hb dX1_earnAll_4 rfl (lv_at hl 2 rfl) ?_
  refine lv_aload_n hx hb dX1_earnAll_5 rfl (lv_at hl 0 rfl) ?_
  refine va_get (D := D) (ci := 0) (v := .ref (a 3)) (C := RX1) (T := TX1) (N := 6) hx hb hts inX1 hown hK hP 0 rfl rfl 3 (by decide) k_30 (fun _ h9 => h9) rfl dX1_earnAll_6 ?_
  refine va_get (D := D) (ci := 5) (v := .int (V 3 0)) (C := RX6) (T := TX6) (N := 5) hx hb hts inX6 hown hK hP 3 rfl rfl 0 (by decide) k_68 (fun _ h9 => h9) rfl dX1_earnAll_9 ?_
  refine fz_geN (tgt := 59) hx hb k nt rfl hnt dX1_earnAll_12 (by decide) (by omega) (by omega) (fun c_1 => ?_) (fun c_1 => ?_)
  · skip
    refine lv_iload_n hx hb dX1_earnAll_59 rfl (lv_at hl 1 rfl) ?_
    exact W.iret (v := r) hx hb hr (fun t9 ht9 hW9 => ⟨⟨_, (), rfl, (by rw [show nt = k by omega, er]), fz_to ht9 (by rw [show nt = k by omega, er]; exact hP)⟩, hS.F ht9⟩) hS.2.2 dX1_earnAll_60
  · skip
    refine lv_aload_n hx hb dX1_earnAll_15 rfl (lv_at hl 0 rfl) ?_
    refine va_get (D := D) (ci := 0) (v := .ref (a 8)) (C := RX1) (T := TX1) (N := 6) hx hb hts inX1 hown hK hP 0 rfl rfl 4 (by decide) k_37 (fun _ h9 => h9) rfl dX1_earnAll_16 ?_
    refine lv_iload_n hx hb dX1_earnAll_19 rfl (lv_at hl 2 rfl) ?_
    refine lv_aload_n hx hb dX1_earnAll_20 rfl (lv_at hl 0 rfl) ?_
    refine va_get (D := D) (ci := 0) (v := .int (V 0 0)) (C := RX1) (T := TX1) (N := 6) hx hb hts inX1 hown hK hP 0 rfl rfl 0 (by decide) k_48 (fun _ h9 => h9) rfl dX1_earnAll_21 ?_
    refine fz_retR (va_runV (As := [.int (nI k), .int (V 0 0)]) (rest := []) ⟨hx, hb, hml, hown, hts⟩ (c_X2_hasFault l D cy a V (nI k) (V 0 0) nc hnc hnc30) (cwV 2 hts gX1_earnAll_X2_hasFault rfl rfl rfl (by decide +kernel) ⟨Nat.le_of_ble_eq_true rfl, Nat.le_of_ble_eq_true rfl⟩) (fz_preV (ci := 1) (q0 := 0) hK (hP.sub (ws' := GW cy a V) [8, 9, 10, 11, 12, 13, 14, 15, 16] rfl) rfl rfl rfl fz_T_bl (fun _ _ _ => trivial)) rfl rfl hl.1 rfl (lv_room (Nat.le_of_ble_eq_true rfl)) dX1_earnAll_24 ⟨Nat.zero_le _, Nat.zero_le _⟩) ?_
    refine fz_ifneB (tgt := 53) hx hb dX1_earnAll_27 (by decide) (fun c_2 => ?_) (fun c_2 => ?_)
    · skip
      have c_2 : fz_flt (V 9) (V 11) (V 14) nc (nI k) (nI wk) = true := by rw [fz_flt, ← hwk]; exact c_2
      refine lv_iinc (v := nI (k + 1)) (lv' := [(2, .int (nI (k + 1))), (0, .ref (a 0)), (1, .int r)]) hx hb dX1_earnAll_53 hl (k := 2) rfl (fz_inc rfl) (by decide) rfl (fun ls hl => ?_)
      refine lv_goto (tgt := 4) hx hb dX1_earnAll_56 (by decide) ?_
      exact ih4 (k + 1, r, Y, Z) (show ((k + 1) ≤ nt) ∧ (fz_ea V nc wk (k + 1) = (r, Y, Z)) from ⟨(by omega), (by simp only [fz_ea, er, c_2, cond_true, cond_false])⟩) (by show nt - (k + 1) < nt - k; omega) _ _ ls hP hD hS (lv_sub hl [1, 2, 0] rfl)
    · skip
      have c_2 : fz_flt (V 9) (V 11) (V 14) nc (nI k) (nI wk) = false := by rw [fz_flt, ← hwk]; exact c_2
      refine lv_iload_n hx hb dX1_earnAll_30 rfl (lv_at hl 1 rfl) ?_
      refine lv_aload_n hx hb dX1_earnAll_31 rfl (lv_at hl 0 rfl) ?_
      refine va_get (D := D) (ci := 0) (v := .ref (a 3)) (C := RX1) (T := TX1) (N := 6) hx hb hts inX1 hown hK hP 0 rfl rfl 3 (by decide) k_30 (fun _ h9 => h9) rfl dX1_earnAll_32 ?_
      refine lv_iload_n hx hb dX1_earnAll_35 rfl (lv_at hl 2 rfl) ?_
      refine lv_aload_n hx hb dX1_earnAll_36 rfl (lv_at hl 0 rfl) ?_
      refine va_get (D := D) (ci := 0) (v := .ref (a 1)) (C := RX1) (T := TX1) (N := 6) hx hb hts inX1 hown hK hP 0 rfl rfl 1 (by decide) k_18 (fun _ h9 => h9) rfl dX1_earnAll_37 ?_
      refine lv_iconst (v := 1) hx hb dX1_earnAll_40 (by decide) ?_
      refine fz_iald (f := V 1) hx hb hK hP 1 0 rfl rfl 1 rfl (by omega) (by decide) dX1_earnAll_41 ?_
      refine lv_aload_n hx hb dX1_earnAll_42 rfl (lv_at hl 0 rfl) ?_
      refine va_get (D := D) (ci := 0) (v := .ref (a 1)) (C := RX1) (T := TX1) (N := 6) hx hb hts inX1 hown hK hP 0 rfl rfl 1 (by decide) k_18 (fun _ h9 => h9) rfl dX1_earnAll_43 ?_
      refine lv_iconst (v := 3) hx hb dX1_earnAll_46 (by decide) ?_
      refine fz_iald (f := V 1) hx hb hK hP 1 0 rfl rfl 3 rfl (by omega) (by decide) dX1_earnAll_47 ?_
      refine fz_retM (ws' := CE cy a (V 0 0) (V 3 0) (V 8 0) (V 8 1) (V 17 0) (V 1) (V 2) (upd (Y) k (Y k + fz_earn (Y k) (V 1 1) (V 1 3))) (V 5) (upd (Z) k (Z k + fz_earn (Y k) (V 1 1) (V 1 3))) (V 7) (V 9) (V 10) (V 11) (V 12) (V 13) (V 14) (V 15) (V 16) (V 18) (V 19) (V 20) (V 21) (V 22) (V 23)) (va_runV (As := [.int (nI k), .int (V 1 1), .int (V 1 3)]) (rest := [.int r]) ⟨hx, hb, hml, hown, hts⟩ (c_X6_earn l D cy a (fz_up (fz_up V 4 Y) 6 Z) k (by omega) (V 1 1) (V 1 3)) (cwV 3 hts gX1_earnAll_X6_earn rfl rfl rfl (by decide +kernel) ⟨Nat.le_of_ble_eq_true rfl, Nat.le_of_ble_eq_true rfl⟩) (fz_preMV (ci := 5) (q0 := 0) hK (hP.sub (ws' := TE cy a (V 3 0) Y (V 5) Z (V 7)) [3, 4, 5, 6, 7] rfl) (hD.sub (ws' := TE cy a (V 3 0) Y (V 5) Z (V 7)) [3, 4, 5, 6, 7] (by decide) rfl) rfl rfl rfl fz_T_bl (fun _ _ _ => trivial)) rfl rfl hl.1 rfl (lv_room (Nat.le_of_ble_eq_true rfl)) dX1_earnAll_48 ⟨Nat.zero_le _, Nat.zero_le _⟩) hP hD hS [3, 4, 5, 6, 7] [0, 1, 2, 8, 9, 10, 11, 12, 13, 14, 15, 16, 17, 18, 19, 20, 21, 22, 23] rfl rfl [false, false, false, true, true, true, true, true, false, false, false, false, false, false, false, false, false, false, false, false, false, false, false, false] (And.intro rfl (And.intro rfl (And.intro rfl (And.intro rfl (And.intro rfl (And.intro rfl (And.intro rfl (And.intro rfl (And.intro rfl (And.intro rfl (And.intro rfl (And.intro rfl (And.intro rfl (And.intro rfl (And.intro rfl (And.intro rfl (And.intro rfl (And.intro rfl (And.intro rfl (And.intro rfl (And.intro rfl (And.intro rfl (And.intro rfl (And.intro rfl trivial)))))))))))))))))))))))) rfl rfl (fun H locs hP hD hS => ?_)
      have hP : va_P D vwCl (CE cy a (V 0 0) (V 3 0) (V 8 0) (V 8 1) (V 17 0) (V 1) (V 2) (upd (Y) k (Y k + fz_earn (Y k) (V 1 1) (V 1 3))) (V 5) (upd (Z) k (Z k + fz_earn (Y k) (V 1 1) (V 1 3))) (V 7) (V 9) (V 10) (V 11) (V 12) (V 13) (V 14) (V 15) (V 16) (V 18) (V 19) (V 20) (V 21) (V 22) (V 23)) H := hP
      have hD : va_D A (CE cy a (V 0 0) (V 3 0) (V 8 0) (V 8 1) (V 17 0) (V 1) (V 2) (upd (Y) k (Y k + fz_earn (Y k) (V 1 1) (V 1 3))) (V 5) (upd (Z) k (Z k + fz_earn (Y k) (V 1 1) (V 1 3))) (V 7) (V 9) (V 10) (V 11) (V 12) (V 13) (V 14) (V 15) (V 16) (V 18) (V 19) (V 20) (V 21) (V 22) (V 23)) := hD
      refine lv_iadd hx hb dX1_earnAll_51 ?_
      refine lv_istore_n (lv' := [(1, .int (r + (fz_earn (Y k) (V 1 1) (V 1 3)))), (0, .ref (a 0)), (2, .int (nI k))]) hx hb dX1_earnAll_52 rfl hl (by decide) rfl (fun ls hl => ?_)
      refine lv_iinc (v := nI (k + 1)) (lv' := [(2, .int (nI (k + 1))), (1, .int (r + (fz_earn (Y k) (V 1 1) (V 1 3)))), (0, .ref (a 0))]) hx hb dX1_earnAll_53 hl (k := 2) rfl (fz_inc rfl) (by decide) rfl (fun ls hl => ?_)
      refine lv_goto (tgt := 4) hx hb dX1_earnAll_56 (by decide) ?_
      exact ih4 (k + 1, r + (fz_earn (Y k) (V 1 1) (V 1 3)), upd (Y) k (Y k + fz_earn (Y k) (V 1 1) (V 1 3)), upd (Z) k (Z k + fz_earn (Y k) (V 1 1) (V 1 3))) (show ((k + 1) ≤ nt) ∧ (fz_ea V nc wk (k + 1) = ((r + (fz_earn (Y k) (V 1 1) (V 1 3))), (upd (Y) k (Y k + fz_earn (Y k) (V 1 1) (V 1 3))), (upd (Z) k (Z k + fz_earn (Y k) (V 1 1) (V 1 3))))) from ⟨(by omega), (by simp only [fz_ea, er, c_2, cond_true, cond_false])⟩) (by show nt - (k + 1) < nt - k; omega) _ _ ls hP hD hS (lv_sub hl [2, 1, 0] rfl)
