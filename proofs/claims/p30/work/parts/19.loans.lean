/-! Loans -/
set_option maxHeartbeats 4000000 in
set_option maxRecDepth 100000 in
/-- Loans.has -/
theorem c_X5_has (l : Launch) (D : va_G) (cy : Nat → ClassId) (a : Nat → Nat) (V : Nat → Nat → Int32) (t : Int32) : fz_RI l yX5_has wsX5_has 0 0 D cy [.ref (a 17), .int t] (LW cy a V) fz_T (fz_b (fz_ix t (V 17 0))) := by
  refine Met.ofW (cc := cX5_has) (maxL := 2) (ret := (some .boolean)) (by decide) rfl ?_
  intro p e s m args below meth c s₁ B hml hv
  obtain ⟨rfl, hP, hK, hE⟩ := hv
  have hx := B.exec
  have hb := B.bytes
  have hr := B.returns
  have hts := atoms_spec (ws := wsX5_has) B.pre
  have hown : s.vm.findClass RX5 = some m.cls := findClass_of_methodNamed B.named
  have hlocks := B.notSynchronized
  have hl := lv_entry ([.ref (a 17), .int t]) (n := 2) (Nat.le_of_ble_eq_true rfl)
  rw [lg_entry_eq]
  generalize (lg_sl ([.ref (a 17), .int t]) ++ List.replicate (2 - (lg_sl ([.ref (a 17), .int t])).length) Slot.unset).toArray = ls at hl ⊢
  have hl : lv_has ls 2 [(0, .ref (a 17)), (1, .int t)] := hl
  have k_30 := hts (.fieldLink RX5 30 "FreezeCredits$Loans" "count" "I") (by decide +kernel)
  have inX5 : ∀ w ∈ u_ws RX5 TX5 7, w ∈ wsX5_has := by decide +kernel
  refine lv_iload_n hx hb dX5_has_0 rfl (lv_at hl 1 rfl) ?_
  refine lv_if_lt (tgt := 16) hx hb dX5_has_1 (by decide) (fun c_1 => ?_) (fun c_1 => ?_)
  · skip
    refine lv_iconst (v := 0) hx hb dX5_has_16 (by decide) ?_
    exact W.zret (v := 0) hx hb hr (by decide) (fun t9 ht9 hW9 => ⟨_, rfl, (by simp [fz_ix, fz_b, c_1]), ht9⟩) (fun _ h => nomatch h) dX5_has_17
  · skip
    refine lv_iload_n hx hb dX5_has_4 rfl (lv_at hl 1 rfl) ?_
    refine lv_aload_n hx hb dX5_has_5 rfl (lv_at hl 0 rfl) ?_
    refine va_get (D := D) (ci := 4) (v := .int (V 17 0)) (C := RX5) (T := TX5) (N := 7) hx hb hts inX5 hown hK hP 0 rfl rfl 0 (by decide) k_30 (fun _ h9 => h9) rfl dX5_has_6 ?_
    refine lv_icmp_ge (tgt := 16) hx hb dX5_has_9 (by decide) (fun c_2 => ?_) (fun c_2 => ?_)
    · skip
      refine lv_iconst (v := 0) hx hb dX5_has_16 (by decide) ?_
      exact W.zret (v := 0) hx hb hr (by decide) (fun t9 ht9 hW9 => ⟨_, rfl, (by simp [fz_ix, fz_b, c_1, c_2]), ht9⟩) (fun _ h => nomatch h) dX5_has_17
    · skip
      refine lv_iconst (v := 1) hx hb dX5_has_12 (by decide) ?_
      refine lv_goto (tgt := 17) hx hb dX5_has_13 (by decide) ?_
      exact W.zret (v := 1) hx hb hr (by decide) (fun t9 ht9 hW9 => ⟨_, rfl, (by simp [fz_ix, fz_b, c_1, c_2]), ht9⟩) (fun _ h => nomatch h) dX5_has_17
set_option maxHeartbeats 4000000 in
set_option maxRecDepth 100000 in
/-- Loans.append -/
theorem c_X5_append (l : Launch) (D : va_G) (cy : Nat → ClassId) (a : Nat → Nat) (V : Nat → Nat → Int32) (x0 x1 x2 x4 x5 : Int32) (n : Nat) (hn : V 17 0 = nI n) (hn12 : n < 12) : fz_MI l yX5_append wsX5_append 0 0 D cy [.ref (a 17), .int x0, .int x1, .int x2, .int x4, .int x5] (LW cy a V) fz_T (nI n) (LW cy a (fz_up (fz_up (fz_up (fz_up (fz_up (fz_up (fz_up V 17 (upd (V 17) 0 (nI (n + 1)))) 18 (upd (V 18) n x0)) 19 (upd (V 19) n x1)) 20 (upd (V 20) n x2)) 21 (upd (V 21) n x2)) 22 (upd (V 22) n x4)) 23 (upd (V 23) n x5))) := by
  refine Met.ofW (cc := cX5_append) (maxL := 7) (ret := (some .int)) (by decide) rfl ?_
  intro p e s m args below meth c s₁ B hml hv
  obtain ⟨rfl, hP, hK, hD0, hE⟩ := hv
  have hx := B.exec
  have hb := B.bytes
  have hr := B.returns
  have hts := atoms_spec (ws := wsX5_append) B.pre
  have hown : s.vm.findClass RX5 = some m.cls := findClass_of_methodNamed B.named
  have hlocks := B.notSynchronized
  have hD := fz_self hD0
  generalize hAe : fz_in (LW cy a V) = A at hD ⊢
  have hS : va_S A s.heap s.heap [] := va_S.rf
  have hl := lv_entry ([.ref (a 17), .int x0, .int x1, .int x2, .int x4, .int x5]) (n := 7) (Nat.le_of_ble_eq_true rfl)
  rw [lg_entry_eq]
  generalize (lg_sl ([.ref (a 17), .int x0, .int x1, .int x2, .int x4, .int x5]) ++ List.replicate (7 - (lg_sl ([.ref (a 17), .int x0, .int x1, .int x2, .int x4, .int x5])).length) Slot.unset).toArray = ls at hl ⊢
  have hl : lv_has ls 7 [(0, .ref (a 17)), (1, .int x0), (2, .int x1), (3, .int x2), (4, .int x4), (5, .int x5)] := hl
  have k_30 := hts (.fieldLink RX5 30 "FreezeCredits$Loans" "count" "I") (by decide +kernel)
  have inX5 : ∀ w ∈ u_ws RX5 TX5 7, w ∈ wsX5_append := by decide +kernel
  have k_9 := hts (.fieldLink RX5 9 "FreezeCredits$Loans" "giver" "[I") (by decide +kernel)
  have k_15 := hts (.fieldLink RX5 15 "FreezeCredits$Loans" "taker" "[I") (by decide +kernel)
  have k_18 := hts (.fieldLink RX5 18 "FreezeCredits$Loans" "amount" "[I") (by decide +kernel)
  have k_21 := hts (.fieldLink RX5 21 "FreezeCredits$Loans" "left" "[I") (by decide +kernel)
  have k_24 := hts (.fieldLink RX5 24 "FreezeCredits$Loans" "due" "[I") (by decide +kernel)
  have k_27 := hts (.fieldLink RX5 27 "FreezeCredits$Loans" "madeIn" "[I") (by decide +kernel)
  refine lv_aload_n hx hb dX5_append_0 rfl (lv_at hl 0 rfl) ?_
  refine va_get (D := D) (ci := 4) (v := .int (V 17 0)) (C := RX5) (T := TX5) (N := 7) hx hb hts inX5 hown hK hP 0 rfl rfl 0 (by decide) k_30 (fun _ h9 => h9) rfl dX5_append_1 ?_
  refine lv_istore (lv' := [(6, .int (V 17 0)), (0, .ref (a 17)), (1, .int x0), (2, .int x1), (3, .int x2), (4, .int x4), (5, .int x5)]) hx hb dX5_append_4 hl (by decide) rfl (fun ls hl => ?_)
  refine lv_aload_n hx hb dX5_append_6 rfl (lv_at hl 1 rfl) ?_
  refine va_get (D := D) (ci := 4) (v := .ref (a 18)) (C := RX5) (T := TX5) (N := 7) hx hb hts inX5 hown hK hP 0 rfl rfl 1 (by decide) k_9 (fun _ h9 => h9) rfl dX5_append_7 ?_
  refine lv_iload hx hb dX5_append_10 (lv_at hl 0 rfl) ?_
  refine lv_iload_n hx hb dX5_append_12 rfl (lv_at hl 2 rfl) ?_
  refine fz_iast (f := V 18) hx hb hK hP hD hS 1 0 rfl rfl n hn (by omega) (by decide) dX5_append_13 (fun H locs hP hD hS => ?_)
  have hP : va_P D vwCl (LE cy a (V 17 0) (upd (V 18) n x0) (V 19) (V 20) (V 21) (V 22) (V 23)) H := hP
  have hD : va_D A (LE cy a (V 17 0) (upd (V 18) n x0) (V 19) (V 20) (V 21) (V 22) (V 23)) := hD
  refine lv_aload_n hx hb dX5_append_14 rfl (lv_at hl 1 rfl) ?_
  refine va_get (D := D) (ci := 4) (v := .ref (a 19)) (C := RX5) (T := TX5) (N := 7) hx hb hts inX5 hown hK hP 0 rfl rfl 2 (by decide) k_15 (fun _ h9 => h9) rfl dX5_append_15 ?_
  refine lv_iload hx hb dX5_append_18 (lv_at hl 0 rfl) ?_
  refine lv_iload_n hx hb dX5_append_20 rfl (lv_at hl 3 rfl) ?_
  refine fz_iast (f := V 19) hx hb hK hP hD hS 2 0 rfl rfl n hn (by omega) (by decide) dX5_append_21 (fun H locs hP hD hS => ?_)
  have hP : va_P D vwCl (LE cy a (V 17 0) (upd (V 18) n x0) (upd (V 19) n x1) (V 20) (V 21) (V 22) (V 23)) H := hP
  have hD : va_D A (LE cy a (V 17 0) (upd (V 18) n x0) (upd (V 19) n x1) (V 20) (V 21) (V 22) (V 23)) := hD
  refine lv_aload_n hx hb dX5_append_22 rfl (lv_at hl 1 rfl) ?_
  refine va_get (D := D) (ci := 4) (v := .ref (a 20)) (C := RX5) (T := TX5) (N := 7) hx hb hts inX5 hown hK hP 0 rfl rfl 3 (by decide) k_18 (fun _ h9 => h9) rfl dX5_append_23 ?_
  refine lv_iload hx hb dX5_append_26 (lv_at hl 0 rfl) ?_
  refine lv_iload_n hx hb dX5_append_28 rfl (lv_at hl 4 rfl) ?_
  refine fz_iast (f := V 20) hx hb hK hP hD hS 3 0 rfl rfl n hn (by omega) (by decide) dX5_append_29 (fun H locs hP hD hS => ?_)
  have hP : va_P D vwCl (LE cy a (V 17 0) (upd (V 18) n x0) (upd (V 19) n x1) (upd (V 20) n x2) (V 21) (V 22) (V 23)) H := hP
  have hD : va_D A (LE cy a (V 17 0) (upd (V 18) n x0) (upd (V 19) n x1) (upd (V 20) n x2) (V 21) (V 22) (V 23)) := hD
  refine lv_aload_n hx hb dX5_append_30 rfl (lv_at hl 1 rfl) ?_
  refine va_get (D := D) (ci := 4) (v := .ref (a 21)) (C := RX5) (T := TX5) (N := 7) hx hb hts inX5 hown hK hP 0 rfl rfl 4 (by decide) k_21 (fun _ h9 => h9) rfl dX5_append_31 ?_
  refine lv_iload hx hb dX5_append_34 (lv_at hl 0 rfl) ?_
  refine lv_iload_n hx hb dX5_append_36 rfl (lv_at hl 4 rfl) ?_
  refine fz_iast (f := V 21) hx hb hK hP hD hS 4 0 rfl rfl n hn (by omega) (by decide) dX5_append_37 (fun H locs hP hD hS => ?_)
  have hP : va_P D vwCl (LE cy a (V 17 0) (upd (V 18) n x0) (upd (V 19) n x1) (upd (V 20) n x2) (upd (V 21) n x2) (V 22) (V 23)) H := hP
  have hD : va_D A (LE cy a (V 17 0) (upd (V 18) n x0) (upd (V 19) n x1) (upd (V 20) n x2) (upd (V 21) n x2) (V 22) (V 23)) := hD
  refine lv_aload_n hx hb dX5_append_38 rfl (lv_at hl 1 rfl) ?_
  refine va_get (D := D) (ci := 4) (v := .ref (a 22)) (C := RX5) (T := TX5) (N := 7) hx hb hts inX5 hown hK hP 0 rfl rfl 5 (by decide) k_24 (fun _ h9 => h9) rfl dX5_append_39 ?_
  refine lv_iload hx hb dX5_append_42 (lv_at hl 0 rfl) ?_
  refine lv_iload hx hb dX5_append_44 (lv_at hl 5 rfl) ?_
  refine fz_iast (f := V 22) hx hb hK hP hD hS 5 0 rfl rfl n hn (by omega) (by decide) dX5_append_46 (fun H locs hP hD hS => ?_)
  have hP : va_P D vwCl (LE cy a (V 17 0) (upd (V 18) n x0) (upd (V 19) n x1) (upd (V 20) n x2) (upd (V 21) n x2) (upd (V 22) n x4) (V 23)) H := hP
  have hD : va_D A (LE cy a (V 17 0) (upd (V 18) n x0) (upd (V 19) n x1) (upd (V 20) n x2) (upd (V 21) n x2) (upd (V 22) n x4) (V 23)) := hD
  refine lv_aload_n hx hb dX5_append_47 rfl (lv_at hl 1 rfl) ?_
  refine va_get (D := D) (ci := 4) (v := .ref (a 23)) (C := RX5) (T := TX5) (N := 7) hx hb hts inX5 hown hK hP 0 rfl rfl 6 (by decide) k_27 (fun _ h9 => h9) rfl dX5_append_48 ?_
  refine lv_iload hx hb dX5_append_51 (lv_at hl 0 rfl) ?_
  refine lv_iload hx hb dX5_append_53 (lv_at hl 6 rfl) ?_
  refine fz_iast (f := V 23) hx hb hK hP hD hS 6 0 rfl rfl n hn (by omega) (by decide) dX5_append_55 (fun H locs hP hD hS => ?_)
  have hP : va_P D vwCl (LE cy a (V 17 0) (upd (V 18) n x0) (upd (V 19) n x1) (upd (V 20) n x2) (upd (V 21) n x2) (upd (V 22) n x4) (upd (V 23) n x5)) H := hP
  have hD : va_D A (LE cy a (V 17 0) (upd (V 18) n x0) (upd (V 19) n x1) (upd (V 20) n x2) (upd (V 21) n x2) (upd (V 22) n x4) (upd (V 23) n x5)) := hD
  refine lv_aload_n hx hb dX5_append_56 rfl (lv_at hl 1 rfl) ?_
  refine lv_dup hx hb dX5_append_57 rfl ?_
  refine va_get (D := D) (ci := 4) (v := .int (V 17 0)) (C := RX5) (T := TX5) (N := 7) hx hb hts inX5 hown hK hP 0 rfl rfl 0 (by decide) k_30 (fun _ h9 => h9) rfl dX5_append_58 ?_
  refine lv_iconst (v := 1) hx hb dX5_append_61 (by decide) ?_
  refine fz_iaddN hx hb n 1 hn rfl dX5_append_62 ?_
  refine va_put (D := D) (ci := 4) (v := .int (nI (n + 1))) (ty := tyX5 0) (C := RX5) (T := TX5) (N := 7) hx hb hts inX5 tyX5 tyX5_ok nmX5 hown hK hP hD hS 0 rfl rfl 0 (by decide) k_30 (fun _ h9 => h9) rfl (by decide +kernel) rfl rfl (Nat.le_of_ble_eq_true rfl) dX5_append_63 (fun H locs hP hD hS => ?_)
  have hP : va_P D vwCl (LE cy a (nI (n + 1)) (upd (V 18) n x0) (upd (V 19) n x1) (upd (V 20) n x2) (upd (V 21) n x2) (upd (V 22) n x4) (upd (V 23) n x5)) H := hP
  have hD : va_D A (LE cy a (nI (n + 1)) (upd (V 18) n x0) (upd (V 19) n x1) (upd (V 20) n x2) (upd (V 21) n x2) (upd (V 22) n x4) (upd (V 23) n x5)) := hD
  refine lv_iload hx hb dX5_append_66 (lv_at hl 0 rfl) ?_
  exact W.iret (v := (V 17 0)) hx hb hr (fun t9 ht9 hW9 => ⟨⟨_, (), rfl, hn, fz_to ht9 hP⟩, hS.F ht9⟩) hS.2.2 dX5_append_68
set_option maxHeartbeats 4000000 in
set_option maxRecDepth 100000 in
/-- Loans.countOpen -/
theorem c_X5_countOpen (l : Launch) (D : va_G) (cy : Nat → ClassId) (a : Nat → Nat) (V : Nat → Nat → Int32) (n : Nat) (hn : V 17 0 = nI n) (hn12 : n ≤ 12) : fz_RI l yX5_countOpen wsX5_countOpen 0 0 D cy [.ref (a 17)] (LW cy a V) fz_T (nI (fz_ct (fun i => !(decide (V 21 i ≤ 0))) n)) := by
  refine Met.ofW (cc := cX5_countOpen) (maxL := 3) (ret := (some .int)) (by decide) rfl ?_
  intro p e s m args below meth c s₁ B hml hv
  obtain ⟨rfl, hP, hK, hE⟩ := hv
  have hx := B.exec
  have hb := B.bytes
  have hr := B.returns
  have hts := atoms_spec (ws := wsX5_countOpen) B.pre
  have hown : s.vm.findClass RX5 = some m.cls := findClass_of_methodNamed B.named
  have hlocks := B.notSynchronized
  have hl := lv_entry ([.ref (a 17)]) (n := 3) (Nat.le_of_ble_eq_true rfl)
  rw [lg_entry_eq]
  generalize (lg_sl ([.ref (a 17)]) ++ List.replicate (3 - (lg_sl ([.ref (a 17)])).length) Slot.unset).toArray = ls at hl ⊢
  have hl : lv_has ls 3 [(0, .ref (a 17))] := hl
  have k_30 := hts (.fieldLink RX5 30 "FreezeCredits$Loans" "count" "I") (by decide +kernel)
  have inX5 : ∀ w ∈ u_ws RX5 TX5 7, w ∈ wsX5_countOpen := by decide +kernel
  have k_21 := hts (.fieldLink RX5 21 "FreezeCredits$Loans" "left" "[I") (by decide +kernel)
  refine lv_iconst (v := 0) hx hb dX5_countOpen_0 (by decide) ?_
  refine lv_istore_n (lv' := [(1, .int 0), (0, .ref (a 17))]) hx hb dX5_countOpen_1 rfl hl (by decide) rfl (fun ls hl => ?_)
  refine lv_iconst (v := 0) hx hb dX5_countOpen_2 (by decide) ?_
  refine lv_istore_n (lv' := [(2, .int 0), (1, .int 0), (0, .ref (a 17))]) hx hb dX5_countOpen_3 rfl hl (by decide) rfl (fun ls hl => ?_)
  refine fz_loop (σ := Nat × Nat) (pc := 4) (nL := 3) (fun x => match x with | (k, q) => [(0, .ref (a 17)), (1, .int (nI q)), (2, .int (nI k))]) (fun x => match x with | (k, q) => (k ≤ n) ∧ (q = fz_ct (fun i => !(decide (V 21 i ≤ 0))) k)) (fun x => match x with | (k, q) => n - k) ?_ (0, 0) (show (0 ≤ n) ∧ (0 = fz_ct (fun i => !(decide (V 21 i ≤ 0))) 0) from ⟨(by omega), rfl⟩) ls (lv_sub hl [2, 1, 0] rfl)
  rintro ⟨k, q⟩ ⟨hk, eq⟩ ih4 ls hl
  have hk : k ≤ n := hk
  have eq : q = fz_ct (fun i => !(decide (V 21 i ≤ 0))) k := eq
  have hl : lv_has ls 3 [(0, .ref (a 17)), (1, .int (nI q)), (2, .int (nI k))] := hl
  refine lv_iload_n hx hb dX5_countOpen_4 rfl (lv_at hl 2 rfl) ?_
  refine lv_aload_n hx hb dX5_countOpen_5 rfl (lv_at hl 0 rfl) ?_
  refine va_get (D := D) (ci := 4) (v := .int (V 17 0)) (C := RX5) (T := TX5) (N := 7) hx hb hts inX5 hown hK hP 0 rfl rfl 0 (by decide) k_30 (fun _ h9 => h9) rfl dX5_countOpen_6 ?_
  refine fz_geN (tgt := 30) hx hb k n rfl hn dX5_countOpen_9 (by decide) (by omega) (by omega) (fun c_1 => ?_) (fun c_1 => ?_)
  · skip
    refine lv_iload_n hx hb dX5_countOpen_30 rfl (lv_at hl 1 rfl) ?_
    exact W.iret (v := (nI q)) hx hb hr (fun t9 ht9 hW9 => ⟨_, rfl, (by rw [eq, show k = n by omega]), ht9⟩) (fun _ h => nomatch h) dX5_countOpen_31
  · skip
    refine lv_aload_n hx hb dX5_countOpen_12 rfl (lv_at hl 0 rfl) ?_
    refine va_get (D := D) (ci := 4) (v := .ref (a 21)) (C := RX5) (T := TX5) (N := 7) hx hb hts inX5 hown hK hP 0 rfl rfl 4 (by decide) k_21 (fun _ h9 => h9) rfl dX5_countOpen_13 ?_
    refine lv_iload_n hx hb dX5_countOpen_16 rfl (lv_at hl 2 rfl) ?_
    refine fz_iald (f := V 21) hx hb hK hP 4 0 rfl rfl k rfl (by omega) (by decide) dX5_countOpen_17 ?_
    refine lv_if_le (tgt := 24) hx hb dX5_countOpen_18 (by decide) (fun c_2 => ?_) (fun c_2 => ?_)
    · skip
      refine lv_iinc (v := nI (k + 1)) (lv' := [(2, .int (nI (k + 1))), (0, .ref (a 17)), (1, .int (nI q))]) hx hb dX5_countOpen_24 hl (k := 2) rfl (fz_inc rfl) (by decide) rfl (fun ls hl => ?_)
      refine lv_goto (tgt := 4) hx hb dX5_countOpen_27 (by decide) ?_
      exact ih4 (k + 1, q) (show ((k + 1) ≤ n) ∧ (q = fz_ct (fun i => !(decide (V 21 i ≤ 0))) (k + 1)) from ⟨(by omega), (by simp [fz_ct, eq, c_1, c_2])⟩) (by show n - (k + 1) < n - k; omega) ls (lv_sub hl [1, 2, 0] rfl)
    · skip
      refine lv_iinc (v := nI (q + 1)) (lv' := [(1, .int (nI (q + 1))), (0, .ref (a 17)), (2, .int (nI k))]) hx hb dX5_countOpen_21 hl (k := 1) rfl (fz_inc rfl) (by decide) rfl (fun ls hl => ?_)
      refine lv_iinc (v := nI (k + 1)) (lv' := [(2, .int (nI (k + 1))), (1, .int (nI (q + 1))), (0, .ref (a 17))]) hx hb dX5_countOpen_24 hl (k := 2) rfl (fz_inc rfl) (by decide) rfl (fun ls hl => ?_)
      refine lv_goto (tgt := 4) hx hb dX5_countOpen_27 (by decide) ?_
      exact ih4 (k + 1, q + 1) (show ((k + 1) ≤ n) ∧ ((q + 1) = fz_ct (fun i => !(decide (V 21 i ≤ 0))) (k + 1)) from ⟨(by omega), (by simp [fz_ct, eq, c_1, c_2])⟩) (by show n - (k + 1) < n - k; omega) ls (lv_sub hl [2, 1, 0] rfl)
set_option maxHeartbeats 4000000 in
set_option maxRecDepth 100000 in
/-- Loans.leftFrom -/
theorem c_X5_leftFrom (l : Launch) (D : va_G) (cy : Nat → ClassId) (a : Nat → Nat) (V : Nat → Nat → Int32) (t : Int32) (n : Nat) (hn : V 17 0 = nI n) (hn12 : n ≤ 12) : fz_RI l yX5_leftFrom wsX5_leftFrom 0 0 D cy [.ref (a 17), .int t] (LW cy a V) fz_T (fz_sum (fun i => if V 18 i = t then V 21 i else 0) n) := by
  refine Met.ofW (cc := cX5_leftFrom) (maxL := 4) (ret := (some .int)) (by decide) rfl ?_
  intro p e s m args below meth c s₁ B hml hv
  obtain ⟨rfl, hP, hK, hE⟩ := hv
  have hx := B.exec
  have hb := B.bytes
  have hr := B.returns
  have hts := atoms_spec (ws := wsX5_leftFrom) B.pre
  have hown : s.vm.findClass RX5 = some m.cls := findClass_of_methodNamed B.named
  have hlocks := B.notSynchronized
  have hl := lv_entry ([.ref (a 17), .int t]) (n := 4) (Nat.le_of_ble_eq_true rfl)
  rw [lg_entry_eq]
  generalize (lg_sl ([.ref (a 17), .int t]) ++ List.replicate (4 - (lg_sl ([.ref (a 17), .int t])).length) Slot.unset).toArray = ls at hl ⊢
  have hl : lv_has ls 4 [(0, .ref (a 17)), (1, .int t)] := hl
  have k_30 := hts (.fieldLink RX5 30 "FreezeCredits$Loans" "count" "I") (by decide +kernel)
  have inX5 : ∀ w ∈ u_ws RX5 TX5 7, w ∈ wsX5_leftFrom := by decide +kernel
  have k_9 := hts (.fieldLink RX5 9 "FreezeCredits$Loans" "giver" "[I") (by decide +kernel)
  have k_21 := hts (.fieldLink RX5 21 "FreezeCredits$Loans" "left" "[I") (by decide +kernel)
  refine lv_iconst (v := 0) hx hb dX5_leftFrom_0 (by decide) ?_
  refine lv_istore_n (lv' := [(2, .int 0), (0, .ref (a 17)), (1, .int t)]) hx hb dX5_leftFrom_1 rfl hl (by decide) rfl (fun ls hl => ?_)
  refine lv_iconst (v := 0) hx hb dX5_leftFrom_2 (by decide) ?_
  refine lv_istore_n (lv' := [(3, .int 0), (2, .int 0), (0, .ref (a 17)), (1, .int t)]) hx hb dX5_leftFrom_3 rfl hl (by decide) rfl (fun ls hl => ?_)
  refine fz_loop (σ := Nat × Int32) (pc := 4) (nL := 4) (fun x => match x with | (k, r) => [(0, .ref (a 17)), (1, .int t), (2, .int r), (3, .int (nI k))]) (fun x => match x with | (k, r) => (k ≤ n) ∧ (r = fz_sum (fun i => if V 18 i = t then V 21 i else 0) k)) (fun x => match x with | (k, r) => n - k) ?_ (0, 0) (show (0 ≤ n) ∧ (0 = fz_sum (fun i => if V 18 i = t then V 21 i else 0) 0) from ⟨(by omega), rfl⟩) ls (lv_sub hl [2, 3, 1, 0] rfl)
  rintro ⟨k, r⟩ ⟨hk, er⟩ ih4 ls hl
  have hk : k ≤ n := hk
  have er : r = fz_sum (fun i => if V 18 i = t then V 21 i else 0) k := er
  have hl : lv_has ls 4 [(0, .ref (a 17)), (1, .int t), (2, .int r), (3, .int (nI k))] := hl
  refine lv_iload_n hx hb dX5_leftFrom_4 rfl (lv_at hl 3 rfl) ?_
  refine lv_aload_n hx hb dX5_leftFrom_5 rfl (lv_at hl 0 rfl) ?_
  refine va_get (D := D) (ci := 4) (v := .int (V 17 0)) (C := RX5) (T := TX5) (N := 7) hx hb hts inX5 hown hK hP 0 rfl rfl 0 (by decide) k_30 (fun _ h9 => h9) rfl dX5_leftFrom_6 ?_
  refine fz_geN (tgt := 37) hx hb k n rfl hn dX5_leftFrom_9 (by decide) (by omega) (by omega) (fun c_1 => ?_) (fun c_1 => ?_)
  · skip
    refine lv_iload_n hx hb dX5_leftFrom_37 rfl (lv_at hl 2 rfl) ?_
    exact W.iret (v := r) hx hb hr (fun t9 ht9 hW9 => ⟨_, rfl, (by rw [er, show k = n by omega]), ht9⟩) (fun _ h => nomatch h) dX5_leftFrom_38
  · skip
    refine lv_aload_n hx hb dX5_leftFrom_12 rfl (lv_at hl 0 rfl) ?_
    refine va_get (D := D) (ci := 4) (v := .ref (a 18)) (C := RX5) (T := TX5) (N := 7) hx hb hts inX5 hown hK hP 0 rfl rfl 1 (by decide) k_9 (fun _ h9 => h9) rfl dX5_leftFrom_13 ?_
    refine lv_iload_n hx hb dX5_leftFrom_16 rfl (lv_at hl 3 rfl) ?_
    refine fz_iald (f := V 18) hx hb hK hP 1 0 rfl rfl k rfl (by omega) (by decide) dX5_leftFrom_17 ?_
    refine lv_iload_n hx hb dX5_leftFrom_18 rfl (lv_at hl 1 rfl) ?_
    refine lv_icmp_ne (tgt := 31) hx hb dX5_leftFrom_19 (by decide) (fun c_2 => ?_) (fun c_2 => ?_)
    · skip
      refine lv_iinc (v := nI (k + 1)) (lv' := [(3, .int (nI (k + 1))), (0, .ref (a 17)), (1, .int t), (2, .int r)]) hx hb dX5_leftFrom_31 hl (k := 3) rfl (fz_inc rfl) (by decide) rfl (fun ls hl => ?_)
      refine lv_goto (tgt := 4) hx hb dX5_leftFrom_34 (by decide) ?_
      exact ih4 (k + 1, r) (show ((k + 1) ≤ n) ∧ (r = fz_sum (fun i => if V 18 i = t then V 21 i else 0) (k + 1)) from ⟨(by omega), (by simp [fz_sum, er, c_1, c_2])⟩) (by show n - (k + 1) < n - k; omega) ls (lv_sub hl [1, 2, 3, 0] rfl)
    · skip
      refine lv_iload_n hx hb dX5_leftFrom_22 rfl (lv_at hl 2 rfl) ?_
      refine lv_aload_n hx hb dX5_leftFrom_23 rfl (lv_at hl 0 rfl) ?_
      refine va_get (D := D) (ci := 4) (v := .ref (a 21)) (C := RX5) (T := TX5) (N := 7) hx hb hts inX5 hown hK hP 0 rfl rfl 4 (by decide) k_21 (fun _ h9 => h9) rfl dX5_leftFrom_24 ?_
      refine lv_iload_n hx hb dX5_leftFrom_27 rfl (lv_at hl 3 rfl) ?_
      refine fz_iald (f := V 21) hx hb hK hP 4 0 rfl rfl k rfl (by omega) (by decide) dX5_leftFrom_28 ?_
      refine lv_iadd hx hb dX5_leftFrom_29 ?_
      refine lv_istore_n (lv' := [(2, .int (r + (V 21 k))), (0, .ref (a 17)), (1, .int t), (3, .int (nI k))]) hx hb dX5_leftFrom_30 rfl hl (by decide) rfl (fun ls hl => ?_)
      refine lv_iinc (v := nI (k + 1)) (lv' := [(3, .int (nI (k + 1))), (2, .int (r + (V 21 k))), (0, .ref (a 17)), (1, .int t)]) hx hb dX5_leftFrom_31 hl (k := 3) rfl (fz_inc rfl) (by decide) rfl (fun ls hl => ?_)
      refine lv_goto (tgt := 4) hx hb dX5_leftFrom_34 (by decide) ?_
      exact ih4 (k + 1, r + (V 21 k)) (show ((k + 1) ≤ n) ∧ ((r + (V 21 k)) = fz_sum (fun i => if V 18 i = t then V 21 i else 0) (k + 1)) from ⟨(by omega), (by simp [fz_sum, er, c_1, c_2])⟩) (by show n - (k + 1) < n - k; omega) ls (lv_sub hl [2, 3, 1, 0] rfl)
set_option maxHeartbeats 4000000 in
set_option maxRecDepth 100000 in
/-- Loans.leftTo -/
theorem c_X5_leftTo (l : Launch) (D : va_G) (cy : Nat → ClassId) (a : Nat → Nat) (V : Nat → Nat → Int32) (t : Int32) (n : Nat) (hn : V 17 0 = nI n) (hn12 : n ≤ 12) : fz_RI l yX5_leftTo wsX5_leftTo 0 0 D cy [.ref (a 17), .int t] (LW cy a V) fz_T (fz_sum (fun i => if V 19 i = t then V 21 i else 0) n) := by
  refine Met.ofW (cc := cX5_leftTo) (maxL := 4) (ret := (some .int)) (by decide) rfl ?_
  intro p e s m args below meth c s₁ B hml hv
  obtain ⟨rfl, hP, hK, hE⟩ := hv
  have hx := B.exec
  have hb := B.bytes
  have hr := B.returns
  have hts := atoms_spec (ws := wsX5_leftTo) B.pre
  have hown : s.vm.findClass RX5 = some m.cls := findClass_of_methodNamed B.named
  have hlocks := B.notSynchronized
  have hl := lv_entry ([.ref (a 17), .int t]) (n := 4) (Nat.le_of_ble_eq_true rfl)
  rw [lg_entry_eq]
  generalize (lg_sl ([.ref (a 17), .int t]) ++ List.replicate (4 - (lg_sl ([.ref (a 17), .int t])).length) Slot.unset).toArray = ls at hl ⊢
  have hl : lv_has ls 4 [(0, .ref (a 17)), (1, .int t)] := hl
  have k_30 := hts (.fieldLink RX5 30 "FreezeCredits$Loans" "count" "I") (by decide +kernel)
  have inX5 : ∀ w ∈ u_ws RX5 TX5 7, w ∈ wsX5_leftTo := by decide +kernel
  have k_15 := hts (.fieldLink RX5 15 "FreezeCredits$Loans" "taker" "[I") (by decide +kernel)
  have k_21 := hts (.fieldLink RX5 21 "FreezeCredits$Loans" "left" "[I") (by decide +kernel)
  refine lv_iconst (v := 0) hx hb dX5_leftTo_0 (by decide) ?_
  refine lv_istore_n (lv' := [(2, .int 0), (0, .ref (a 17)), (1, .int t)]) hx hb dX5_leftTo_1 rfl hl (by decide) rfl (fun ls hl => ?_)
  refine lv_iconst (v := 0) hx hb dX5_leftTo_2 (by decide) ?_
  refine lv_istore_n (lv' := [(3, .int 0), (2, .int 0), (0, .ref (a 17)), (1, .int t)]) hx hb dX5_leftTo_3 rfl hl (by decide) rfl (fun ls hl => ?_)
  refine fz_loop (σ := Nat × Int32) (pc := 4) (nL := 4) (fun x => match x with | (k, r) => [(0, .ref (a 17)), (1, .int t), (2, .int r), (3, .int (nI k))]) (fun x => match x with | (k, r) => (k ≤ n) ∧ (r = fz_sum (fun i => if V 19 i = t then V 21 i else 0) k)) (fun x => match x with | (k, r) => n - k) ?_ (0, 0) (show (0 ≤ n) ∧ (0 = fz_sum (fun i => if V 19 i = t then V 21 i else 0) 0) from ⟨(by omega), rfl⟩) ls (lv_sub hl [2, 3, 1, 0] rfl)
  rintro ⟨k, r⟩ ⟨hk, er⟩ ih4 ls hl
  have hk : k ≤ n := hk
  have er : r = fz_sum (fun i => if V 19 i = t then V 21 i else 0) k := er
  have hl : lv_has ls 4 [(0, .ref (a 17)), (1, .int t), (2, .int r), (3, .int (nI k))] := hl
  refine lv_iload_n hx hb dX5_leftTo_4 rfl (lv_at hl 3 rfl) ?_
  refine lv_aload_n hx hb dX5_leftTo_5 rfl (lv_at hl 0 rfl) ?_
  refine va_get (D := D) (ci := 4) (v := .int (V 17 0)) (C := RX5) (T := TX5) (N := 7) hx hb hts inX5 hown hK hP 0 rfl rfl 0 (by decide) k_30 (fun _ h9 => h9) rfl dX5_leftTo_6 ?_
  refine fz_geN (tgt := 37) hx hb k n rfl hn dX5_leftTo_9 (by decide) (by omega) (by omega) (fun c_1 => ?_) (fun c_1 => ?_)
  · skip
    refine lv_iload_n hx hb dX5_leftTo_37 rfl (lv_at hl 2 rfl) ?_
    exact W.iret (v := r) hx hb hr (fun t9 ht9 hW9 => ⟨_, rfl, (by rw [er, show k = n by omega]), ht9⟩) (fun _ h => nomatch h) dX5_leftTo_38
  · skip
    refine lv_aload_n hx hb dX5_leftTo_12 rfl (lv_at hl 0 rfl) ?_
    refine va_get (D := D) (ci := 4) (v := .ref (a 19)) (C := RX5) (T := TX5) (N := 7) hx hb hts inX5 hown hK hP 0 rfl rfl 2 (by decide) k_15 (fun _ h9 => h9) rfl dX5_leftTo_13 ?_
    refine lv_iload_n hx hb dX5_leftTo_16 rfl (lv_at hl 3 rfl) ?_
    refine fz_iald (f := V 19) hx hb hK hP 2 0 rfl rfl k rfl (by omega) (by decide) dX5_leftTo_17 ?_
    refine lv_iload_n hx hb dX5_leftTo_18 rfl (lv_at hl 1 rfl) ?_
    refine lv_icmp_ne (tgt := 31) hx hb dX5_leftTo_19 (by decide) (fun c_2 => ?_) (fun c_2 => ?_)
    · skip
      refine lv_iinc (v := nI (k + 1)) (lv' := [(3, .int (nI (k + 1))), (0, .ref (a 17)), (1, .int t), (2, .int r)]) hx hb dX5_leftTo_31 hl (k := 3) rfl (fz_inc rfl) (by decide) rfl (fun ls hl => ?_)
      refine lv_goto (tgt := 4) hx hb dX5_leftTo_34 (by decide) ?_
      exact ih4 (k + 1, r) (show ((k + 1) ≤ n) ∧ (r = fz_sum (fun i => if V 19 i = t then V 21 i else 0) (k + 1)) from ⟨(by omega), (by simp [fz_sum, er, c_1, c_2])⟩) (by show n - (k + 1) < n - k; omega) ls (lv_sub hl [1, 2, 3, 0] rfl)
    · skip
      refine lv_iload_n hx hb dX5_leftTo_22 rfl (lv_at hl 2 rfl) ?_
      refine lv_aload_n hx hb dX5_leftTo_23 rfl (lv_at hl 0 rfl) ?_
      refine va_get (D := D) (ci := 4) (v := .ref (a 21)) (C := RX5) (T := TX5) (N := 7) hx hb hts inX5 hown hK hP 0 rfl rfl 4 (by decide) k_21 (fun _ h9 => h9) rfl dX5_leftTo_24 ?_
      refine lv_iload_n hx hb dX5_leftTo_27 rfl (lv_at hl 3 rfl) ?_
      refine fz_iald (f := V 21) hx hb hK hP 4 0 rfl rfl k rfl (by omega) (by decide) dX5_leftTo_28 ?_
      refine lv_iadd hx hb dX5_leftTo_29 ?_
      refine lv_istore_n (lv' := [(2, .int (r + (V 21 k))), (0, .ref (a 17)), (1, .int t), (3, .int (nI k))]) hx hb dX5_leftTo_30 rfl hl (by decide) rfl (fun ls hl => ?_)
      refine lv_iinc (v := nI (k + 1)) (lv' := [(3, .int (nI (k + 1))), (2, .int (r + (V 21 k))), (0, .ref (a 17)), (1, .int t)]) hx hb dX5_leftTo_31 hl (k := 3) rfl (fz_inc rfl) (by decide) rfl (fun ls hl => ?_)
      refine lv_goto (tgt := 4) hx hb dX5_leftTo_34 (by decide) ?_
      exact ih4 (k + 1, r + (V 21 k)) (show ((k + 1) ≤ n) ∧ ((r + (V 21 k)) = fz_sum (fun i => if V 19 i = t then V 21 i else 0) (k + 1)) from ⟨(by omega), (by simp [fz_sum, er, c_1, c_2])⟩) (by show n - (k + 1) < n - k; omega) ls (lv_sub hl [2, 3, 1, 0] rfl)
set_option maxHeartbeats 4000000 in
set_option maxRecDepth 100000 in
/-- Loans.isOverdue -/
theorem c_X5_isOverdue (l : Launch) (D : va_G) (cy : Nat → ClassId) (a : Nat → Nat) (V : Nat → Nat → Int32) (t w : Int32) (n : Nat) (hn : V 17 0 = nI n) (hn12 : n ≤ 12) : fz_RI l yX5_isOverdue wsX5_isOverdue 0 0 D cy [.ref (a 17), .int t, .int w] (LW cy a V) fz_T (fz_b (fz_any (fun i => decide (V 19 i = t) && !(decide (V 21 i ≤ 0)) && !(decide (w ≤ V 22 i))) n)) := by
  refine Met.ofW (cc := cX5_isOverdue) (maxL := 4) (ret := (some .boolean)) (by decide) rfl ?_
  intro p e s m args below meth c s₁ B hml hv
  obtain ⟨rfl, hP, hK, hE⟩ := hv
  have hx := B.exec
  have hb := B.bytes
  have hr := B.returns
  have hts := atoms_spec (ws := wsX5_isOverdue) B.pre
  have hown : s.vm.findClass RX5 = some m.cls := findClass_of_methodNamed B.named
  have hlocks := B.notSynchronized
  have hl := lv_entry ([.ref (a 17), .int t, .int w]) (n := 4) (Nat.le_of_ble_eq_true rfl)
  rw [lg_entry_eq]
  generalize (lg_sl ([.ref (a 17), .int t, .int w]) ++ List.replicate (4 - (lg_sl ([.ref (a 17), .int t, .int w])).length) Slot.unset).toArray = ls at hl ⊢
  have hl : lv_has ls 4 [(0, .ref (a 17)), (1, .int t), (2, .int w)] := hl
  have k_30 := hts (.fieldLink RX5 30 "FreezeCredits$Loans" "count" "I") (by decide +kernel)
  have inX5 : ∀ w ∈ u_ws RX5 TX5 7, w ∈ wsX5_isOverdue := by decide +kernel
  have k_15 := hts (.fieldLink RX5 15 "FreezeCredits$Loans" "taker" "[I") (by decide +kernel)
  have k_21 := hts (.fieldLink RX5 21 "FreezeCredits$Loans" "left" "[I") (by decide +kernel)
  have k_24 := hts (.fieldLink RX5 24 "FreezeCredits$Loans" "due" "[I") (by decide +kernel)
  refine lv_iconst (v := 0) hx hb dX5_isOverdue_0 (by decide) ?_
  refine lv_istore_n (lv' := [(3, .int 0), (0, .ref (a 17)), (1, .int t), (2, .int w)]) hx hb dX5_isOverdue_1 rfl hl (by decide) rfl (fun ls hl => ?_)
  refine fz_loop (σ := Nat) (pc := 2) (nL := 4) (fun k => [(0, .ref (a 17)), (1, .int t), (2, .int w), (3, .int (nI k))]) (fun k => (k ≤ n) ∧ (fz_any (fun i => decide (V 19 i = t) && !(decide (V 21 i ≤ 0)) && !(decide (w ≤ V 22 i))) k = false)) (fun k => n - k) ?_ 0 (show (0 ≤ n) ∧ (fz_any (fun i => decide (V 19 i = t) && !(decide (V 21 i ≤ 0)) && !(decide (w ≤ V 22 i))) 0 = false) from ⟨(by omega), rfl⟩) ls (lv_sub hl [1, 2, 3, 0] rfl)
  rintro k ⟨hk, ha⟩ ih2 ls hl
  have hk : k ≤ n := hk
  have ha : fz_any (fun i => decide (V 19 i = t) && !(decide (V 21 i ≤ 0)) && !(decide (w ≤ V 22 i))) k = false := ha
  have hl : lv_has ls 4 [(0, .ref (a 17)), (1, .int t), (2, .int w), (3, .int (nI k))] := hl
  refine lv_iload_n hx hb dX5_isOverdue_2 rfl (lv_at hl 3 rfl) ?_
  refine lv_aload_n hx hb dX5_isOverdue_3 rfl (lv_at hl 0 rfl) ?_
  refine va_get (D := D) (ci := 4) (v := .int (V 17 0)) (C := RX5) (T := TX5) (N := 7) hx hb hts inX5 hown hK hP 0 rfl rfl 0 (by decide) k_30 (fun _ h9 => h9) rfl dX5_isOverdue_4 ?_
  refine fz_geN (tgt := 47) hx hb k n rfl hn dX5_isOverdue_7 (by decide) (by omega) (by omega) (fun c_1 => ?_) (fun c_1 => ?_)
  · skip
    refine lv_iconst (v := 0) hx hb dX5_isOverdue_47 (by decide) ?_
    exact W.zret (v := 0) hx hb hr (by decide) (fun t9 ht9 hW9 => ⟨_, rfl, (by rw [show n = k by omega, ha]; rfl), ht9⟩) (fun _ h => nomatch h) dX5_isOverdue_48
  · skip
    refine lv_aload_n hx hb dX5_isOverdue_10 rfl (lv_at hl 0 rfl) ?_
    refine va_get (D := D) (ci := 4) (v := .ref (a 19)) (C := RX5) (T := TX5) (N := 7) hx hb hts inX5 hown hK hP 0 rfl rfl 2 (by decide) k_15 (fun _ h9 => h9) rfl dX5_isOverdue_11 ?_
    refine lv_iload_n hx hb dX5_isOverdue_14 rfl (lv_at hl 3 rfl) ?_
    refine fz_iald (f := V 19) hx hb hK hP 2 0 rfl rfl k rfl (by omega) (by decide) dX5_isOverdue_15 ?_
    refine lv_iload_n hx hb dX5_isOverdue_16 rfl (lv_at hl 1 rfl) ?_
    refine lv_icmp_ne (tgt := 41) hx hb dX5_isOverdue_17 (by decide) (fun c_2 => ?_) (fun c_2 => ?_)
    · skip
      refine lv_iinc (v := nI (k + 1)) (lv' := [(3, .int (nI (k + 1))), (0, .ref (a 17)), (1, .int t), (2, .int w)]) hx hb dX5_isOverdue_41 hl (k := 3) rfl (fz_inc rfl) (by decide) rfl (fun ls hl => ?_)
      refine lv_goto (tgt := 2) hx hb dX5_isOverdue_44 (by decide) ?_
      exact ih2 (k + 1) (show ((k + 1) ≤ n) ∧ (fz_any (fun i => decide (V 19 i = t) && !(decide (V 21 i ≤ 0)) && !(decide (w ≤ V 22 i))) (k + 1) = false) from ⟨(by omega), (fz_any_step ha (by simp [c_1, c_2]))⟩) (by show n - (k + 1) < n - k; omega) ls (lv_sub hl [1, 2, 3, 0] rfl)
    · skip
      refine lv_aload_n hx hb dX5_isOverdue_20 rfl (lv_at hl 0 rfl) ?_
      refine va_get (D := D) (ci := 4) (v := .ref (a 21)) (C := RX5) (T := TX5) (N := 7) hx hb hts inX5 hown hK hP 0 rfl rfl 4 (by decide) k_21 (fun _ h9 => h9) rfl dX5_isOverdue_21 ?_
      refine lv_iload_n hx hb dX5_isOverdue_24 rfl (lv_at hl 3 rfl) ?_
      refine fz_iald (f := V 21) hx hb hK hP 4 0 rfl rfl k rfl (by omega) (by decide) dX5_isOverdue_25 ?_
      refine lv_if_le (tgt := 41) hx hb dX5_isOverdue_26 (by decide) (fun c_3 => ?_) (fun c_3 => ?_)
      · skip
        refine lv_iinc (v := nI (k + 1)) (lv' := [(3, .int (nI (k + 1))), (0, .ref (a 17)), (1, .int t), (2, .int w)]) hx hb dX5_isOverdue_41 hl (k := 3) rfl (fz_inc rfl) (by decide) rfl (fun ls hl => ?_)
        refine lv_goto (tgt := 2) hx hb dX5_isOverdue_44 (by decide) ?_
        exact ih2 (k + 1) (show ((k + 1) ≤ n) ∧ (fz_any (fun i => decide (V 19 i = t) && !(decide (V 21 i ≤ 0)) && !(decide (w ≤ V 22 i))) (k + 1) = false) from ⟨(by omega), (fz_any_step ha (by simp [c_1, c_2, c_3]))⟩) (by show n - (k + 1) < n - k; omega) ls (lv_sub hl [1, 2, 3, 0] rfl)
      · skip
        refine lv_aload_n hx hb dX5_isOverdue_29 rfl (lv_at hl 0 rfl) ?_
        refine va_get (D := D) (ci := 4) (v := .ref (a 22)) (C := RX5) (T := TX5) (N := 7) hx hb hts inX5 hown hK hP 0 rfl rfl 5 (by decide) k_24 (fun _ h9 => h9) rfl dX5_isOverdue_30 ?_
        refine lv_iload_n hx hb dX5_isOverdue_33 rfl (lv_at hl 3 rfl) ?_
        refine fz_iald (f := V 22) hx hb hK hP 5 0 rfl rfl k rfl (by omega) (by decide) dX5_isOverdue_34 ?_
        refine lv_iload_n hx hb dX5_isOverdue_35 rfl (lv_at hl 2 rfl) ?_
        refine lv_icmp_ge (tgt := 41) hx hb dX5_isOverdue_36 (by decide) (fun c_4 => ?_) (fun c_4 => ?_)
        · skip
          refine lv_iinc (v := nI (k + 1)) (lv' := [(3, .int (nI (k + 1))), (0, .ref (a 17)), (1, .int t), (2, .int w)]) hx hb dX5_isOverdue_41 hl (k := 3) rfl (fz_inc rfl) (by decide) rfl (fun ls hl => ?_)
          refine lv_goto (tgt := 2) hx hb dX5_isOverdue_44 (by decide) ?_
          exact ih2 (k + 1) (show ((k + 1) ≤ n) ∧ (fz_any (fun i => decide (V 19 i = t) && !(decide (V 21 i ≤ 0)) && !(decide (w ≤ V 22 i))) (k + 1) = false) from ⟨(by omega), (fz_any_step ha (by simp [c_1, c_2, c_3, c_4]))⟩) (by show n - (k + 1) < n - k; omega) ls (lv_sub hl [1, 2, 3, 0] rfl)
        · skip
          refine lv_iconst (v := 1) hx hb dX5_isOverdue_39 (by decide) ?_
          exact W.zret (v := 1) hx hb hr (by decide) (fun t9 ht9 hW9 => ⟨_, rfl, (by rw [fz_any_hit (k := k) (by simp [c_1, c_2, c_3, c_4]) (by omega)]; rfl), ht9⟩) (fun _ h => nomatch h) dX5_isOverdue_40
set_option maxHeartbeats 4000000 in
set_option maxRecDepth 100000 in
/-- Loans.value -/
theorem c_X5_value (l : Launch) (D : va_G) (cy : Nat → ClassId) (a : Nat → Nat) (V : Nat → Nat → Int32) (q w : Nat) (hq : q < 12) (hw : w < 6) : fz_RI l yX5_value wsX5_value 0 0 D cy [.ref (a 17), .int (nI q), .int (nI w)] (LW cy a V) fz_T (V (18 + w) q) := by
  refine Met.ofW (cc := cX5_value) (maxL := 3) (ret := (some .int)) (by decide) rfl ?_
  intro p e s m args below meth c s₁ B hml hv
  obtain ⟨rfl, hP, hK, hE⟩ := hv
  have hx := B.exec
  have hb := B.bytes
  have hr := B.returns
  have hts := atoms_spec (ws := wsX5_value) B.pre
  have hown : s.vm.findClass RX5 = some m.cls := findClass_of_methodNamed B.named
  have hlocks := B.notSynchronized
  have hl := lv_entry ([.ref (a 17), .int (nI q), .int (nI w)]) (n := 3) (Nat.le_of_ble_eq_true rfl)
  rw [lg_entry_eq]
  generalize (lg_sl ([.ref (a 17), .int (nI q), .int (nI w)]) ++ List.replicate (3 - (lg_sl ([.ref (a 17), .int (nI q), .int (nI w)])).length) Slot.unset).toArray = ls at hl ⊢
  have hl : lv_has ls 3 [(0, .ref (a 17)), (1, .int (nI q)), (2, .int (nI w))] := hl
  have k_9 := hts (.fieldLink RX5 9 "FreezeCredits$Loans" "giver" "[I") (by decide +kernel)
  have inX5 : ∀ w ∈ u_ws RX5 TX5 7, w ∈ wsX5_value := by decide +kernel
  have k_15 := hts (.fieldLink RX5 15 "FreezeCredits$Loans" "taker" "[I") (by decide +kernel)
  have k_18 := hts (.fieldLink RX5 18 "FreezeCredits$Loans" "amount" "[I") (by decide +kernel)
  have k_21 := hts (.fieldLink RX5 21 "FreezeCredits$Loans" "left" "[I") (by decide +kernel)
  have k_24 := hts (.fieldLink RX5 24 "FreezeCredits$Loans" "due" "[I") (by decide +kernel)
  have k_27 := hts (.fieldLink RX5 27 "FreezeCredits$Loans" "madeIn" "[I") (by decide +kernel)
  refine lv_iload_n hx hb dX5_value_0 rfl (lv_at hl 2 rfl) ?_
  rcases (show w = 0 ∨ w = 1 ∨ w = 2 ∨ w = 3 ∨ w = 4 ∨ w = 5 from by omega) with rfl | rfl | rfl | rfl | rfl | rfl
  · skip
    refine lv_tableIn (tgt := 36) hx hb dX5_value_1 (by decide) (by decide) rfl (by decide) ?_
    refine lv_aload_n hx hb dX5_value_36 rfl (lv_at hl 0 rfl) ?_
    refine va_get (D := D) (ci := 4) (v := .ref (a 18)) (C := RX5) (T := TX5) (N := 7) hx hb hts inX5 hown hK hP 0 rfl rfl 1 (by decide) k_9 (fun _ h9 => h9) rfl dX5_value_37 ?_
    refine lv_iload_n hx hb dX5_value_40 rfl (lv_at hl 1 rfl) ?_
    refine fz_iald (f := V 18) hx hb hK hP 1 0 rfl rfl q rfl (by omega) (by decide) dX5_value_41 ?_
    exact W.iret (v := (V 18 q)) hx hb hr (fun t9 ht9 hW9 => ⟨_, rfl, rfl, ht9⟩) (fun _ h => nomatch h) dX5_value_42
  · skip
    refine lv_tableIn (tgt := 43) hx hb dX5_value_1 (by decide) (by decide) rfl (by decide) ?_
    refine lv_aload_n hx hb dX5_value_43 rfl (lv_at hl 0 rfl) ?_
    refine va_get (D := D) (ci := 4) (v := .ref (a 19)) (C := RX5) (T := TX5) (N := 7) hx hb hts inX5 hown hK hP 0 rfl rfl 2 (by decide) k_15 (fun _ h9 => h9) rfl dX5_value_44 ?_
    refine lv_iload_n hx hb dX5_value_47 rfl (lv_at hl 1 rfl) ?_
    refine fz_iald (f := V 19) hx hb hK hP 2 0 rfl rfl q rfl (by omega) (by decide) dX5_value_48 ?_
    exact W.iret (v := (V 19 q)) hx hb hr (fun t9 ht9 hW9 => ⟨_, rfl, rfl, ht9⟩) (fun _ h => nomatch h) dX5_value_49
  · skip
    refine lv_tableIn (tgt := 50) hx hb dX5_value_1 (by decide) (by decide) rfl (by decide) ?_
    refine lv_aload_n hx hb dX5_value_50 rfl (lv_at hl 0 rfl) ?_
    refine va_get (D := D) (ci := 4) (v := .ref (a 20)) (C := RX5) (T := TX5) (N := 7) hx hb hts inX5 hown hK hP 0 rfl rfl 3 (by decide) k_18 (fun _ h9 => h9) rfl dX5_value_51 ?_
    refine lv_iload_n hx hb dX5_value_54 rfl (lv_at hl 1 rfl) ?_
    refine fz_iald (f := V 20) hx hb hK hP 3 0 rfl rfl q rfl (by omega) (by decide) dX5_value_55 ?_
    exact W.iret (v := (V 20 q)) hx hb hr (fun t9 ht9 hW9 => ⟨_, rfl, rfl, ht9⟩) (fun _ h => nomatch h) dX5_value_56
  · skip
    refine lv_tableIn (tgt := 57) hx hb dX5_value_1 (by decide) (by decide) rfl (by decide) ?_
    refine lv_aload_n hx hb dX5_value_57 rfl (lv_at hl 0 rfl) ?_
    refine va_get (D := D) (ci := 4) (v := .ref (a 21)) (C := RX5) (T := TX5) (N := 7) hx hb hts inX5 hown hK hP 0 rfl rfl 4 (by decide) k_21 (fun _ h9 => h9) rfl dX5_value_58 ?_
    refine lv_iload_n hx hb dX5_value_61 rfl (lv_at hl 1 rfl) ?_
    refine fz_iald (f := V 21) hx hb hK hP 4 0 rfl rfl q rfl (by omega) (by decide) dX5_value_62 ?_
    exact W.iret (v := (V 21 q)) hx hb hr (fun t9 ht9 hW9 => ⟨_, rfl, rfl, ht9⟩) (fun _ h => nomatch h) dX5_value_63
  · skip
    refine lv_tableIn (tgt := 64) hx hb dX5_value_1 (by decide) (by decide) rfl (by decide) ?_
    refine lv_aload_n hx hb dX5_value_64 rfl (lv_at hl 0 rfl) ?_
    refine va_get (D := D) (ci := 4) (v := .ref (a 22)) (C := RX5) (T := TX5) (N := 7) hx hb hts inX5 hown hK hP 0 rfl rfl 5 (by decide) k_24 (fun _ h9 => h9) rfl dX5_value_65 ?_
    refine lv_iload_n hx hb dX5_value_68 rfl (lv_at hl 1 rfl) ?_
    refine fz_iald (f := V 22) hx hb hK hP 5 0 rfl rfl q rfl (by omega) (by decide) dX5_value_69 ?_
    exact W.iret (v := (V 22 q)) hx hb hr (fun t9 ht9 hW9 => ⟨_, rfl, rfl, ht9⟩) (fun _ h => nomatch h) dX5_value_70
  · skip
    refine lv_tableOut (tgt := 71) hx hb dX5_value_1 (by decide) (by decide) ?_
    refine lv_aload_n hx hb dX5_value_71 rfl (lv_at hl 0 rfl) ?_
    refine va_get (D := D) (ci := 4) (v := .ref (a 23)) (C := RX5) (T := TX5) (N := 7) hx hb hts inX5 hown hK hP 0 rfl rfl 6 (by decide) k_27 (fun _ h9 => h9) rfl dX5_value_72 ?_
    refine lv_iload_n hx hb dX5_value_75 rfl (lv_at hl 1 rfl) ?_
    refine fz_iald (f := V 23) hx hb hK hP 6 0 rfl rfl q rfl (by omega) (by decide) dX5_value_76 ?_
    exact W.iret (v := (V 23 q)) hx hb hr (fun t9 ht9 hW9 => ⟨_, rfl, rfl, ht9⟩) (fun _ h => nomatch h) dX5_value_77
