/-! Teams -/
def fz_earn (free e mo : Int32) : Int32 := fz_max 0 (fz_min e (mo - free))
/-- the richest other team among the first k -/
def fz_rich (free : Nat → Int32) (t en : Int32) : Nat → Int32
  | 0 => -1
  | k + 1 => if nI k = t then fz_rich free t en k else if free k < en then fz_rich free t en k else if fz_rich free t en k < 0 then nI k else if free k ≤ free (fz_rich free t en k).toNatClampNeg then fz_rich free t en k else nI k
theorem fz_rich_or (free : Nat → Int32) (t en : Int32) : ∀ k : Nat, fz_rich free t en k = -1 ∨ ∃ j, j < k ∧ fz_rich free t en k = nI j
  | 0 => Or.inl rfl
  | k + 1 => by
    have h := fz_rich_or free t en k
    have h2 : fz_rich free t en k = -1 ∨ ∃ j, j < k + 1 ∧ fz_rich free t en k = nI j := h.imp id (fun ⟨j, a, b⟩ => ⟨j, by omega, b⟩)
    simp only [fz_rich]
    split
    · exact h2
    · split
      · exact h2
      · split
        · exact Or.inr ⟨k, by omega, rfl⟩
        · split
          · exact h2
          · exact Or.inr ⟨k, by omega, rfl⟩
theorem fz_rich_ix (free : Nat → Int32) (t en : Int32) (k : Nat) (h : ¬ fz_rich free t en k < 0) : ∃ j, j < k ∧ fz_rich free t en k = nI j := by
  rcases fz_rich_or free t en k with q | q
  · rw [q] at h
    exact absurd (by decide) h
  · exact q
set_option maxHeartbeats 4000000 in
set_option maxRecDepth 100000 in
/-- Teams.has -/
theorem c_X6_has (l : Launch) (D : va_G) (cy : Nat → ClassId) (a : Nat → Nat) (V : Nat → Nat → Int32) (t : Int32) : fz_RI l yX6_has wsX6_has 0 0 D cy [.ref (a 3), .int t] (TW cy a V) fz_T (fz_b (fz_ix t (V 3 0))) := by
  refine Met.ofW (cc := cX6_has) (maxL := 2) (ret := (some .boolean)) (by decide) rfl ?_
  intro p e s m args below meth c s₁ B hml hv
  obtain ⟨rfl, hP, hK, hE⟩ := hv
  have hx := B.exec
  have hb := B.bytes
  have hr := B.returns
  have hts := atoms_spec (ws := wsX6_has) B.pre
  have hown : s.vm.findClass RX6 = some m.cls := findClass_of_methodNamed B.named
  have hlocks := B.notSynchronized
  have hl := lv_entry ([.ref (a 3), .int t]) (n := 2) (Nat.le_of_ble_eq_true rfl)
  rw [lg_entry_eq]
  generalize (lg_sl ([.ref (a 3), .int t]) ++ List.replicate (2 - (lg_sl ([.ref (a 3), .int t])).length) Slot.unset).toArray = ls at hl ⊢
  have hl : lv_has ls 2 [(0, .ref (a 3)), (1, .int t)] := hl
  have k_24 := hts (.fieldLink RX6 24 "FreezeCredits$Teams" "count" "I") (by decide +kernel)
  have inX6 : ∀ w ∈ u_ws RX6 TX6 5, w ∈ wsX6_has := by decide +kernel
  refine lv_iload_n hx hb dX6_has_0 rfl (lv_at hl 1 rfl) ?_
  refine lv_if_lt (tgt := 16) hx hb dX6_has_1 (by decide) (fun c_1 => ?_) (fun c_1 => ?_)
  · skip
    refine lv_iconst (v := 0) hx hb dX6_has_16 (by decide) ?_
    exact W.zret (v := 0) hx hb hr (by decide) (fun t9 ht9 hW9 => ⟨_, rfl, (by simp [fz_ix, fz_b, c_1]), ht9⟩) (fun _ h => nomatch h) dX6_has_17
  · skip
    refine lv_iload_n hx hb dX6_has_4 rfl (lv_at hl 1 rfl) ?_
    refine lv_aload_n hx hb dX6_has_5 rfl (lv_at hl 0 rfl) ?_
    refine va_get (D := D) (ci := 5) (v := .int (V 3 0)) (C := RX6) (T := TX6) (N := 5) hx hb hts inX6 hown hK hP 0 rfl rfl 0 (by decide) k_24 (fun _ h9 => h9) rfl dX6_has_6 ?_
    refine lv_icmp_ge (tgt := 16) hx hb dX6_has_9 (by decide) (fun c_2 => ?_) (fun c_2 => ?_)
    · skip
      refine lv_iconst (v := 0) hx hb dX6_has_16 (by decide) ?_
      exact W.zret (v := 0) hx hb hr (by decide) (fun t9 ht9 hW9 => ⟨_, rfl, (by simp [fz_ix, fz_b, c_1, c_2]), ht9⟩) (fun _ h => nomatch h) dX6_has_17
    · skip
      refine lv_iconst (v := 1) hx hb dX6_has_12 (by decide) ?_
      refine lv_goto (tgt := 17) hx hb dX6_has_13 (by decide) ?_
      exact W.zret (v := 1) hx hb hr (by decide) (fun t9 ht9 hW9 => ⟨_, rfl, (by simp [fz_ix, fz_b, c_1, c_2]), ht9⟩) (fun _ h => nomatch h) dX6_has_17
set_option maxHeartbeats 4000000 in
set_option maxRecDepth 100000 in
/-- Teams.append -/
theorem c_X6_append (l : Launch) (D : va_G) (cy : Nat → ClassId) (a : Nat → Nat) (V : Nat → Nat → Int32) (x : Int32) (n : Nat) (hn : V 3 0 = nI n) (hn6 : n < 6) : fz_MI l yX6_append wsX6_append 0 0 D cy [.ref (a 3), .int x] (TW cy a V) fz_T (nI n) (TW cy a (fz_up (fz_up (fz_up (fz_up (fz_up V 3 (upd (V 3) 0 (nI (n + 1)))) 4 (upd (V 4) n x)) 5 (upd (V 5) n x)) 6 (upd (V 6) n 0)) 7 (upd (V 7) n 0))) := by
  refine Met.ofW (cc := cX6_append) (maxL := 3) (ret := (some .int)) (by decide) rfl ?_
  intro p e s m args below meth c s₁ B hml hv
  obtain ⟨rfl, hP, hK, hD0, hE⟩ := hv
  have hx := B.exec
  have hb := B.bytes
  have hr := B.returns
  have hts := atoms_spec (ws := wsX6_append) B.pre
  have hown : s.vm.findClass RX6 = some m.cls := findClass_of_methodNamed B.named
  have hlocks := B.notSynchronized
  have hD := fz_self hD0
  generalize hAe : fz_in (TW cy a V) = A at hD ⊢
  have hS : va_S A s.heap s.heap [] := va_S.rf
  have hl := lv_entry ([.ref (a 3), .int x]) (n := 3) (Nat.le_of_ble_eq_true rfl)
  rw [lg_entry_eq]
  generalize (lg_sl ([.ref (a 3), .int x]) ++ List.replicate (3 - (lg_sl ([.ref (a 3), .int x])).length) Slot.unset).toArray = ls at hl ⊢
  have hl : lv_has ls 3 [(0, .ref (a 3)), (1, .int x)] := hl
  have k_24 := hts (.fieldLink RX6 24 "FreezeCredits$Teams" "count" "I") (by decide +kernel)
  have inX6 : ∀ w ∈ u_ws RX6 TX6 5, w ∈ wsX6_append := by decide +kernel
  have k_9 := hts (.fieldLink RX6 9 "FreezeCredits$Teams" "free" "[I") (by decide +kernel)
  have k_15 := hts (.fieldLink RX6 15 "FreezeCredits$Teams" "broughtIn" "[I") (by decide +kernel)
  have k_18 := hts (.fieldLink RX6 18 "FreezeCredits$Teams" "earned" "[I") (by decide +kernel)
  have k_21 := hts (.fieldLink RX6 21 "FreezeCredits$Teams" "burnt" "[I") (by decide +kernel)
  refine lv_aload_n hx hb dX6_append_0 rfl (lv_at hl 0 rfl) ?_
  refine va_get (D := D) (ci := 5) (v := .int (V 3 0)) (C := RX6) (T := TX6) (N := 5) hx hb hts inX6 hown hK hP 0 rfl rfl 0 (by decide) k_24 (fun _ h9 => h9) rfl dX6_append_1 ?_
  refine lv_istore_n (lv' := [(2, .int (V 3 0)), (0, .ref (a 3)), (1, .int x)]) hx hb dX6_append_4 rfl hl (by decide) rfl (fun ls hl => ?_)
  refine lv_aload_n hx hb dX6_append_5 rfl (lv_at hl 1 rfl) ?_
  refine va_get (D := D) (ci := 5) (v := .ref (a 4)) (C := RX6) (T := TX6) (N := 5) hx hb hts inX6 hown hK hP 0 rfl rfl 1 (by decide) k_9 (fun _ h9 => h9) rfl dX6_append_6 ?_
  refine lv_iload_n hx hb dX6_append_9 rfl (lv_at hl 0 rfl) ?_
  refine lv_iload_n hx hb dX6_append_10 rfl (lv_at hl 2 rfl) ?_
  refine fz_iast (f := V 4) hx hb hK hP hD hS 1 0 rfl rfl n hn (by omega) (by decide) dX6_append_11 (fun H locs hP hD hS => ?_)
  have hP : va_P D vwCl (TE cy a (V 3 0) (upd (V 4) n x) (V 5) (V 6) (V 7)) H := hP
  have hD : va_D A (TE cy a (V 3 0) (upd (V 4) n x) (V 5) (V 6) (V 7)) := hD
  refine lv_aload_n hx hb dX6_append_12 rfl (lv_at hl 1 rfl) ?_
  refine va_get (D := D) (ci := 5) (v := .ref (a 5)) (C := RX6) (T := TX6) (N := 5) hx hb hts inX6 hown hK hP 0 rfl rfl 2 (by decide) k_15 (fun _ h9 => h9) rfl dX6_append_13 ?_
  refine lv_iload_n hx hb dX6_append_16 rfl (lv_at hl 0 rfl) ?_
  refine lv_iload_n hx hb dX6_append_17 rfl (lv_at hl 2 rfl) ?_
  refine fz_iast (f := V 5) hx hb hK hP hD hS 2 0 rfl rfl n hn (by omega) (by decide) dX6_append_18 (fun H locs hP hD hS => ?_)
  have hP : va_P D vwCl (TE cy a (V 3 0) (upd (V 4) n x) (upd (V 5) n x) (V 6) (V 7)) H := hP
  have hD : va_D A (TE cy a (V 3 0) (upd (V 4) n x) (upd (V 5) n x) (V 6) (V 7)) := hD
  refine lv_aload_n hx hb dX6_append_19 rfl (lv_at hl 1 rfl) ?_
  refine va_get (D := D) (ci := 5) (v := .ref (a 6)) (C := RX6) (T := TX6) (N := 5) hx hb hts inX6 hown hK hP 0 rfl rfl 3 (by decide) k_18 (fun _ h9 => h9) rfl dX6_append_20 ?_
  refine lv_iload_n hx hb dX6_append_23 rfl (lv_at hl 0 rfl) ?_
  refine lv_iconst (v := 0) hx hb dX6_append_24 (by decide) ?_
  refine fz_iast (f := V 6) hx hb hK hP hD hS 3 0 rfl rfl n hn (by omega) (by decide) dX6_append_25 (fun H locs hP hD hS => ?_)
  have hP : va_P D vwCl (TE cy a (V 3 0) (upd (V 4) n x) (upd (V 5) n x) (upd (V 6) n 0) (V 7)) H := hP
  have hD : va_D A (TE cy a (V 3 0) (upd (V 4) n x) (upd (V 5) n x) (upd (V 6) n 0) (V 7)) := hD
  refine lv_aload_n hx hb dX6_append_26 rfl (lv_at hl 1 rfl) ?_
  refine va_get (D := D) (ci := 5) (v := .ref (a 7)) (C := RX6) (T := TX6) (N := 5) hx hb hts inX6 hown hK hP 0 rfl rfl 4 (by decide) k_21 (fun _ h9 => h9) rfl dX6_append_27 ?_
  refine lv_iload_n hx hb dX6_append_30 rfl (lv_at hl 0 rfl) ?_
  refine lv_iconst (v := 0) hx hb dX6_append_31 (by decide) ?_
  refine fz_iast (f := V 7) hx hb hK hP hD hS 4 0 rfl rfl n hn (by omega) (by decide) dX6_append_32 (fun H locs hP hD hS => ?_)
  have hP : va_P D vwCl (TE cy a (V 3 0) (upd (V 4) n x) (upd (V 5) n x) (upd (V 6) n 0) (upd (V 7) n 0)) H := hP
  have hD : va_D A (TE cy a (V 3 0) (upd (V 4) n x) (upd (V 5) n x) (upd (V 6) n 0) (upd (V 7) n 0)) := hD
  refine lv_aload_n hx hb dX6_append_33 rfl (lv_at hl 1 rfl) ?_
  refine lv_dup hx hb dX6_append_34 rfl ?_
  refine va_get (D := D) (ci := 5) (v := .int (V 3 0)) (C := RX6) (T := TX6) (N := 5) hx hb hts inX6 hown hK hP 0 rfl rfl 0 (by decide) k_24 (fun _ h9 => h9) rfl dX6_append_35 ?_
  refine lv_iconst (v := 1) hx hb dX6_append_38 (by decide) ?_
  refine fz_iaddN hx hb n 1 hn rfl dX6_append_39 ?_
  refine va_put (D := D) (ci := 5) (v := .int (nI (n + 1))) (ty := tyX6 0) (C := RX6) (T := TX6) (N := 5) hx hb hts inX6 tyX6 tyX6_ok nmX6 hown hK hP hD hS 0 rfl rfl 0 (by decide) k_24 (fun _ h9 => h9) rfl (by decide +kernel) rfl rfl (Nat.le_of_ble_eq_true rfl) dX6_append_40 (fun H locs hP hD hS => ?_)
  have hP : va_P D vwCl (TE cy a (nI (n + 1)) (upd (V 4) n x) (upd (V 5) n x) (upd (V 6) n 0) (upd (V 7) n 0)) H := hP
  have hD : va_D A (TE cy a (nI (n + 1)) (upd (V 4) n x) (upd (V 5) n x) (upd (V 6) n 0) (upd (V 7) n 0)) := hD
  refine lv_iload_n hx hb dX6_append_43 rfl (lv_at hl 0 rfl) ?_
  exact W.iret (v := (V 3 0)) hx hb hr (fun t9 ht9 hW9 => ⟨⟨_, (), rfl, hn, fz_to ht9 hP⟩, hS.F ht9⟩) hS.2.2 dX6_append_44
set_option maxHeartbeats 4000000 in
set_option maxRecDepth 100000 in
/-- Teams.earn -/
theorem c_X6_earn (l : Launch) (D : va_G) (cy : Nat → ClassId) (a : Nat → Nat) (V : Nat → Nat → Int32) (t : Nat) (ht : t < 6) (ea mo : Int32) : fz_MI l yX6_earn wsX6_earn 1 21 D cy [.ref (a 3), .int (nI t), .int ea, .int mo] (TW cy a V) fz_T (fz_earn (V 4 t) ea mo) (TW cy a (fz_up (fz_up V 4 (upd (V 4) t (V 4 t + fz_earn (V 4 t) ea mo))) 6 (upd (V 6) t (V 6 t + fz_earn (V 4 t) ea mo)))) := by
  refine Met.ofW (cc := cX6_earn) (maxL := 5) (ret := (some .int)) (by decide) rfl ?_
  intro p e s m args below meth c s₁ B hml hv
  obtain ⟨rfl, hP, hK, hD0, hE⟩ := hv
  have hx := B.exec
  have hb := B.bytes
  have hr := B.returns
  have hts := atoms_spec (ws := wsX6_earn) B.pre
  have hown : s.vm.findClass RX6 = some m.cls := findClass_of_methodNamed B.named
  have hlocks := B.notSynchronized
  have hD := fz_self hD0
  generalize hAe : fz_in (TW cy a V) = A at hD ⊢
  have hS : va_S A s.heap s.heap [] := va_S.rf
  have hl := lv_entry ([.ref (a 3), .int (nI t), .int ea, .int mo]) (n := 5) (Nat.le_of_ble_eq_true rfl)
  rw [lg_entry_eq]
  generalize (lg_sl ([.ref (a 3), .int (nI t), .int ea, .int mo]) ++ List.replicate (5 - (lg_sl ([.ref (a 3), .int (nI t), .int ea, .int mo])).length) Slot.unset).toArray = ls at hl ⊢
  have hl : lv_has ls 5 [(0, .ref (a 3)), (1, .int (nI t)), (2, .int ea), (3, .int mo)] := hl
  have k_9 := hts (.fieldLink RX6 9 "FreezeCredits$Teams" "free" "[I") (by decide +kernel)
  have inX6 : ∀ w ∈ u_ws RX6 TX6 5, w ∈ wsX6_earn := by decide +kernel
  have k_18 := hts (.fieldLink RX6 18 "FreezeCredits$Teams" "earned" "[I") (by decide +kernel)
  refine lv_iconst (v := 0) hx hb dX6_earn_0 (by decide) ?_
  refine lv_iload_n hx hb dX6_earn_1 rfl (lv_at hl 2 rfl) ?_
  refine lv_iload_n hx hb dX6_earn_2 rfl (lv_at hl 3 rfl) ?_
  refine lv_aload_n hx hb dX6_earn_3 rfl (lv_at hl 0 rfl) ?_
  refine va_get (D := D) (ci := 5) (v := .ref (a 4)) (C := RX6) (T := TX6) (N := 5) hx hb hts inX6 hown hK hP 0 rfl rfl 1 (by decide) k_9 (fun _ h9 => h9) rfl dX6_earn_4 ?_
  refine lv_iload_n hx hb dX6_earn_7 rfl (lv_at hl 1 rfl) ?_
  refine fz_iald (f := V 4) hx hb hK hP 1 0 rfl rfl t rfl (by omega) (by decide) dX6_earn_8 ?_
  refine lv_isub hx hb dX6_earn_9 ?_
  refine va_mmin hx hb (hml.trans hl.1.symm) hown (hts (.methodLink RX6 34 Lib.Math.min.name) (by decide +kernel)) (hts (.static Lib.Math.min.name) (by decide +kernel)) (hts (.initialized "java/lang/Math") (by decide +kernel)) (hts (.code Lib.Math.min.name Lib.Math.min.code 2 (some .int)) (by decide +kernel)) (Nat.le_of_ble_eq_true rfl) (Nat.le_of_ble_eq_true rfl) (Nat.le_of_ble_eq_true rfl) (Nat.le_of_ble_eq_true rfl) dX6_earn_10 ?_
  refine fz_top (y := fz_min ea (mo - (V 4 t))) rfl ?_
  refine va_mmax hx hb (hml.trans hl.1.symm) hown (hts (.methodLink RX6 40 Lib.Math.max.name) (by decide +kernel)) (hts (.static Lib.Math.max.name) (by decide +kernel)) (hts (.initialized "java/lang/Math") (by decide +kernel)) (hts (.code Lib.Math.max.name Lib.Math.max.code 2 (some .int)) (by decide +kernel)) (Nat.le_of_ble_eq_true rfl) (Nat.le_of_ble_eq_true rfl) (Nat.le_of_ble_eq_true rfl) (Nat.le_of_ble_eq_true rfl) dX6_earn_13 ?_
  refine fz_top (y := fz_max 0 (fz_min ea (mo - (V 4 t)))) rfl ?_
  refine lv_istore (lv' := [(4, .int (fz_max 0 (fz_min ea (mo - (V 4 t))))), (0, .ref (a 3)), (1, .int (nI t)), (2, .int ea), (3, .int mo)]) hx hb dX6_earn_16 hl (by decide) rfl (fun ls hl => ?_)
  refine lv_aload_n hx hb dX6_earn_18 rfl (lv_at hl 1 rfl) ?_
  refine va_get (D := D) (ci := 5) (v := .ref (a 4)) (C := RX6) (T := TX6) (N := 5) hx hb hts inX6 hown hK hP 0 rfl rfl 1 (by decide) k_9 (fun _ h9 => h9) rfl dX6_earn_19 ?_
  refine lv_iload_n hx hb dX6_earn_22 rfl (lv_at hl 2 rfl) ?_
  refine lv_dup2_11 hx hb dX6_earn_23 rfl rfl ?_
  refine fz_iald (f := V 4) hx hb hK hP 1 0 rfl rfl t rfl (by omega) (by decide) dX6_earn_24 ?_
  refine lv_iload hx hb dX6_earn_25 (lv_at hl 0 rfl) ?_
  refine lv_iadd hx hb dX6_earn_27 ?_
  refine fz_iast (f := V 4) hx hb hK hP hD hS 1 0 rfl rfl t rfl (by omega) (by decide) dX6_earn_28 (fun H locs hP hD hS => ?_)
  have hP : va_P D vwCl (TE cy a (V 3 0) (upd (V 4) t ((V 4 t) + (fz_max 0 (fz_min ea (mo - (V 4 t)))))) (V 5) (V 6) (V 7)) H := hP
  have hD : va_D A (TE cy a (V 3 0) (upd (V 4) t ((V 4 t) + (fz_max 0 (fz_min ea (mo - (V 4 t)))))) (V 5) (V 6) (V 7)) := hD
  refine lv_aload_n hx hb dX6_earn_29 rfl (lv_at hl 1 rfl) ?_
  refine va_get (D := D) (ci := 5) (v := .ref (a 6)) (C := RX6) (T := TX6) (N := 5) hx hb hts inX6 hown hK hP 0 rfl rfl 3 (by decide) k_18 (fun _ h9 => h9) rfl dX6_earn_30 ?_
  refine lv_iload_n hx hb dX6_earn_33 rfl (lv_at hl 2 rfl) ?_
  refine lv_dup2_11 hx hb dX6_earn_34 rfl rfl ?_
  refine fz_iald (f := V 6) hx hb hK hP 3 0 rfl rfl t rfl (by omega) (by decide) dX6_earn_35 ?_
  refine lv_iload hx hb dX6_earn_36 (lv_at hl 0 rfl) ?_
  refine lv_iadd hx hb dX6_earn_38 ?_
  refine fz_iast (f := V 6) hx hb hK hP hD hS 3 0 rfl rfl t rfl (by omega) (by decide) dX6_earn_39 (fun H locs hP hD hS => ?_)
  have hP : va_P D vwCl (TE cy a (V 3 0) (upd (V 4) t ((V 4 t) + (fz_max 0 (fz_min ea (mo - (V 4 t)))))) (V 5) (upd (V 6) t ((V 6 t) + (fz_max 0 (fz_min ea (mo - (V 4 t)))))) (V 7)) H := hP
  have hD : va_D A (TE cy a (V 3 0) (upd (V 4) t ((V 4 t) + (fz_max 0 (fz_min ea (mo - (V 4 t)))))) (V 5) (upd (V 6) t ((V 6 t) + (fz_max 0 (fz_min ea (mo - (V 4 t)))))) (V 7)) := hD
  refine lv_iload hx hb dX6_earn_40 (lv_at hl 0 rfl) ?_
  exact W.iret (v := (fz_max 0 (fz_min ea (mo - (V 4 t))))) hx hb hr (fun t9 ht9 hW9 => ⟨⟨_, (), rfl, rfl, fz_to ht9 hP⟩, hS.F ht9⟩) hS.2.2 dX6_earn_42
set_option maxHeartbeats 4000000 in
set_option maxRecDepth 100000 in
/-- Teams.richestOther -/
theorem c_X6_richestOther (l : Launch) (D : va_G) (cy : Nat → ClassId) (a : Nat → Nat) (V : Nat → Nat → Int32) (t en : Int32) (n : Nat) (hn : V 3 0 = nI n) (hn6 : n ≤ 6) : fz_RI l yX6_richestOther wsX6_richestOther 0 0 D cy [.ref (a 3), .int t, .int en] (TW cy a V) fz_T (fz_rich (V 4) t en n) := by
  refine Met.ofW (cc := cX6_richestOther) (maxL := 5) (ret := (some .int)) (by decide) rfl ?_
  intro p e s m args below meth c s₁ B hml hv
  obtain ⟨rfl, hP, hK, hE⟩ := hv
  have hx := B.exec
  have hb := B.bytes
  have hr := B.returns
  have hts := atoms_spec (ws := wsX6_richestOther) B.pre
  have hown : s.vm.findClass RX6 = some m.cls := findClass_of_methodNamed B.named
  have hlocks := B.notSynchronized
  have hl := lv_entry ([.ref (a 3), .int t, .int en]) (n := 5) (Nat.le_of_ble_eq_true rfl)
  rw [lg_entry_eq]
  generalize (lg_sl ([.ref (a 3), .int t, .int en]) ++ List.replicate (5 - (lg_sl ([.ref (a 3), .int t, .int en])).length) Slot.unset).toArray = ls at hl ⊢
  have hl : lv_has ls 5 [(0, .ref (a 3)), (1, .int t), (2, .int en)] := hl
  have k_24 := hts (.fieldLink RX6 24 "FreezeCredits$Teams" "count" "I") (by decide +kernel)
  have inX6 : ∀ w ∈ u_ws RX6 TX6 5, w ∈ wsX6_richestOther := by decide +kernel
  have k_9 := hts (.fieldLink RX6 9 "FreezeCredits$Teams" "free" "[I") (by decide +kernel)
  refine lv_iconst (v := (-1)) hx hb dX6_richestOther_0 (by decide) ?_
  refine lv_istore_n (lv' := [(3, .int (-1)), (0, .ref (a 3)), (1, .int t), (2, .int en)]) hx hb dX6_richestOther_1 rfl hl (by decide) rfl (fun ls hl => ?_)
  refine lv_iconst (v := 0) hx hb dX6_richestOther_2 (by decide) ?_
  refine lv_istore (lv' := [(4, .int 0), (3, .int (-1)), (0, .ref (a 3)), (1, .int t), (2, .int en)]) hx hb dX6_richestOther_3 hl (by decide) rfl (fun ls hl => ?_)
  refine fz_loop (σ := Nat × Int32) (pc := 5) (nL := 5) (fun x => match x with | (k, r) => [(0, .ref (a 3)), (1, .int t), (2, .int en), (3, .int r), (4, .int (nI k))]) (fun x => match x with | (k, r) => (k ≤ n) ∧ (r = fz_rich (V 4) t en k)) (fun x => match x with | (k, r) => n - k) ?_ (0, (-1)) (show (0 ≤ n) ∧ ((-1) = fz_rich (V 4) t en 0) from ⟨(by omega), rfl⟩) ls (lv_sub hl [2, 3, 4, 1, 0] rfl)
  rintro ⟨k, r⟩ ⟨hk, er⟩ ih5 ls hl
  have hk : k ≤ n := hk
  have er : r = fz_rich (V 4) t en k := er
  have hl : lv_has ls 5 [(0, .ref (a 3)), (1, .int t), (2, .int en), (3, .int r), (4, .int (nI k))] := hl
  refine lv_iload hx hb dX6_richestOther_5 (lv_at hl 4 rfl) ?_
  refine lv_aload_n hx hb dX6_richestOther_7 rfl (lv_at hl 0 rfl) ?_
  refine va_get (D := D) (ci := 5) (v := .int (V 3 0)) (C := RX6) (T := TX6) (N := 5) hx hb hts inX6 hown hK hP 0 rfl rfl 0 (by decide) k_24 (fun _ h9 => h9) rfl dX6_richestOther_8 ?_
  refine fz_geN (tgt := 60) hx hb k n rfl hn dX6_richestOther_11 (by decide) (by omega) (by omega) (fun c_1 => ?_) (fun c_1 => ?_)
  · skip
    refine lv_iload_n hx hb dX6_richestOther_60 rfl (lv_at hl 3 rfl) ?_
    exact W.iret (v := r) hx hb hr (fun t9 ht9 hW9 => ⟨_, rfl, (by rw [er, show k = n by omega]), ht9⟩) (fun _ h => nomatch h) dX6_richestOther_61
  · skip
    refine lv_iload hx hb dX6_richestOther_14 (lv_at hl 4 rfl) ?_
    refine lv_iload_n hx hb dX6_richestOther_16 rfl (lv_at hl 1 rfl) ?_
    refine lv_icmp_eq (tgt := 54) hx hb dX6_richestOther_17 (by decide) (fun c_2 => ?_) (fun c_2 => ?_)
    · skip
      refine lv_iinc (v := nI (k + 1)) (lv' := [(4, .int (nI (k + 1))), (0, .ref (a 3)), (1, .int t), (2, .int en), (3, .int r)]) hx hb dX6_richestOther_54 hl (k := 4) rfl (fz_inc rfl) (by decide) rfl (fun ls hl => ?_)
      refine lv_goto (tgt := 5) hx hb dX6_richestOther_57 (by decide) ?_
      exact ih5 (k + 1, r) (show ((k + 1) ≤ n) ∧ (r = fz_rich (V 4) t en (k + 1)) from ⟨(by omega), (by simp [fz_rich, ← er, c_1, c_2])⟩) (by show n - (k + 1) < n - k; omega) ls (lv_sub hl [1, 2, 3, 4, 0] rfl)
    · skip
      refine lv_aload_n hx hb dX6_richestOther_20 rfl (lv_at hl 0 rfl) ?_
      refine va_get (D := D) (ci := 5) (v := .ref (a 4)) (C := RX6) (T := TX6) (N := 5) hx hb hts inX6 hown hK hP 0 rfl rfl 1 (by decide) k_9 (fun _ h9 => h9) rfl dX6_richestOther_21 ?_
      refine lv_iload hx hb dX6_richestOther_24 (lv_at hl 4 rfl) ?_
      refine fz_iald (f := V 4) hx hb hK hP 1 0 rfl rfl k rfl (by omega) (by decide) dX6_richestOther_26 ?_
      refine lv_iload_n hx hb dX6_richestOther_27 rfl (lv_at hl 2 rfl) ?_
      refine lv_icmp_lt (tgt := 54) hx hb dX6_richestOther_28 (by decide) (fun c_3 => ?_) (fun c_3 => ?_)
      · skip
        refine lv_iinc (v := nI (k + 1)) (lv' := [(4, .int (nI (k + 1))), (0, .ref (a 3)), (1, .int t), (2, .int en), (3, .int r)]) hx hb dX6_richestOther_54 hl (k := 4) rfl (fz_inc rfl) (by decide) rfl (fun ls hl => ?_)
        refine lv_goto (tgt := 5) hx hb dX6_richestOther_57 (by decide) ?_
        exact ih5 (k + 1, r) (show ((k + 1) ≤ n) ∧ (r = fz_rich (V 4) t en (k + 1)) from ⟨(by omega), (by simp [fz_rich, ← er, c_1, c_2, c_3])⟩) (by show n - (k + 1) < n - k; omega) ls (lv_sub hl [1, 2, 3, 4, 0] rfl)
      · skip
        refine lv_iload_n hx hb dX6_richestOther_31 rfl (lv_at hl 3 rfl) ?_
        refine lv_if_lt (tgt := 51) hx hb dX6_richestOther_32 (by decide) (fun c_4 => ?_) (fun c_4 => ?_)
        · skip
          refine lv_iload hx hb dX6_richestOther_51 (lv_at hl 4 rfl) ?_
          refine lv_istore_n (lv' := [(3, .int (nI k)), (0, .ref (a 3)), (1, .int t), (2, .int en), (4, .int (nI k))]) hx hb dX6_richestOther_53 rfl hl (by decide) rfl (fun ls hl => ?_)
          refine lv_iinc (v := nI (k + 1)) (lv' := [(4, .int (nI (k + 1))), (3, .int (nI k)), (0, .ref (a 3)), (1, .int t), (2, .int en)]) hx hb dX6_richestOther_54 hl (k := 4) rfl (fz_inc rfl) (by decide) rfl (fun ls hl => ?_)
          refine lv_goto (tgt := 5) hx hb dX6_richestOther_57 (by decide) ?_
          exact ih5 (k + 1, nI k) (show ((k + 1) ≤ n) ∧ ((nI k) = fz_rich (V 4) t en (k + 1)) from ⟨(by omega), (by simp [fz_rich, ← er, c_1, c_2, c_3, c_4])⟩) (by show n - (k + 1) < n - k; omega) ls (lv_sub hl [2, 3, 4, 1, 0] rfl)
        · skip
          obtain ⟨j, hj, ej⟩ := fz_rich_ix (V 4) t en k (by rw [← er]; exact c_4)
          rw [← er] at ej
          have cl : r.toNatClampNeg = j := by rw [ej]; exact nI_clamp (by omega)
          refine lv_aload_n hx hb dX6_richestOther_35 rfl (lv_at hl 0 rfl) ?_
          refine va_get (D := D) (ci := 5) (v := .ref (a 4)) (C := RX6) (T := TX6) (N := 5) hx hb hts inX6 hown hK hP 0 rfl rfl 1 (by decide) k_9 (fun _ h9 => h9) rfl dX6_richestOther_36 ?_
          refine lv_iload hx hb dX6_richestOther_39 (lv_at hl 4 rfl) ?_
          refine fz_iald (f := V 4) hx hb hK hP 1 0 rfl rfl k rfl (by omega) (by decide) dX6_richestOther_41 ?_
          refine lv_aload_n hx hb dX6_richestOther_42 rfl (lv_at hl 0 rfl) ?_
          refine va_get (D := D) (ci := 5) (v := .ref (a 4)) (C := RX6) (T := TX6) (N := 5) hx hb hts inX6 hown hK hP 0 rfl rfl 1 (by decide) k_9 (fun _ h9 => h9) rfl dX6_richestOther_43 ?_
          refine lv_iload_n hx hb dX6_richestOther_46 rfl (lv_at hl 3 rfl) ?_
          refine fz_iald (f := V 4) hx hb hK hP 1 0 rfl rfl j ej (by omega) (by decide) dX6_richestOther_47 ?_
          refine lv_icmp_le (tgt := 54) hx hb dX6_richestOther_48 (by decide) (fun c_5 => ?_) (fun c_5 => ?_)
          · skip
            refine lv_iinc (v := nI (k + 1)) (lv' := [(4, .int (nI (k + 1))), (0, .ref (a 3)), (1, .int t), (2, .int en), (3, .int r)]) hx hb dX6_richestOther_54 hl (k := 4) rfl (fz_inc rfl) (by decide) rfl (fun ls hl => ?_)
            refine lv_goto (tgt := 5) hx hb dX6_richestOther_57 (by decide) ?_
            exact ih5 (k + 1, r) (show ((k + 1) ≤ n) ∧ (r = fz_rich (V 4) t en (k + 1)) from ⟨(by omega), (by simp [fz_rich, ← er, c_1, c_2, c_3, c_4, c_5, cl])⟩) (by show n - (k + 1) < n - k; omega) ls (lv_sub hl [1, 2, 3, 4, 0] rfl)
          · skip
            refine lv_iload hx hb dX6_richestOther_51 (lv_at hl 4 rfl) ?_
            refine lv_istore_n (lv' := [(3, .int (nI k)), (0, .ref (a 3)), (1, .int t), (2, .int en), (4, .int (nI k))]) hx hb dX6_richestOther_53 rfl hl (by decide) rfl (fun ls hl => ?_)
            refine lv_iinc (v := nI (k + 1)) (lv' := [(4, .int (nI (k + 1))), (3, .int (nI k)), (0, .ref (a 3)), (1, .int t), (2, .int en)]) hx hb dX6_richestOther_54 hl (k := 4) rfl (fz_inc rfl) (by decide) rfl (fun ls hl => ?_)
            refine lv_goto (tgt := 5) hx hb dX6_richestOther_57 (by decide) ?_
            exact ih5 (k + 1, nI k) (show ((k + 1) ≤ n) ∧ ((nI k) = fz_rich (V 4) t en (k + 1)) from ⟨(by omega), (by simp [fz_rich, ← er, c_1, c_2, c_3, c_4, c_5, cl])⟩) (by show n - (k + 1) < n - k; omega) ls (lv_sub hl [2, 3, 4, 1, 0] rfl)
