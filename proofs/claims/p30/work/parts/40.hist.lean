/-! the history of a class -/
/-- the slots and the count behind keep -/
def hs_g (g : Nat → Option Nat) (cn : Nat) : Nat → Option Nat := if cn < 4 then g else fun k => if k < 4 then g (k + 1) else g 0
def hs_n (cn : Nat) : Nat := if cn < 4 then cn + 1 else cn
set_option maxHeartbeats 4000000 in
set_option maxRecDepth 100000 in
theorem c_X4_prepare (l : Launch) (D : va_G) (cy : Nat → ClassId) (h : Nat → Nat) (g : Nat → Option Nat) (cn : Nat) (a : Nat → Nat) (V : Nat → Nat → Int32) (w : Nat → Nat) (N : Nat → Nat → Int32) (hn : cn < 5) (hw : g cn = some (w 0)) (hz : fz_zo (V 2) 40) : fz_MV l yX4_prepare wsX4_prepare 3 69 D cy [.ref (h 0), .ref (a 0)] (HW cy h g (nI cn) ++ (CW cy a V ++ CW cy w N)) fz_T (HW cy h g (nI cn) ++ (CW cy a V ++ CW cy w V)) := by
  refine Met.ofW (cc := cX4_prepare) (maxL := 2) (ret := none) (by decide) rfl ?_
  intro p e s m args below meth c s₁ B hml hv
  obtain ⟨rfl, hP, hK, hD0, hE⟩ := hv
  have hx := B.exec
  have hb := B.bytes
  have hr := B.returns
  have hts := atoms_spec (ws := wsX4_prepare) B.pre
  have hown : s.vm.findClass RX4 = some m.cls := findClass_of_methodNamed B.named
  have hlocks := B.notSynchronized
  have hD := fz_self hD0
  generalize hAe : fz_in (HW cy h g (nI cn) ++ (CW cy a V ++ CW cy w N)) = A at hD ⊢
  have hS : va_S A s.heap s.heap [] := va_S.rf
  have hl := lv_entry ([.ref (h 0), .ref (a 0)]) (n := 2) (Nat.le_of_ble_eq_true rfl)
  rw [lg_entry_eq]
  generalize (lg_sl ([.ref (h 0), .ref (a 0)]) ++ List.replicate (2 - (lg_sl ([.ref (h 0), .ref (a 0)])).length) Slot.unset).toArray = ls at hl ⊢
  have hl : lv_has ls 2 [(0, .ref (h 0)), (1, .ref (a 0))] := hl
  have k_11 := hts (.fieldLink RX4 11 "FreezeCredits$History" "slots" "[LFreezeCredits$Calendar;") (by decide +kernel)
  have k_18 := hts (.fieldLink RX4 18 "FreezeCredits$History" "count" "I") (by decide +kernel)
  have inX4 : ∀ w ∈ u_ws RX4 TX4 2, w ∈ wsX4_prepare := by decide +kernel
  refine lv_aload_n hx hb dX4_prepare_0 rfl (lv_at hl 0 rfl) ?_
  refine va_get (D := D) (ci := 3) (v := .ref (h 1)) (C := RX4) (T := TX4) (N := 2) hx hb hts inX4 hown hK hP 0 rfl rfl 1 (by decide) k_11 (fun _ h9 => h9) rfl dX4_prepare_1 ?_
  refine lv_aload_n hx hb dX4_prepare_4 rfl (lv_at hl 0 rfl) ?_
  refine va_get (D := D) (ci := 3) (v := .int (nI cn)) (C := RX4) (T := TX4) (N := 2) hx hb hts inX4 hown hK hP 0 rfl rfl 0 (by decide) k_18 (fun _ h9 => h9) rfl dX4_prepare_5 ?_
  refine fz_aald hx hb hK hP 1 3 rfl rfl cn rfl hn (by decide) hw dX4_prepare_8 ?_
  refine lv_aload_n hx hb dX4_prepare_9 rfl (lv_at hl 1 rfl) ?_
  refine fz_retMV (ws' := HW cy h g (nI cn) ++ (CW cy a V ++ CW cy w V)) (va_runV (As := [.ref (a 0)]) (rest := []) ⟨hx, hb, hml, hown, hts⟩ (c_X1_copyFrom l D cy w N a V hz) (cwV 1 hts gX4_prepare_X1_copyFrom rfl rfl rfl (by decide +kernel) ⟨Nat.le_of_ble_eq_true rfl, Nat.le_of_ble_eq_true rfl⟩)
    (fz_preMV (ci := 0) (q0 := 0) hK (hP.sub (ws' := CW cy w N ++ CW cy a V) (List.range' 26 24 ++ List.range' 2 24) rfl) (hD.sub (ws' := CW cy w N ++ CW cy a V) (List.range' 26 24 ++ List.range' 2 24) (by decide +kernel) rfl) rfl rfl rfl fz_T_bl (fun _ _ _ => trivial)) rfl rfl hl.1 rfl (lv_room (Nat.le_of_ble_eq_true rfl)) dX4_prepare_10 ⟨Nat.zero_le _, Nat.zero_le _⟩)
    hP hD hS (List.range' 26 24 ++ List.range' 2 24) [0, 1] rfl rfl ([false, false] ++ List.replicate 48 true) (And.intro rfl (And.intro rfl (And.intro rfl (And.intro rfl (And.intro rfl (And.intro rfl (And.intro rfl (And.intro rfl (And.intro rfl (And.intro rfl (And.intro rfl (And.intro rfl (And.intro rfl (And.intro rfl (And.intro rfl (And.intro rfl (And.intro rfl (And.intro rfl (And.intro rfl (And.intro rfl (And.intro rfl (And.intro rfl (And.intro rfl (And.intro rfl (And.intro rfl (And.intro rfl (And.intro rfl (And.intro rfl (And.intro rfl (And.intro rfl (And.intro rfl (And.intro rfl (And.intro rfl (And.intro rfl (And.intro rfl (And.intro rfl (And.intro rfl (And.intro rfl (And.intro rfl (And.intro rfl (And.intro rfl (And.intro rfl (And.intro rfl (And.intro rfl (And.intro rfl (And.intro rfl (And.intro rfl (And.intro rfl (And.intro rfl (And.intro rfl trivial)))))))))))))))))))))))))))))))))))))))))))))))))) rfl rfl (fun H locs hP hD hS => ?_)
  exact W.vret hx hb hr (fun t9 ht9 hW9 => ⟨⟨(), rfl, trivial, fz_to ht9 hP⟩, hS.F ht9⟩) hS.2.2 dX4_prepare_13
set_option maxHeartbeats 4000000 in
set_option maxRecDepth 100000 in
theorem c_X4_restore (l : Launch) (D : va_G) (cy : Nat → ClassId) (h : Nat → Nat) (g : Nat → Option Nat) (cn : Nat) (a : Nat → Nat) (V : Nat → Nat → Int32) (w : Nat → Nat) (N : Nat → Nat → Int32) (hn : cn < 5) (hw : g cn = some (w 0)) (hz : fz_zo (N 2) 40) : fz_MI l yX4_restore wsX4_restore 3 69 D cy [.ref (h 0), .ref (a 0)] (HW cy h g (nI (cn + 1)) ++ (CW cy a V ++ CW cy w N)) fz_T (nI cn) (HW cy h g (nI cn) ++ (CW cy a N ++ CW cy w N)) := by
  refine Met.ofW (cc := cX4_restore) (maxL := 2) (ret := (some .int)) (by decide) rfl ?_
  intro p e s m args below meth c s₁ B hml hv
  obtain ⟨rfl, hP, hK, hD0, hE⟩ := hv
  have hx := B.exec
  have hb := B.bytes
  have hr := B.returns
  have hts := atoms_spec (ws := wsX4_restore) B.pre
  have hown : s.vm.findClass RX4 = some m.cls := findClass_of_methodNamed B.named
  have hlocks := B.notSynchronized
  have hD := fz_self hD0
  generalize hAe : fz_in (HW cy h g (nI (cn + 1)) ++ (CW cy a V ++ CW cy w N)) = A at hD ⊢
  have hS : va_S A s.heap s.heap [] := va_S.rf
  have hl := lv_entry ([.ref (h 0), .ref (a 0)]) (n := 2) (Nat.le_of_ble_eq_true rfl)
  rw [lg_entry_eq]
  generalize (lg_sl ([.ref (h 0), .ref (a 0)]) ++ List.replicate (2 - (lg_sl ([.ref (h 0), .ref (a 0)])).length) Slot.unset).toArray = ls at hl ⊢
  have hl : lv_has ls 2 [(0, .ref (h 0)), (1, .ref (a 0))] := hl
  have k_11 := hts (.fieldLink RX4 11 "FreezeCredits$History" "slots" "[LFreezeCredits$Calendar;") (by decide +kernel)
  have k_18 := hts (.fieldLink RX4 18 "FreezeCredits$History" "count" "I") (by decide +kernel)
  have inX4 : ∀ w ∈ u_ws RX4 TX4 2, w ∈ wsX4_restore := by decide +kernel
  refine lv_aload_n hx hb dX4_restore_0 rfl (lv_at hl 0 rfl) ?_
  refine lv_dup hx hb dX4_restore_1 rfl ?_
  refine va_get (D := D) (ci := 3) (v := .int (nI (cn + 1))) (C := RX4) (T := TX4) (N := 2) hx hb hts inX4 hown hK hP 0 rfl rfl 0 (by decide) k_18 (fun _ h9 => h9) rfl dX4_restore_2 ?_
  refine lv_iconst (v := 1) hx hb dX4_restore_5 (by decide) ?_
  refine fz_isubN hx hb (cn + 1) 1 rfl rfl (by omega) dX4_restore_6 ?_
  refine fz_top (y := nI cn) rfl ?_
  refine va_put (D := D) (ci := 3) (v := .int (nI cn)) (ty := tyX4 0) (C := RX4) (T := TX4) (N := 2) hx hb hts inX4 tyX4 tyX4_ok nmX4 hown hK hP hD hS 0 rfl rfl 0 (by decide) k_18 (fun _ h9 => h9) rfl (by decide +kernel) rfl rfl (Nat.le_of_ble_eq_true rfl) dX4_restore_7 (fun H locs hP hD hS => ?_)
  have hP : va_P D vwCl (HW cy h g (nI cn) ++ (CW cy a V ++ CW cy w N)) H := hP
  have hD : va_D A (HW cy h g (nI cn) ++ (CW cy a V ++ CW cy w N)) := hD
  refine lv_aload_n hx hb dX4_restore_10 rfl (lv_at hl 1 rfl) ?_
  refine lv_aload_n hx hb dX4_restore_11 rfl (lv_at hl 0 rfl) ?_
  refine va_get (D := D) (ci := 3) (v := .ref (h 1)) (C := RX4) (T := TX4) (N := 2) hx hb hts inX4 hown hK hP 0 rfl rfl 1 (by decide) k_11 (fun _ h9 => h9) rfl dX4_restore_12 ?_
  refine lv_aload_n hx hb dX4_restore_15 rfl (lv_at hl 0 rfl) ?_
  refine va_get (D := D) (ci := 3) (v := .int (nI cn)) (C := RX4) (T := TX4) (N := 2) hx hb hts inX4 hown hK hP 0 rfl rfl 0 (by decide) k_18 (fun _ h9 => h9) rfl dX4_restore_16 ?_
  refine fz_aald hx hb hK hP 1 3 rfl rfl cn rfl hn (by decide) hw dX4_restore_19 ?_
  refine fz_retMV (ws' := HW cy h g (nI cn) ++ (CW cy a N ++ CW cy w N)) (va_runV (As := [.ref (w 0)]) (rest := []) ⟨hx, hb, hml, hown, hts⟩ (c_X1_copyFrom l D cy a V w N hz) (cwV 1 hts gX4_restore_X1_copyFrom rfl rfl rfl (by decide +kernel) ⟨Nat.le_of_ble_eq_true rfl, Nat.le_of_ble_eq_true rfl⟩)
    (fz_preMV (ci := 0) (q0 := 0) hK (hP.sub (ws' := CW cy a V ++ CW cy w N) (List.range' 2 48) rfl) (hD.sub (ws' := CW cy a V ++ CW cy w N) (List.range' 2 48) (by decide +kernel) rfl) rfl rfl rfl fz_T_bl (fun _ _ _ => trivial)) rfl rfl hl.1 rfl (lv_room (Nat.le_of_ble_eq_true rfl)) dX4_restore_20 ⟨Nat.zero_le _, Nat.zero_le _⟩)
    hP hD hS (List.range' 2 48) [0, 1] rfl rfl ([false, false] ++ List.replicate 48 true) (And.intro rfl (And.intro rfl (And.intro rfl (And.intro rfl (And.intro rfl (And.intro rfl (And.intro rfl (And.intro rfl (And.intro rfl (And.intro rfl (And.intro rfl (And.intro rfl (And.intro rfl (And.intro rfl (And.intro rfl (And.intro rfl (And.intro rfl (And.intro rfl (And.intro rfl (And.intro rfl (And.intro rfl (And.intro rfl (And.intro rfl (And.intro rfl (And.intro rfl (And.intro rfl (And.intro rfl (And.intro rfl (And.intro rfl (And.intro rfl (And.intro rfl (And.intro rfl (And.intro rfl (And.intro rfl (And.intro rfl (And.intro rfl (And.intro rfl (And.intro rfl (And.intro rfl (And.intro rfl (And.intro rfl (And.intro rfl (And.intro rfl (And.intro rfl (And.intro rfl (And.intro rfl (And.intro rfl (And.intro rfl (And.intro rfl (And.intro rfl trivial)))))))))))))))))))))))))))))))))))))))))))))))))) rfl rfl (fun H locs hP hD hS => ?_)
  refine lv_aload_n hx hb dX4_restore_23 rfl (lv_at hl 0 rfl) ?_
  refine va_get (D := D) (ci := 3) (v := .int (nI cn)) (C := RX4) (T := TX4) (N := 2) hx hb hts inX4 hown hK hP 0 rfl rfl 0 (by decide) k_18 (fun _ h9 => h9) rfl dX4_restore_24 ?_
  exact W.iret (v := nI cn) hx hb hr (fun t9 ht9 hW9 => ⟨⟨_, (), rfl, rfl, fz_to ht9 hP⟩, hS.F ht9⟩) hS.2.2 dX4_restore_27
set_option maxHeartbeats 4000000 in
set_option maxRecDepth 100000 in
theorem c_X4_keep (l : Launch) (D : va_G) (cy : Nat → ClassId) (h : Nat → Nat) (g : Nat → Option Nat) (cn : Nat) (Z : va_W) (hn : cn < 5) (hh : ∀ k, k < 5 → ∃ x, g k = some x ∧ fz_hd Z x) : fz_MV l yX4_keep wsX4_keep 0 0 D cy [.ref (h 0)] (HW cy h g (nI cn) ++ Z) fz_T (HW cy h (hs_g g cn) (nI (hs_n cn)) ++ Z) := by
  refine Met.ofW (cc := cX4_keep) (maxL := 3) (ret := none) (by decide) rfl ?_
  intro p e s m args below meth c s₁ B hml hv
  obtain ⟨rfl, hP, hK, hD0, hE⟩ := hv
  have hx := B.exec
  have hb := B.bytes
  have hr := B.returns
  have hts := atoms_spec (ws := wsX4_keep) B.pre
  have hown : s.vm.findClass RX4 = some m.cls := findClass_of_methodNamed B.named
  have hlocks := B.notSynchronized
  have hD := fz_self hD0
  generalize hAe : fz_in (HW cy h g (nI cn) ++ Z) = A at hD ⊢
  have hS : va_S A s.heap s.heap [] := va_S.rf
  have hl := lv_entry ([.ref (h 0)]) (n := 3) (Nat.le_of_ble_eq_true rfl)
  rw [lg_entry_eq]
  generalize (lg_sl ([.ref (h 0)]) ++ List.replicate (3 - (lg_sl ([.ref (h 0)])).length) Slot.unset).toArray = ls at hl ⊢
  have hl : lv_has ls 3 [(0, .ref (h 0))] := hl
  have k_11 := hts (.fieldLink RX4 11 "FreezeCredits$History" "slots" "[LFreezeCredits$Calendar;") (by decide +kernel)
  have k_18 := hts (.fieldLink RX4 18 "FreezeCredits$History" "count" "I") (by decide +kernel)
  have inX4 : ∀ w ∈ u_ws RX4 TX4 2, w ∈ wsX4_keep := by decide +kernel
  refine lv_aload_n hx hb dX4_keep_0 rfl (lv_at hl 0 rfl) ?_
  refine va_get (D := D) (ci := 3) (v := .int (nI cn)) (C := RX4) (T := TX4) (N := 2) hx hb hts inX4 hown hK hP 0 rfl rfl 0 (by decide) k_18 (fun _ h9 => h9) rfl dX4_keep_1 ?_
  refine lv_iconst (v := 4) hx hb dX4_keep_4 (by decide) ?_
  refine fz_geN hx hb cn 4 rfl rfl dX4_keep_5 rfl (by omega) (by decide) (fun c_5 => ?_) (fun c_5 => ?_)
  · obtain ⟨x0, hx0, hd0⟩ := hh 0 (by decide)
    refine lv_aload_n hx hb dX4_keep_19 rfl (lv_at hl 0 rfl) ?_
    refine va_get (D := D) (ci := 3) (v := .ref (h 1)) (C := RX4) (T := TX4) (N := 2) hx hb hts inX4 hown hK hP 0 rfl rfl 1 (by decide) k_11 (fun _ h9 => h9) rfl dX4_keep_20 ?_
    refine lv_iconst (v := 0) hx hb dX4_keep_23 (by decide) ?_
    refine fz_aald hx hb hK hP 1 3 rfl rfl 0 rfl (by decide) (by decide) hx0 dX4_keep_24 ?_
    refine lv_astore_n (lv' := [(1, .ref x0), (0, .ref (h 0))]) hx hb dX4_keep_25 rfl hl (by decide) rfl (fun ls hl => ?_)
    refine lv_iconst (v := 0) hx hb dX4_keep_26 (by decide) ?_
    refine lv_istore_n (lv' := [(2, .int 0), (1, .ref x0), (0, .ref (h 0))]) hx hb dX4_keep_27 rfl hl (by decide) rfl (fun ls hl => ?_)
    refine fz_loopM (cl := vwCl) (H0 := s.heap) (D := D) (A := A) (nL := 3) (fun (i : Nat) => [(2, .int (nI i)), (1, .ref x0), (0, .ref (h 0))]) (fun i => HW cy h (fun k => if k < i then g (k + 1) else g k) (nI cn) ++ Z) (fun i => i ≤ 4) (fun i => 4 - i) ?_ 0 (Nat.zero_le _) _ _ ls (by simpa using hP) (by simpa using hD) hS (lv_sub hl [0, 1, 2] rfl)
    intro i hi ih H locs ls hP hD hS hl
    refine lv_iload_n hx hb dX4_keep_28 rfl (lv_at hl 0 rfl) ?_
    refine lv_iconst (v := 4) hx hb dX4_keep_29 (by decide) ?_
    refine fz_geN hx hb i 4 rfl rfl dX4_keep_30 rfl (by omega) (by decide) (fun c_30 => ?_) (fun c_30 => ?_)
    · have ei : i = 4 := by omega
      subst ei
      refine lv_aload_n hx hb dX4_keep_53 rfl (lv_at hl 2 rfl) ?_
      refine va_get (D := D) (ci := 3) (v := .ref (h 1)) (C := RX4) (T := TX4) (N := 2) hx hb hts inX4 hown hK hP 0 rfl rfl 1 (by decide) k_11 (fun _ h9 => h9) rfl dX4_keep_54 ?_
      refine lv_iconst (v := 4) hx hb dX4_keep_57 (by decide) ?_
      refine lv_aload_n hx hb dX4_keep_58 rfl (lv_at hl 1 rfl) ?_
      obtain ⟨fs, hfs⟩ := hd0
      refine fz_aast hx hb hK hP hD hS 1 3 0 rfl rfl (List.mem_append_right _ hfs) rfl 4 rfl (by decide) (by decide) dX4_keep_59 (fun H locs hP hD hS => ?_)
      have hP : va_P D vwCl ([] ++ (HW cy h (va_up (fun k => if k < 4 then g (k + 1) else g k) 4 (some x0)) (nI cn) ++ Z)) H := hP
      have hP := fz_HWe (g' := hs_g g cn) (fun k hk => by
        rw [hs_g, if_neg (Nat.not_lt.mpr c_5), va_up]
        by_cases q : k = 4
        · rw [if_pos q, if_neg (by omega), hx0]
        · rw [if_neg q]
          show (if k < 4 then g (k + 1) else g k) = if k < 4 then g (k + 1) else g 0
          rw [if_pos (by omega), if_pos (by omega)]) hP
      have e4 : hs_n cn = cn := by rw [hs_n, if_neg (Nat.not_lt.mpr c_5)]
      rw [e4]
      exact W.vret hx hb hr (fun t9 ht9 hW9 => ⟨⟨(), rfl, trivial, fz_to ht9 hP⟩, hS.F ht9⟩) hS.2.2 dX4_keep_60
    · obtain ⟨x1, hx1, fs, hfs⟩ := hh (i + 1) (by omega)
      have hw1 : (fun k => if k < i then g (k + 1) else g k) (i + 1) = some x1 := by
        show (if i + 1 < i then g (i + 1 + 1) else g (i + 1)) = some x1
        rw [if_neg (by omega), hx1]
      refine lv_aload_n hx hb dX4_keep_33 rfl (lv_at hl 2 rfl) ?_
      refine va_get (D := D) (ci := 3) (v := .ref (h 1)) (C := RX4) (T := TX4) (N := 2) hx hb hts inX4 hown hK hP 0 rfl rfl 1 (by decide) k_11 (fun _ h9 => h9) rfl dX4_keep_34 ?_
      refine lv_iload_n hx hb dX4_keep_37 rfl (lv_at hl 0 rfl) ?_
      refine lv_aload_n hx hb dX4_keep_38 rfl (lv_at hl 2 rfl) ?_
      refine va_get (D := D) (ci := 3) (v := .ref (h 1)) (C := RX4) (T := TX4) (N := 2) hx hb hts inX4 hown hK hP 0 rfl rfl 1 (by decide) k_11 (fun _ h9 => h9) rfl dX4_keep_39 ?_
      refine lv_iload_n hx hb dX4_keep_42 rfl (lv_at hl 0 rfl) ?_
      refine lv_iconst (v := 1) hx hb dX4_keep_43 (by decide) ?_
      refine fz_iaddN hx hb i 1 rfl rfl dX4_keep_44 ?_
      refine fz_aald hx hb hK hP 1 3 rfl rfl (i + 1) rfl (by omega) (by decide) hw1 dX4_keep_45 ?_
      refine fz_aast hx hb hK hP hD hS 1 3 0 rfl rfl (List.mem_append_right _ hfs) rfl i rfl (by omega) (by decide) dX4_keep_46 (fun H locs hP hD hS => ?_)
      have hP : va_P D vwCl ([] ++ (HW cy h (va_up (fun k => if k < i then g (k + 1) else g k) i (some x1)) (nI cn) ++ Z)) H := hP
      have hP := fz_HWe (g' := fun k => if k < i + 1 then g (k + 1) else g k) (fun k hk => by
        rw [va_up]
        by_cases q : k = i
        · subst q
          rw [if_pos rfl, if_pos (by omega), hx1]
        · rw [if_neg q]
          by_cases q2 : k < i
          · rw [if_pos q2, if_pos (by omega)]
          · rw [if_neg q2, if_neg (by omega)]) hP
      have hD : va_D A (HW cy h (fun k => if k < i + 1 then g (k + 1) else g k) (nI cn) ++ Z) := by
        have hD2 : va_D A (HW cy h (va_up (fun k => if k < i then g (k + 1) else g k) i (some x1)) (nI cn) ++ Z) := hD
        exact fz_Dc (W := HW cy h (va_up (fun k => if k < i then g (k + 1) else g k) i (some x1)) (nI cn) ++ Z) rfl hD2
      refine lv_iinc (v := nI (i + 1)) (lv' := [(2, .int (nI (i + 1))), (1, .ref x0), (0, .ref (h 0))]) hx hb dX4_keep_47 hl (k := 0) rfl (fz_inc rfl) (by decide) rfl (fun ls hl => ?_)
      refine lv_goto (tgt := 28) hx hb dX4_keep_50 (by decide) ?_
      exact ih (i + 1) (by omega) (by omega) _ _ ls hP hD hS (lv_sub hl [0, 1, 2] rfl)
  · refine lv_aload_n hx hb dX4_keep_8 rfl (lv_at hl 0 rfl) ?_
    refine lv_dup hx hb dX4_keep_9 rfl ?_
    refine va_get (D := D) (ci := 3) (v := .int (nI cn)) (C := RX4) (T := TX4) (N := 2) hx hb hts inX4 hown hK hP 0 rfl rfl 0 (by decide) k_18 (fun _ h9 => h9) rfl dX4_keep_10 ?_
    refine lv_iconst (v := 1) hx hb dX4_keep_13 (by decide) ?_
    refine fz_iaddN hx hb cn 1 rfl rfl dX4_keep_14 ?_
    refine va_put (D := D) (ci := 3) (v := .int (nI (cn + 1))) (ty := tyX4 0) (C := RX4) (T := TX4) (N := 2) hx hb hts inX4 tyX4 tyX4_ok nmX4 hown hK hP hD hS 0 rfl rfl 0 (by decide) k_18 (fun _ h9 => h9) rfl (by decide +kernel) rfl rfl (Nat.le_of_ble_eq_true rfl) dX4_keep_15 (fun H locs hP hD hS => ?_)
    have hP : va_P D vwCl (HW cy h g (nI (cn + 1)) ++ Z) H := hP
    rw [hs_g, if_pos c_5, hs_n, if_pos c_5]
    exact W.vret hx hb hr (fun t9 ht9 hW9 => ⟨⟨(), rfl, trivial, fz_to ht9 hP⟩, hS.F ht9⟩) hS.2.2 dX4_keep_18
