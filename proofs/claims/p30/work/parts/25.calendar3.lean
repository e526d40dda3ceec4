/-! Calendar: values -/
/-- the changes that a team could exempt: n from index k of the queue on, free credits fr, u found -/
def fz_cx (V : Nat → Nat → Int32) (t : Int32) : Nat → Nat → Int32 → Int32 → Int32
  | 0, _, _, u => u
  | n + 1, k, fr, u => if V 9 (V 16 k).toNatClampNeg = t then (if V 11 (V 16 k).toNatClampNeg = 0 then (if 0 ≤ fr - V 10 (V 16 k).toNatClampNeg * V 1 0 then fz_cx V t n (k + 1) (fr - V 10 (V 16 k).toNatClampNeg * V 1 0) (u + 1) else u) else fz_cx V t n (k + 1) fr u) else fz_cx V t n (k + 1) fr u
def fz_xc (V : Nat → Nat → Int32) (nl nq t : Nat) : Int32 := bif fz_owes (V 19) (V 21) (V 22) (V 0 0) nl (nI t) then 0 else fz_cx V (nI t) nq 0 (V 4 t) 0
def fz_tval (V : Nat → Nat → Int32) (nc nl t : Nat) : Nat → Int32
  | 0 => V 4 t
  | 1 => fz_sum (fun i => if V 9 i = nI t then V 12 i else 0) nc
  | 2 => V 6 t
  | 3 => V 7 t
  | 4 => nI (fz_ct (fun i => decide (V 9 i = nI t) && decide (V 11 i = 0)) nc + fz_ct (fun i => decide (V 9 i = nI t) && decide (V 11 i = 1)) nc)
  | 5 => nI (fz_ct (fun i => decide (V 9 i = nI t) && decide (V 11 i = 2)) nc)
  | 6 => nI (fz_ct (fun i => decide (V 9 i = nI t) && decide (V 11 i = 3)) nc)
  | 7 => fz_sum (fun i => if V 18 i = nI t then V 21 i else 0) nl
  | 8 => fz_sum (fun i => if V 19 i = nI t then V 21 i else 0) nl
  | 9 => fz_nz (fz_b (fz_owes (V 19) (V 21) (V 22) (V 0 0) nl (nI t)))
  | _ => fz_nz (fz_b (fz_flt (V 9) (V 11) (V 14) nc (nI t) (V 0 0)))
def fz_wval (V : Nat → Nat → Int32) (nt nc nl wk : Nat) : Nat → Int32
  | 0 => V 3 0
  | 1 => V 8 0
  | 2 => V 17 0
  | 3 => nI (fz_ct (fun i => !(decide (V 21 i ≤ 0))) nl)
  | 4 => V 1 0
  | 5 => V 1 1
  | 6 => V 1 2
  | 7 => V 1 3
  | 8 => V 0 0
  | 9 => fz_frz (V 2) wk
  | 10 => fz_sum (V 4) nt
  | 11 => fz_sum (V 12) nc
  | 12 => fz_sum (V 5) nt
  | 13 => fz_sum (V 6) nt
  | 14 => fz_sum (V 7) nt
  | 15 => nI (fz_ct (fun i => decide (V 11 i = 1)) nc)
  | _ => fz_sum (fun i => fz_b (fz_owes (V 19) (V 21) (V 22) (V 0 0) nl (nI i))) nt
set_option maxHeartbeats 4000000 in
set_option maxRecDepth 100000 in
/-- Calendar.countExemptible -/
theorem c_X1_countExemptible (l : Launch) (D : va_G) (cy : Nat → ClassId) (a : Nat → Nat) (V : Nat → Nat → Int32) (nt nc nq nl wk : Nat) (wf : fz_wf V nt nc nq nl wk) (t : Nat) (ht : t < nt) : fz_RI l yX1_countExemptible wsX1_countExemptible 2 44 D cy [.ref (a 0), .int (nI t)] (CW cy a V) fz_T (fz_xc V nl nq t) := by
  refine Met.ofW (cc := cX1_countExemptible) (maxL := 6) (ret := (some .int)) (by decide) rfl ?_
  intro p e s m args below meth c s₁ B hml hv
  obtain ⟨rfl, hP, hK, hE⟩ := hv
  have hx := B.exec
  have hb := B.bytes
  have hr := B.returns
  have hts := atoms_spec (ws := wsX1_countExemptible) B.pre
  have hown : s.vm.findClass RX1 = some m.cls := findClass_of_methodNamed B.named
  have hlocks := B.notSynchronized
  have hl := lv_entry ([.ref (a 0), .int (nI t)]) (n := 6) (Nat.le_of_ble_eq_true rfl)
  rw [lg_entry_eq]
  generalize (lg_sl ([.ref (a 0), .int (nI t)]) ++ List.replicate (6 - (lg_sl ([.ref (a 0), .int (nI t)])).length) Slot.unset).toArray = ls at hl ⊢
  have hl : lv_has ls 6 [(0, .ref (a 0)), (1, .int (nI t))] := hl
  have k_30 := hts (.fieldLink RX1 30 "FreezeCredits$Calendar" "teams" "LFreezeCredits$Teams;") (by decide +kernel)
  have inX1 : ∀ w ∈ u_ws RX1 TX1 6, w ∈ wsX1_countExemptible := by decide +kernel
  have k_119 := hts (.fieldLink RX1 119 "FreezeCredits$Teams" "free" "[I") (by decide +kernel)
  have inX6 : ∀ w ∈ u_ws RX6 TX6 5, w ∈ wsX1_countExemptible := by decide +kernel
  have k_37 := hts (.fieldLink RX1 37 "FreezeCredits$Calendar" "changes" "LFreezeCredits$Changes;") (by decide +kernel)
  have k_186 := hts (.fieldLink RX1 186 "FreezeCredits$Changes" "queued" "I") (by decide +kernel)
  have inX2 : ∀ w ∈ u_ws RX2 TX2 10, w ∈ wsX1_countExemptible := by decide +kernel
  have k_189 := hts (.fieldLink RX1 189 "FreezeCredits$Changes" "queue" "[I") (by decide +kernel)
  have k_148 := hts (.fieldLink RX1 148 "FreezeCredits$Changes" "team" "[I") (by decide +kernel)
  have k_154 := hts (.fieldLink RX1 154 "FreezeCredits$Changes" "state" "[I") (by decide +kernel)
  have k_142 := hts (.fieldLink RX1 142 "FreezeCredits$Changes" "risk" "[I") (by decide +kernel)
  obtain ⟨hnt, hnt6, hnc, hnc30, hnq, hqc, hnl, hnl12, hwk, hwk39, hT, hQ, hG, hB⟩ := id wf
  refine lv_aload_n hx hb dX1_countExemptible_0 rfl (lv_at hl 0 rfl) ?_
  refine lv_iload_n hx hb dX1_countExemptible_1 rfl (lv_at hl 1 rfl) ?_
  refine fz_retR (va_runV (As := [.int (nI t)]) (rest := []) ⟨hx, hb, hml, hown, hts⟩ (c_X1_owes l D cy a V nt nc nq nl wk wf (nI t)) (cwV 1 hts gX1_countExemptible_X1_owes rfl rfl rfl (by decide +kernel) ⟨Nat.le_of_ble_eq_true rfl, Nat.le_of_ble_eq_true rfl⟩) (fz_preV (ci := 0) (q0 := 0) hK hP rfl rfl rfl fz_T_bl (fun _ _ _ => trivial)) rfl rfl hl.1 rfl (lv_room (Nat.le_of_ble_eq_true rfl)) dX1_countExemptible_2 ⟨Nat.zero_le _, Nat.zero_le _⟩) ?_
  refine fz_ifeqB (tgt := 10) hx hb dX1_countExemptible_5 (by decide) (fun c_1 => ?_) (fun c_1 => ?_)
  · skip
    refine lv_iconst (v := 0) hx hb dX1_countExemptible_10 (by decide) ?_
    refine lv_istore_n (lv' := [(2, .int 0), (0, .ref (a 0)), (1, .int (nI t))]) hx hb dX1_countExemptible_11 rfl hl (by decide) rfl (fun ls hl => ?_)
    refine lv_aload_n hx hb dX1_countExemptible_12 rfl (lv_at hl 1 rfl) ?_
    refine va_get (D := D) (ci := 0) (v := .ref (a 3)) (C := RX1) (T := TX1) (N := 6) hx hb hts inX1 hown hK hP 0 rfl rfl 3 (by decide) k_30 (fun _ h9 => h9) rfl dX1_countExemptible_13 ?_
    refine va_get (D := D) (ci := 5) (v := .ref (a 4)) (C := RX6) (T := TX6) (N := 5) hx hb hts inX6 hown hK hP 3 rfl rfl 1 (by decide) k_119 (fun _ h9 => h9) rfl dX1_countExemptible_16 ?_
    refine lv_iload_n hx hb dX1_countExemptible_19 rfl (lv_at hl 2 rfl) ?_
    refine fz_iald (f := V 4) hx hb hK hP 4 0 rfl rfl t rfl (by omega) (by decide) dX1_countExemptible_20 ?_
    refine lv_istore_n (lv' := [(3, .int (V 4 t)), (2, .int 0), (0, .ref (a 0)), (1, .int (nI t))]) hx hb dX1_countExemptible_21 rfl hl (by decide) rfl (fun ls hl => ?_)
    refine lv_iconst (v := 0) hx hb dX1_countExemptible_22 (by decide) ?_
    refine lv_istore (lv' := [(4, .int 0), (3, .int (V 4 t)), (2, .int 0), (0, .ref (a 0)), (1, .int (nI t))]) hx hb dX1_countExemptible_23 hl (by decide) rfl (fun ls hl => ?_)
    refine fz_loop (σ := Nat × Int32 × Int32) (pc := 25) (nL := 6) (fun x => match x with | (k, u, fr) => [(0, .ref (a 0)), (1, .int (nI t)), (2, .int u), (3, .int fr), (4, .int (nI k))]) (fun x => match x with | (k, u, fr) => (k ≤ nq) ∧ (fz_cx V (nI t) (nq - k) k fr u = fz_cx V (nI t) nq 0 (V 4 t) 0)) (fun x => match x with | (k, u, fr) => nq - k) ?_ (0, 0, V 4 t) (show (0 ≤ nq) ∧ (fz_cx V (nI t) (nq - 0) 0 (V 4 t) 0 = fz_cx V (nI t) nq 0 (V 4 t) 0) from ⟨(by omega), rfl⟩) ls (lv_sub hl [3, 4, 2, 1, 0] rfl)
    rintro ⟨k, u, fr⟩ ⟨hk, eX⟩ ih25 ls hl
    have hk : k ≤ nq := hk
    have eX : fz_cx V (nI t) (nq - k) k fr u = fz_cx V (nI t) nq 0 (V 4 t) 0 := eX
    have hl : lv_has ls 6 [(0, .ref (a 0)), (1, .int (nI t)), (2, .int u), (3, .int fr), (4, .int (nI k))] := hl
    refine lv_iload hx hb dX1_countExemptible_25 (lv_at hl 4 rfl) ?_
    refine lv_aload_n hx hb dX1_countExemptible_27 rfl (lv_at hl 0 rfl) ?_
    refine va_get (D := D) (ci := 0) (v := .ref (a 8)) (C := RX1) (T := TX1) (N := 6) hx hb hts inX1 hown hK hP 0 rfl rfl 4 (by decide) k_37 (fun _ h9 => h9) rfl dX1_countExemptible_28 ?_
    refine va_get (D := D) (ci := 1) (v := .int (V 8 1)) (C := RX2) (T := TX2) (N := 10) hx hb hts inX2 hown hK hP 8 rfl rfl 8 (by decide) k_186 (fun _ h9 => h9) rfl dX1_countExemptible_31 ?_
    refine fz_geN (tgt := 108) hx hb k nq rfl hnq dX1_countExemptible_34 (by decide) (by omega) (by omega) (fun c_2 => ?_) (fun c_2 => ?_)
    · skip
      refine lv_iload_n hx hb dX1_countExemptible_108 rfl (lv_at hl 2 rfl) ?_
      exact W.iret (v := u) hx hb hr (fun t9 ht9 hW9 => ⟨_, rfl, (by rw [fz_xc, c_1, cond_false, ← eX, show nq - k = 0 by omega, fz_cx]), ht9⟩) (fun _ h => nomatch h) dX1_countExemptible_109
    · skip
      refine lv_aload_n hx hb dX1_countExemptible_37 rfl (lv_at hl 0 rfl) ?_
      refine va_get (D := D) (ci := 0) (v := .ref (a 8)) (C := RX1) (T := TX1) (N := 6) hx hb hts inX1 hown hK hP 0 rfl rfl 4 (by decide) k_37 (fun _ h9 => h9) rfl dX1_countExemptible_38 ?_
      refine va_get (D := D) (ci := 1) (v := .ref (a 16)) (C := RX2) (T := TX2) (N := 10) hx hb hts inX2 hown hK hP 8 rfl rfl 9 (by decide) k_189 (fun _ h9 => h9) rfl dX1_countExemptible_41 ?_
      refine lv_iload hx hb dX1_countExemptible_44 (lv_at hl 4 rfl) ?_
      refine fz_iald (f := V 16) hx hb hK hP 16 0 rfl rfl k rfl (by omega) (by decide) dX1_countExemptible_46 ?_
      obtain ⟨z, hz, ez⟩ := hQ k (by omega)
      have ez' := fz_tnat ez (by omega)
      refine lv_istore (lv' := [(5, .int (V 16 k)), (0, .ref (a 0)), (1, .int (nI t)), (2, .int u), (3, .int fr), (4, .int (nI k))]) hx hb dX1_countExemptible_47 hl (by decide) rfl (fun ls hl => ?_)
      refine lv_aload_n hx hb dX1_countExemptible_49 rfl (lv_at hl 1 rfl) ?_
      refine va_get (D := D) (ci := 0) (v := .ref (a 8)) (C := RX1) (T := TX1) (N := 6) hx hb hts inX1 hown hK hP 0 rfl rfl 4 (by decide) k_37 (fun _ h9 => h9) rfl dX1_countExemptible_50 ?_
      refine va_get (D := D) (ci := 1) (v := .ref (a 9)) (C := RX2) (T := TX2) (N := 10) hx hb hts inX2 hown hK hP 8 rfl rfl 1 (by decide) k_148 (fun _ h9 => h9) rfl dX1_countExemptible_53 ?_
      refine lv_iload hx hb dX1_countExemptible_56 (lv_at hl 0 rfl) ?_
      refine fz_iald (f := V 9) hx hb hK hP 9 0 rfl rfl z ez (by omega) (by decide) dX1_countExemptible_58 ?_
      refine lv_iload_n hx hb dX1_countExemptible_59 rfl (lv_at hl 2 rfl) ?_
      refine lv_icmp_ne (tgt := 102) hx hb dX1_countExemptible_60 (by decide) (fun c_3 => ?_) (fun c_3 => ?_)
      · skip
        refine lv_iinc (v := nI (k + 1)) (lv' := [(4, .int (nI (k + 1))), (5, .int (V 16 k)), (0, .ref (a 0)), (1, .int (nI t)), (2, .int u), (3, .int fr)]) hx hb dX1_countExemptible_102 hl (k := 5) rfl (fz_inc rfl) (by decide) rfl (fun ls hl => ?_)
        refine lv_goto (tgt := 25) hx hb dX1_countExemptible_105 (by decide) ?_
        exact ih25 (k + 1, u, fr) (show ((k + 1) ≤ nq) ∧ (fz_cx V (nI t) (nq - (k + 1)) (k + 1) fr u = fz_cx V (nI t) nq 0 (V 4 t) 0) from ⟨(by omega), (by rw [← eX, show nq - k = (nq - (k + 1)) + 1 by omega, fz_cx]; simp only [ez', c_3, ↓reduceIte])⟩) (by show nq - (k + 1) < nq - k; omega) ls (lv_sub hl [2, 3, 4, 5, 0] rfl)
      · skip
        refine lv_aload_n hx hb dX1_countExemptible_63 rfl (lv_at hl 1 rfl) ?_
        refine va_get (D := D) (ci := 0) (v := .ref (a 8)) (C := RX1) (T := TX1) (N := 6) hx hb hts inX1 hown hK hP 0 rfl rfl 4 (by decide) k_37 (fun _ h9 => h9) rfl dX1_countExemptible_64 ?_
        refine va_get (D := D) (ci := 1) (v := .ref (a 11)) (C := RX2) (T := TX2) (N := 10) hx hb hts inX2 hown hK hP 8 rfl rfl 3 (by decide) k_154 (fun _ h9 => h9) rfl dX1_countExemptible_67 ?_
        refine lv_iload hx hb dX1_countExemptible_70 (lv_at hl 0 rfl) ?_
        refine fz_iald (f := V 11) hx hb hK hP 11 0 rfl rfl z ez (by omega) (by decide) dX1_countExemptible_72 ?_
        refine lv_if_ne (tgt := 102) hx hb dX1_countExemptible_73 (by decide) (fun c_4 => ?_) (fun c_4 => ?_)
        · skip
          refine lv_iinc (v := nI (k + 1)) (lv' := [(4, .int (nI (k + 1))), (5, .int (V 16 k)), (0, .ref (a 0)), (1, .int (nI t)), (2, .int u), (3, .int fr)]) hx hb dX1_countExemptible_102 hl (k := 5) rfl (fz_inc rfl) (by decide) rfl (fun ls hl => ?_)
          refine lv_goto (tgt := 25) hx hb dX1_countExemptible_105 (by decide) ?_
          exact ih25 (k + 1, u, fr) (show ((k + 1) ≤ nq) ∧ (fz_cx V (nI t) (nq - (k + 1)) (k + 1) fr u = fz_cx V (nI t) nq 0 (V 4 t) 0) from ⟨(by omega), (by rw [← eX, show nq - k = (nq - (k + 1)) + 1 by omega, fz_cx]; simp only [ez', c_3, c_4, ↓reduceIte])⟩) (by show nq - (k + 1) < nq - k; omega) ls (lv_sub hl [2, 3, 4, 5, 0] rfl)
        · skip
          refine lv_iload_n hx hb dX1_countExemptible_76 rfl (lv_at hl 4 rfl) ?_
          refine lv_aload_n hx hb dX1_countExemptible_77 rfl (lv_at hl 1 rfl) ?_
          refine lv_aload_n hx hb dX1_countExemptible_78 rfl (lv_at hl 1 rfl) ?_
          refine va_get (D := D) (ci := 0) (v := .ref (a 8)) (C := RX1) (T := TX1) (N := 6) hx hb hts inX1 hown hK hP 0 rfl rfl 4 (by decide) k_37 (fun _ h9 => h9) rfl dX1_countExemptible_79 ?_
          refine va_get (D := D) (ci := 1) (v := .ref (a 10)) (C := RX2) (T := TX2) (N := 10) hx hb hts inX2 hown hK hP 8 rfl rfl 2 (by decide) k_142 (fun _ h9 => h9) rfl dX1_countExemptible_82 ?_
          refine lv_iload hx hb dX1_countExemptible_85 (lv_at hl 0 rfl) ?_
          refine fz_iald (f := V 10) hx hb hK hP 10 0 rfl rfl z ez (by omega) (by decide) dX1_countExemptible_87 ?_
          refine fz_retR (va_runV (As := [.int (V 10 z)]) (rest := [.int fr]) ⟨hx, hb, hml, hown, hts⟩ (c_X1_creditsOf l D cy a V nt nc nq nl wk wf (V 10 z)) (cwV 1 hts gX1_countExemptible_X1_creditsOf rfl rfl rfl (by decide +kernel) ⟨Nat.le_of_ble_eq_true rfl, Nat.le_of_ble_eq_true rfl⟩) (fz_preV (ci := 0) (q0 := 0) hK hP rfl rfl rfl fz_T_bl (fun _ _ _ => trivial)) rfl rfl hl.1 rfl (lv_room (Nat.le_of_ble_eq_true rfl)) dX1_countExemptible_88 ⟨Nat.zero_le _, Nat.zero_le _⟩) ?_
          refine lv_isub hx hb dX1_countExemptible_91 ?_
          refine lv_istore_n (lv' := [(3, .int (fr - ((V 10 z) * V 1 0))), (5, .int (V 16 k)), (0, .ref (a 0)), (1, .int (nI t)), (2, .int u), (4, .int (nI k))]) hx hb dX1_countExemptible_92 rfl hl (by decide) rfl (fun ls hl => ?_)
          refine lv_iload_n hx hb dX1_countExemptible_93 rfl (lv_at hl 0 rfl) ?_
          refine lv_if_ge (tgt := 99) hx hb dX1_countExemptible_94 (by decide) (fun c_5 => ?_) (fun c_5 => ?_)
          · skip
            refine lv_iinc (v := u + 1) (lv' := [(2, .int (u + 1)), (3, .int (fr - ((V 10 z) * V 1 0))), (5, .int (V 16 k)), (0, .ref (a 0)), (1, .int (nI t)), (4, .int (nI k))]) hx hb dX1_countExemptible_99 hl (k := 4) rfl (by rfl) (by decide) rfl (fun ls hl => ?_)
            refine lv_iinc (v := nI (k + 1)) (lv' := [(4, .int (nI (k + 1))), (2, .int (u + 1)), (3, .int (fr - ((V 10 z) * V 1 0))), (5, .int (V 16 k)), (0, .ref (a 0)), (1, .int (nI t))]) hx hb dX1_countExemptible_102 hl (k := 5) rfl (fz_inc rfl) (by decide) rfl (fun ls hl => ?_)
            refine lv_goto (tgt := 25) hx hb dX1_countExemptible_105 (by decide) ?_
            exact ih25 (k + 1, u + 1, fr - ((V 10 z) * V 1 0)) (show ((k + 1) ≤ nq) ∧ (fz_cx V (nI t) (nq - (k + 1)) (k + 1) (fr - ((V 10 z) * V 1 0)) (u + 1) = fz_cx V (nI t) nq 0 (V 4 t) 0) from ⟨(by omega), (by rw [← eX, show nq - k = (nq - (k + 1)) + 1 by omega, fz_cx]; simp only [ez', c_3, c_4, c_5, ↓reduceIte])⟩) (by show nq - (k + 1) < nq - k; omega) ls (lv_sub hl [4, 5, 1, 2, 0] rfl)
          · skip
            refine lv_iload_n hx hb dX1_countExemptible_97 rfl (lv_at hl 4 rfl) ?_
            exact W.iret (v := u) hx hb hr (fun t9 ht9 hW9 => ⟨_, rfl, (by rw [fz_xc, c_1, cond_false, ← eX, show nq - k = (nq - (k + 1)) + 1 by omega, fz_cx]; simp only [ez', c_3, c_4, c_5, ↓reduceIte]), ht9⟩) (fun _ h => nomatch h) dX1_countExemptible_98
  · skip
    refine lv_iconst (v := 0) hx hb dX1_countExemptible_8 (by decide) ?_
    exact W.iret (v := 0) hx hb hr (fun t9 ht9 hW9 => ⟨_, rfl, (by rw [fz_xc, c_1]; rfl), ht9⟩) (fun _ h => nomatch h) dX1_countExemptible_9
set_option maxHeartbeats 4000000 in
set_option maxRecDepth 100000 in
/-- Calendar.teamValue -/
theorem c_X1_teamValue (l : Launch) (D : va_G) (cy : Nat → ClassId) (a : Nat → Nat) (V : Nat → Nat → Int32) (nt nc nq nl wk : Nat) (wf : fz_wf V nt nc nq nl wk) (t w : Nat) (ht : t < nt) (hw : w < 11) : fz_RI l yX1_teamValue wsX1_teamValue 2 44 D cy [.ref (a 0), .int (nI t), .int (nI w)] (CW cy a V) fz_Nw (fz_tval V nc nl t w) := by
  refine Met.ofW (cc := cX1_teamValue) (maxL := 3) (ret := (some .int)) (by decide) rfl ?_
  intro p e s m args below meth c s₁ B hml hv
  obtain ⟨rfl, hP, hK, hE⟩ := hv
  have hx := B.exec
  have hb := B.bytes
  have hr := B.returns
  have hts := atoms_spec (ws := wsX1_teamValue) B.pre
  have hown : s.vm.findClass RX1 = some m.cls := findClass_of_methodNamed B.named
  have hlocks := B.notSynchronized
  have hl := lv_entry ([.ref (a 0), .int (nI t), .int (nI w)]) (n := 3) (Nat.le_of_ble_eq_true rfl)
  rw [lg_entry_eq]
  generalize (lg_sl ([.ref (a 0), .int (nI t), .int (nI w)]) ++ List.replicate (3 - (lg_sl ([.ref (a 0), .int (nI t), .int (nI w)])).length) Slot.unset).toArray = ls at hl ⊢
  have hl : lv_has ls 3 [(0, .ref (a 0)), (1, .int (nI t)), (2, .int (nI w))] := hl
  have k_30 := hts (.fieldLink RX1 30 "FreezeCredits$Calendar" "teams" "LFreezeCredits$Teams;") (by decide +kernel)
  have inX1 : ∀ w ∈ u_ws RX1 TX1 6, w ∈ wsX1_teamValue := by decide +kernel
  have k_119 := hts (.fieldLink RX1 119 "FreezeCredits$Teams" "free" "[I") (by decide +kernel)
  have inX6 : ∀ w ∈ u_ws RX6 TX6 5, w ∈ wsX1_teamValue := by decide +kernel
  have k_37 := hts (.fieldLink RX1 37 "FreezeCredits$Calendar" "changes" "LFreezeCredits$Changes;") (by decide +kernel)
  have k_199 := hts (.fieldLink RX1 199 "FreezeCredits$Teams" "earned" "[I") (by decide +kernel)
  have k_173 := hts (.fieldLink RX1 173 "FreezeCredits$Teams" "burnt" "[I") (by decide +kernel)
  have k_44 := hts (.fieldLink RX1 44 "FreezeCredits$Calendar" "loans" "LFreezeCredits$Loans;") (by decide +kernel)
  have k_48 := hts (.fieldLink RX1 48 "FreezeCredits$Calendar" "week" "I") (by decide +kernel)
  obtain ⟨hnt, hnt6, hnc, hnc30, hnq, hqc, hnl, hnl12, hwk, hwk39, hT, hQ, hG, hB⟩ := id wf
  refine lv_iload_n hx hb dX1_teamValue_0 rfl (lv_at hl 2 rfl) ?_
  rcases (show w = 0 ∨ w = 1 ∨ w = 2 ∨ w = 3 ∨ w = 4 ∨ w = 5 ∨ w = 6 ∨ w = 7 ∨ w = 8 ∨ w = 9 ∨ w = 10 from by omega) with rfl | rfl | rfl | rfl | rfl | rfl | rfl | rfl | rfl | rfl | rfl
  · skip
    refine lv_tableIn (tgt := 56) hx hb dX1_teamValue_1 (by decide) (by decide) rfl (by decide) ?_
    refine lv_aload_n hx hb dX1_teamValue_56 rfl (lv_at hl 0 rfl) ?_
    refine va_get (D := D) (ci := 0) (v := .ref (a 3)) (C := RX1) (T := TX1) (N := 6) hx hb hts inX1 hown hK hP 0 rfl rfl 3 (by decide) k_30 (fun _ h9 => h9) rfl dX1_teamValue_57 ?_
    refine va_get (D := D) (ci := 5) (v := .ref (a 4)) (C := RX6) (T := TX6) (N := 5) hx hb hts inX6 hown hK hP 3 rfl rfl 1 (by decide) k_119 (fun _ h9 => h9) rfl dX1_teamValue_60 ?_
    refine lv_iload_n hx hb dX1_teamValue_63 rfl (lv_at hl 1 rfl) ?_
    refine fz_iald (f := V 4) hx hb hK hP 4 0 rfl rfl t rfl (by omega) (by decide) dX1_teamValue_64 ?_
    exact W.iret (v := (V 4 t)) hx hb hr (fun t9 ht9 hW9 => ⟨_, rfl, rfl, ht9⟩) (fun _ h => nomatch h) dX1_teamValue_65
  · skip
    refine lv_tableIn (tgt := 66) hx hb dX1_teamValue_1 (by decide) (by decide) rfl (by decide) ?_
    refine lv_aload_n hx hb dX1_teamValue_66 rfl (lv_at hl 0 rfl) ?_
    refine va_get (D := D) (ci := 0) (v := .ref (a 8)) (C := RX1) (T := TX1) (N := 6) hx hb hts inX1 hown hK hP 0 rfl rfl 4 (by decide) k_37 (fun _ h9 => h9) rfl dX1_teamValue_67 ?_
    refine lv_iload_n hx hb dX1_teamValue_70 rfl (lv_at hl 1 rfl) ?_
    refine fz_retR (va_runV (As := [.int (nI t)]) (rest := []) ⟨hx, hb, hml, hown, hts⟩ (c_X2_heldOf l D cy a V (nI t) nc hnc hnc30) (cwV 1 hts gX1_teamValue_X2_heldOf rfl rfl rfl (by decide +kernel) ⟨Nat.le_of_ble_eq_true rfl, Nat.le_of_ble_eq_true rfl⟩) (fz_preV (ci := 1) (q0 := 0) hK (hP.sub (ws' := GW cy a V) [8, 9, 10, 11, 12, 13, 14, 15, 16] rfl) rfl rfl rfl fz_T_bl (fun _ _ _ => trivial)) rfl rfl hl.1 rfl (lv_room (Nat.le_of_ble_eq_true rfl)) dX1_teamValue_71 ⟨Nat.zero_le _, Nat.zero_le _⟩) ?_
    exact W.iret (v := (fz_sum (fun i => if V 9 i = (nI t) then V 12 i else 0) nc)) hx hb hr (fun t9 ht9 hW9 => ⟨_, rfl, rfl, ht9⟩) (fun _ h => nomatch h) dX1_teamValue_74
  · skip
    refine lv_tableIn (tgt := 75) hx hb dX1_teamValue_1 (by decide) (by decide) rfl (by decide) ?_
    refine lv_aload_n hx hb dX1_teamValue_75 rfl (lv_at hl 0 rfl) ?_
    refine va_get (D := D) (ci := 0) (v := .ref (a 3)) (C := RX1) (T := TX1) (N := 6) hx hb hts inX1 hown hK hP 0 rfl rfl 3 (by decide) k_30 (fun _ h9 => h9) rfl dX1_teamValue_76 ?_
    refine va_get (D := D) (ci := 5) (v := .ref (a 6)) (C := RX6) (T := TX6) (N := 5) hx hb hts inX6 hown hK hP 3 rfl rfl 3 (by decide) k_199 (fun _ h9 => h9) rfl dX1_teamValue_79 ?_
    refine lv_iload_n hx hb dX1_teamValue_82 rfl (lv_at hl 1 rfl) ?_
    refine fz_iald (f := V 6) hx hb hK hP 6 0 rfl rfl t rfl (by omega) (by decide) dX1_teamValue_83 ?_
    exact W.iret (v := (V 6 t)) hx hb hr (fun t9 ht9 hW9 => ⟨_, rfl, rfl, ht9⟩) (fun _ h => nomatch h) dX1_teamValue_84
  · skip
    refine lv_tableIn (tgt := 85) hx hb dX1_teamValue_1 (by decide) (by decide) rfl (by decide) ?_
    refine lv_aload_n hx hb dX1_teamValue_85 rfl (lv_at hl 0 rfl) ?_
    refine va_get (D := D) (ci := 0) (v := .ref (a 3)) (C := RX1) (T := TX1) (N := 6) hx hb hts inX1 hown hK hP 0 rfl rfl 3 (by decide) k_30 (fun _ h9 => h9) rfl dX1_teamValue_86 ?_
    refine va_get (D := D) (ci := 5) (v := .ref (a 7)) (C := RX6) (T := TX6) (N := 5) hx hb hts inX6 hown hK hP 3 rfl rfl 4 (by decide) k_173 (fun _ h9 => h9) rfl dX1_teamValue_89 ?_
    refine lv_iload_n hx hb dX1_teamValue_92 rfl (lv_at hl 1 rfl) ?_
    refine fz_iald (f := V 7) hx hb hK hP 7 0 rfl rfl t rfl (by omega) (by decide) dX1_teamValue_93 ?_
    exact W.iret (v := (V 7 t)) hx hb hr (fun t9 ht9 hW9 => ⟨_, rfl, rfl, ht9⟩) (fun _ h => nomatch h) dX1_teamValue_94
  · skip
    refine lv_tableIn (tgt := 95) hx hb dX1_teamValue_1 (by decide) (by decide) rfl (by decide) ?_
    refine lv_aload_n hx hb dX1_teamValue_95 rfl (lv_at hl 0 rfl) ?_
    refine va_get (D := D) (ci := 0) (v := .ref (a 8)) (C := RX1) (T := TX1) (N := 6) hx hb hts inX1 hown hK hP 0 rfl rfl 4 (by decide) k_37 (fun _ h9 => h9) rfl dX1_teamValue_96 ?_
    refine lv_iload_n hx hb dX1_teamValue_99 rfl (lv_at hl 1 rfl) ?_
    refine lv_iconst (v := 0) hx hb dX1_teamValue_100 (by decide) ?_
    refine fz_retR (va_runV (As := [.int (nI t), .int 0]) (rest := []) ⟨hx, hb, hml, hown, hts⟩ (c_X2_countOf l D cy a V (nI t) 0 nc hnc hnc30) (cwV 2 hts gX1_teamValue_X2_countOf rfl rfl rfl (by decide +kernel) ⟨Nat.le_of_ble_eq_true rfl, Nat.le_of_ble_eq_true rfl⟩) (fz_preV (ci := 1) (q0 := 0) hK (hP.sub (ws' := GW cy a V) [8, 9, 10, 11, 12, 13, 14, 15, 16] rfl) rfl rfl rfl fz_T_bl (fun _ _ _ => trivial)) rfl rfl hl.1 rfl (lv_room (Nat.le_of_ble_eq_true rfl)) dX1_teamValue_101 ⟨Nat.zero_le _, Nat.zero_le _⟩) ?_
    refine lv_aload_n hx hb dX1_teamValue_104 rfl (lv_at hl 0 rfl) ?_
    refine va_get (D := D) (ci := 0) (v := .ref (a 8)) (C := RX1) (T := TX1) (N := 6) hx hb hts inX1 hown hK hP 0 rfl rfl 4 (by decide) k_37 (fun _ h9 => h9) rfl dX1_teamValue_105 ?_
    refine lv_iload_n hx hb dX1_teamValue_108 rfl (lv_at hl 1 rfl) ?_
    refine lv_iconst (v := 1) hx hb dX1_teamValue_109 (by decide) ?_
    refine fz_retR (va_runV (As := [.int (nI t), .int 1]) (rest := [.int (nI (fz_ct (fun i => decide (V 9 i = (nI t)) && decide (V 11 i = 0)) nc))]) ⟨hx, hb, hml, hown, hts⟩ (c_X2_countOf l D cy a V (nI t) 1 nc hnc hnc30) (cwV 2 hts gX1_teamValue_X2_countOf rfl rfl rfl (by decide +kernel) ⟨Nat.le_of_ble_eq_true rfl, Nat.le_of_ble_eq_true rfl⟩) (fz_preV (ci := 1) (q0 := 0) hK (hP.sub (ws' := GW cy a V) [8, 9, 10, 11, 12, 13, 14, 15, 16] rfl) rfl rfl rfl fz_T_bl (fun _ _ _ => trivial)) rfl rfl hl.1 rfl (lv_room (Nat.le_of_ble_eq_true rfl)) dX1_teamValue_110 ⟨Nat.zero_le _, Nat.zero_le _⟩) ?_
    refine fz_iaddN hx hb (fz_ct (fun i => decide (V 9 i = (nI t)) && decide (V 11 i = 0)) nc) (fz_ct (fun i => decide (V 9 i = (nI t)) && decide (V 11 i = 1)) nc) rfl rfl dX1_teamValue_113 ?_
    exact W.iret (v := (nI ((fz_ct (fun i => decide (V 9 i = (nI t)) && decide (V 11 i = 0)) nc) + (fz_ct (fun i => decide (V 9 i = (nI t)) && decide (V 11 i = 1)) nc)))) hx hb hr (fun t9 ht9 hW9 => ⟨_, rfl, rfl, ht9⟩) (fun _ h => nomatch h) dX1_teamValue_114
  · skip
    refine lv_tableIn (tgt := 115) hx hb dX1_teamValue_1 (by decide) (by decide) rfl (by decide) ?_
    refine lv_aload_n hx hb dX1_teamValue_115 rfl (lv_at hl 0 rfl) ?_
    refine va_get (D := D) (ci := 0) (v := .ref (a 8)) (C := RX1) (T := TX1) (N := 6) hx hb hts inX1 hown hK hP 0 rfl rfl 4 (by decide) k_37 (fun _ h9 => h9) rfl dX1_teamValue_116 ?_
    refine lv_iload_n hx hb dX1_teamValue_119 rfl (lv_at hl 1 rfl) ?_
    refine lv_iconst (v := 2) hx hb dX1_teamValue_120 (by decide) ?_
    refine fz_retR (va_runV (As := [.int (nI t), .int 2]) (rest := []) ⟨hx, hb, hml, hown, hts⟩ (c_X2_countOf l D cy a V (nI t) 2 nc hnc hnc30) (cwV 2 hts gX1_teamValue_X2_countOf rfl rfl rfl (by decide +kernel) ⟨Nat.le_of_ble_eq_true rfl, Nat.le_of_ble_eq_true rfl⟩) (fz_preV (ci := 1) (q0 := 0) hK (hP.sub (ws' := GW cy a V) [8, 9, 10, 11, 12, 13, 14, 15, 16] rfl) rfl rfl rfl fz_T_bl (fun _ _ _ => trivial)) rfl rfl hl.1 rfl (lv_room (Nat.le_of_ble_eq_true rfl)) dX1_teamValue_121 ⟨Nat.zero_le _, Nat.zero_le _⟩) ?_
    exact W.iret (v := (nI (fz_ct (fun i => decide (V 9 i = (nI t)) && decide (V 11 i = 2)) nc))) hx hb hr (fun t9 ht9 hW9 => ⟨_, rfl, rfl, ht9⟩) (fun _ h => nomatch h) dX1_teamValue_124
  · skip
    refine lv_tableIn (tgt := 125) hx hb dX1_teamValue_1 (by decide) (by decide) rfl (by decide) ?_
    refine lv_aload_n hx hb dX1_teamValue_125 rfl (lv_at hl 0 rfl) ?_
    refine va_get (D := D) (ci := 0) (v := .ref (a 8)) (C := RX1) (T := TX1) (N := 6) hx hb hts inX1 hown hK hP 0 rfl rfl 4 (by decide) k_37 (fun _ h9 => h9) rfl dX1_teamValue_126 ?_
    refine lv_iload_n hx hb dX1_teamValue_129 rfl (lv_at hl 1 rfl) ?_
    refine lv_iconst (v := 3) hx hb dX1_teamValue_130 (by decide) ?_
    refine fz_retR (va_runV (As := [.int (nI t), .int 3]) (rest := []) ⟨hx, hb, hml, hown, hts⟩ (c_X2_countOf l D cy a V (nI t) 3 nc hnc hnc30) (cwV 2 hts gX1_teamValue_X2_countOf rfl rfl rfl (by decide +kernel) ⟨Nat.le_of_ble_eq_true rfl, Nat.le_of_ble_eq_true rfl⟩) (fz_preV (ci := 1) (q0 := 0) hK (hP.sub (ws' := GW cy a V) [8, 9, 10, 11, 12, 13, 14, 15, 16] rfl) rfl rfl rfl fz_T_bl (fun _ _ _ => trivial)) rfl rfl hl.1 rfl (lv_room (Nat.le_of_ble_eq_true rfl)) dX1_teamValue_131 ⟨Nat.zero_le _, Nat.zero_le _⟩) ?_
    exact W.iret (v := (nI (fz_ct (fun i => decide (V 9 i = (nI t)) && decide (V 11 i = 3)) nc))) hx hb hr (fun t9 ht9 hW9 => ⟨_, rfl, rfl, ht9⟩) (fun _ h => nomatch h) dX1_teamValue_134
  · skip
    refine lv_tableIn (tgt := 135) hx hb dX1_teamValue_1 (by decide) (by decide) rfl (by decide) ?_
    refine lv_aload_n hx hb dX1_teamValue_135 rfl (lv_at hl 0 rfl) ?_
    refine va_get (D := D) (ci := 0) (v := .ref (a 17)) (C := RX1) (T := TX1) (N := 6) hx hb hts inX1 hown hK hP 0 rfl rfl 5 (by decide) k_44 (fun _ h9 => h9) rfl dX1_teamValue_136 ?_
    refine lv_iload_n hx hb dX1_teamValue_139 rfl (lv_at hl 1 rfl) ?_
    refine fz_retR (va_runV (As := [.int (nI t)]) (rest := []) ⟨hx, hb, hml, hown, hts⟩ (c_X5_leftFrom l D cy a V (nI t) nl hnl hnl12) (cwV 1 hts gX1_teamValue_X5_leftFrom rfl rfl rfl (by decide +kernel) ⟨Nat.le_of_ble_eq_true rfl, Nat.le_of_ble_eq_true rfl⟩) (fz_preV (ci := 4) (q0 := 0) hK (hP.sub (ws' := LW cy a V) [17, 18, 19, 20, 21, 22, 23] rfl) rfl rfl rfl fz_T_bl (fun _ _ _ => trivial)) rfl rfl hl.1 rfl (lv_room (Nat.le_of_ble_eq_true rfl)) dX1_teamValue_140 ⟨Nat.zero_le _, Nat.zero_le _⟩) ?_
    exact W.iret (v := (fz_sum (fun i => if V 18 i = (nI t) then V 21 i else 0) nl)) hx hb hr (fun t9 ht9 hW9 => ⟨_, rfl, rfl, ht9⟩) (fun _ h => nomatch h) dX1_teamValue_143
  · skip
    refine lv_tableIn (tgt := 144) hx hb dX1_teamValue_1 (by decide) (by decide) rfl (by decide) ?_
    refine lv_aload_n hx hb dX1_teamValue_144 rfl (lv_at hl 0 rfl) ?_
    refine va_get (D := D) (ci := 0) (v := .ref (a 17)) (C := RX1) (T := TX1) (N := 6) hx hb hts inX1 hown hK hP 0 rfl rfl 5 (by decide) k_44 (fun _ h9 => h9) rfl dX1_teamValue_145 ?_
    refine lv_iload_n hx hb dX1_teamValue_148 rfl (lv_at hl 1 rfl) ?_
    refine fz_retR (va_runV (As := [.int (nI t)]) (rest := []) ⟨hx, hb, hml, hown, hts⟩ (c_X5_leftTo l D cy a V (nI t) nl hnl hnl12) (cwV 1 hts gX1_teamValue_X5_leftTo rfl rfl rfl (by decide +kernel) ⟨Nat.le_of_ble_eq_true rfl, Nat.le_of_ble_eq_true rfl⟩) (fz_preV (ci := 4) (q0 := 0) hK (hP.sub (ws' := LW cy a V) [17, 18, 19, 20, 21, 22, 23] rfl) rfl rfl rfl fz_T_bl (fun _ _ _ => trivial)) rfl rfl hl.1 rfl (lv_room (Nat.le_of_ble_eq_true rfl)) dX1_teamValue_149 ⟨Nat.zero_le _, Nat.zero_le _⟩) ?_
    exact W.iret (v := (fz_sum (fun i => if V 19 i = (nI t) then V 21 i else 0) nl)) hx hb hr (fun t9 ht9 hW9 => ⟨_, rfl, rfl, ht9⟩) (fun _ h => nomatch h) dX1_teamValue_152
  · skip
    refine lv_tableIn (tgt := 153) hx hb dX1_teamValue_1 (by decide) (by decide) rfl (by decide) ?_
    refine lv_aload_n hx hb dX1_teamValue_153 rfl (lv_at hl 0 rfl) ?_
    refine lv_iload_n hx hb dX1_teamValue_154 rfl (lv_at hl 1 rfl) ?_
    refine fz_retR (va_runV (As := [.int (nI t)]) (rest := []) ⟨hx, hb, hml, hown, hts⟩ (c_X1_owes l D cy a V nt nc nq nl wk wf (nI t)) (cwV 1 hts gX1_teamValue_X1_owes rfl rfl rfl (by decide +kernel) ⟨Nat.le_of_ble_eq_true rfl, Nat.le_of_ble_eq_true rfl⟩) (fz_preV (ci := 0) (q0 := 0) hK hP rfl rfl rfl fz_T_bl (fun _ _ _ => trivial)) rfl rfl hl.1 rfl (lv_room (Nat.le_of_ble_eq_true rfl)) dX1_teamValue_155 ⟨Nat.zero_le _, Nat.zero_le _⟩) ?_
    refine fz_retR (va_runSN (As := [.int (fz_b (fz_owes (V 19) (V 21) (V 22) (V 0 0) nl (nI t)))]) (rest := []) ⟨hx, hb, hml, hown, hts⟩ (c_X8_asNumber l D cy (fz_b (fz_owes (V 19) (V 21) (V 22) (V 0 0) nl (nI t)))) ⟨va_cnB 1 hts gX1_teamValue_X8_asNumber_n166 rfl rfl rfl (fz_Nw_at hE 1 rfl) (hts (.initialized RX8) (by decide +kernel)) (by decide +kernel) ⟨Nat.le_of_ble_eq_true rfl, Nat.le_of_ble_eq_true rfl⟩, hts (.static yX8_asNumber) (by decide +kernel), trivial⟩ (fz_preS hK (fz_nil) fz_T_bl (fun _ _ _ => trivial)) rfl rfl hl.1 rfl (lv_room (Nat.le_of_ble_eq_true rfl)) dX1_teamValue_158 ⟨Nat.zero_le _, Nat.zero_le _⟩) ?_
    exact W.iret (v := (fz_nz (fz_b (fz_owes (V 19) (V 21) (V 22) (V 0 0) nl (nI t))))) hx hb hr (fun t9 ht9 hW9 => ⟨_, rfl, rfl, ht9⟩) (fun _ h => nomatch h) dX1_teamValue_161
  · skip
    refine lv_tableOut (tgt := 162) hx hb dX1_teamValue_1 (by decide) (by decide) ?_
    refine lv_aload_n hx hb dX1_teamValue_162 rfl (lv_at hl 0 rfl) ?_
    refine va_get (D := D) (ci := 0) (v := .ref (a 8)) (C := RX1) (T := TX1) (N := 6) hx hb hts inX1 hown hK hP 0 rfl rfl 4 (by decide) k_37 (fun _ h9 => h9) rfl dX1_teamValue_163 ?_
    refine lv_iload_n hx hb dX1_teamValue_166 rfl (lv_at hl 1 rfl) ?_
    refine lv_aload_n hx hb dX1_teamValue_167 rfl (lv_at hl 0 rfl) ?_
    refine va_get (D := D) (ci := 0) (v := .int (V 0 0)) (C := RX1) (T := TX1) (N := 6) hx hb hts inX1 hown hK hP 0 rfl rfl 0 (by decide) k_48 (fun _ h9 => h9) rfl dX1_teamValue_168 ?_
    refine fz_retR (va_runV (As := [.int (nI t), .int (V 0 0)]) (rest := []) ⟨hx, hb, hml, hown, hts⟩ (c_X2_hasFault l D cy a V (nI t) (V 0 0) nc hnc hnc30) (cwV 2 hts gX1_teamValue_X2_hasFault rfl rfl rfl (by decide +kernel) ⟨Nat.le_of_ble_eq_true rfl, Nat.le_of_ble_eq_true rfl⟩) (fz_preV (ci := 1) (q0 := 0) hK (hP.sub (ws' := GW cy a V) [8, 9, 10, 11, 12, 13, 14, 15, 16] rfl) rfl rfl rfl fz_T_bl (fun _ _ _ => trivial)) rfl rfl hl.1 rfl (lv_room (Nat.le_of_ble_eq_true rfl)) dX1_teamValue_171 ⟨Nat.zero_le _, Nat.zero_le _⟩) ?_
    refine fz_retR (va_runSN (As := [.int (fz_b (fz_any (fun i => decide (V 9 i = (nI t)) && decide (V 11 i = 3) && decide (V 14 i = (V 0 0))) nc))]) (rest := []) ⟨hx, hb, hml, hown, hts⟩ (c_X8_asNumber l D cy (fz_b (fz_any (fun i => decide (V 9 i = (nI t)) && decide (V 11 i = 3) && decide (V 14 i = (V 0 0))) nc))) ⟨va_cnB 1 hts gX1_teamValue_X8_asNumber_n166 rfl rfl rfl (fz_Nw_at hE 1 rfl) (hts (.initialized RX8) (by decide +kernel)) (by decide +kernel) ⟨Nat.le_of_ble_eq_true rfl, Nat.le_of_ble_eq_true rfl⟩, hts (.static yX8_asNumber) (by decide +kernel), trivial⟩ (fz_preS hK (fz_nil) fz_T_bl (fun _ _ _ => trivial)) rfl rfl hl.1 rfl (lv_room (Nat.le_of_ble_eq_true rfl)) dX1_teamValue_174 ⟨Nat.zero_le _, Nat.zero_le _⟩) ?_
    exact W.iret (v := (fz_nz (fz_b (fz_any (fun i => decide (V 9 i = (nI t)) && decide (V 11 i = 3) && decide (V 14 i = (V 0 0))) nc)))) hx hb hr (fun t9 ht9 hW9 => ⟨_, rfl, rfl, ht9⟩) (fun _ h => nomatch h) dX1_teamValue_177
set_option maxHeartbeats 4000000 in
set_option maxRecDepth 100000 in
/-- Calendar.valueOfAll -/
theorem c_X1_valueOfAll (l : Launch) (D : va_G) (cy : Nat → ClassId) (a : Nat → Nat) (V : Nat → Nat → Int32) (nt nc nq nl wk : Nat) (wf : fz_wf V nt nc nq nl wk) (w : Nat) (hw : w < 17) : fz_RI l yX1_valueOfAll wsX1_valueOfAll 3 66 D cy [.ref (a 0), .int (nI w)] (CW cy a V) fz_Nw (fz_wval V nt nc nl wk w) := by
  refine Met.ofW (cc := cX1_valueOfAll) (maxL := 2) (ret := (some .int)) (by decide) rfl ?_
  intro p e s m args below meth c s₁ B hml hv
  obtain ⟨rfl, hP, hK, hE⟩ := hv
  have hx := B.exec
  have hb := B.bytes
  have hr := B.returns
  have hts := atoms_spec (ws := wsX1_valueOfAll) B.pre
  have hown : s.vm.findClass RX1 = some m.cls := findClass_of_methodNamed B.named
  have hlocks := B.notSynchronized
  have hl := lv_entry ([.ref (a 0), .int (nI w)]) (n := 2) (Nat.le_of_ble_eq_true rfl)
  rw [lg_entry_eq]
  generalize (lg_sl ([.ref (a 0), .int (nI w)]) ++ List.replicate (2 - (lg_sl ([.ref (a 0), .int (nI w)])).length) Slot.unset).toArray = ls at hl ⊢
  have hl : lv_has ls 2 [(0, .ref (a 0)), (1, .int (nI w))] := hl
  have k_30 := hts (.fieldLink RX1 30 "FreezeCredits$Calendar" "teams" "LFreezeCredits$Teams;") (by decide +kernel)
  have inX1 : ∀ w ∈ u_ws RX1 TX1 6, w ∈ wsX1_valueOfAll := by decide +kernel
  have k_68 := hts (.fieldLink RX1 68 "FreezeCredits$Teams" "count" "I") (by decide +kernel)
  have inX6 : ∀ w ∈ u_ws RX6 TX6 5, w ∈ wsX1_valueOfAll := by decide +kernel
  have k_37 := hts (.fieldLink RX1 37 "FreezeCredits$Calendar" "changes" "LFreezeCredits$Changes;") (by decide +kernel)
  have k_135 := hts (.fieldLink RX1 135 "FreezeCredits$Changes" "count" "I") (by decide +kernel)
  have inX2 : ∀ w ∈ u_ws RX2 TX2 10, w ∈ wsX1_valueOfAll := by decide +kernel
  have k_44 := hts (.fieldLink RX1 44 "FreezeCredits$Calendar" "loans" "LFreezeCredits$Loans;") (by decide +kernel)
  have k_99 := hts (.fieldLink RX1 99 "FreezeCredits$Loans" "count" "I") (by decide +kernel)
  have inX5 : ∀ w ∈ u_ws RX5 TX5 7, w ∈ wsX1_valueOfAll := by decide +kernel
  have k_18 := hts (.fieldLink RX1 18 "FreezeCredits$Calendar" "settings" "[I") (by decide +kernel)
  have k_48 := hts (.fieldLink RX1 48 "FreezeCredits$Calendar" "week" "I") (by decide +kernel)
  have k_220 := hts (.fieldLink RX1 220 "FreezeCredits$Teams" "broughtIn" "[I") (by decide +kernel)
  have k_199 := hts (.fieldLink RX1 199 "FreezeCredits$Teams" "earned" "[I") (by decide +kernel)
  have k_173 := hts (.fieldLink RX1 173 "FreezeCredits$Teams" "burnt" "[I") (by decide +kernel)
  obtain ⟨hnt, hnt6, hnc, hnc30, hnq, hqc, hnl, hnl12, hwk, hwk39, hT, hQ, hG, hB⟩ := id wf
  refine lv_iload_n hx hb dX1_valueOfAll_0 rfl (lv_at hl 1 rfl) ?_
  rcases (show w = 0 ∨ w = 1 ∨ w = 2 ∨ w = 3 ∨ w = 4 ∨ w = 5 ∨ w = 6 ∨ w = 7 ∨ w = 8 ∨ w = 9 ∨ w = 10 ∨ w = 11 ∨ w = 12 ∨ w = 13 ∨ w = 14 ∨ w = 15 ∨ w = 16 from by omega) with rfl | rfl | rfl | rfl | rfl | rfl | rfl | rfl | rfl | rfl | rfl | rfl | rfl | rfl | rfl | rfl | rfl
  · skip
    refine lv_tableIn (tgt := 80) hx hb dX1_valueOfAll_1 (by decide) (by decide) rfl (by decide) ?_
    refine lv_aload_n hx hb dX1_valueOfAll_80 rfl (lv_at hl 0 rfl) ?_
    refine va_get (D := D) (ci := 0) (v := .ref (a 3)) (C := RX1) (T := TX1) (N := 6) hx hb hts inX1 hown hK hP 0 rfl rfl 3 (by decide) k_30 (fun _ h9 => h9) rfl dX1_valueOfAll_81 ?_
    refine va_get (D := D) (ci := 5) (v := .int (V 3 0)) (C := RX6) (T := TX6) (N := 5) hx hb hts inX6 hown hK hP 3 rfl rfl 0 (by decide) k_68 (fun _ h9 => h9) rfl dX1_valueOfAll_84 ?_
    exact W.iret (v := (V 3 0)) hx hb hr (fun t9 ht9 hW9 => ⟨_, rfl, rfl, ht9⟩) (fun _ h => nomatch h) dX1_valueOfAll_87
  · skip
    refine lv_tableIn (tgt := 88) hx hb dX1_valueOfAll_1 (by decide) (by decide) rfl (by decide) ?_
    refine lv_aload_n hx hb dX1_valueOfAll_88 rfl (lv_at hl 0 rfl) ?_
    refine va_get (D := D) (ci := 0) (v := .ref (a 8)) (C := RX1) (T := TX1) (N := 6) hx hb hts inX1 hown hK hP 0 rfl rfl 4 (by decide) k_37 (fun _ h9 => h9) rfl dX1_valueOfAll_89 ?_
    refine va_get (D := D) (ci := 1) (v := .int (V 8 0)) (C := RX2) (T := TX2) (N := 10) hx hb hts inX2 hown hK hP 8 rfl rfl 0 (by decide) k_135 (fun _ h9 => h9) rfl dX1_valueOfAll_92 ?_
    exact W.iret (v := (V 8 0)) hx hb hr (fun t9 ht9 hW9 => ⟨_, rfl, rfl, ht9⟩) (fun _ h => nomatch h) dX1_valueOfAll_95
  · skip
    refine lv_tableIn (tgt := 96) hx hb dX1_valueOfAll_1 (by decide) (by decide) rfl (by decide) ?_
    refine lv_aload_n hx hb dX1_valueOfAll_96 rfl (lv_at hl 0 rfl) ?_
    refine va_get (D := D) (ci := 0) (v := .ref (a 17)) (C := RX1) (T := TX1) (N := 6) hx hb hts inX1 hown hK hP 0 rfl rfl 5 (by decide) k_44 (fun _ h9 => h9) rfl dX1_valueOfAll_97 ?_
    refine va_get (D := D) (ci := 4) (v := .int (V 17 0)) (C := RX5) (T := TX5) (N := 7) hx hb hts inX5 hown hK hP 17 rfl rfl 0 (by decide) k_99 (fun _ h9 => h9) rfl dX1_valueOfAll_100 ?_
    exact W.iret (v := (V 17 0)) hx hb hr (fun t9 ht9 hW9 => ⟨_, rfl, rfl, ht9⟩) (fun _ h => nomatch h) dX1_valueOfAll_103
  · skip
    refine lv_tableIn (tgt := 104) hx hb dX1_valueOfAll_1 (by decide) (by decide) rfl (by decide) ?_
    refine lv_aload_n hx hb dX1_valueOfAll_104 rfl (lv_at hl 0 rfl) ?_
    refine va_get (D := D) (ci := 0) (v := .ref (a 17)) (C := RX1) (T := TX1) (N := 6) hx hb hts inX1 hown hK hP 0 rfl rfl 5 (by decide) k_44 (fun _ h9 => h9) rfl dX1_valueOfAll_105 ?_
    refine fz_retR (va_runV (As := []) (rest := []) ⟨hx, hb, hml, hown, hts⟩ (c_X5_countOpen l D cy a V nl hnl hnl12) (cwV 0 hts gX1_valueOfAll_X5_countOpen rfl rfl rfl (by decide +kernel) ⟨Nat.le_of_ble_eq_true rfl, Nat.le_of_ble_eq_true rfl⟩) (fz_preV (ci := 4) (q0 := 0) hK (hP.sub (ws' := LW cy a V) [17, 18, 19, 20, 21, 22, 23] rfl) rfl rfl rfl fz_T_bl (fun _ _ _ => trivial)) rfl rfl hl.1 rfl (lv_room (Nat.le_of_ble_eq_true rfl)) dX1_valueOfAll_108 ⟨Nat.zero_le _, Nat.zero_le _⟩) ?_
    exact W.iret (v := (nI (fz_ct (fun i => !(decide (V 21 i ≤ 0))) nl))) hx hb hr (fun t9 ht9 hW9 => ⟨_, rfl, rfl, ht9⟩) (fun _ h => nomatch h) dX1_valueOfAll_111
  · skip
    refine lv_tableIn (tgt := 112) hx hb dX1_valueOfAll_1 (by decide) (by decide) rfl (by decide) ?_
    refine lv_aload_n hx hb dX1_valueOfAll_112 rfl (lv_at hl 0 rfl) ?_
    refine va_get (D := D) (ci := 0) (v := .ref (a 1)) (C := RX1) (T := TX1) (N := 6) hx hb hts inX1 hown hK hP 0 rfl rfl 1 (by decide) k_18 (fun _ h9 => h9) rfl dX1_valueOfAll_113 ?_
    refine lv_iconst (v := 0) hx hb dX1_valueOfAll_116 (by decide) ?_
    refine fz_iald (f := V 1) hx hb hK hP 1 0 rfl rfl 0 rfl (by omega) (by decide) dX1_valueOfAll_117 ?_
    exact W.iret (v := (V 1 0)) hx hb hr (fun t9 ht9 hW9 => ⟨_, rfl, rfl, ht9⟩) (fun _ h => nomatch h) dX1_valueOfAll_118
  · skip
    refine lv_tableIn (tgt := 119) hx hb dX1_valueOfAll_1 (by decide) (by decide) rfl (by decide) ?_
    refine lv_aload_n hx hb dX1_valueOfAll_119 rfl (lv_at hl 0 rfl) ?_
    refine va_get (D := D) (ci := 0) (v := .ref (a 1)) (C := RX1) (T := TX1) (N := 6) hx hb hts inX1 hown hK hP 0 rfl rfl 1 (by decide) k_18 (fun _ h9 => h9) rfl dX1_valueOfAll_120 ?_
    refine lv_iconst (v := 1) hx hb dX1_valueOfAll_123 (by decide) ?_
    refine fz_iald (f := V 1) hx hb hK hP 1 0 rfl rfl 1 rfl (by omega) (by decide) dX1_valueOfAll_124 ?_
    exact W.iret (v := (V 1 1)) hx hb hr (fun t9 ht9 hW9 => ⟨_, rfl, rfl, ht9⟩) (fun _ h => nomatch h) dX1_valueOfAll_125
  · skip
    refine lv_tableIn (tgt := 126) hx hb dX1_valueOfAll_1 (by decide) (by decide) rfl (by decide) ?_
    refine lv_aload_n hx hb dX1_valueOfAll_126 rfl (lv_at hl 0 rfl) ?_
    refine va_get (D := D) (ci := 0) (v := .ref (a 1)) (C := RX1) (T := TX1) (N := 6) hx hb hts inX1 hown hK hP 0 rfl rfl 1 (by decide) k_18 (fun _ h9 => h9) rfl dX1_valueOfAll_127 ?_
    refine lv_iconst (v := 2) hx hb dX1_valueOfAll_130 (by decide) ?_
    refine fz_iald (f := V 1) hx hb hK hP 1 0 rfl rfl 2 rfl (by omega) (by decide) dX1_valueOfAll_131 ?_
    exact W.iret (v := (V 1 2)) hx hb hr (fun t9 ht9 hW9 => ⟨_, rfl, rfl, ht9⟩) (fun _ h => nomatch h) dX1_valueOfAll_132
  · skip
    refine lv_tableIn (tgt := 133) hx hb dX1_valueOfAll_1 (by decide) (by decide) rfl (by decide) ?_
    refine lv_aload_n hx hb dX1_valueOfAll_133 rfl (lv_at hl 0 rfl) ?_
    refine va_get (D := D) (ci := 0) (v := .ref (a 1)) (C := RX1) (T := TX1) (N := 6) hx hb hts inX1 hown hK hP 0 rfl rfl 1 (by decide) k_18 (fun _ h9 => h9) rfl dX1_valueOfAll_134 ?_
    refine lv_iconst (v := 3) hx hb dX1_valueOfAll_137 (by decide) ?_
    refine fz_iald (f := V 1) hx hb hK hP 1 0 rfl rfl 3 rfl (by omega) (by decide) dX1_valueOfAll_138 ?_
    exact W.iret (v := (V 1 3)) hx hb hr (fun t9 ht9 hW9 => ⟨_, rfl, rfl, ht9⟩) (fun _ h => nomatch h) dX1_valueOfAll_139
  · skip
    refine lv_tableIn (tgt := 140) hx hb dX1_valueOfAll_1 (by decide) (by decide) rfl (by decide) ?_
    refine lv_aload_n hx hb dX1_valueOfAll_140 rfl (lv_at hl 0 rfl) ?_
    refine va_get (D := D) (ci := 0) (v := .int (V 0 0)) (C := RX1) (T := TX1) (N := 6) hx hb hts inX1 hown hK hP 0 rfl rfl 0 (by decide) k_48 (fun _ h9 => h9) rfl dX1_valueOfAll_141 ?_
    exact W.iret (v := (V 0 0)) hx hb hr (fun t9 ht9 hW9 => ⟨_, rfl, rfl, ht9⟩) (fun _ h => nomatch h) dX1_valueOfAll_144
  · skip
    refine lv_tableIn (tgt := 145) hx hb dX1_valueOfAll_1 (by decide) (by decide) rfl (by decide) ?_
    refine lv_aload_n hx hb dX1_valueOfAll_145 rfl (lv_at hl 0 rfl) ?_
    refine lv_aload_n hx hb dX1_valueOfAll_146 rfl (lv_at hl 0 rfl) ?_
    refine va_get (D := D) (ci := 0) (v := .int (V 0 0)) (C := RX1) (T := TX1) (N := 6) hx hb hts inX1 hown hK hP 0 rfl rfl 0 (by decide) k_48 (fun _ h9 => h9) rfl dX1_valueOfAll_147 ?_
    refine fz_at0 (show V 0 0 = nI wk from hwk) ?_
    refine fz_retR (va_runV (As := [.int (nI wk)]) (rest := []) ⟨hx, hb, hml, hown, hts⟩ (c_X1_countFrozen l D cy a V nt nc nq nl wk wf wk (by omega)) (cwV 1 hts gX1_valueOfAll_X1_countFrozen rfl rfl rfl (by decide +kernel) ⟨Nat.le_of_ble_eq_true rfl, Nat.le_of_ble_eq_true rfl⟩) (fz_preV (ci := 0) (q0 := 0) hK hP rfl rfl rfl fz_Nw_bl (fun U _ hW => fz_Nw_warm hW hE)) rfl rfl hl.1 rfl (lv_room (Nat.le_of_ble_eq_true rfl)) dX1_valueOfAll_150 ⟨Nat.zero_le _, Nat.zero_le _⟩) ?_
    exact W.iret (v := (fz_frz (V 2) wk)) hx hb hr (fun t9 ht9 hW9 => ⟨_, rfl, rfl, ht9⟩) (fun _ h => nomatch h) dX1_valueOfAll_153
  · skip
    refine lv_tableIn (tgt := 154) hx hb dX1_valueOfAll_1 (by decide) (by decide) rfl (by decide) ?_
    refine lv_aload_n hx hb dX1_valueOfAll_154 rfl (lv_at hl 0 rfl) ?_
    refine fz_retR (va_runV (As := []) (rest := []) ⟨hx, hb, hml, hown, hts⟩ (c_X1_wholeFree l D cy a V nt nc nq nl wk wf) (cwV 0 hts gX1_valueOfAll_X1_wholeFree rfl rfl rfl (by decide +kernel) ⟨Nat.le_of_ble_eq_true rfl, Nat.le_of_ble_eq_true rfl⟩) (fz_preV (ci := 0) (q0 := 0) hK hP rfl rfl rfl fz_Nw_bl (fun U _ hW => fz_Nw_warm hW hE)) rfl rfl hl.1 rfl (lv_room (Nat.le_of_ble_eq_true rfl)) dX1_valueOfAll_155 ⟨Nat.zero_le _, Nat.zero_le _⟩) ?_
    exact W.iret (v := (fz_sum (V 4) nt)) hx hb hr (fun t9 ht9 hW9 => ⟨_, rfl, rfl, ht9⟩) (fun _ h => nomatch h) dX1_valueOfAll_158
  · skip
    refine lv_tableIn (tgt := 159) hx hb dX1_valueOfAll_1 (by decide) (by decide) rfl (by decide) ?_
    refine lv_aload_n hx hb dX1_valueOfAll_159 rfl (lv_at hl 0 rfl) ?_
    refine fz_retR (va_runV (As := []) (rest := []) ⟨hx, hb, hml, hown, hts⟩ (c_X1_wholeHeld l D cy a V nt nc nq nl wk wf) (cwV 0 hts gX1_valueOfAll_X1_wholeHeld rfl rfl rfl (by decide +kernel) ⟨Nat.le_of_ble_eq_true rfl, Nat.le_of_ble_eq_true rfl⟩) (fz_preV (ci := 0) (q0 := 0) hK hP rfl rfl rfl fz_Nw_bl (fun U _ hW => fz_Nw_warm hW hE)) rfl rfl hl.1 rfl (lv_room (Nat.le_of_ble_eq_true rfl)) dX1_valueOfAll_160 ⟨Nat.zero_le _, Nat.zero_le _⟩) ?_
    exact W.iret (v := (fz_sum (V 12) nc)) hx hb hr (fun t9 ht9 hW9 => ⟨_, rfl, rfl, ht9⟩) (fun _ h => nomatch h) dX1_valueOfAll_163
  · skip
    refine lv_tableIn (tgt := 164) hx hb dX1_valueOfAll_1 (by decide) (by decide) rfl (by decide) ?_
    refine lv_aload_n hx hb dX1_valueOfAll_164 rfl (lv_at hl 0 rfl) ?_
    refine va_get (D := D) (ci := 0) (v := .ref (a 3)) (C := RX1) (T := TX1) (N := 6) hx hb hts inX1 hown hK hP 0 rfl rfl 3 (by decide) k_30 (fun _ h9 => h9) rfl dX1_valueOfAll_165 ?_
    refine va_get (D := D) (ci := 5) (v := .ref (a 5)) (C := RX6) (T := TX6) (N := 5) hx hb hts inX6 hown hK hP 3 rfl rfl 2 (by decide) k_220 (fun _ h9 => h9) rfl dX1_valueOfAll_168 ?_
    refine lv_aload_n hx hb dX1_valueOfAll_171 rfl (lv_at hl 0 rfl) ?_
    refine va_get (D := D) (ci := 0) (v := .ref (a 3)) (C := RX1) (T := TX1) (N := 6) hx hb hts inX1 hown hK hP 0 rfl rfl 3 (by decide) k_30 (fun _ h9 => h9) rfl dX1_valueOfAll_172 ?_
    refine va_get (D := D) (ci := 5) (v := .int (V 3 0)) (C := RX6) (T := TX6) (N := 5) hx hb hts inX6 hown hK hP 3 rfl rfl 0 (by decide) k_68 (fun _ h9 => h9) rfl dX1_valueOfAll_175 ?_
    refine fz_at0 (show V 3 0 = nI nt from hnt) ?_
    refine fz_retR (va_runSN (As := [.ref (a 5), .int (nI nt)]) (rest := []) ⟨hx, hb, hml, hown, hts⟩ (c_X8_sum l D cy (a 5) 6 (V 5) nt (by omega) (by omega)) ⟨va_cnB 2 hts gX1_valueOfAll_X8_sum_n192 rfl rfl rfl (fz_Nw_at hE 2 rfl) (hts (.initialized RX8) (by decide +kernel)) (by decide +kernel) ⟨Nat.le_of_ble_eq_true rfl, Nat.le_of_ble_eq_true rfl⟩, hts (.static yX8_sum) (by decide +kernel), trivial⟩ (fz_preS hK (hP.sub (ws' := AW cy (a 5) 6 (V 5)) [5] rfl) fz_T_bl (fun _ _ _ => trivial)) rfl rfl hl.1 rfl (lv_room (Nat.le_of_ble_eq_true rfl)) dX1_valueOfAll_178 ⟨Nat.zero_le _, Nat.zero_le _⟩) ?_
    exact W.iret (v := (fz_sum (V 5) nt)) hx hb hr (fun t9 ht9 hW9 => ⟨_, rfl, rfl, ht9⟩) (fun _ h => nomatch h) dX1_valueOfAll_181
  · skip
    refine lv_tableIn (tgt := 182) hx hb dX1_valueOfAll_1 (by decide) (by decide) rfl (by decide) ?_
    refine lv_aload_n hx hb dX1_valueOfAll_182 rfl (lv_at hl 0 rfl) ?_
    refine va_get (D := D) (ci := 0) (v := .ref (a 3)) (C := RX1) (T := TX1) (N := 6) hx hb hts inX1 hown hK hP 0 rfl rfl 3 (by decide) k_30 (fun _ h9 => h9) rfl dX1_valueOfAll_183 ?_
    refine va_get (D := D) (ci := 5) (v := .ref (a 6)) (C := RX6) (T := TX6) (N := 5) hx hb hts inX6 hown hK hP 3 rfl rfl 3 (by decide) k_199 (fun _ h9 => h9) rfl dX1_valueOfAll_186 ?_
    refine lv_aload_n hx hb dX1_valueOfAll_189 rfl (lv_at hl 0 rfl) ?_
    refine va_get (D := D) (ci := 0) (v := .ref (a 3)) (C := RX1) (T := TX1) (N := 6) hx hb hts inX1 hown hK hP 0 rfl rfl 3 (by decide) k_30 (fun _ h9 => h9) rfl dX1_valueOfAll_190 ?_
    refine va_get (D := D) (ci := 5) (v := .int (V 3 0)) (C := RX6) (T := TX6) (N := 5) hx hb hts inX6 hown hK hP 3 rfl rfl 0 (by decide) k_68 (fun _ h9 => h9) rfl dX1_valueOfAll_193 ?_
    refine fz_at0 (show V 3 0 = nI nt from hnt) ?_
    refine fz_retR (va_runSN (As := [.ref (a 6), .int (nI nt)]) (rest := []) ⟨hx, hb, hml, hown, hts⟩ (c_X8_sum l D cy (a 6) 6 (V 6) nt (by omega) (by omega)) ⟨va_cnB 2 hts gX1_valueOfAll_X8_sum_n192 rfl rfl rfl (fz_Nw_at hE 2 rfl) (hts (.initialized RX8) (by decide +kernel)) (by decide +kernel) ⟨Nat.le_of_ble_eq_true rfl, Nat.le_of_ble_eq_true rfl⟩, hts (.static yX8_sum) (by decide +kernel), trivial⟩ (fz_preS hK (hP.sub (ws' := AW cy (a 6) 6 (V 6)) [6] rfl) fz_T_bl (fun _ _ _ => trivial)) rfl rfl hl.1 rfl (lv_room (Nat.le_of_ble_eq_true rfl)) dX1_valueOfAll_196 ⟨Nat.zero_le _, Nat.zero_le _⟩) ?_
    exact W.iret (v := (fz_sum (V 6) nt)) hx hb hr (fun t9 ht9 hW9 => ⟨_, rfl, rfl, ht9⟩) (fun _ h => nomatch h) dX1_valueOfAll_199
  · skip
    refine lv_tableIn (tgt := 200) hx hb dX1_valueOfAll_1 (by decide) (by decide) rfl (by decide) ?_
    refine lv_aload_n hx hb dX1_valueOfAll_200 rfl (lv_at hl 0 rfl) ?_
    refine va_get (D := D) (ci := 0) (v := .ref (a 3)) (C := RX1) (T := TX1) (N := 6) hx hb hts inX1 hown hK hP 0 rfl rfl 3 (by decide) k_30 (fun _ h9 => h9) rfl dX1_valueOfAll_201 ?_
    refine va_get (D := D) (ci := 5) (v := .ref (a 7)) (C := RX6) (T := TX6) (N := 5) hx hb hts inX6 hown hK hP 3 rfl rfl 4 (by decide) k_173 (fun _ h9 => h9) rfl dX1_valueOfAll_204 ?_
    refine lv_aload_n hx hb dX1_valueOfAll_207 rfl (lv_at hl 0 rfl) ?_
    refine va_get (D := D) (ci := 0) (v := .ref (a 3)) (C := RX1) (T := TX1) (N := 6) hx hb hts inX1 hown hK hP 0 rfl rfl 3 (by decide) k_30 (fun _ h9 => h9) rfl dX1_valueOfAll_208 ?_
    refine va_get (D := D) (ci := 5) (v := .int (V 3 0)) (C := RX6) (T := TX6) (N := 5) hx hb hts inX6 hown hK hP 3 rfl rfl 0 (by decide) k_68 (fun _ h9 => h9) rfl dX1_valueOfAll_211 ?_
    refine fz_at0 (show V 3 0 = nI nt from hnt) ?_
    refine fz_retR (va_runSN (As := [.ref (a 7), .int (nI nt)]) (rest := []) ⟨hx, hb, hml, hown, hts⟩ (c_X8_sum l D cy (a 7) 6 (V 7) nt (by omega) (by omega)) ⟨va_cnB 2 hts gX1_valueOfAll_X8_sum_n192 rfl rfl rfl (fz_Nw_at hE 2 rfl) (hts (.initialized RX8) (by decide +kernel)) (by decide +kernel) ⟨Nat.le_of_ble_eq_true rfl, Nat.le_of_ble_eq_true rfl⟩, hts (.static yX8_sum) (by decide +kernel), trivial⟩ (fz_preS hK (hP.sub (ws' := AW cy (a 7) 6 (V 7)) [7] rfl) fz_T_bl (fun _ _ _ => trivial)) rfl rfl hl.1 rfl (lv_room (Nat.le_of_ble_eq_true rfl)) dX1_valueOfAll_214 ⟨Nat.zero_le _, Nat.zero_le _⟩) ?_
    exact W.iret (v := (fz_sum (V 7) nt)) hx hb hr (fun t9 ht9 hW9 => ⟨_, rfl, rfl, ht9⟩) (fun _ h => nomatch h) dX1_valueOfAll_217
  · skip
    refine lv_tableIn (tgt := 218) hx hb dX1_valueOfAll_1 (by decide) (by decide) rfl (by decide) ?_
    refine lv_aload_n hx hb dX1_valueOfAll_218 rfl (lv_at hl 0 rfl) ?_
    refine va_get (D := D) (ci := 0) (v := .ref (a 8)) (C := RX1) (T := TX1) (N := 6) hx hb hts inX1 hown hK hP 0 rfl rfl 4 (by decide) k_37 (fun _ h9 => h9) rfl dX1_valueOfAll_219 ?_
    refine lv_iconst (v := 1) hx hb dX1_valueOfAll_222 (by decide) ?_
    refine fz_retR (va_runV (As := [.int 1]) (rest := []) ⟨hx, hb, hml, hown, hts⟩ (c_X2_countIn l D cy a V 1 nc hnc hnc30) (cwV 1 hts gX1_valueOfAll_X2_countIn rfl rfl rfl (by decide +kernel) ⟨Nat.le_of_ble_eq_true rfl, Nat.le_of_ble_eq_true rfl⟩) (fz_preV (ci := 1) (q0 := 0) hK (hP.sub (ws' := GW cy a V) [8, 9, 10, 11, 12, 13, 14, 15, 16] rfl) rfl rfl rfl fz_T_bl (fun _ _ _ => trivial)) rfl rfl hl.1 rfl (lv_room (Nat.le_of_ble_eq_true rfl)) dX1_valueOfAll_223 ⟨Nat.zero_le _, Nat.zero_le _⟩) ?_
    exact W.iret (v := (nI (fz_ct (fun i => decide (V 11 i = 1)) nc))) hx hb hr (fun t9 ht9 hW9 => ⟨_, rfl, rfl, ht9⟩) (fun _ h => nomatch h) dX1_valueOfAll_226
  · skip
    refine lv_tableOut (tgt := 227) hx hb dX1_valueOfAll_1 (by decide) (by decide) ?_
    refine lv_aload_n hx hb dX1_valueOfAll_227 rfl (lv_at hl 0 rfl) ?_
    refine fz_retR (va_runV (As := []) (rest := []) ⟨hx, hb, hml, hown, hts⟩ (c_X1_countOwing l D cy a V nt nc nq nl wk wf) (cwV 0 hts gX1_valueOfAll_X1_countOwing rfl rfl rfl (by decide +kernel) ⟨Nat.le_of_ble_eq_true rfl, Nat.le_of_ble_eq_true rfl⟩) (fz_preV (ci := 0) (q0 := 0) hK hP rfl rfl rfl fz_Nw_bl (fun U _ hW => fz_Nw_warm hW hE)) rfl rfl hl.1 rfl (lv_room (Nat.le_of_ble_eq_true rfl)) dX1_valueOfAll_228 ⟨Nat.zero_le _, Nat.zero_le _⟩) ?_
    exact W.iret (v := (fz_sum (fun i => fz_b (fz_owes (V 19) (V 21) (V 22) (V 0 0) nl (nI i))) nt)) hx hb hr (fun t9 ht9 hW9 => ⟨_, rfl, rfl, ht9⟩) (fun _ h => nomatch h) dX1_valueOfAll_231
