/-! the model: runs, digests -/
def tx_mug (go : Bool) (a : Nat) : Nat := bif go then 1000 - a else 0
theorem tx_mug_lt {g : Bool} {a b : Nat} (ha : a < 1000) (hb : g = true → a + 1 ≤ b) : tx_mug g b < tx_mug true a := by
  show tx_mug g b < 1000 - a
  cases g with
  | true => have h := hb rfl; show 1000 - b < 1000 - a; omega
  | false => show 0 < 1000 - a; omega
theorem fm_wtn_le (N : Nat → Int32) (nc : Nat) : fm_wtn N nc ≤ nc + nc := Nat.add_le_add (fz_ct_le _ _) (fz_ct_le _ _)
theorem fz_hs_0 (f : Nat → Int32) (h : Int64) : fz_hs f 0 h = h := rfl
theorem fz_ht_0 (f : Nat → Nat → Int32) (w : Nat) (x : Nat → Int64 → Int64) (h : Int64) : fz_ht f w x 0 h = h := rfl
set_option maxHeartbeats 4000000 in
set_option maxRecDepth 100000 in
/-- the model: runCommands -/
theorem c_X9_runCommands (l : Launch) (D : va_G) (cy : Nat → ClassId) (b : Nat → Nat) (M : Nat → Nat → Int32) (h : Int64) (nt nc nl wk : Nat) (wf : fm_wf (M 1) nt nc nl wk) (ns : Nat) (hs : M 0 0 = nI ns) (hs4 : ns ≤ 4) (ln : Nat) (hln : M 0 1 = nI ln) (hln150 : ln ≤ 150) : fz_MI l yX9_runCommands wsX9_runCommands 5 112 D cy [.ref (b 0)] (MW cy b M h) fz_T ((fm_run M ln ns).1) (MW cy b ((fm_run M ln ns).2) h) := by
  refine Met.ofW (cc := cX9_runCommands) (maxL := 3) (ret := (some .int)) (by decide) rfl ?_
  intro p e s m args below meth c s₁ B hml hv
  obtain ⟨rfl, hP, hK, hD0, hE⟩ := hv
  have hx := B.exec
  have hb := B.bytes
  have hr := B.returns
  have hts := atoms_spec (ws := wsX9_runCommands) B.pre
  have hown : s.vm.findClass RX9 = some m.cls := findClass_of_methodNamed B.named
  have hlocks := B.notSynchronized
  have hD := fz_self hD0
  generalize hAe : fz_in (MW cy b M h) = A at hD ⊢
  have hS : va_S A s.heap s.heap [] := va_S.rf
  have hl := lv_entry ([.ref (b 0)]) (n := 3) (Nat.le_of_ble_eq_true rfl)
  rw [lg_entry_eq]
  generalize (lg_sl ([.ref (b 0)]) ++ List.replicate (3 - (lg_sl ([.ref (b 0)])).length) Slot.unset).toArray = ls at hl ⊢
  have hl : lv_has ls 3 [(0, .ref (b 0))] := hl
  have k_187 := hts (.fieldLink RX9 187 "FreezeCreditsModel" "fault" "I") (by decide +kernel)
  have inX9 : ∀ w ∈ u_ws RX9 TX9 13, w ∈ wsX9_runCommands := by decide +kernel
  have k_184 := hts (.fieldLink RX9 184 "FreezeCreditsModel" "at" "I") (by decide +kernel)
  have k_166 := hts (.fieldLink RX9 166 "FreezeCreditsModel" "length" "I") (by decide +kernel)
  obtain ⟨hnt, hnt6, hnc, hnc30, hnl, hnl12, hwk, hwk39, hT, hG, hB, hZo⟩ := id wf
  refine lv_aload_n hx hb dX9_runCommands_0 rfl (lv_at hl 0 rfl) ?_
  refine fz_retM (ws' := ME cy b ((fm_st M (tx_fa (M 4) ln (M 0 5) (M 5))) 0 0) ((fm_st M (tx_fa (M 4) ln (M 0 5) (M 5))) 0 1) ((fm_st M (tx_fa (M 4) ln (M 0 5) (M 5))) 0 2) ((fm_st M (tx_fa (M 4) ln (M 0 5) (M 5))) 0 3) ((fm_st M (tx_fa (M 4) ln (M 0 5) (M 5))) 0 4) ((fm_st M (tx_fa (M 4) ln (M 0 5) (M 5))) 0 5) ((fm_st M (tx_fa (M 4) ln (M 0 5) (M 5))) 0 6) ((fm_st M (tx_fa (M 4) ln (M 0 5) (M 5))) 1) ((fm_st M (tx_fa (M 4) ln (M 0 5) (M 5))) 2) ((fm_st M (tx_fa (M 4) ln (M 0 5) (M 5))) 3) ((fm_st M (tx_fa (M 4) ln (M 0 5) (M 5))) 4) ((fm_st M (tx_fa (M 4) ln (M 0 5) (M 5))) 5) h) (va_runV (As := []) (rest := []) ⟨hx, hb, hml, hown, hts⟩ (c_X9_faultOf l D cy b M h ln hln hln150) (cwV 0 hts gX9_runCommands_X9_faultOf rfl rfl rfl (by decide +kernel) ⟨Nat.le_of_ble_eq_true rfl, Nat.le_of_ble_eq_true rfl⟩) (fz_preMV (ci := 7) (q0 := 0) hK hP hD rfl rfl rfl fz_T_bl (fun _ _ _ => trivial)) rfl rfl hl.1 rfl (lv_room (Nat.le_of_ble_eq_true rfl)) dX9_runCommands_1 ⟨Nat.zero_le _, Nat.zero_le _⟩) hP hD hS [0, 1, 2, 3, 4, 5] [] rfl rfl [true, true, true, true, true, true] (And.intro rfl (And.intro rfl (And.intro rfl (And.intro rfl (And.intro rfl (And.intro rfl trivial)))))) rfl rfl (fun H locs hP hD hS => ?_)
  have hP : va_P D vwCl (ME cy b ((fm_st M (tx_fa (M 4) ln (M 0 5) (M 5))) 0 0) ((fm_st M (tx_fa (M 4) ln (M 0 5) (M 5))) 0 1) ((fm_st M (tx_fa (M 4) ln (M 0 5) (M 5))) 0 2) ((fm_st M (tx_fa (M 4) ln (M 0 5) (M 5))) 0 3) ((fm_st M (tx_fa (M 4) ln (M 0 5) (M 5))) 0 4) ((fm_st M (tx_fa (M 4) ln (M 0 5) (M 5))) 0 5) ((fm_st M (tx_fa (M 4) ln (M 0 5) (M 5))) 0 6) ((fm_st M (tx_fa (M 4) ln (M 0 5) (M 5))) 1) ((fm_st M (tx_fa (M 4) ln (M 0 5) (M 5))) 2) ((fm_st M (tx_fa (M 4) ln (M 0 5) (M 5))) 3) ((fm_st M (tx_fa (M 4) ln (M 0 5) (M 5))) 4) ((fm_st M (tx_fa (M 4) ln (M 0 5) (M 5))) 5) h) H := hP
  have hD : va_D A (ME cy b ((fm_st M (tx_fa (M 4) ln (M 0 5) (M 5))) 0 0) ((fm_st M (tx_fa (M 4) ln (M 0 5) (M 5))) 0 1) ((fm_st M (tx_fa (M 4) ln (M 0 5) (M 5))) 0 2) ((fm_st M (tx_fa (M 4) ln (M 0 5) (M 5))) 0 3) ((fm_st M (tx_fa (M 4) ln (M 0 5) (M 5))) 0 4) ((fm_st M (tx_fa (M 4) ln (M 0 5) (M 5))) 0 5) ((fm_st M (tx_fa (M 4) ln (M 0 5) (M 5))) 0 6) ((fm_st M (tx_fa (M 4) ln (M 0 5) (M 5))) 1) ((fm_st M (tx_fa (M 4) ln (M 0 5) (M 5))) 2) ((fm_st M (tx_fa (M 4) ln (M 0 5) (M 5))) 3) ((fm_st M (tx_fa (M 4) ln (M 0 5) (M 5))) 4) ((fm_st M (tx_fa (M 4) ln (M 0 5) (M 5))) 5) h) := hD
  refine fz_top (show _ = (tx_fa (M 4) ln (M 0 5) (M 5)).2.2.1 from rfl) ?_
  obtain ⟨X0, eX0⟩ : ∃ X0, X0 = fm_st M (tx_fa (M 4) ln (M 0 5) (M 5)) := ⟨_, rfl⟩
  rw [← eX0] at hP hD
  have hX1 : X0 0 1 = nI ln := by rw [eX0]; exact hln
  have hX0 : X0 0 0 = nI ns := by rw [eX0]; exact hs
  have hX4 : X0 4 = M 4 := by rw [eX0]; rfl
  have hXf : X0 0 6 = (tx_fa (M 4) ln (M 0 5) (M 5)).2.2.1 := by rw [eX0]; rfl
  have hXw : fm_wf (X0 1) nt nc nl wk := by rw [eX0]; exact wf
  have hP : va_P D vwCl (MW cy b X0 h) H := hP
  have hD : va_D A (MW cy b X0 h) := hD
  refine lv_iconst (v := (-1)) hx hb dX9_runCommands_4 (by decide) ?_
  refine lv_icmp_eq (tgt := 20) hx hb dX9_runCommands_5 (by decide) (fun c_1 => ?_) (fun c_1 => ?_)
  · skip
    refine lv_aload_n hx hb dX9_runCommands_20 rfl (lv_at hl 0 rfl) ?_
    refine fz_retMV (ws' := ME cy b (X0 0 0) (X0 0 1) (X0 0 2) (X0 0 3) (X0 0 4) (X0 0 5) (X0 0 6) (X0 1) (X0 2) (X0 1) (X0 4) (X0 5) h) (va_runV (As := []) (rest := []) ⟨hx, hb, hml, hown, hts⟩ (c_X9_asides l D cy b X0 h) (cwV 0 hts gX9_runCommands_X9_asides rfl rfl rfl (by decide +kernel) ⟨Nat.le_of_ble_eq_true rfl, Nat.le_of_ble_eq_true rfl⟩) (fz_preMV (ci := 7) (q0 := 0) hK hP hD rfl rfl rfl fz_T_bl (fun _ _ _ => trivial)) rfl rfl hl.1 rfl (lv_room (Nat.le_of_ble_eq_true rfl)) dX9_runCommands_21 ⟨Nat.zero_le _, Nat.zero_le _⟩) hP hD hS [0, 1, 2, 3, 4, 5] [] rfl rfl [true, true, true, true, true, true] (And.intro rfl (And.intro rfl (And.intro rfl (And.intro rfl (And.intro rfl (And.intro rfl trivial)))))) rfl rfl (fun H locs hP hD hS => ?_)
    have hP : va_P D vwCl (ME cy b (X0 0 0) (X0 0 1) (X0 0 2) (X0 0 3) (X0 0 4) (X0 0 5) (X0 0 6) (X0 1) (X0 2) (X0 1) (X0 4) (X0 5) h) H := hP
    have hD : va_D A (ME cy b (X0 0 0) (X0 0 1) (X0 0 2) (X0 0 3) (X0 0 4) (X0 0 5) (X0 0 6) (X0 1) (X0 2) (X0 1) (X0 4) (X0 5) h) := hD
    refine lv_aload_n hx hb dX9_runCommands_24 rfl (lv_at hl 0 rfl) ?_
    refine fz_retMV (ws' := ME cy b (nI (fm_ns ns)) (X0 0 1) (X0 0 2) (X0 0 3) (X0 0 4) (X0 0 5) (X0 0 6) (X0 1) (fm_sv (X0 2) (X0 1) ns) (X0 1) (X0 4) (X0 5) h) (va_runV (As := []) (rest := []) ⟨hx, hb, hml, hown, hts⟩ (c_X9_saves l D cy b (fz_up X0 3 (X0 1)) h ns hX0 hs4) (cwV 0 hts gX9_runCommands_X9_saves rfl rfl rfl (by decide +kernel) ⟨Nat.le_of_ble_eq_true rfl, Nat.le_of_ble_eq_true rfl⟩) (fz_preMV (ci := 7) (q0 := 0) hK hP hD rfl rfl rfl fz_T_bl (fun _ _ _ => trivial)) rfl rfl hl.1 rfl (lv_room (Nat.le_of_ble_eq_true rfl)) dX9_runCommands_25 ⟨Nat.zero_le _, Nat.zero_le _⟩) hP hD hS [0, 1, 2, 3, 4, 5] [] rfl rfl [true, true, true, true, true, true] (And.intro rfl (And.intro rfl (And.intro rfl (And.intro rfl (And.intro rfl (And.intro rfl trivial)))))) rfl rfl (fun H locs hP hD hS => ?_)
    have hP : va_P D vwCl (ME cy b (nI (fm_ns ns)) (X0 0 1) (X0 0 2) (X0 0 3) (X0 0 4) (X0 0 5) (X0 0 6) (X0 1) (fm_sv (X0 2) (X0 1) ns) (X0 1) (X0 4) (X0 5) h) H := hP
    have hD : va_D A (ME cy b (nI (fm_ns ns)) (X0 0 1) (X0 0 2) (X0 0 3) (X0 0 4) (X0 0 5) (X0 0 6) (X0 1) (fm_sv (X0 2) (X0 1) ns) (X0 1) (X0 4) (X0 5) h) := hD
    have hP : va_P D vwCl (ME cy b ((fm_svd X0 ns) 0 0) ((fm_svd X0 ns) 0 1) ((fm_svd X0 ns) 0 2) ((fm_svd X0 ns) 0 3) ((fm_svd X0 ns) 0 4) ((fm_svd X0 ns) 0 5) ((fm_svd X0 ns) 0 6) ((fm_svd X0 ns) 1) ((fm_svd X0 ns) 2) ((fm_svd X0 ns) 3) ((fm_svd X0 ns) 4) ((fm_svd X0 ns) 5) h) H := hP
    have hD : va_D A (ME cy b ((fm_svd X0 ns) 0 0) ((fm_svd X0 ns) 0 1) ((fm_svd X0 ns) 0 2) ((fm_svd X0 ns) 0 3) ((fm_svd X0 ns) 0 4) ((fm_svd X0 ns) 0 5) ((fm_svd X0 ns) 0 6) ((fm_svd X0 ns) 1) ((fm_svd X0 ns) 2) ((fm_svd X0 ns) 3) ((fm_svd X0 ns) 4) ((fm_svd X0 ns) 5) h) := hD
    refine lv_iconst (v := 0) hx hb dX9_runCommands_28 (by decide) ?_
    refine lv_istore_n (lv' := [(1, .int 0), (0, .ref (b 0))]) hx hb dX9_runCommands_29 rfl hl (by decide) rfl (fun ls hl => ?_)
    refine lv_aload_n hx hb dX9_runCommands_30 rfl (lv_at hl 1 rfl) ?_
    refine lv_iconst (v := 0) hx hb dX9_runCommands_31 (by decide) ?_
    refine va_put (D := D) (ci := 7) (v := .int 0) (ty := tyX9 8) (C := RX9) (T := TX9) (N := 13) hx hb hts inX9 tyX9 tyX9_ok nmX9 hown hK hP hD hS 0 rfl rfl 8 (by decide) k_184 (fun _ h9 => h9) rfl (by decide +kernel) rfl rfl (Nat.le_of_ble_eq_true rfl) dX9_runCommands_32 (fun H locs hP hD hS => ?_)
    have hP : va_P D vwCl (ME cy b ((fm_svd X0 ns) 0 0) ((fm_svd X0 ns) 0 1) ((fm_svd X0 ns) 0 2) ((fm_svd X0 ns) 0 3) 0 ((fm_svd X0 ns) 0 5) ((fm_svd X0 ns) 0 6) ((fm_svd X0 ns) 1) ((fm_svd X0 ns) 2) ((fm_svd X0 ns) 3) ((fm_svd X0 ns) 4) ((fm_svd X0 ns) 5) h) H := hP
    have hD : va_D A (ME cy b ((fm_svd X0 ns) 0 0) ((fm_svd X0 ns) 0 1) ((fm_svd X0 ns) 0 2) ((fm_svd X0 ns) 0 3) 0 ((fm_svd X0 ns) 0 5) ((fm_svd X0 ns) 0 6) ((fm_svd X0 ns) 1) ((fm_svd X0 ns) 2) ((fm_svd X0 ns) 3) ((fm_svd X0 ns) 4) ((fm_svd X0 ns) 5) h) := hD
    refine lv_aload_n hx hb dX9_runCommands_35 rfl (lv_at hl 1 rfl) ?_
    refine fz_retMV (ws' := ME cy b ((fm_svd X0 ns) 0 0) ((fm_svd X0 ns) 0 1) ((fm_svd X0 ns) 0 2) ((fm_svd X0 ns) 0 3) (nI (tx_sp ((fm_svd X0 ns) 4) ln 0)) ((fm_svd X0 ns) 0 5) ((fm_svd X0 ns) 0 6) ((fm_svd X0 ns) 1) ((fm_svd X0 ns) 2) ((fm_svd X0 ns) 3) ((fm_svd X0 ns) 4) ((fm_svd X0 ns) 5) h) (va_runV (As := []) (rest := []) ⟨hx, hb, hml, hown, hts⟩ (c_X9_spaces l D cy b (fz_up (fm_svd X0 ns) 0 (upd ((fm_svd X0 ns) 0) 4 0)) h ln 0 hX1 hln150 rfl (by omega)) (cwV 0 hts gX9_runCommands_X9_spaces rfl rfl rfl (by decide +kernel) ⟨Nat.le_of_ble_eq_true rfl, Nat.le_of_ble_eq_true rfl⟩) (fz_preMV (ci := 7) (q0 := 0) hK hP hD rfl rfl rfl fz_T_bl (fun _ _ _ => trivial)) rfl rfl hl.1 rfl (lv_room (Nat.le_of_ble_eq_true rfl)) dX9_runCommands_36 ⟨Nat.zero_le _, Nat.zero_le _⟩) hP hD hS [0, 1, 2, 3, 4, 5] [] rfl rfl [true, true, true, true, true, true] (And.intro rfl (And.intro rfl (And.intro rfl (And.intro rfl (And.intro rfl (And.intro rfl trivial)))))) rfl rfl (fun H locs hP hD hS => ?_)
    have hP : va_P D vwCl (ME cy b ((fm_svd X0 ns) 0 0) ((fm_svd X0 ns) 0 1) ((fm_svd X0 ns) 0 2) ((fm_svd X0 ns) 0 3) (nI (tx_sp ((fm_svd X0 ns) 4) ln 0)) ((fm_svd X0 ns) 0 5) ((fm_svd X0 ns) 0 6) ((fm_svd X0 ns) 1) ((fm_svd X0 ns) 2) ((fm_svd X0 ns) 3) ((fm_svd X0 ns) 4) ((fm_svd X0 ns) 5) h) H := hP
    have hD : va_D A (ME cy b ((fm_svd X0 ns) 0 0) ((fm_svd X0 ns) 0 1) ((fm_svd X0 ns) 0 2) ((fm_svd X0 ns) 0 3) (nI (tx_sp ((fm_svd X0 ns) 4) ln 0)) ((fm_svd X0 ns) 0 5) ((fm_svd X0 ns) 0 6) ((fm_svd X0 ns) 1) ((fm_svd X0 ns) 2) ((fm_svd X0 ns) 3) ((fm_svd X0 ns) 4) ((fm_svd X0 ns) 5) h) := hD
    have hP : va_P D vwCl (ME cy b ((fm_r0 X0 ln ns) 0 0) ((fm_r0 X0 ln ns) 0 1) ((fm_r0 X0 ln ns) 0 2) ((fm_r0 X0 ln ns) 0 3) ((fm_r0 X0 ln ns) 0 4) ((fm_r0 X0 ln ns) 0 5) ((fm_r0 X0 ln ns) 0 6) ((fm_r0 X0 ln ns) 1) ((fm_r0 X0 ln ns) 2) ((fm_r0 X0 ln ns) 3) ((fm_r0 X0 ln ns) 4) ((fm_r0 X0 ln ns) 5) h) H := hP
    have hD : va_D A (ME cy b ((fm_r0 X0 ln ns) 0 0) ((fm_r0 X0 ln ns) 0 1) ((fm_r0 X0 ln ns) 0 2) ((fm_r0 X0 ln ns) 0 3) ((fm_r0 X0 ln ns) 0 4) ((fm_r0 X0 ln ns) 0 5) ((fm_r0 X0 ln ns) 0 6) ((fm_r0 X0 ln ns) 1) ((fm_r0 X0 ln ns) 2) ((fm_r0 X0 ln ns) 3) ((fm_r0 X0 ln ns) 4) ((fm_r0 X0 ln ns) 5) h) := hD
    have hs0 := tx_sp_le (X0 4) ln 0
    refine lv_aload_n hx hb dX9_runCommands_39 rfl (lv_at hl 1 rfl) ?_
    refine va_get (D := D) (ci := 7) (v := .int ((fm_r0 X0 ln ns) 0 4)) (C := RX9) (T := TX9) (N := 13) hx hb hts inX9 hown hK hP 0 rfl rfl 8 (by decide) k_184 (fun _ h9 => h9) rfl dX9_runCommands_40 ?_
    refine lv_aload_n hx hb dX9_runCommands_43 rfl (lv_at hl 1 rfl) ?_
    refine va_get (D := D) (ci := 7) (v := .int ((fm_r0 X0 ln ns) 0 1)) (C := RX9) (T := TX9) (N := 13) hx hb hts inX9 hown hK hP 0 rfl rfl 5 (by decide) k_166 (fun _ h9 => h9) rfl dX9_runCommands_44 ?_
    refine fz_geN (tgt := 54) hx hb (tx_sp (X0 4) ln 0) ln rfl hX1 dX9_runCommands_47 (by decide) (by omega) (by omega) (fun c_2 => ?_) (fun c_2 => ?_)
    · skip
      refine lv_iconst (v := 0) hx hb dX9_runCommands_54 (by decide) ?_
      refine lv_istore_n (lv' := [(2, .int 0), (1, .int 0), (0, .ref (b 0))]) hx hb dX9_runCommands_55 rfl hl (by decide) rfl (fun ls hl => ?_)
      refine fz_loopM (σ := Bool × Nat × Nat × Nat × (Nat → Nat → Int32)) (pc := 56) (nL := 3) (fun x9 => match x9 with | (go, a, it, cn, MM) => [(0, .ref (b 0)), (1, .int (nI cn)), (2, .int (fz_b go))]) (fun x9 => match x9 with | (go, a, it, cn, MM) => MW cy b MM h) (fun x9 => match x9 with | (go, a, it, cn, MM) => (MM 0 1 = nI ln) ∧ (MM 0 4 = nI a) ∧ (MM 0 6 = -1) ∧ (fm_wfx (MM 1)) ∧ (go = true → a < ln) ∧ (a ≤ ln + 1) ∧ (it ≤ a) ∧ (go = true → tx_gd (MM 4) ln (200 - it) a) ∧ (fm_rl ln (200 - it) go a MM cn = fm_run1 X0 ln ns)) (fun x9 => match x9 with | (go, a, it, cn, MM) => tx_mug go a) ?_ (false, tx_sp (X0 4) ln 0, 0, 0, (fm_r0 X0 ln ns)) (show ((fm_r0 X0 ln ns) 0 1 = nI ln) ∧ ((fm_r0 X0 ln ns) 0 4 = nI (tx_sp (X0 4) ln 0)) ∧ ((fm_r0 X0 ln ns) 0 6 = -1) ∧ (fm_wfx ((fm_r0 X0 ln ns) 1)) ∧ (false = true → (tx_sp (X0 4) ln 0) < ln) ∧ ((tx_sp (X0 4) ln 0) ≤ ln + 1) ∧ (0 ≤ (tx_sp (X0 4) ln 0)) ∧ (false = true → tx_gd ((fm_r0 X0 ln ns) 4) ln (200 - 0) (tx_sp (X0 4) ln 0)) ∧ (fm_rl ln (200 - 0) false (tx_sp (X0 4) ln 0) (fm_r0 X0 ln ns) 0 = fm_run1 X0 ln ns) from ⟨hX1, rfl, (by show X0 0 6 = -1; rw [hXf]; exact c_1), ⟨_, _, _, _, hXw⟩, (fun z => absurd z Bool.false_ne_true), (by omega), (Nat.zero_le _), (fun z => absurd z Bool.false_ne_true), (show fm_rl ln 200 false (tx_sp (X0 4) ln 0) (fm_r0 X0 ln ns) 0 = _ from by rw [fm_run1, decide_eq_false (show ¬ tx_sp (X0 4) ln 0 < ln by omega)])⟩) _ _ ls hP hD hS (lv_sub hl [2, 1, 0] rfl)
      rintro ⟨go, a, it, cn, MM⟩ ⟨h1, ha, hf, hwf, hgo, ha1, hit, hgd, eX⟩ ih56 H locs ls hP hD hS hl
      have hP : va_P D vwCl (MW cy b MM h) H := hP
      have hD : va_D A (MW cy b MM h) := hD
      have h1 : MM 0 1 = nI ln := h1
      have ha : MM 0 4 = nI a := ha
      have hf : MM 0 6 = -1 := hf
      have hwf : fm_wfx (MM 1) := hwf
      have hgo : go = true → a < ln := hgo
      have ha1 : a ≤ ln + 1 := ha1
      have hit : it ≤ a := hit
      have hgd : go = true → tx_gd (MM 4) ln (200 - it) a := hgd
      have eX : fm_rl ln (200 - it) go a MM cn = fm_run1 X0 ln ns := eX
      have hl : lv_has ls 3 [(0, .ref (b 0)), (1, .int (nI cn)), (2, .int (fz_b go))] := hl
      refine lv_iload_n hx hb dX9_runCommands_56 rfl (lv_at hl 2 rfl) ?_
      refine fz_ifeqB (tgt := 117) hx hb dX9_runCommands_57 (by decide) (fun c_3 => ?_) (fun c_3 => ?_)
      · skip
        refine lv_aload_n hx hb dX9_runCommands_117 rfl (lv_at hl 0 rfl) ?_
        refine lv_iload_n hx hb dX9_runCommands_118 rfl (lv_at hl 1 rfl) ?_
        refine fz_retM (ws' := ME cy b (MM 0 0) (MM 0 1) 0 (MM 0 3) (MM 0 4) (MM 0 5) (MM 0 6) (MM 1) (MM 2) (MM 3) (MM 4) (MM 5) h) (va_runV (As := [.int (nI cn)]) (rest := []) ⟨hx, hb, hml, hown, hts⟩ (c_X9_well l D cy b MM h (nI cn)) (cwV 1 hts gX9_runCommands_X9_well rfl rfl rfl (by decide +kernel) ⟨Nat.le_of_ble_eq_true rfl, Nat.le_of_ble_eq_true rfl⟩) (fz_preMV (ci := 7) (q0 := 0) hK hP hD rfl rfl rfl fz_T_bl (fun _ _ _ => trivial)) rfl rfl hl.1 rfl (lv_room (Nat.le_of_ble_eq_true rfl)) dX9_runCommands_119 ⟨Nat.zero_le _, Nat.zero_le _⟩) hP hD hS [0, 1, 2, 3, 4, 5] [] rfl rfl [true, true, true, true, true, true] (And.intro rfl (And.intro rfl (And.intro rfl (And.intro rfl (And.intro rfl (And.intro rfl trivial)))))) rfl rfl (fun H locs hP hD hS => ?_)
        have hP : va_P D vwCl (ME cy b (MM 0 0) (MM 0 1) 0 (MM 0 3) (MM 0 4) (MM 0 5) (MM 0 6) (MM 1) (MM 2) (MM 3) (MM 4) (MM 5) h) H := hP
        have hD : va_D A (ME cy b (MM 0 0) (MM 0 1) 0 (MM 0 3) (MM 0 4) (MM 0 5) (MM 0 6) (MM 1) (MM 2) (MM 3) (MM 4) (MM 5) h) := hD
        refine fz_top (show _ = (nI cn) from rfl) ?_
        have eF : fm_run M ln ns = ((nI cn), fz_up MM 0 (upd (MM 0) 2 0)) := by rw [fm_run, if_pos c_1, ← eX0, ← eX, c_3, fm_rl_n]
        exact W.iret (v := (nI cn)) hx hb hr (fun t9 ht9 hW9 => ⟨⟨_, (), rfl, (by rw [eF] <;> rfl), fz_to ht9 (by rw [eF]; exact hP)⟩, hS.F ht9⟩) hS.2.2 dX9_runCommands_122
      · skip
        obtain ⟨nt2, nc2, nl2, wk2, wf2⟩ := hwf
        have hal := hgo c_3
        have hg := tx_gd_s (w := MM 0 5) (Z := MM 5) (hgd c_3) (by omega) hal
        have hle := tx_rd_le (T := MM 4) (n := ln) (w0 := MM 0 5) (Z := MM 5) hal
        obtain ⟨w, hw, ew⟩ := tx_rd_w (by omega) hg.1
        have hw5 : fm_nx MM ln a 0 5 = nI w := ew
        have wfn : fm_wf (fm_nx MM ln a 1) nt2 nc2 nl2 wk2 := wf2
        have hdm := fm_dm_eq wfn hw5 hw
        have hKd := fm_K_does (fm_nx MM ln a) nt2 nc2 nl2 wk2 w
        have h04 : (fm_does (fm_nx MM ln a) nt2 nc2 nl2 wk2 w).2 0 4 = nI (fm_na MM ln a) := hKd.sc (by omega)
        have h01 : (fm_does (fm_nx MM ln a) nt2 nc2 nl2 wk2 w).2 0 1 = nI ln := (hKd.sc (by omega)).trans h1
        have hna := fm_na_le (M := MM) hal
        have hng := fm_na_ge (M := MM) (n := ln) (a := a) (by omega) hg.1
        refine lv_aload_n hx hb dX9_runCommands_60 rfl (lv_at hl 0 rfl) ?_
        refine fz_retMV (ws' := ME cy b ((fm_st MM (tx_rd (MM 4) ln a (MM 0 5) (MM 5))) 0 0) ((fm_st MM (tx_rd (MM 4) ln a (MM 0 5) (MM 5))) 0 1) ((fm_st MM (tx_rd (MM 4) ln a (MM 0 5) (MM 5))) 0 2) ((fm_st MM (tx_rd (MM 4) ln a (MM 0 5) (MM 5))) 0 3) ((fm_st MM (tx_rd (MM 4) ln a (MM 0 5) (MM 5))) 0 4) ((fm_st MM (tx_rd (MM 4) ln a (MM 0 5) (MM 5))) 0 5) ((fm_st MM (tx_rd (MM 4) ln a (MM 0 5) (MM 5))) 0 6) ((fm_st MM (tx_rd (MM 4) ln a (MM 0 5) (MM 5))) 1) ((fm_st MM (tx_rd (MM 4) ln a (MM 0 5) (MM 5))) 2) ((fm_st MM (tx_rd (MM 4) ln a (MM 0 5) (MM 5))) 3) ((fm_st MM (tx_rd (MM 4) ln a (MM 0 5) (MM 5))) 4) ((fm_st MM (tx_rd (MM 4) ln a (MM 0 5) (MM 5))) 5) h) (va_runV (As := []) (rest := []) ⟨hx, hb, hml, hown, hts⟩ (c_X9_reads l D cy b MM h ln a h1 hln150 ha (by omega) hf) (cwV 0 hts gX9_runCommands_X9_reads rfl rfl rfl (by decide +kernel) ⟨Nat.le_of_ble_eq_true rfl, Nat.le_of_ble_eq_true rfl⟩) (fz_preMV (ci := 7) (q0 := 0) hK hP hD rfl rfl rfl fz_T_bl (fun _ _ _ => trivial)) rfl rfl hl.1 rfl (lv_room (Nat.le_of_ble_eq_true rfl)) dX9_runCommands_61 ⟨Nat.zero_le _, Nat.zero_le _⟩) hP hD hS [0, 1, 2, 3, 4, 5] [] rfl rfl [true, true, true, true, true, true] (And.intro rfl (And.intro rfl (And.intro rfl (And.intro rfl (And.intro rfl (And.intro rfl trivial)))))) rfl rfl (fun H locs hP hD hS => ?_)
        have hP : va_P D vwCl (ME cy b ((fm_st MM (tx_rd (MM 4) ln a (MM 0 5) (MM 5))) 0 0) ((fm_st MM (tx_rd (MM 4) ln a (MM 0 5) (MM 5))) 0 1) ((fm_st MM (tx_rd (MM 4) ln a (MM 0 5) (MM 5))) 0 2) ((fm_st MM (tx_rd (MM 4) ln a (MM 0 5) (MM 5))) 0 3) ((fm_st MM (tx_rd (MM 4) ln a (MM 0 5) (MM 5))) 0 4) ((fm_st MM (tx_rd (MM 4) ln a (MM 0 5) (MM 5))) 0 5) ((fm_st MM (tx_rd (MM 4) ln a (MM 0 5) (MM 5))) 0 6) ((fm_st MM (tx_rd (MM 4) ln a (MM 0 5) (MM 5))) 1) ((fm_st MM (tx_rd (MM 4) ln a (MM 0 5) (MM 5))) 2) ((fm_st MM (tx_rd (MM 4) ln a (MM 0 5) (MM 5))) 3) ((fm_st MM (tx_rd (MM 4) ln a (MM 0 5) (MM 5))) 4) ((fm_st MM (tx_rd (MM 4) ln a (MM 0 5) (MM 5))) 5) h) H := hP
        have hD : va_D A (ME cy b ((fm_st MM (tx_rd (MM 4) ln a (MM 0 5) (MM 5))) 0 0) ((fm_st MM (tx_rd (MM 4) ln a (MM 0 5) (MM 5))) 0 1) ((fm_st MM (tx_rd (MM 4) ln a (MM 0 5) (MM 5))) 0 2) ((fm_st MM (tx_rd (MM 4) ln a (MM 0 5) (MM 5))) 0 3) ((fm_st MM (tx_rd (MM 4) ln a (MM 0 5) (MM 5))) 0 4) ((fm_st MM (tx_rd (MM 4) ln a (MM 0 5) (MM 5))) 0 5) ((fm_st MM (tx_rd (MM 4) ln a (MM 0 5) (MM 5))) 0 6) ((fm_st MM (tx_rd (MM 4) ln a (MM 0 5) (MM 5))) 1) ((fm_st MM (tx_rd (MM 4) ln a (MM 0 5) (MM 5))) 2) ((fm_st MM (tx_rd (MM 4) ln a (MM 0 5) (MM 5))) 3) ((fm_st MM (tx_rd (MM 4) ln a (MM 0 5) (MM 5))) 4) ((fm_st MM (tx_rd (MM 4) ln a (MM 0 5) (MM 5))) 5) h) := hD
        refine lv_aload_n hx hb dX9_runCommands_64 rfl (lv_at hl 0 rfl) ?_
        refine fz_retMV (ws' := ME cy b ((fm_st MM (tx_rd (MM 4) ln a (MM 0 5) (MM 5))) 0 0) ((fm_st MM (tx_rd (MM 4) ln a (MM 0 5) (MM 5))) 0 1) ((fm_st MM (tx_rd (MM 4) ln a (MM 0 5) (MM 5))) 0 2) ((fm_st MM (tx_rd (MM 4) ln a (MM 0 5) (MM 5))) 0 3) (nI (tx_sp ((fm_st MM (tx_rd (MM 4) ln a (MM 0 5) (MM 5))) 4) ln ((tx_rd (MM 4) ln a (MM 0 5) (MM 5)).1))) ((fm_st MM (tx_rd (MM 4) ln a (MM 0 5) (MM 5))) 0 5) ((fm_st MM (tx_rd (MM 4) ln a (MM 0 5) (MM 5))) 0 6) ((fm_st MM (tx_rd (MM 4) ln a (MM 0 5) (MM 5))) 1) ((fm_st MM (tx_rd (MM 4) ln a (MM 0 5) (MM 5))) 2) ((fm_st MM (tx_rd (MM 4) ln a (MM 0 5) (MM 5))) 3) ((fm_st MM (tx_rd (MM 4) ln a (MM 0 5) (MM 5))) 4) ((fm_st MM (tx_rd (MM 4) ln a (MM 0 5) (MM 5))) 5) h) (va_runV (As := []) (rest := []) ⟨hx, hb, hml, hown, hts⟩ (c_X9_spaces l D cy b (fm_st MM (tx_rd (MM 4) ln a (MM 0 5) (MM 5))) h ln ((tx_rd (MM 4) ln a (MM 0 5) (MM 5)).1) h1 hln150 rfl (by omega)) (cwV 0 hts gX9_runCommands_X9_spaces rfl rfl rfl (by decide +kernel) ⟨Nat.le_of_ble_eq_true rfl, Nat.le_of_ble_eq_true rfl⟩) (fz_preMV (ci := 7) (q0 := 0) hK hP hD rfl rfl rfl fz_T_bl (fun _ _ _ => trivial)) rfl rfl hl.1 rfl (lv_room (Nat.le_of_ble_eq_true rfl)) dX9_runCommands_65 ⟨Nat.zero_le _, Nat.zero_le _⟩) hP hD hS [0, 1, 2, 3, 4, 5] [] rfl rfl [true, true, true, true, true, true] (And.intro rfl (And.intro rfl (And.intro rfl (And.intro rfl (And.intro rfl (And.intro rfl trivial)))))) rfl rfl (fun H locs hP hD hS => ?_)
        have hP : va_P D vwCl (ME cy b ((fm_st MM (tx_rd (MM 4) ln a (MM 0 5) (MM 5))) 0 0) ((fm_st MM (tx_rd (MM 4) ln a (MM 0 5) (MM 5))) 0 1) ((fm_st MM (tx_rd (MM 4) ln a (MM 0 5) (MM 5))) 0 2) ((fm_st MM (tx_rd (MM 4) ln a (MM 0 5) (MM 5))) 0 3) (nI (tx_sp ((fm_st MM (tx_rd (MM 4) ln a (MM 0 5) (MM 5))) 4) ln ((tx_rd (MM 4) ln a (MM 0 5) (MM 5)).1))) ((fm_st MM (tx_rd (MM 4) ln a (MM 0 5) (MM 5))) 0 5) ((fm_st MM (tx_rd (MM 4) ln a (MM 0 5) (MM 5))) 0 6) ((fm_st MM (tx_rd (MM 4) ln a (MM 0 5) (MM 5))) 1) ((fm_st MM (tx_rd (MM 4) ln a (MM 0 5) (MM 5))) 2) ((fm_st MM (tx_rd (MM 4) ln a (MM 0 5) (MM 5))) 3) ((fm_st MM (tx_rd (MM 4) ln a (MM 0 5) (MM 5))) 4) ((fm_st MM (tx_rd (MM 4) ln a (MM 0 5) (MM 5))) 5) h) H := hP
        have hD : va_D A (ME cy b ((fm_st MM (tx_rd (MM 4) ln a (MM 0 5) (MM 5))) 0 0) ((fm_st MM (tx_rd (MM 4) ln a (MM 0 5) (MM 5))) 0 1) ((fm_st MM (tx_rd (MM 4) ln a (MM 0 5) (MM 5))) 0 2) ((fm_st MM (tx_rd (MM 4) ln a (MM 0 5) (MM 5))) 0 3) (nI (tx_sp ((fm_st MM (tx_rd (MM 4) ln a (MM 0 5) (MM 5))) 4) ln ((tx_rd (MM 4) ln a (MM 0 5) (MM 5)).1))) ((fm_st MM (tx_rd (MM 4) ln a (MM 0 5) (MM 5))) 0 5) ((fm_st MM (tx_rd (MM 4) ln a (MM 0 5) (MM 5))) 0 6) ((fm_st MM (tx_rd (MM 4) ln a (MM 0 5) (MM 5))) 1) ((fm_st MM (tx_rd (MM 4) ln a (MM 0 5) (MM 5))) 2) ((fm_st MM (tx_rd (MM 4) ln a (MM 0 5) (MM 5))) 3) ((fm_st MM (tx_rd (MM 4) ln a (MM 0 5) (MM 5))) 4) ((fm_st MM (tx_rd (MM 4) ln a (MM 0 5) (MM 5))) 5) h) := hD
        have hP : va_P D vwCl (ME cy b ((fm_nx MM ln a) 0 0) ((fm_nx MM ln a) 0 1) ((fm_nx MM ln a) 0 2) ((fm_nx MM ln a) 0 3) ((fm_nx MM ln a) 0 4) ((fm_nx MM ln a) 0 5) ((fm_nx MM ln a) 0 6) ((fm_nx MM ln a) 1) ((fm_nx MM ln a) 2) ((fm_nx MM ln a) 3) ((fm_nx MM ln a) 4) ((fm_nx MM ln a) 5) h) H := hP
        have hD : va_D A (ME cy b ((fm_nx MM ln a) 0 0) ((fm_nx MM ln a) 0 1) ((fm_nx MM ln a) 0 2) ((fm_nx MM ln a) 0 3) ((fm_nx MM ln a) 0 4) ((fm_nx MM ln a) 0 5) ((fm_nx MM ln a) 0 6) ((fm_nx MM ln a) 1) ((fm_nx MM ln a) 2) ((fm_nx MM ln a) 3) ((fm_nx MM ln a) 4) ((fm_nx MM ln a) 5) h) := hD
        refine lv_aload_n hx hb dX9_runCommands_68 rfl (lv_at hl 0 rfl) ?_
        refine fz_retM (ws' := ME cy b (((fm_does (fm_nx MM ln a) nt2 nc2 nl2 wk2 w).2) 0 0) (((fm_does (fm_nx MM ln a) nt2 nc2 nl2 wk2 w).2) 0 1) (((fm_does (fm_nx MM ln a) nt2 nc2 nl2 wk2 w).2) 0 2) (((fm_does (fm_nx MM ln a) nt2 nc2 nl2 wk2 w).2) 0 3) (((fm_does (fm_nx MM ln a) nt2 nc2 nl2 wk2 w).2) 0 4) (((fm_does (fm_nx MM ln a) nt2 nc2 nl2 wk2 w).2) 0 5) (((fm_does (fm_nx MM ln a) nt2 nc2 nl2 wk2 w).2) 0 6) (((fm_does (fm_nx MM ln a) nt2 nc2 nl2 wk2 w).2) 1) (((fm_does (fm_nx MM ln a) nt2 nc2 nl2 wk2 w).2) 2) (((fm_does (fm_nx MM ln a) nt2 nc2 nl2 wk2 w).2) 3) (((fm_does (fm_nx MM ln a) nt2 nc2 nl2 wk2 w).2) 4) (((fm_does (fm_nx MM ln a) nt2 nc2 nl2 wk2 w).2) 5) h) (va_runV (As := []) (rest := []) ⟨hx, hb, hml, hown, hts⟩ (c_X9_does l D cy b (fm_nx MM ln a) h nt2 nc2 nl2 wk2 wfn w hw hw5) (cwV 0 hts gX9_runCommands_X9_does rfl rfl rfl (by decide +kernel) ⟨Nat.le_of_ble_eq_true rfl, Nat.le_of_ble_eq_true rfl⟩) (fz_preMV (ci := 7) (q0 := 0) hK hP hD rfl rfl rfl fz_T_bl (fun _ _ _ => trivial)) rfl rfl hl.1 rfl (lv_room (Nat.le_of_ble_eq_true rfl)) dX9_runCommands_69 ⟨Nat.zero_le _, Nat.zero_le _⟩) hP hD hS [0, 1, 2, 3, 4, 5] [] rfl rfl [true, true, true, true, true, true] (And.intro rfl (And.intro rfl (And.intro rfl (And.intro rfl (And.intro rfl (And.intro rfl trivial)))))) rfl rfl (fun H locs hP hD hS => ?_)
        have hP : va_P D vwCl (ME cy b (((fm_does (fm_nx MM ln a) nt2 nc2 nl2 wk2 w).2) 0 0) (((fm_does (fm_nx MM ln a) nt2 nc2 nl2 wk2 w).2) 0 1) (((fm_does (fm_nx MM ln a) nt2 nc2 nl2 wk2 w).2) 0 2) (((fm_does (fm_nx MM ln a) nt2 nc2 nl2 wk2 w).2) 0 3) (((fm_does (fm_nx MM ln a) nt2 nc2 nl2 wk2 w).2) 0 4) (((fm_does (fm_nx MM ln a) nt2 nc2 nl2 wk2 w).2) 0 5) (((fm_does (fm_nx MM ln a) nt2 nc2 nl2 wk2 w).2) 0 6) (((fm_does (fm_nx MM ln a) nt2 nc2 nl2 wk2 w).2) 1) (((fm_does (fm_nx MM ln a) nt2 nc2 nl2 wk2 w).2) 2) (((fm_does (fm_nx MM ln a) nt2 nc2 nl2 wk2 w).2) 3) (((fm_does (fm_nx MM ln a) nt2 nc2 nl2 wk2 w).2) 4) (((fm_does (fm_nx MM ln a) nt2 nc2 nl2 wk2 w).2) 5) h) H := hP
        have hD : va_D A (ME cy b (((fm_does (fm_nx MM ln a) nt2 nc2 nl2 wk2 w).2) 0 0) (((fm_does (fm_nx MM ln a) nt2 nc2 nl2 wk2 w).2) 0 1) (((fm_does (fm_nx MM ln a) nt2 nc2 nl2 wk2 w).2) 0 2) (((fm_does (fm_nx MM ln a) nt2 nc2 nl2 wk2 w).2) 0 3) (((fm_does (fm_nx MM ln a) nt2 nc2 nl2 wk2 w).2) 0 4) (((fm_does (fm_nx MM ln a) nt2 nc2 nl2 wk2 w).2) 0 5) (((fm_does (fm_nx MM ln a) nt2 nc2 nl2 wk2 w).2) 0 6) (((fm_does (fm_nx MM ln a) nt2 nc2 nl2 wk2 w).2) 1) (((fm_does (fm_nx MM ln a) nt2 nc2 nl2 wk2 w).2) 2) (((fm_does (fm_nx MM ln a) nt2 nc2 nl2 wk2 w).2) 3) (((fm_does (fm_nx MM ln a) nt2 nc2 nl2 wk2 w).2) 4) (((fm_does (fm_nx MM ln a) nt2 nc2 nl2 wk2 w).2) 5) h) := hD
        refine fz_top (show _ = (fm_does (fm_nx MM ln a) nt2 nc2 nl2 wk2 w).1 from rfl) ?_
        refine lv_if_ne (tgt := 79) hx hb dX9_runCommands_72 (by decide) (fun c_4 => ?_) (fun c_4 => ?_)
        · skip
          refine lv_iconst (v := 0) hx hb dX9_runCommands_79 (by decide) ?_
          refine lv_istore_n (lv' := [(2, .int 0), (0, .ref (b 0)), (1, .int (nI cn))]) hx hb dX9_runCommands_80 rfl hl (by decide) rfl (fun ls hl => ?_)
          refine lv_iload_n hx hb dX9_runCommands_81 rfl (lv_at hl 2 rfl) ?_
          refine lv_iload_n hx hb dX9_runCommands_82 rfl (lv_at hl 0 rfl) ?_
          refine lv_if_eq (tgt := 90) hx hb dX9_runCommands_83 (by decide) (fun c_5 => ?_) (fun c_5 => ?_)
          · skip
            refine lv_iconst (v := 0) hx hb dX9_runCommands_90 (by decide) ?_
            refine fz_iaddN hx hb cn 0 rfl rfl dX9_runCommands_91 ?_
            refine lv_istore_n (lv' := [(1, .int (nI (cn + 0))), (2, .int 0), (0, .ref (b 0))]) hx hb dX9_runCommands_92 rfl hl (by decide) rfl (fun ls hl => ?_)
            refine lv_iload_n hx hb dX9_runCommands_93 rfl (lv_at hl 1 rfl) ?_
            refine lv_if_eq (tgt := 112) hx hb dX9_runCommands_94 (by decide) (fun c_6 => ?_) (fun c_6 => ?_)
            · skip
              refine lv_iconst (v := 0) hx hb dX9_runCommands_112 (by decide) ?_
              refine lv_istore_n (lv' := [(2, .int 0), (1, .int (nI (cn + 0))), (0, .ref (b 0))]) hx hb dX9_runCommands_113 rfl hl (by decide) rfl (fun ls hl => ?_)
              refine lv_goto (tgt := 56) hx hb dX9_runCommands_114 (by decide) ?_
              exact ih56 (false, fm_na MM ln a, it + 1, cn + 0, ((fm_does (fm_nx MM ln a) nt2 nc2 nl2 wk2 w).2)) (show (((fm_does (fm_nx MM ln a) nt2 nc2 nl2 wk2 w).2) 0 1 = nI ln) ∧ (((fm_does (fm_nx MM ln a) nt2 nc2 nl2 wk2 w).2) 0 4 = nI (fm_na MM ln a)) ∧ (((fm_does (fm_nx MM ln a) nt2 nc2 nl2 wk2 w).2) 0 6 = -1) ∧ (fm_wfx (((fm_does (fm_nx MM ln a) nt2 nc2 nl2 wk2 w).2) 1)) ∧ (false = true → (fm_na MM ln a) < ln) ∧ ((fm_na MM ln a) ≤ ln + 1) ∧ ((it + 1) ≤ (fm_na MM ln a)) ∧ (false = true → tx_gd (((fm_does (fm_nx MM ln a) nt2 nc2 nl2 wk2 w).2) 4) ln (200 - (it + 1)) (fm_na MM ln a)) ∧ (fm_rl ln (200 - (it + 1)) false (fm_na MM ln a) ((fm_does (fm_nx MM ln a) nt2 nc2 nl2 wk2 w).2) (cn + 0) = fm_run1 X0 ln ns) from ⟨h01, h04, ((hKd.sc (by omega)).trans hg.1), (fm_W_does wfn w), (fun z => absurd z Bool.false_ne_true), (by omega), (by omega), (fun z => absurd z Bool.false_ne_true), (by rw [← eX, c_3, fm_rl_x (M := MM) (a := a) (k := 200 - it) (c := cn) (by omega) (by rw [hdm]; exact c_4), hdm, fm_rl_n]; rfl)⟩) (by show tx_mug false (fm_na MM ln a) < tx_mug go a; rw [c_3]; exact tx_mug_lt (by omega) (fun _ => hng)) _ _ ls hP hD hS (lv_sub hl [2, 1, 0] rfl)
            · exact absurd c_6 (by decide)
          · exact absurd c_5 (by decide)
        · skip
          refine lv_iconst (v := 1) hx hb dX9_runCommands_75 (by decide) ?_
          refine lv_goto (tgt := 80) hx hb dX9_runCommands_76 (by decide) ?_
          refine lv_istore_n (lv' := [(2, .int 1), (0, .ref (b 0)), (1, .int (nI cn))]) hx hb dX9_runCommands_80 rfl hl (by decide) rfl (fun ls hl => ?_)
          refine lv_iload_n hx hb dX9_runCommands_81 rfl (lv_at hl 2 rfl) ?_
          refine lv_iload_n hx hb dX9_runCommands_82 rfl (lv_at hl 0 rfl) ?_
          refine lv_if_eq (tgt := 90) hx hb dX9_runCommands_83 (by decide) (fun c_7 => ?_) (fun c_7 => ?_)
          · exact absurd c_7 (by decide)
          · skip
            refine lv_iconst (v := 1) hx hb dX9_runCommands_86 (by decide) ?_
            refine lv_goto (tgt := 91) hx hb dX9_runCommands_87 (by decide) ?_
            refine fz_iaddN hx hb cn 1 rfl rfl dX9_runCommands_91 ?_
            refine lv_istore_n (lv' := [(1, .int (nI (cn + 1))), (2, .int 1), (0, .ref (b 0))]) hx hb dX9_runCommands_92 rfl hl (by decide) rfl (fun ls hl => ?_)
            refine lv_iload_n hx hb dX9_runCommands_93 rfl (lv_at hl 1 rfl) ?_
            refine lv_if_eq (tgt := 112) hx hb dX9_runCommands_94 (by decide) (fun c_8 => ?_) (fun c_8 => ?_)
            · exact absurd c_8 (by decide)
            · skip
              refine lv_aload_n hx hb dX9_runCommands_97 rfl (lv_at hl 2 rfl) ?_
              refine va_get (D := D) (ci := 7) (v := .int (((fm_does (fm_nx MM ln a) nt2 nc2 nl2 wk2 w).2) 0 4)) (C := RX9) (T := TX9) (N := 13) hx hb hts inX9 hown hK hP 0 rfl rfl 8 (by decide) k_184 (fun _ h9 => h9) rfl dX9_runCommands_98 ?_
              refine lv_aload_n hx hb dX9_runCommands_101 rfl (lv_at hl 2 rfl) ?_
              refine va_get (D := D) (ci := 7) (v := .int (((fm_does (fm_nx MM ln a) nt2 nc2 nl2 wk2 w).2) 0 1)) (C := RX9) (T := TX9) (N := 13) hx hb hts inX9 hown hK hP 0 rfl rfl 5 (by decide) k_166 (fun _ h9 => h9) rfl dX9_runCommands_102 ?_
              refine fz_geN (tgt := 112) hx hb (fm_na MM ln a) ln h04 h01 dX9_runCommands_105 (by decide) (by omega) (by omega) (fun c_9 => ?_) (fun c_9 => ?_)
              · skip
                refine lv_iconst (v := 0) hx hb dX9_runCommands_112 (by decide) ?_
                refine lv_istore_n (lv' := [(2, .int 0), (1, .int (nI (cn + 1))), (0, .ref (b 0))]) hx hb dX9_runCommands_113 rfl hl (by decide) rfl (fun ls hl => ?_)
                refine lv_goto (tgt := 56) hx hb dX9_runCommands_114 (by decide) ?_
                exact ih56 (false, fm_na MM ln a, it + 1, cn + 1, ((fm_does (fm_nx MM ln a) nt2 nc2 nl2 wk2 w).2)) (show (((fm_does (fm_nx MM ln a) nt2 nc2 nl2 wk2 w).2) 0 1 = nI ln) ∧ (((fm_does (fm_nx MM ln a) nt2 nc2 nl2 wk2 w).2) 0 4 = nI (fm_na MM ln a)) ∧ (((fm_does (fm_nx MM ln a) nt2 nc2 nl2 wk2 w).2) 0 6 = -1) ∧ (fm_wfx (((fm_does (fm_nx MM ln a) nt2 nc2 nl2 wk2 w).2) 1)) ∧ (false = true → (fm_na MM ln a) < ln) ∧ ((fm_na MM ln a) ≤ ln + 1) ∧ ((it + 1) ≤ (fm_na MM ln a)) ∧ (false = true → tx_gd (((fm_does (fm_nx MM ln a) nt2 nc2 nl2 wk2 w).2) 4) ln (200 - (it + 1)) (fm_na MM ln a)) ∧ (fm_rl ln (200 - (it + 1)) false (fm_na MM ln a) ((fm_does (fm_nx MM ln a) nt2 nc2 nl2 wk2 w).2) (cn + 1) = fm_run1 X0 ln ns) from ⟨h01, h04, ((hKd.sc (by omega)).trans hg.1), (fm_W_does wfn w), (fun z => absurd z Bool.false_ne_true), (by omega), (by omega), (fun z => absurd z Bool.false_ne_true), (by rw [← eX, c_3, fm_rl_y (M := MM) (a := a) (k := 200 - it) (c := cn) (by omega) (by rw [hdm]; exact c_4), hdm, show 200 - (it + 1) = 200 - it - 1 by omega, decide_eq_false (show ¬ fm_na MM ln a < ln by omega)])⟩) (by show tx_mug false (fm_na MM ln a) < tx_mug go a; rw [c_3]; exact tx_mug_lt (by omega) (fun _ => hng)) _ _ ls hP hD hS (lv_sub hl [2, 1, 0] rfl)
              · skip
                refine lv_iconst (v := 1) hx hb dX9_runCommands_108 (by decide) ?_
                refine lv_goto (tgt := 113) hx hb dX9_runCommands_109 (by decide) ?_
                refine lv_istore_n (lv' := [(2, .int 1), (1, .int (nI (cn + 1))), (0, .ref (b 0))]) hx hb dX9_runCommands_113 rfl hl (by decide) rfl (fun ls hl => ?_)
                refine lv_goto (tgt := 56) hx hb dX9_runCommands_114 (by decide) ?_
                exact ih56 (true, fm_na MM ln a, it + 1, cn + 1, ((fm_does (fm_nx MM ln a) nt2 nc2 nl2 wk2 w).2)) (show (((fm_does (fm_nx MM ln a) nt2 nc2 nl2 wk2 w).2) 0 1 = nI ln) ∧ (((fm_does (fm_nx MM ln a) nt2 nc2 nl2 wk2 w).2) 0 4 = nI (fm_na MM ln a)) ∧ (((fm_does (fm_nx MM ln a) nt2 nc2 nl2 wk2 w).2) 0 6 = -1) ∧ (fm_wfx (((fm_does (fm_nx MM ln a) nt2 nc2 nl2 wk2 w).2) 1)) ∧ (true = true → (fm_na MM ln a) < ln) ∧ ((fm_na MM ln a) ≤ ln + 1) ∧ ((it + 1) ≤ (fm_na MM ln a)) ∧ (true = true → tx_gd (((fm_does (fm_nx MM ln a) nt2 nc2 nl2 wk2 w).2) 4) ln (200 - (it + 1)) (fm_na MM ln a)) ∧ (fm_rl ln (200 - (it + 1)) true (fm_na MM ln a) ((fm_does (fm_nx MM ln a) nt2 nc2 nl2 wk2 w).2) (cn + 1) = fm_run1 X0 ln ns) from ⟨h01, h04, ((hKd.sc (by omega)).trans hg.1), (fm_W_does wfn w), (fun _ => by omega), (by omega), (by omega), (fun _ => by have e9 := hKd.row (r := 4) rfl rfl; rw [e9, show 200 - (it + 1) = 200 - it - 1 by omega]; exact hg.2), (by rw [← eX, c_3, fm_rl_y (M := MM) (a := a) (k := 200 - it) (c := cn) (by omega) (by rw [hdm]; exact c_4), hdm, show 200 - (it + 1) = 200 - it - 1 by omega, decide_eq_true (show fm_na MM ln a < ln by omega)])⟩) (by show tx_mug true (fm_na MM ln a) < tx_mug go a; rw [c_3]; exact tx_mug_lt (by omega) (fun _ => hng)) _ _ ls hP hD hS (lv_sub hl [2, 1, 0] rfl)
    · skip
      refine lv_iconst (v := 1) hx hb dX9_runCommands_50 (by decide) ?_
      refine lv_goto (tgt := 55) hx hb dX9_runCommands_51 (by decide) ?_
      refine lv_istore_n (lv' := [(2, .int 1), (1, .int 0), (0, .ref (b 0))]) hx hb dX9_runCommands_55 rfl hl (by decide) rfl (fun ls hl => ?_)
      refine fz_loopM (σ := Bool × Nat × Nat × Nat × (Nat → Nat → Int32)) (pc := 56) (nL := 3) (fun x9 => match x9 with | (go, a, it, cn, MM) => [(0, .ref (b 0)), (1, .int (nI cn)), (2, .int (fz_b go))]) (fun x9 => match x9 with | (go, a, it, cn, MM) => MW cy b MM h) (fun x9 => match x9 with | (go, a, it, cn, MM) => (MM 0 1 = nI ln) ∧ (MM 0 4 = nI a) ∧ (MM 0 6 = -1) ∧ (fm_wfx (MM 1)) ∧ (go = true → a < ln) ∧ (a ≤ ln + 1) ∧ (it ≤ a) ∧ (go = true → tx_gd (MM 4) ln (200 - it) a) ∧ (fm_rl ln (200 - it) go a MM cn = fm_run1 X0 ln ns)) (fun x9 => match x9 with | (go, a, it, cn, MM) => tx_mug go a) ?_ (true, tx_sp (X0 4) ln 0, 0, 0, (fm_r0 X0 ln ns)) (show ((fm_r0 X0 ln ns) 0 1 = nI ln) ∧ ((fm_r0 X0 ln ns) 0 4 = nI (tx_sp (X0 4) ln 0)) ∧ ((fm_r0 X0 ln ns) 0 6 = -1) ∧ (fm_wfx ((fm_r0 X0 ln ns) 1)) ∧ (true = true → (tx_sp (X0 4) ln 0) < ln) ∧ ((tx_sp (X0 4) ln 0) ≤ ln + 1) ∧ (0 ≤ (tx_sp (X0 4) ln 0)) ∧ (true = true → tx_gd ((fm_r0 X0 ln ns) 4) ln (200 - 0) (tx_sp (X0 4) ln 0)) ∧ (fm_rl ln (200 - 0) true (tx_sp (X0 4) ln 0) (fm_r0 X0 ln ns) 0 = fm_run1 X0 ln ns) from ⟨hX1, rfl, (by show X0 0 6 = -1; rw [hXf]; exact c_1), ⟨_, _, _, _, hXw⟩, (fun _ => by omega), (by omega), (Nat.zero_le _), (fun _ => by show tx_gd (X0 4) ln 200 (tx_sp (X0 4) ln 0); rw [hX4]; exact tx_fo_gd 200 (tx_sp (M 4) ln 0, M 0 5, -1, M 5) rfl c_1), (show fm_rl ln 200 true (tx_sp (X0 4) ln 0) (fm_r0 X0 ln ns) 0 = _ from by rw [fm_run1, decide_eq_true (show tx_sp (X0 4) ln 0 < ln by omega)])⟩) _ _ ls hP hD hS (lv_sub hl [2, 1, 0] rfl)
      rintro ⟨go, a, it, cn, MM⟩ ⟨h1, ha, hf, hwf, hgo, ha1, hit, hgd, eX⟩ ih56 H locs ls hP hD hS hl
      have hP : va_P D vwCl (MW cy b MM h) H := hP
      have hD : va_D A (MW cy b MM h) := hD
      have h1 : MM 0 1 = nI ln := h1
      have ha : MM 0 4 = nI a := ha
      have hf : MM 0 6 = -1 := hf
      have hwf : fm_wfx (MM 1) := hwf
      have hgo : go = true → a < ln := hgo
      have ha1 : a ≤ ln + 1 := ha1
      have hit : it ≤ a := hit
      have hgd : go = true → tx_gd (MM 4) ln (200 - it) a := hgd
      have eX : fm_rl ln (200 - it) go a MM cn = fm_run1 X0 ln ns := eX
      have hl : lv_has ls 3 [(0, .ref (b 0)), (1, .int (nI cn)), (2, .int (fz_b go))] := hl
      refine lv_iload_n hx hb dX9_runCommands_56 rfl (lv_at hl 2 rfl) ?_
      refine fz_ifeqB (tgt := 117) hx hb dX9_runCommands_57 (by decide) (fun c_10 => ?_) (fun c_10 => ?_)
      · skip
        refine lv_aload_n hx hb dX9_runCommands_117 rfl (lv_at hl 0 rfl) ?_
        refine lv_iload_n hx hb dX9_runCommands_118 rfl (lv_at hl 1 rfl) ?_
        refine fz_retM (ws' := ME cy b (MM 0 0) (MM 0 1) 0 (MM 0 3) (MM 0 4) (MM 0 5) (MM 0 6) (MM 1) (MM 2) (MM 3) (MM 4) (MM 5) h) (va_runV (As := [.int (nI cn)]) (rest := []) ⟨hx, hb, hml, hown, hts⟩ (c_X9_well l D cy b MM h (nI cn)) (cwV 1 hts gX9_runCommands_X9_well rfl rfl rfl (by decide +kernel) ⟨Nat.le_of_ble_eq_true rfl, Nat.le_of_ble_eq_true rfl⟩) (fz_preMV (ci := 7) (q0 := 0) hK hP hD rfl rfl rfl fz_T_bl (fun _ _ _ => trivial)) rfl rfl hl.1 rfl (lv_room (Nat.le_of_ble_eq_true rfl)) dX9_runCommands_119 ⟨Nat.zero_le _, Nat.zero_le _⟩) hP hD hS [0, 1, 2, 3, 4, 5] [] rfl rfl [true, true, true, true, true, true] (And.intro rfl (And.intro rfl (And.intro rfl (And.intro rfl (And.intro rfl (And.intro rfl trivial)))))) rfl rfl (fun H locs hP hD hS => ?_)
        have hP : va_P D vwCl (ME cy b (MM 0 0) (MM 0 1) 0 (MM 0 3) (MM 0 4) (MM 0 5) (MM 0 6) (MM 1) (MM 2) (MM 3) (MM 4) (MM 5) h) H := hP
        have hD : va_D A (ME cy b (MM 0 0) (MM 0 1) 0 (MM 0 3) (MM 0 4) (MM 0 5) (MM 0 6) (MM 1) (MM 2) (MM 3) (MM 4) (MM 5) h) := hD
        refine fz_top (show _ = (nI cn) from rfl) ?_
        have eF : fm_run M ln ns = ((nI cn), fz_up MM 0 (upd (MM 0) 2 0)) := by rw [fm_run, if_pos c_1, ← eX0, ← eX, c_10, fm_rl_n]
        exact W.iret (v := (nI cn)) hx hb hr (fun t9 ht9 hW9 => ⟨⟨_, (), rfl, (by rw [eF] <;> rfl), fz_to ht9 (by rw [eF]; exact hP)⟩, hS.F ht9⟩) hS.2.2 dX9_runCommands_122
      · skip
        obtain ⟨nt2, nc2, nl2, wk2, wf2⟩ := hwf
        have hal := hgo c_10
        have hg := tx_gd_s (w := MM 0 5) (Z := MM 5) (hgd c_10) (by omega) hal
        have hle := tx_rd_le (T := MM 4) (n := ln) (w0 := MM 0 5) (Z := MM 5) hal
        obtain ⟨w, hw, ew⟩ := tx_rd_w (by omega) hg.1
        have hw5 : fm_nx MM ln a 0 5 = nI w := ew
        have wfn : fm_wf (fm_nx MM ln a 1) nt2 nc2 nl2 wk2 := wf2
        have hdm := fm_dm_eq wfn hw5 hw
        have hKd := fm_K_does (fm_nx MM ln a) nt2 nc2 nl2 wk2 w
        have h04 : (fm_does (fm_nx MM ln a) nt2 nc2 nl2 wk2 w).2 0 4 = nI (fm_na MM ln a) := hKd.sc (by omega)
        have h01 : (fm_does (fm_nx MM ln a) nt2 nc2 nl2 wk2 w).2 0 1 = nI ln := (hKd.sc (by omega)).trans h1
        have hna := fm_na_le (M := MM) hal
        have hng := fm_na_ge (M := MM) (n := ln) (a := a) (by omega) hg.1
        refine lv_aload_n hx hb dX9_runCommands_60 rfl (lv_at hl 0 rfl) ?_
        refine fz_retMV (ws' := ME cy b ((fm_st MM (tx_rd (MM 4) ln a (MM 0 5) (MM 5))) 0 0) ((fm_st MM (tx_rd (MM 4) ln a (MM 0 5) (MM 5))) 0 1) ((fm_st MM (tx_rd (MM 4) ln a (MM 0 5) (MM 5))) 0 2) ((fm_st MM (tx_rd (MM 4) ln a (MM 0 5) (MM 5))) 0 3) ((fm_st MM (tx_rd (MM 4) ln a (MM 0 5) (MM 5))) 0 4) ((fm_st MM (tx_rd (MM 4) ln a (MM 0 5) (MM 5))) 0 5) ((fm_st MM (tx_rd (MM 4) ln a (MM 0 5) (MM 5))) 0 6) ((fm_st MM (tx_rd (MM 4) ln a (MM 0 5) (MM 5))) 1) ((fm_st MM (tx_rd (MM 4) ln a (MM 0 5) (MM 5))) 2) ((fm_st MM (tx_rd (MM 4) ln a (MM 0 5) (MM 5))) 3) ((fm_st MM (tx_rd (MM 4) ln a (MM 0 5) (MM 5))) 4) ((fm_st MM (tx_rd (MM 4) ln a (MM 0 5) (MM 5))) 5) h) (va_runV (As := []) (rest := []) ⟨hx, hb, hml, hown, hts⟩ (c_X9_reads l D cy b MM h ln a h1 hln150 ha (by omega) hf) (cwV 0 hts gX9_runCommands_X9_reads rfl rfl rfl (by decide +kernel) ⟨Nat.le_of_ble_eq_true rfl, Nat.le_of_ble_eq_true rfl⟩) (fz_preMV (ci := 7) (q0 := 0) hK hP hD rfl rfl rfl fz_T_bl (fun _ _ _ => trivial)) rfl rfl hl.1 rfl (lv_room (Nat.le_of_ble_eq_true rfl)) dX9_runCommands_61 ⟨Nat.zero_le _, Nat.zero_le _⟩) hP hD hS [0, 1, 2, 3, 4, 5] [] rfl rfl [true, true, true, true, true, true] (And.intro rfl (And.intro rfl (And.intro rfl (And.intro rfl (And.intro rfl (And.intro rfl trivial)))))) rfl rfl (fun H locs hP hD hS => ?_)
        have hP : va_P D vwCl (ME cy b ((fm_st MM (tx_rd (MM 4) ln a (MM 0 5) (MM 5))) 0 0) ((fm_st MM (tx_rd (MM 4) ln a (MM 0 5) (MM 5))) 0 1) ((fm_st MM (tx_rd (MM 4) ln a (MM 0 5) (MM 5))) 0 2) ((fm_st MM (tx_rd (MM 4) ln a (MM 0 5) (MM 5))) 0 3) ((fm_st MM (tx_rd (MM 4) ln a (MM 0 5) (MM 5))) 0 4) ((fm_st MM (tx_rd (MM 4) ln a (MM 0 5) (MM 5))) 0 5) ((fm_st MM (tx_rd (MM 4) ln a (MM 0 5) (MM 5))) 0 6) ((fm_st MM (tx_rd (MM 4) ln a (MM 0 5) (MM 5))) 1) ((fm_st MM (tx_rd (MM 4) ln a (MM 0 5) (MM 5))) 2) ((fm_st MM (tx_rd (MM 4) ln a (MM 0 5) (MM 5))) 3) ((fm_st MM (tx_rd (MM 4) ln a (MM 0 5) (MM 5))) 4) ((fm_st MM (tx_rd (MM 4) ln a (MM 0 5) (MM 5))) 5) h) H := hP
        have hD : va_D A (ME cy b ((fm_st MM (tx_rd (MM 4) ln a (MM 0 5) (MM 5))) 0 0) ((fm_st MM (tx_rd (MM 4) ln a (MM 0 5) (MM 5))) 0 1) ((fm_st MM (tx_rd (MM 4) ln a (MM 0 5) (MM 5))) 0 2) ((fm_st MM (tx_rd (MM 4) ln a (MM 0 5) (MM 5))) 0 3) ((fm_st MM (tx_rd (MM 4) ln a (MM 0 5) (MM 5))) 0 4) ((fm_st MM (tx_rd (MM 4) ln a (MM 0 5) (MM 5))) 0 5) ((fm_st MM (tx_rd (MM 4) ln a (MM 0 5) (MM 5))) 0 6) ((fm_st MM (tx_rd (MM 4) ln a (MM 0 5) (MM 5))) 1) ((fm_st MM (tx_rd (MM 4) ln a (MM 0 5) (MM 5))) 2) ((fm_st MM (tx_rd (MM 4) ln a (MM 0 5) (MM 5))) 3) ((fm_st MM (tx_rd (MM 4) ln a (MM 0 5) (MM 5))) 4) ((fm_st MM (tx_rd (MM 4) ln a (MM 0 5) (MM 5))) 5) h) := hD
        refine lv_aload_n hx hb dX9_runCommands_64 rfl (lv_at hl 0 rfl) ?_
        refine fz_retMV (ws' := ME cy b ((fm_st MM (tx_rd (MM 4) ln a (MM 0 5) (MM 5))) 0 0) ((fm_st MM (tx_rd (MM 4) ln a (MM 0 5) (MM 5))) 0 1) ((fm_st MM (tx_rd (MM 4) ln a (MM 0 5) (MM 5))) 0 2) ((fm_st MM (tx_rd (MM 4) ln a (MM 0 5) (MM 5))) 0 3) (nI (tx_sp ((fm_st MM (tx_rd (MM 4) ln a (MM 0 5) (MM 5))) 4) ln ((tx_rd (MM 4) ln a (MM 0 5) (MM 5)).1))) ((fm_st MM (tx_rd (MM 4) ln a (MM 0 5) (MM 5))) 0 5) ((fm_st MM (tx_rd (MM 4) ln a (MM 0 5) (MM 5))) 0 6) ((fm_st MM (tx_rd (MM 4) ln a (MM 0 5) (MM 5))) 1) ((fm_st MM (tx_rd (MM 4) ln a (MM 0 5) (MM 5))) 2) ((fm_st MM (tx_rd (MM 4) ln a (MM 0 5) (MM 5))) 3) ((fm_st MM (tx_rd (MM 4) ln a (MM 0 5) (MM 5))) 4) ((fm_st MM (tx_rd (MM 4) ln a (MM 0 5) (MM 5))) 5) h) (va_runV (As := []) (rest := []) ⟨hx, hb, hml, hown, hts⟩ (c_X9_spaces l D cy b (fm_st MM (tx_rd (MM 4) ln a (MM 0 5) (MM 5))) h ln ((tx_rd (MM 4) ln a (MM 0 5) (MM 5)).1) h1 hln150 rfl (by omega)) (cwV 0 hts gX9_runCommands_X9_spaces rfl rfl rfl (by decide +kernel) ⟨Nat.le_of_ble_eq_true rfl, Nat.le_of_ble_eq_true rfl⟩) (fz_preMV (ci := 7) (q0 := 0) hK hP hD rfl rfl rfl fz_T_bl (fun _ _ _ => trivial)) rfl rfl hl.1 rfl (lv_room (Nat.le_of_ble_eq_true rfl)) dX9_runCommands_65 ⟨Nat.zero_le _, Nat.zero_le _⟩) hP hD hS [0, 1, 2, 3, 4, 5] [] rfl rfl [true, true, true, true, true, true] (And.intro rfl (And.intro rfl (And.intro rfl (And.intro rfl (And.intro rfl (And.intro rfl trivial)))))) rfl rfl (fun H locs hP hD hS => ?_)
        have hP : va_P D vwCl (ME cy b ((fm_st MM (tx_rd (MM 4) ln a (MM 0 5) (MM 5))) 0 0) ((fm_st MM (tx_rd (MM 4) ln a (MM 0 5) (MM 5))) 0 1) ((fm_st MM (tx_rd (MM 4) ln a (MM 0 5) (MM 5))) 0 2) ((fm_st MM (tx_rd (MM 4) ln a (MM 0 5) (MM 5))) 0 3) (nI (tx_sp ((fm_st MM (tx_rd (MM 4) ln a (MM 0 5) (MM 5))) 4) ln ((tx_rd (MM 4) ln a (MM 0 5) (MM 5)).1))) ((fm_st MM (tx_rd (MM 4) ln a (MM 0 5) (MM 5))) 0 5) ((fm_st MM (tx_rd (MM 4) ln a (MM 0 5) (MM 5))) 0 6) ((fm_st MM (tx_rd (MM 4) ln a (MM 0 5) (MM 5))) 1) ((fm_st MM (tx_rd (MM 4) ln a (MM 0 5) (MM 5))) 2) ((fm_st MM (tx_rd (MM 4) ln a (MM 0 5) (MM 5))) 3) ((fm_st MM (tx_rd (MM 4) ln a (MM 0 5) (MM 5))) 4) ((fm_st MM (tx_rd (MM 4) ln a (MM 0 5) (MM 5))) 5) h) H := hP
        have hD : va_D A (ME cy b ((fm_st MM (tx_rd (MM 4) ln a (MM 0 5) (MM 5))) 0 0) ((fm_st MM (tx_rd (MM 4) ln a (MM 0 5) (MM 5))) 0 1) ((fm_st MM (tx_rd (MM 4) ln a (MM 0 5) (MM 5))) 0 2) ((fm_st MM (tx_rd (MM 4) ln a (MM 0 5) (MM 5))) 0 3) (nI (tx_sp ((fm_st MM (tx_rd (MM 4) ln a (MM 0 5) (MM 5))) 4) ln ((tx_rd (MM 4) ln a (MM 0 5) (MM 5)).1))) ((fm_st MM (tx_rd (MM 4) ln a (MM 0 5) (MM 5))) 0 5) ((fm_st MM (tx_rd (MM 4) ln a (MM 0 5) (MM 5))) 0 6) ((fm_st MM (tx_rd (MM 4) ln a (MM 0 5) (MM 5))) 1) ((fm_st MM (tx_rd (MM 4) ln a (MM 0 5) (MM 5))) 2) ((fm_st MM (tx_rd (MM 4) ln a (MM 0 5) (MM 5))) 3) ((fm_st MM (tx_rd (MM 4) ln a (MM 0 5) (MM 5))) 4) ((fm_st MM (tx_rd (MM 4) ln a (MM 0 5) (MM 5))) 5) h) := hD
        have hP : va_P D vwCl (ME cy b ((fm_nx MM ln a) 0 0) ((fm_nx MM ln a) 0 1) ((fm_nx MM ln a) 0 2) ((fm_nx MM ln a) 0 3) ((fm_nx MM ln a) 0 4) ((fm_nx MM ln a) 0 5) ((fm_nx MM ln a) 0 6) ((fm_nx MM ln a) 1) ((fm_nx MM ln a) 2) ((fm_nx MM ln a) 3) ((fm_nx MM ln a) 4) ((fm_nx MM ln a) 5) h) H := hP
        have hD : va_D A (ME cy b ((fm_nx MM ln a) 0 0) ((fm_nx MM ln a) 0 1) ((fm_nx MM ln a) 0 2) ((fm_nx MM ln a) 0 3) ((fm_nx MM ln a) 0 4) ((fm_nx MM ln a) 0 5) ((fm_nx MM ln a) 0 6) ((fm_nx MM ln a) 1) ((fm_nx MM ln a) 2) ((fm_nx MM ln a) 3) ((fm_nx MM ln a) 4) ((fm_nx MM ln a) 5) h) := hD
        refine lv_aload_n hx hb dX9_runCommands_68 rfl (lv_at hl 0 rfl) ?_
        refine fz_retM (ws' := ME cy b (((fm_does (fm_nx MM ln a) nt2 nc2 nl2 wk2 w).2) 0 0) (((fm_does (fm_nx MM ln a) nt2 nc2 nl2 wk2 w).2) 0 1) (((fm_does (fm_nx MM ln a) nt2 nc2 nl2 wk2 w).2) 0 2) (((fm_does (fm_nx MM ln a) nt2 nc2 nl2 wk2 w).2) 0 3) (((fm_does (fm_nx MM ln a) nt2 nc2 nl2 wk2 w).2) 0 4) (((fm_does (fm_nx MM ln a) nt2 nc2 nl2 wk2 w).2) 0 5) (((fm_does (fm_nx MM ln a) nt2 nc2 nl2 wk2 w).2) 0 6) (((fm_does (fm_nx MM ln a) nt2 nc2 nl2 wk2 w).2) 1) (((fm_does (fm_nx MM ln a) nt2 nc2 nl2 wk2 w).2) 2) (((fm_does (fm_nx MM ln a) nt2 nc2 nl2 wk2 w).2) 3) (((fm_does (fm_nx MM ln a) nt2 nc2 nl2 wk2 w).2) 4) (((fm_does (fm_nx MM ln a) nt2 nc2 nl2 wk2 w).2) 5) h) (va_runV (As := []) (rest := []) ⟨hx, hb, hml, hown, hts⟩ (c_X9_does l D cy b (fm_nx MM ln a) h nt2 nc2 nl2 wk2 wfn w hw hw5) (cwV 0 hts gX9_runCommands_X9_does rfl rfl rfl (by decide +kernel) ⟨Nat.le_of_ble_eq_true rfl, Nat.le_of_ble_eq_true rfl⟩) (fz_preMV (ci := 7) (q0 := 0) hK hP hD rfl rfl rfl fz_T_bl (fun _ _ _ => trivial)) rfl rfl hl.1 rfl (lv_room (Nat.le_of_ble_eq_true rfl)) dX9_runCommands_69 ⟨Nat.zero_le _, Nat.zero_le _⟩) hP hD hS [0, 1, 2, 3, 4, 5] [] rfl rfl [true, true, true, true, true, true] (And.intro rfl (And.intro rfl (And.intro rfl (And.intro rfl (And.intro rfl (And.intro rfl trivial)))))) rfl rfl (fun H locs hP hD hS => ?_)
        have hP : va_P D vwCl (ME cy b (((fm_does (fm_nx MM ln a) nt2 nc2 nl2 wk2 w).2) 0 0) (((fm_does (fm_nx MM ln a) nt2 nc2 nl2 wk2 w).2) 0 1) (((fm_does (fm_nx MM ln a) nt2 nc2 nl2 wk2 w).2) 0 2) (((fm_does (fm_nx MM ln a) nt2 nc2 nl2 wk2 w).2) 0 3) (((fm_does (fm_nx MM ln a) nt2 nc2 nl2 wk2 w).2) 0 4) (((fm_does (fm_nx MM ln a) nt2 nc2 nl2 wk2 w).2) 0 5) (((fm_does (fm_nx MM ln a) nt2 nc2 nl2 wk2 w).2) 0 6) (((fm_does (fm_nx MM ln a) nt2 nc2 nl2 wk2 w).2) 1) (((fm_does (fm_nx MM ln a) nt2 nc2 nl2 wk2 w).2) 2) (((fm_does (fm_nx MM ln a) nt2 nc2 nl2 wk2 w).2) 3) (((fm_does (fm_nx MM ln a) nt2 nc2 nl2 wk2 w).2) 4) (((fm_does (fm_nx MM ln a) nt2 nc2 nl2 wk2 w).2) 5) h) H := hP
        have hD : va_D A (ME cy b (((fm_does (fm_nx MM ln a) nt2 nc2 nl2 wk2 w).2) 0 0) (((fm_does (fm_nx MM ln a) nt2 nc2 nl2 wk2 w).2) 0 1) (((fm_does (fm_nx MM ln a) nt2 nc2 nl2 wk2 w).2) 0 2) (((fm_does (fm_nx MM ln a) nt2 nc2 nl2 wk2 w).2) 0 3) (((fm_does (fm_nx MM ln a) nt2 nc2 nl2 wk2 w).2) 0 4) (((fm_does (fm_nx MM ln a) nt2 nc2 nl2 wk2 w).2) 0 5) (((fm_does (fm_nx MM ln a) nt2 nc2 nl2 wk2 w).2) 0 6) (((fm_does (fm_nx MM ln a) nt2 nc2 nl2 wk2 w).2) 1) (((fm_does (fm_nx MM ln a) nt2 nc2 nl2 wk2 w).2) 2) (((fm_does (fm_nx MM ln a) nt2 nc2 nl2 wk2 w).2) 3) (((fm_does (fm_nx MM ln a) nt2 nc2 nl2 wk2 w).2) 4) (((fm_does (fm_nx MM ln a) nt2 nc2 nl2 wk2 w).2) 5) h) := hD
        refine fz_top (show _ = (fm_does (fm_nx MM ln a) nt2 nc2 nl2 wk2 w).1 from rfl) ?_
        refine lv_if_ne (tgt := 79) hx hb dX9_runCommands_72 (by decide) (fun c_11 => ?_) (fun c_11 => ?_)
        · skip
          refine lv_iconst (v := 0) hx hb dX9_runCommands_79 (by decide) ?_
          refine lv_istore_n (lv' := [(2, .int 0), (0, .ref (b 0)), (1, .int (nI cn))]) hx hb dX9_runCommands_80 rfl hl (by decide) rfl (fun ls hl => ?_)
          refine lv_iload_n hx hb dX9_runCommands_81 rfl (lv_at hl 2 rfl) ?_
          refine lv_iload_n hx hb dX9_runCommands_82 rfl (lv_at hl 0 rfl) ?_
          refine lv_if_eq (tgt := 90) hx hb dX9_runCommands_83 (by decide) (fun c_12 => ?_) (fun c_12 => ?_)
          · skip
            refine lv_iconst (v := 0) hx hb dX9_runCommands_90 (by decide) ?_
            refine fz_iaddN hx hb cn 0 rfl rfl dX9_runCommands_91 ?_
            refine lv_istore_n (lv' := [(1, .int (nI (cn + 0))), (2, .int 0), (0, .ref (b 0))]) hx hb dX9_runCommands_92 rfl hl (by decide) rfl (fun ls hl => ?_)
            refine lv_iload_n hx hb dX9_runCommands_93 rfl (lv_at hl 1 rfl) ?_
            refine lv_if_eq (tgt := 112) hx hb dX9_runCommands_94 (by decide) (fun c_13 => ?_) (fun c_13 => ?_)
            · skip
              refine lv_iconst (v := 0) hx hb dX9_runCommands_112 (by decide) ?_
              refine lv_istore_n (lv' := [(2, .int 0), (1, .int (nI (cn + 0))), (0, .ref (b 0))]) hx hb dX9_runCommands_113 rfl hl (by decide) rfl (fun ls hl => ?_)
              refine lv_goto (tgt := 56) hx hb dX9_runCommands_114 (by decide) ?_
              exact ih56 (false, fm_na MM ln a, it + 1, cn + 0, ((fm_does (fm_nx MM ln a) nt2 nc2 nl2 wk2 w).2)) (show (((fm_does (fm_nx MM ln a) nt2 nc2 nl2 wk2 w).2) 0 1 = nI ln) ∧ (((fm_does (fm_nx MM ln a) nt2 nc2 nl2 wk2 w).2) 0 4 = nI (fm_na MM ln a)) ∧ (((fm_does (fm_nx MM ln a) nt2 nc2 nl2 wk2 w).2) 0 6 = -1) ∧ (fm_wfx (((fm_does (fm_nx MM ln a) nt2 nc2 nl2 wk2 w).2) 1)) ∧ (false = true → (fm_na MM ln a) < ln) ∧ ((fm_na MM ln a) ≤ ln + 1) ∧ ((it + 1) ≤ (fm_na MM ln a)) ∧ (false = true → tx_gd (((fm_does (fm_nx MM ln a) nt2 nc2 nl2 wk2 w).2) 4) ln (200 - (it + 1)) (fm_na MM ln a)) ∧ (fm_rl ln (200 - (it + 1)) false (fm_na MM ln a) ((fm_does (fm_nx MM ln a) nt2 nc2 nl2 wk2 w).2) (cn + 0) = fm_run1 X0 ln ns) from ⟨h01, h04, ((hKd.sc (by omega)).trans hg.1), (fm_W_does wfn w), (fun z => absurd z Bool.false_ne_true), (by omega), (by omega), (fun z => absurd z Bool.false_ne_true), (by rw [← eX, c_10, fm_rl_x (M := MM) (a := a) (k := 200 - it) (c := cn) (by omega) (by rw [hdm]; exact c_11), hdm, fm_rl_n]; rfl)⟩) (by show tx_mug false (fm_na MM ln a) < tx_mug go a; rw [c_10]; exact tx_mug_lt (by omega) (fun _ => hng)) _ _ ls hP hD hS (lv_sub hl [2, 1, 0] rfl)
            · exact absurd c_13 (by decide)
          · exact absurd c_12 (by decide)
        · skip
          refine lv_iconst (v := 1) hx hb dX9_runCommands_75 (by decide) ?_
          refine lv_goto (tgt := 80) hx hb dX9_runCommands_76 (by decide) ?_
          refine lv_istore_n (lv' := [(2, .int 1), (0, .ref (b 0)), (1, .int (nI cn))]) hx hb dX9_runCommands_80 rfl hl (by decide) rfl (fun ls hl => ?_)
          refine lv_iload_n hx hb dX9_runCommands_81 rfl (lv_at hl 2 rfl) ?_
          refine lv_iload_n hx hb dX9_runCommands_82 rfl (lv_at hl 0 rfl) ?_
          refine lv_if_eq (tgt := 90) hx hb dX9_runCommands_83 (by decide) (fun c_14 => ?_) (fun c_14 => ?_)
          · exact absurd c_14 (by decide)
          · skip
            refine lv_iconst (v := 1) hx hb dX9_runCommands_86 (by decide) ?_
            refine lv_goto (tgt := 91) hx hb dX9_runCommands_87 (by decide) ?_
            refine fz_iaddN hx hb cn 1 rfl rfl dX9_runCommands_91 ?_
            refine lv_istore_n (lv' := [(1, .int (nI (cn + 1))), (2, .int 1), (0, .ref (b 0))]) hx hb dX9_runCommands_92 rfl hl (by decide) rfl (fun ls hl => ?_)
            refine lv_iload_n hx hb dX9_runCommands_93 rfl (lv_at hl 1 rfl) ?_
            refine lv_if_eq (tgt := 112) hx hb dX9_runCommands_94 (by decide) (fun c_15 => ?_) (fun c_15 => ?_)
            · exact absurd c_15 (by decide)
            · skip
              refine lv_aload_n hx hb dX9_runCommands_97 rfl (lv_at hl 2 rfl) ?_
              refine va_get (D := D) (ci := 7) (v := .int (((fm_does (fm_nx MM ln a) nt2 nc2 nl2 wk2 w).2) 0 4)) (C := RX9) (T := TX9) (N := 13) hx hb hts inX9 hown hK hP 0 rfl rfl 8 (by decide) k_184 (fun _ h9 => h9) rfl dX9_runCommands_98 ?_
              refine lv_aload_n hx hb dX9_runCommands_101 rfl (lv_at hl 2 rfl) ?_
              refine va_get (D := D) (ci := 7) (v := .int (((fm_does (fm_nx MM ln a) nt2 nc2 nl2 wk2 w).2) 0 1)) (C := RX9) (T := TX9) (N := 13) hx hb hts inX9 hown hK hP 0 rfl rfl 5 (by decide) k_166 (fun _ h9 => h9) rfl dX9_runCommands_102 ?_
              refine fz_geN (tgt := 112) hx hb (fm_na MM ln a) ln h04 h01 dX9_runCommands_105 (by decide) (by omega) (by omega) (fun c_16 => ?_) (fun c_16 => ?_)
              · skip
                refine lv_iconst (v := 0) hx hb dX9_runCommands_112 (by decide) ?_
                refine lv_istore_n (lv' := [(2, .int 0), (1, .int (nI (cn + 1))), (0, .ref (b 0))]) hx hb dX9_runCommands_113 rfl hl (by decide) rfl (fun ls hl => ?_)
                refine lv_goto (tgt := 56) hx hb dX9_runCommands_114 (by decide) ?_
                exact ih56 (false, fm_na MM ln a, it + 1, cn + 1, ((fm_does (fm_nx MM ln a) nt2 nc2 nl2 wk2 w).2)) (show (((fm_does (fm_nx MM ln a) nt2 nc2 nl2 wk2 w).2) 0 1 = nI ln) ∧ (((fm_does (fm_nx MM ln a) nt2 nc2 nl2 wk2 w).2) 0 4 = nI (fm_na MM ln a)) ∧ (((fm_does (fm_nx MM ln a) nt2 nc2 nl2 wk2 w).2) 0 6 = -1) ∧ (fm_wfx (((fm_does (fm_nx MM ln a) nt2 nc2 nl2 wk2 w).2) 1)) ∧ (false = true → (fm_na MM ln a) < ln) ∧ ((fm_na MM ln a) ≤ ln + 1) ∧ ((it + 1) ≤ (fm_na MM ln a)) ∧ (false = true → tx_gd (((fm_does (fm_nx MM ln a) nt2 nc2 nl2 wk2 w).2) 4) ln (200 - (it + 1)) (fm_na MM ln a)) ∧ (fm_rl ln (200 - (it + 1)) false (fm_na MM ln a) ((fm_does (fm_nx MM ln a) nt2 nc2 nl2 wk2 w).2) (cn + 1) = fm_run1 X0 ln ns) from ⟨h01, h04, ((hKd.sc (by omega)).trans hg.1), (fm_W_does wfn w), (fun z => absurd z Bool.false_ne_true), (by omega), (by omega), (fun z => absurd z Bool.false_ne_true), (by rw [← eX, c_10, fm_rl_y (M := MM) (a := a) (k := 200 - it) (c := cn) (by omega) (by rw [hdm]; exact c_11), hdm, show 200 - (it + 1) = 200 - it - 1 by omega, decide_eq_false (show ¬ fm_na MM ln a < ln by omega)])⟩) (by show tx_mug false (fm_na MM ln a) < tx_mug go a; rw [c_10]; exact tx_mug_lt (by omega) (fun _ => hng)) _ _ ls hP hD hS (lv_sub hl [2, 1, 0] rfl)
              · skip
                refine lv_iconst (v := 1) hx hb dX9_runCommands_108 (by decide) ?_
                refine lv_goto (tgt := 113) hx hb dX9_runCommands_109 (by decide) ?_
                refine lv_istore_n (lv' := [(2, .int 1), (1, .int (nI (cn + 1))), (0, .ref (b 0))]) hx hb dX9_runCommands_113 rfl hl (by decide) rfl (fun ls hl => ?_)
                refine lv_goto (tgt := 56) hx hb dX9_runCommands_114 (by decide) ?_
                exact ih56 (true, fm_na MM ln a, it + 1, cn + 1, ((fm_does (fm_nx MM ln a) nt2 nc2 nl2 wk2 w).2)) (show (((fm_does (fm_nx MM ln a) nt2 nc2 nl2 wk2 w).2) 0 1 = nI ln) ∧ (((fm_does (fm_nx MM ln a) nt2 nc2 nl2 wk2 w).2) 0 4 = nI (fm_na MM ln a)) ∧ (((fm_does (fm_nx MM ln a) nt2 nc2 nl2 wk2 w).2) 0 6 = -1) ∧ (fm_wfx (((fm_does (fm_nx MM ln a) nt2 nc2 nl2 wk2 w).2) 1)) ∧ (true = true → (fm_na MM ln a) < ln) ∧ ((fm_na MM ln a) ≤ ln + 1) ∧ ((it + 1) ≤ (fm_na MM ln a)) ∧ (true = true → tx_gd (((fm_does (fm_nx MM ln a) nt2 nc2 nl2 wk2 w).2) 4) ln (200 - (it + 1)) (fm_na MM ln a)) ∧ (fm_rl ln (200 - (it + 1)) true (fm_na MM ln a) ((fm_does (fm_nx MM ln a) nt2 nc2 nl2 wk2 w).2) (cn + 1) = fm_run1 X0 ln ns) from ⟨h01, h04, ((hKd.sc (by omega)).trans hg.1), (fm_W_does wfn w), (fun _ => by omega), (by omega), (by omega), (fun _ => by have e9 := hKd.row (r := 4) rfl rfl; rw [e9, show 200 - (it + 1) = 200 - it - 1 by omega]; exact hg.2), (by rw [← eX, c_10, fm_rl_y (M := MM) (a := a) (k := 200 - it) (c := cn) (by omega) (by rw [hdm]; exact c_11), hdm, show 200 - (it + 1) = 200 - it - 1 by omega, decide_eq_true (show fm_na MM ln a < ln by omega)])⟩) (by show tx_mug true (fm_na MM ln a) < tx_mug go a; rw [c_10]; exact tx_mug_lt (by omega) (fun _ => hng)) _ _ ls hP hD hS (lv_sub hl [2, 1, 0] rfl)
  · skip
    refine lv_aload_n hx hb dX9_runCommands_8 rfl (lv_at hl 0 rfl) ?_
    refine lv_bipush (v := (-10)) hx hb dX9_runCommands_9 (by decide) ?_
    refine lv_aload_n hx hb dX9_runCommands_11 rfl (lv_at hl 0 rfl) ?_
    refine va_get (D := D) (ci := 7) (v := .int (X0 0 6)) (C := RX9) (T := TX9) (N := 13) hx hb hts inX9 hown hK hP 0 rfl rfl 11 (by decide) k_187 (fun _ h9 => h9) rfl dX9_runCommands_12 ?_
    refine lv_isub hx hb dX9_runCommands_15 ?_
    refine fz_retM (ws' := ME cy b (X0 0 0) (X0 0 1) 0 (X0 0 3) (X0 0 4) (X0 0 5) (X0 0 6) (X0 1) (X0 2) (X0 3) (X0 4) (X0 5) h) (va_runV (As := [.int ((-10) - (X0 0 6))]) (rest := []) ⟨hx, hb, hml, hown, hts⟩ (c_X9_well l D cy b X0 h ((-10) - (X0 0 6))) (cwV 1 hts gX9_runCommands_X9_well rfl rfl rfl (by decide +kernel) ⟨Nat.le_of_ble_eq_true rfl, Nat.le_of_ble_eq_true rfl⟩) (fz_preMV (ci := 7) (q0 := 0) hK hP hD rfl rfl rfl fz_T_bl (fun _ _ _ => trivial)) rfl rfl hl.1 rfl (lv_room (Nat.le_of_ble_eq_true rfl)) dX9_runCommands_16 ⟨Nat.zero_le _, Nat.zero_le _⟩) hP hD hS [0, 1, 2, 3, 4, 5] [] rfl rfl [true, true, true, true, true, true] (And.intro rfl (And.intro rfl (And.intro rfl (And.intro rfl (And.intro rfl (And.intro rfl trivial)))))) rfl rfl (fun H locs hP hD hS => ?_)
    have hP : va_P D vwCl (ME cy b (X0 0 0) (X0 0 1) 0 (X0 0 3) (X0 0 4) (X0 0 5) (X0 0 6) (X0 1) (X0 2) (X0 3) (X0 4) (X0 5) h) H := hP
    have hD : va_D A (ME cy b (X0 0 0) (X0 0 1) 0 (X0 0 3) (X0 0 4) (X0 0 5) (X0 0 6) (X0 1) (X0 2) (X0 3) (X0 4) (X0 5) h) := hD
    refine fz_top (show _ = ((-10) - (X0 0 6)) from rfl) ?_
    have eF : fm_run M ln ns = (((-10) - (X0 0 6)), fz_up X0 0 (upd (X0 0) 2 0)) := by rw [fm_run, if_neg c_1, ← eX0, ← hXf]
    exact W.iret (v := ((-10) - (X0 0 6))) hx hb hr (fun t9 ht9 hW9 => ⟨⟨_, (), rfl, (by rw [eF] <;> rfl), fz_to ht9 (by rw [eF]; exact hP)⟩, hS.F ht9⟩) hS.2.2 dX9_runCommands_19
set_option maxHeartbeats 4000000 in
set_option maxRecDepth 100000 in
/-- the model: hashes -/
theorem c_X9_hashes (l : Launch) (D : va_G) (cy : Nat → ClassId) (b : Nat → Nat) (M : Nat → Nat → Int32) (h : Int64) (x : Int32) : fz_MV l yX9_hashes wsX9_hashes 0 0 D cy [.ref (b 0), .int x] (MW cy b M h) fz_T (MW cy b M (fz_mix h x)) := by
  refine Met.ofW (cc := cX9_hashes) (maxL := 2) (ret := none) (by decide) rfl ?_
  intro p e s m args below meth c s₁ B hml hv
  obtain ⟨rfl, hP, hK, hD0, hE⟩ := hv
  have hx := B.exec
  have hb := B.bytes
  have hr := B.returns
  have hts := atoms_spec (ws := wsX9_hashes) B.pre
  have hown : s.vm.findClass RX9 = some m.cls := findClass_of_methodNamed B.named
  have hlocks := B.notSynchronized
  have hD := fz_self hD0
  generalize hAe : fz_in (MW cy b M h) = A at hD ⊢
  have hS : va_S A s.heap s.heap [] := va_S.rf
  have hl := lv_entry ([.ref (b 0), .int x]) (n := 2) (Nat.le_of_ble_eq_true rfl)
  rw [lg_entry_eq]
  generalize (lg_sl ([.ref (b 0), .int x]) ++ List.replicate (2 - (lg_sl ([.ref (b 0), .int x])).length) Slot.unset).toArray = ls at hl ⊢
  have hl : lv_has ls 2 [(0, .ref (b 0)), (1, .int x)] := hl
  have k_238 := hts (.fieldLink RX9 238 "FreezeCreditsModel" "hash" "J") (by decide +kernel)
  have inX9 : ∀ w ∈ u_ws RX9 TX9 13, w ∈ wsX9_hashes := by decide +kernel
  refine lv_aload_n hx hb dX9_hashes_0 rfl (lv_at hl 0 rfl) ?_
  refine lv_ldc2 (v := 31) hx hb hown (hts (.constantLong RX9 236 (31)) (by decide +kernel)) dX9_hashes_1 ?_
  refine lv_aload_n hx hb dX9_hashes_4 rfl (lv_at hl 0 rfl) ?_
  refine va_get (D := D) (ci := 7) (v := .long h) (C := RX9) (T := TX9) (N := 13) hx hb hts inX9 hown hK hP 0 rfl rfl 12 (by decide) k_238 (fun _ h9 => h9) rfl dX9_hashes_5 ?_
  refine lv_lmul hx hb dX9_hashes_8 ?_
  refine lv_iload_n hx hb dX9_hashes_9 rfl (lv_at hl 1 rfl) ?_
  refine lv_i2l (v := x.toInt64) hx hb dX9_hashes_10 rfl ?_
  refine lv_ladd hx hb dX9_hashes_11 ?_
  refine va_put (D := D) (ci := 7) (v := .long ((31 * h) + x.toInt64)) (ty := tyX9 12) (C := RX9) (T := TX9) (N := 13) hx hb hts inX9 tyX9 tyX9_ok nmX9 hown hK hP hD hS 0 rfl rfl 12 (by decide) k_238 (fun _ h9 => h9) rfl (by decide +kernel) rfl rfl (Nat.le_of_ble_eq_true rfl) dX9_hashes_12 (fun H locs hP hD hS => ?_)
  have hP : va_P D vwCl (MW cy b M ((31 * h) + x.toInt64)) H := hP
  have hD : va_D A (MW cy b M ((31 * h) + x.toInt64)) := hD
  exact W.vret hx hb hr (fun t9 ht9 hW9 => ⟨⟨(), rfl, trivial, fz_to ht9 hP⟩, hS.F ht9⟩) hS.2.2 dX9_hashes_15
set_option maxHeartbeats 4000000 in
set_option maxRecDepth 100000 in
/-- the model: digest -/
theorem c_X9_digest (l : Launch) (D : va_G) (cy : Nat → ClassId) (b : Nat → Nat) (M : Nat → Nat → Int32) (h : Int64) (nt nc nl wk : Nat) (wf : fm_wf (M 1) nt nc nl wk) : fz_ML l yX9_digest wsX9_digest 4 87 D cy [.ref (b 0)] (MW cy b M h) fz_T (fm_dg (fz_up M 0 (upd (M 0) 2 0)) nt nc nl wk) (MW cy b (fz_up M 0 (upd (M 0) 2 0)) (fm_dg (fz_up M 0 (upd (M 0) 2 0)) nt nc nl wk)) := by
  refine Met.ofW (cc := cX9_digest) (maxL := 4) (ret := (some .long)) (by decide) rfl ?_
  intro p e s m args below meth c s₁ B hml hv
  obtain ⟨rfl, hP, hK, hD0, hE⟩ := hv
  have hx := B.exec
  have hb := B.bytes
  have hr := B.returns
  have hts := atoms_spec (ws := wsX9_digest) B.pre
  have hown : s.vm.findClass RX9 = some m.cls := findClass_of_methodNamed B.named
  have hlocks := B.notSynchronized
  have hD := fz_self hD0
  generalize hAe : fz_in (MW cy b M h) = A at hD ⊢
  have hS : va_S A s.heap s.heap [] := va_S.rf
  have hl := lv_entry ([.ref (b 0)]) (n := 4) (Nat.le_of_ble_eq_true rfl)
  rw [lg_entry_eq]
  generalize (lg_sl ([.ref (b 0)]) ++ List.replicate (4 - (lg_sl ([.ref (b 0)])).length) Slot.unset).toArray = ls at hl ⊢
  have hl : lv_has ls 4 [(0, .ref (b 0))] := hl
  have k_25 := hts (.fieldLink RX9 25 "FreezeCreditsModel" "thrown" "I") (by decide +kernel)
  have inX9 : ∀ w ∈ u_ws RX9 TX9 13, w ∈ wsX9_digest := by decide +kernel
  have k_238 := hts (.fieldLink RX9 238 "FreezeCreditsModel" "hash" "J") (by decide +kernel)
  have k_37 := hts (.fieldLink RX9 37 "FreezeCreditsModel" "states" "I") (by decide +kernel)
  have k_7 := hts (.fieldLink RX9 7 "FreezeCreditsModel" "now" "[I") (by decide +kernel)
  obtain ⟨hnt, hnt6, hnc, hnc30, hnl, hnl12, hwk, hwk39, hT, hG, hB, hZo⟩ := id wf
  refine lv_aload_n hx hb dX9_digest_0 rfl (lv_at hl 0 rfl) ?_
  refine lv_iconst (v := 0) hx hb dX9_digest_1 (by decide) ?_
  refine va_put (D := D) (ci := 7) (v := .int 0) (ty := tyX9 6) (C := RX9) (T := TX9) (N := 13) hx hb hts inX9 tyX9 tyX9_ok nmX9 hown hK hP hD hS 0 rfl rfl 6 (by decide) k_25 (fun _ h9 => h9) rfl (by decide +kernel) rfl rfl (Nat.le_of_ble_eq_true rfl) dX9_digest_2 (fun H locs hP hD hS => ?_)
  have hP : va_P D vwCl (ME cy b (M 0 0) (M 0 1) 0 (M 0 3) (M 0 4) (M 0 5) (M 0 6) (M 1) (M 2) (M 3) (M 4) (M 5) h) H := hP
  have hD : va_D A (ME cy b (M 0 0) (M 0 1) 0 (M 0 3) (M 0 4) (M 0 5) (M 0 6) (M 1) (M 2) (M 3) (M 4) (M 5) h) := hD
  obtain ⟨X0, eX0⟩ : ∃ X0, X0 = fz_up M 0 (upd (M 0) 2 0) := ⟨_, rfl⟩
  have hP : va_P D vwCl (MW cy b X0 h) H := by rw [eX0]; exact hP
  have hD : va_D A (MW cy b X0 h) := by rw [eX0]; exact hD
  have wf : fm_wf (X0 1) nt nc nl wk := by rw [eX0]; exact wf
  obtain ⟨hnt, hnt6, hnc, hnc30, hnl, hnl12, hwk, hwk39, hT, hG, hB, hZo⟩ := id wf
  have hwt := fm_wtn_le (X0 1) nc
  refine lv_aload_n hx hb dX9_digest_5 rfl (lv_at hl 0 rfl) ?_
  refine lv_ldc2 (v := 43672) hx hb hown (hts (.constantLong RX9 242 (43672)) (by decide +kernel)) dX9_digest_6 ?_
  refine va_put (D := D) (ci := 7) (v := .long 43672) (ty := tyX9 12) (C := RX9) (T := TX9) (N := 13) hx hb hts inX9 tyX9 tyX9_ok nmX9 hown hK hP hD hS 0 rfl rfl 12 (by decide) k_238 (fun _ h9 => h9) rfl (by decide +kernel) rfl rfl (Nat.le_of_ble_eq_true rfl) dX9_digest_9 (fun H locs hP hD hS => ?_)
  have hP : va_P D vwCl (MW cy b X0 43672) H := hP
  have hD : va_D A (MW cy b X0 43672) := hD
  refine lv_aload_n hx hb dX9_digest_12 rfl (lv_at hl 0 rfl) ?_
  refine lv_aload_n hx hb dX9_digest_13 rfl (lv_at hl 0 rfl) ?_
  refine va_get (D := D) (ci := 7) (v := .int (X0 0 0)) (C := RX9) (T := TX9) (N := 13) hx hb hts inX9 hown hK hP 0 rfl rfl 2 (by decide) k_37 (fun _ h9 => h9) rfl dX9_digest_14 ?_
  refine fz_retMV (ws' := MW cy b X0 (fz_mix 43672 (X0 0 0))) (va_runV (As := [.int (X0 0 0)]) (rest := []) ⟨hx, hb, hml, hown, hts⟩ (c_X9_hashes l D cy b X0 43672 (X0 0 0)) (cwV 1 hts gX9_digest_X9_hashes rfl rfl rfl (by decide +kernel) ⟨Nat.le_of_ble_eq_true rfl, Nat.le_of_ble_eq_true rfl⟩) (fz_preMV (ci := 7) (q0 := 0) hK hP hD rfl rfl rfl fz_T_bl (fun _ _ _ => trivial)) rfl rfl hl.1 rfl (lv_room (Nat.le_of_ble_eq_true rfl)) dX9_digest_17 ⟨Nat.zero_le _, Nat.zero_le _⟩) hP hD hS [0, 1, 2, 3, 4, 5] [] rfl rfl [true, true, true, true, true, true] (And.intro rfl (And.intro rfl (And.intro rfl (And.intro rfl (And.intro rfl (And.intro rfl trivial)))))) rfl rfl (fun H locs hP hD hS => ?_)
  have hP : va_P D vwCl (MW cy b X0 (fz_mix 43672 (X0 0 0))) H := hP
  have hD : va_D A (MW cy b X0 (fz_mix 43672 (X0 0 0))) := hD
  refine lv_iconst (v := 0) hx hb dX9_digest_20 (by decide) ?_
  refine lv_istore_n (lv' := [(1, .int 0), (0, .ref (b 0))]) hx hb dX9_digest_21 rfl hl (by decide) rfl (fun ls hl => ?_)
  refine fz_loopM (σ := Nat × Int64) (pc := 22) (nL := 4) (fun x9 => match x9 with | (k1, h1) => [(0, .ref (b 0)), (1, .int (nI k1))]) (fun x9 => match x9 with | (k1, h1) => MW cy b X0 h1) (fun x9 => match x9 with | (k1, h1) => (k1 ≤ 18) ∧ (h1 = fz_hs (fm_num X0 nt nc nl wk) k1 (fz_mix 43672 (X0 0 0)))) (fun x9 => match x9 with | (k1, h1) => 18 - k1) ?_ (0, fz_mix 43672 (X0 0 0)) (show (0 ≤ 18) ∧ ((fz_mix 43672 (X0 0 0)) = fz_hs (fm_num X0 nt nc nl wk) 0 (fz_mix 43672 (X0 0 0))) from ⟨(by omega), (fz_hs_0 _ _).symm⟩) _ _ ls hP hD hS (lv_sub hl [1, 0] rfl)
  rintro ⟨k1, h1⟩ ⟨hk_k1, e_h1⟩ ih22 H locs ls hP hD hS hl
  have hP : va_P D vwCl (MW cy b X0 h1) H := hP
  have hD : va_D A (MW cy b X0 h1) := hD
  have hk_k1 : k1 ≤ 18 := hk_k1
  have e_h1 : h1 = fz_hs (fm_num X0 nt nc nl wk) k1 (fz_mix 43672 (X0 0 0)) := e_h1
  have hl : lv_has ls 4 [(0, .ref (b 0)), (1, .int (nI k1))] := hl
  refine lv_iload_n hx hb dX9_digest_22 rfl (lv_at hl 1 rfl) ?_
  refine lv_bipush (v := 18) hx hb dX9_digest_23 (by decide) ?_
  refine fz_geN (tgt := 43) hx hb k1 18 rfl rfl dX9_digest_25 (by decide) (by omega) (by omega) (fun c_1 => ?_) (fun c_1 => ?_)
  · skip
    refine lv_iconst (v := 0) hx hb dX9_digest_43 (by decide) ?_
    refine lv_istore_n (lv' := [(1, .int 0), (0, .ref (b 0))]) hx hb dX9_digest_44 rfl hl (by decide) rfl (fun ls hl => ?_)
    refine fz_loopM (σ := Nat × Int64) (pc := 45) (nL := 4) (fun x9 => match x9 with | (k2, h2) => [(0, .ref (b 0)), (1, .int (nI k2))]) (fun x9 => match x9 with | (k2, h2) => MW cy b X0 h2) (fun x9 => match x9 with | (k2, h2) => (k2 ≤ 40) ∧ (h2 = fz_hs (fun w => X0 1 (9 + w)) k2 (fz_hs (fm_num X0 nt nc nl wk) 18 (fz_mix 43672 (X0 0 0))))) (fun x9 => match x9 with | (k2, h2) => 40 - k2) ?_ (0, h1) (show (0 ≤ 40) ∧ (h1 = fz_hs (fun w => X0 1 (9 + w)) 0 (fz_hs (fm_num X0 nt nc nl wk) 18 (fz_mix 43672 (X0 0 0)))) from ⟨(by omega), (by rw [e_h1, show k1 = 18 by omega, fz_hs_0])⟩) _ _ ls hP hD hS (lv_sub hl [1, 0] rfl)
    rintro ⟨k2, h2⟩ ⟨hk_k2, e_h2⟩ ih45 H locs ls hP hD hS hl
    have hP : va_P D vwCl (MW cy b X0 h2) H := hP
    have hD : va_D A (MW cy b X0 h2) := hD
    have hk_k2 : k2 ≤ 40 := hk_k2
    have e_h2 : h2 = fz_hs (fun w => X0 1 (9 + w)) k2 (fz_hs (fm_num X0 nt nc nl wk) 18 (fz_mix 43672 (X0 0 0))) := e_h2
    have hl : lv_has ls 4 [(0, .ref (b 0)), (1, .int (nI k2))] := hl
    refine lv_iload_n hx hb dX9_digest_45 rfl (lv_at hl 1 rfl) ?_
    refine lv_bipush (v := 40) hx hb dX9_digest_46 (by decide) ?_
    refine fz_geN (tgt := 70) hx hb k2 40 rfl rfl dX9_digest_48 (by decide) (by omega) (by omega) (fun c_2 => ?_) (fun c_2 => ?_)
    · skip
      refine lv_iconst (v := 0) hx hb dX9_digest_70 (by decide) ?_
      refine lv_istore_n (lv' := [(1, .int 0), (0, .ref (b 0))]) hx hb dX9_digest_71 rfl hl (by decide) rfl (fun ls hl => ?_)
      refine fz_loopM (σ := Nat × Int64) (pc := 72) (nL := 4) (fun x9 => match x9 with | (k3, h3) => [(0, .ref (b 0)), (1, .int (nI k3))]) (fun x9 => match x9 with | (k3, h3) => MW cy b X0 h3) (fun x9 => match x9 with | (k3, h3) => (k3 ≤ nt) ∧ (h3 = fz_ht (fun t w => fz_tval (fm_V (X0 1)) nc nl t w) 11 (fun t h => fz_mix h (fm_xc (X0 1) nc nl t)) k3 (fm_dg1 X0 nt nc nl wk))) (fun x9 => match x9 with | (k3, h3) => nt - k3) ?_ (0, h2) (show (0 ≤ nt) ∧ (h2 = fz_ht (fun t w => fz_tval (fm_V (X0 1)) nc nl t w) 11 (fun t h => fz_mix h (fm_xc (X0 1) nc nl t)) 0 (fm_dg1 X0 nt nc nl wk)) from ⟨(by omega), (by rw [e_h2, show k2 = 40 by omega, fz_ht_0, fm_dg1])⟩) _ _ ls hP hD hS (lv_sub hl [1, 0] rfl)
      rintro ⟨k3, h3⟩ ⟨hk_k3, e_h3⟩ ih72 H locs ls hP hD hS hl
      have hP : va_P D vwCl (MW cy b X0 h3) H := hP
      have hD : va_D A (MW cy b X0 h3) := hD
      have hk_k3 : k3 ≤ nt := hk_k3
      have e_h3 : h3 = fz_ht (fun t w => fz_tval (fm_V (X0 1)) nc nl t w) 11 (fun t h => fz_mix h (fm_xc (X0 1) nc nl t)) k3 (fm_dg1 X0 nt nc nl wk) := e_h3
      have hl : lv_has ls 4 [(0, .ref (b 0)), (1, .int (nI k3))] := hl
      refine lv_iload_n hx hb dX9_digest_72 rfl (lv_at hl 1 rfl) ?_
      refine lv_aload_n hx hb dX9_digest_73 rfl (lv_at hl 0 rfl) ?_
      refine va_get (D := D) (ci := 7) (v := .ref (b 1)) (C := RX9) (T := TX9) (N := 13) hx hb hts inX9 hown hK hP 0 rfl rfl 0 (by decide) k_7 (fun _ h9 => h9) rfl dX9_digest_74 ?_
      refine lv_iconst (v := 1) hx hb dX9_digest_77 (by decide) ?_
      refine fz_iald (f := X0 1) hx hb hK hP 1 0 rfl rfl 1 rfl (by omega) (by decide) dX9_digest_78 ?_
      refine fz_geN (tgt := 121) hx hb k3 nt rfl hnt dX9_digest_79 (by decide) (by omega) (by omega) (fun c_3 => ?_) (fun c_3 => ?_)
      · skip
        refine lv_iconst (v := 0) hx hb dX9_digest_121 (by decide) ?_
        refine lv_istore_n (lv' := [(1, .int 0), (0, .ref (b 0))]) hx hb dX9_digest_122 rfl hl (by decide) rfl (fun ls hl => ?_)
        refine fz_loopM (σ := Nat × Int64) (pc := 123) (nL := 4) (fun x9 => match x9 with | (k5, h5) => [(0, .ref (b 0)), (1, .int (nI k5))]) (fun x9 => match x9 with | (k5, h5) => MW cy b X0 h5) (fun x9 => match x9 with | (k5, h5) => (k5 ≤ nc) ∧ (h5 = fz_ht (fun c w => fm_c (X0 1) w c) 7 (fun _ h => h) k5 (fm_dg2 X0 nt nc nl wk))) (fun x9 => match x9 with | (k5, h5) => nc - k5) ?_ (0, h3) (show (0 ≤ nc) ∧ (h3 = fz_ht (fun c w => fm_c (X0 1) w c) 7 (fun _ h => h) 0 (fm_dg2 X0 nt nc nl wk)) from ⟨(by omega), (by rw [e_h3, show k3 = nt by omega, fz_ht_0, fm_dg2])⟩) _ _ ls hP hD hS (lv_sub hl [1, 0] rfl)
        rintro ⟨k5, h5⟩ ⟨hk_k5, e_h5⟩ ih123 H locs ls hP hD hS hl
        have hP : va_P D vwCl (MW cy b X0 h5) H := hP
        have hD : va_D A (MW cy b X0 h5) := hD
        have hk_k5 : k5 ≤ nc := hk_k5
        have e_h5 : h5 = fz_ht (fun c w => fm_c (X0 1) w c) 7 (fun _ h => h) k5 (fm_dg2 X0 nt nc nl wk) := e_h5
        have hl : lv_has ls 4 [(0, .ref (b 0)), (1, .int (nI k5))] := hl
        refine lv_iload_n hx hb dX9_digest_123 rfl (lv_at hl 1 rfl) ?_
        refine lv_aload_n hx hb dX9_digest_124 rfl (lv_at hl 0 rfl) ?_
        refine va_get (D := D) (ci := 7) (v := .ref (b 1)) (C := RX9) (T := TX9) (N := 13) hx hb hts inX9 hown hK hP 0 rfl rfl 0 (by decide) k_7 (fun _ h9 => h9) rfl dX9_digest_125 ?_
        refine lv_iconst (v := 2) hx hb dX9_digest_128 (by decide) ?_
        refine fz_iald (f := X0 1) hx hb hK hP 1 0 rfl rfl 2 rfl (by omega) (by decide) dX9_digest_129 ?_
        refine fz_geN (tgt := 163) hx hb k5 nc rfl hnc dX9_digest_130 (by decide) (by omega) (by omega) (fun c_4 => ?_) (fun c_4 => ?_)
        · skip
          refine lv_aload_n hx hb dX9_digest_163 rfl (lv_at hl 0 rfl) ?_
          refine lv_iconst (v := (-1)) hx hb dX9_digest_164 (by decide) ?_
          refine lv_iconst (v := 0) hx hb dX9_digest_165 (by decide) ?_
          refine fz_retR (va_runV (As := [.int (-1), .int 0]) (rest := []) ⟨hx, hb, hml, hown, hts⟩ (c_X9_inState l D cy b X0 h5 (-1) 0 nc hnc hnc30) (cwV 2 hts gX9_digest_X9_inState rfl rfl rfl (by decide +kernel) ⟨Nat.le_of_ble_eq_true rfl, Nat.le_of_ble_eq_true rfl⟩) (fz_preV (ci := 7) (q0 := 0) hK hP rfl rfl rfl fz_T_bl (fun _ _ _ => trivial)) rfl rfl hl.1 rfl (lv_room (Nat.le_of_ble_eq_true rfl)) dX9_digest_166 ⟨Nat.zero_le _, Nat.zero_le _⟩) ?_
          refine lv_aload_n hx hb dX9_digest_169 rfl (lv_at hl 0 rfl) ?_
          refine lv_iconst (v := (-1)) hx hb dX9_digest_170 (by decide) ?_
          refine lv_iconst (v := 1) hx hb dX9_digest_171 (by decide) ?_
          refine fz_retR (va_runV (As := [.int (-1), .int 1]) (rest := [.int (nI (fz_ct (fun i => decide (fm_c (X0 1) 2 i = 0) && (decide ((-1) = -1) || decide (fm_c (X0 1) 0 i = (-1)))) nc))]) ⟨hx, hb, hml, hown, hts⟩ (c_X9_inState l D cy b X0 h5 (-1) 1 nc hnc hnc30) (cwV 2 hts gX9_digest_X9_inState rfl rfl rfl (by decide +kernel) ⟨Nat.le_of_ble_eq_true rfl, Nat.le_of_ble_eq_true rfl⟩) (fz_preV (ci := 7) (q0 := 0) hK hP rfl rfl rfl fz_T_bl (fun _ _ _ => trivial)) rfl rfl hl.1 rfl (lv_room (Nat.le_of_ble_eq_true rfl)) dX9_digest_172 ⟨Nat.zero_le _, Nat.zero_le _⟩) ?_
          refine fz_iaddN hx hb (fz_ct (fun i => decide (fm_c (X0 1) 2 i = 0) && (decide ((-1) = -1) || decide (fm_c (X0 1) 0 i = (-1)))) nc) (fz_ct (fun i => decide (fm_c (X0 1) 2 i = 1) && (decide ((-1) = -1) || decide (fm_c (X0 1) 0 i = (-1)))) nc) rfl rfl dX9_digest_175 ?_
          refine lv_istore_n (lv' := [(1, .int (nI ((fz_ct (fun i => decide (fm_c (X0 1) 2 i = 0) && (decide ((-1) = -1) || decide (fm_c (X0 1) 0 i = (-1)))) nc) + (fz_ct (fun i => decide (fm_c (X0 1) 2 i = 1) && (decide ((-1) = -1) || decide (fm_c (X0 1) 0 i = (-1)))) nc)))), (0, .ref (b 0))]) hx hb dX9_digest_176 rfl hl (by decide) rfl (fun ls hl => ?_)
          refine lv_iconst (v := 0) hx hb dX9_digest_177 (by decide) ?_
          refine lv_istore_n (lv' := [(2, .int 0), (1, .int (nI ((fz_ct (fun i => decide (fm_c (X0 1) 2 i = 0) && (decide ((-1) = -1) || decide (fm_c (X0 1) 0 i = (-1)))) nc) + (fz_ct (fun i => decide (fm_c (X0 1) 2 i = 1) && (decide ((-1) = -1) || decide (fm_c (X0 1) 0 i = (-1)))) nc)))), (0, .ref (b 0))]) hx hb dX9_digest_178 rfl hl (by decide) rfl (fun ls hl => ?_)
          refine fz_loopM (σ := Nat × Int64) (pc := 179) (nL := 4) (fun x9 => match x9 with | (k7, h7) => [(0, .ref (b 0)), (1, .int (nI (fm_wtn (X0 1) nc))), (2, .int (nI k7))]) (fun x9 => match x9 with | (k7, h7) => MW cy b X0 h7) (fun x9 => match x9 with | (k7, h7) => (k7 ≤ fm_wtn (X0 1) nc) ∧ (h7 = fz_hs (fm_pick (fm_wl (X0 1) nc (-1) 1 1 9)) k7 (fz_ht (fun c w => fm_c (X0 1) w c) 7 (fun _ h => h) nc (fm_dg2 X0 nt nc nl wk)))) (fun x9 => match x9 with | (k7, h7) => fm_wtn (X0 1) nc - k7) ?_ (0, h5) (show (0 ≤ fm_wtn (X0 1) nc) ∧ (h5 = fz_hs (fm_pick (fm_wl (X0 1) nc (-1) 1 1 9)) 0 (fz_ht (fun c w => fm_c (X0 1) w c) 7 (fun _ h => h) nc (fm_dg2 X0 nt nc nl wk))) from ⟨(by omega), (by rw [e_h5, show k5 = nc by omega, fz_hs_0])⟩) _ _ ls hP hD hS (lv_sub hl [2, 1, 0] rfl)
          rintro ⟨k7, h7⟩ ⟨hk_k7, e_h7⟩ ih179 H locs ls hP hD hS hl
          have hP : va_P D vwCl (MW cy b X0 h7) H := hP
          have hD : va_D A (MW cy b X0 h7) := hD
          have hk_k7 : k7 ≤ fm_wtn (X0 1) nc := hk_k7
          have e_h7 : h7 = fz_hs (fm_pick (fm_wl (X0 1) nc (-1) 1 1 9)) k7 (fz_ht (fun c w => fm_c (X0 1) w c) 7 (fun _ h => h) nc (fm_dg2 X0 nt nc nl wk)) := e_h7
          have hl : lv_has ls 4 [(0, .ref (b 0)), (1, .int (nI (fm_wtn (X0 1) nc))), (2, .int (nI k7))] := hl
          refine lv_iload_n hx hb dX9_digest_179 rfl (lv_at hl 2 rfl) ?_
          refine lv_iload_n hx hb dX9_digest_180 rfl (lv_at hl 1 rfl) ?_
          refine fz_geN (tgt := 201) hx hb k7 (fm_wtn (X0 1) nc) rfl rfl dX9_digest_181 (by decide) (by omega) (by omega) (fun c_5 => ?_) (fun c_5 => ?_)
          · skip
            refine lv_iconst (v := 0) hx hb dX9_digest_201 (by decide) ?_
            refine lv_istore_n (lv' := [(2, .int 0), (0, .ref (b 0)), (1, .int (nI (fm_wtn (X0 1) nc)))]) hx hb dX9_digest_202 rfl hl (by decide) rfl (fun ls hl => ?_)
            refine fz_loopM (σ := Nat × Int64) (pc := 203) (nL := 4) (fun x9 => match x9 with | (k8, h8) => [(0, .ref (b 0)), (2, .int (nI k8))]) (fun x9 => match x9 with | (k8, h8) => MW cy b X0 h8) (fun x9 => match x9 with | (k8, h8) => (k8 ≤ nl) ∧ (h8 = fz_ht (fun q w => fm_l (X0 1) w q) 6 (fun _ h => h) k8 (fm_dg3 X0 nt nc nl wk))) (fun x9 => match x9 with | (k8, h8) => nl - k8) ?_ (0, h7) (show (0 ≤ nl) ∧ (h7 = fz_ht (fun q w => fm_l (X0 1) w q) 6 (fun _ h => h) 0 (fm_dg3 X0 nt nc nl wk)) from ⟨(by omega), (by rw [e_h7, show k7 = fm_wtn (X0 1) nc by omega, fz_ht_0, fm_dg3])⟩) _ _ ls hP hD hS (lv_sub hl [1, 0] rfl)
            rintro ⟨k8, h8⟩ ⟨hk_k8, e_h8⟩ ih203 H locs ls hP hD hS hl
            have hP : va_P D vwCl (MW cy b X0 h8) H := hP
            have hD : va_D A (MW cy b X0 h8) := hD
            have hk_k8 : k8 ≤ nl := hk_k8
            have e_h8 : h8 = fz_ht (fun q w => fm_l (X0 1) w q) 6 (fun _ h => h) k8 (fm_dg3 X0 nt nc nl wk) := e_h8
            have hl : lv_has ls 4 [(0, .ref (b 0)), (2, .int (nI k8))] := hl
            refine lv_iload_n hx hb dX9_digest_203 rfl (lv_at hl 1 rfl) ?_
            refine lv_aload_n hx hb dX9_digest_204 rfl (lv_at hl 0 rfl) ?_
            refine va_get (D := D) (ci := 7) (v := .ref (b 1)) (C := RX9) (T := TX9) (N := 13) hx hb hts inX9 hown hK hP 0 rfl rfl 0 (by decide) k_7 (fun _ h9 => h9) rfl dX9_digest_205 ?_
            refine lv_iconst (v := 3) hx hb dX9_digest_208 (by decide) ?_
            refine fz_iald (f := X0 1) hx hb hK hP 1 0 rfl rfl 3 rfl (by omega) (by decide) dX9_digest_209 ?_
            refine fz_geN (tgt := 243) hx hb k8 nl rfl hnl dX9_digest_210 (by decide) (by omega) (by omega) (fun c_6 => ?_) (fun c_6 => ?_)
            · skip
              refine lv_aload_n hx hb dX9_digest_243 rfl (lv_at hl 0 rfl) ?_
              refine lv_aload_n hx hb dX9_digest_244 rfl (lv_at hl 0 rfl) ?_
              refine fz_retR (va_runV (As := []) (rest := [.ref (b 0)]) ⟨hx, hb, hml, hown, hts⟩ (c_X9_thaw l D cy b X0 h8 wk hwk hwk39) (cwV 0 hts gX9_digest_X9_thaw rfl rfl rfl (by decide +kernel) ⟨Nat.le_of_ble_eq_true rfl, Nat.le_of_ble_eq_true rfl⟩) (fz_preV (ci := 7) (q0 := 0) hK hP rfl rfl rfl fz_T_bl (fun _ _ _ => trivial)) rfl rfl hl.1 rfl (lv_room (Nat.le_of_ble_eq_true rfl)) dX9_digest_245 ⟨Nat.zero_le _, Nat.zero_le _⟩) ?_
              refine fz_retMV (ws' := MW cy b X0 (fz_mix h8 (fz_thaw (fun i => X0 1 (9 + i)) wk))) (va_runV (As := [.int (fz_thaw (fun i => X0 1 (9 + i)) wk)]) (rest := []) ⟨hx, hb, hml, hown, hts⟩ (c_X9_hashes l D cy b X0 h8 (fz_thaw (fun i => X0 1 (9 + i)) wk)) (cwV 1 hts gX9_digest_X9_hashes rfl rfl rfl (by decide +kernel) ⟨Nat.le_of_ble_eq_true rfl, Nat.le_of_ble_eq_true rfl⟩) (fz_preMV (ci := 7) (q0 := 0) hK hP hD rfl rfl rfl fz_T_bl (fun _ _ _ => trivial)) rfl rfl hl.1 rfl (lv_room (Nat.le_of_ble_eq_true rfl)) dX9_digest_248 ⟨Nat.zero_le _, Nat.zero_le _⟩) hP hD hS [0, 1, 2, 3, 4, 5] [] rfl rfl [true, true, true, true, true, true] (And.intro rfl (And.intro rfl (And.intro rfl (And.intro rfl (And.intro rfl (And.intro rfl trivial)))))) rfl rfl (fun H locs hP hD hS => ?_)
              have hP : va_P D vwCl (MW cy b X0 (fz_mix h8 (fz_thaw (fun i => X0 1 (9 + i)) wk))) H := hP
              have hD : va_D A (MW cy b X0 (fz_mix h8 (fz_thaw (fun i => X0 1 (9 + i)) wk))) := hD
              refine lv_aload_n hx hb dX9_digest_251 rfl (lv_at hl 0 rfl) ?_
              refine va_get (D := D) (ci := 7) (v := .long (fz_mix h8 (fz_thaw (fun i => X0 1 (9 + i)) wk))) (C := RX9) (T := TX9) (N := 13) hx hb hts inX9 hown hK hP 0 rfl rfl 12 (by decide) k_238 (fun _ h9 => h9) rfl dX9_digest_252 ?_
              exact W.lret (v := (fz_mix h8 (fz_thaw (fun i => X0 1 (9 + i)) wk))) hx hb hr (fun t9 ht9 hW9 => ⟨⟨_, (), rfl, (by rw [fm_dg, ← eX0, e_h8, show k8 = nl by omega]), fz_to ht9 (by rw [← eX0, show fm_dg X0 nt nc nl wk = fz_mix h8 (fz_thaw (fun i => X0 1 (9 + i)) wk) from by rw [fm_dg, e_h8, show k8 = nl by omega]]; exact hP)⟩, hS.F ht9⟩) hS.2.2 dX9_digest_255
            · skip
              refine lv_iconst (v := 0) hx hb dX9_digest_213 (by decide) ?_
              refine lv_istore_n (lv' := [(3, .int 0), (0, .ref (b 0)), (2, .int (nI k8))]) hx hb dX9_digest_214 rfl hl (by decide) rfl (fun ls hl => ?_)
              refine fz_loopM (σ := Nat × Int64) (pc := 215) (nL := 4) (fun x9 => match x9 with | (k9, h9) => [(0, .ref (b 0)), (2, .int (nI k8)), (3, .int (nI k9))]) (fun x9 => match x9 with | (k9, h9) => MW cy b X0 h9) (fun x9 => match x9 with | (k9, h9) => (k9 ≤ 6) ∧ (h9 = fz_hs (fun w => fm_l (X0 1) w k8) k9 h8)) (fun x9 => match x9 with | (k9, h9) => 6 - k9) ?_ (0, h8) (show (0 ≤ 6) ∧ (h8 = fz_hs (fun w => fm_l (X0 1) w k8) 0 h8) from ⟨(by omega), (fz_hs_0 _ _).symm⟩) _ _ ls hP hD hS (lv_sub hl [1, 2, 0] rfl)
              rintro ⟨k9, h9⟩ ⟨hk_k9, e_h9⟩ ih215 H locs ls hP hD hS hl
              have hP : va_P D vwCl (MW cy b X0 h9) H := hP
              have hD : va_D A (MW cy b X0 h9) := hD
              have hk_k9 : k9 ≤ 6 := hk_k9
              have e_h9 : h9 = fz_hs (fun w => fm_l (X0 1) w k8) k9 h8 := e_h9
              have hl : lv_has ls 4 [(0, .ref (b 0)), (2, .int (nI k8)), (3, .int (nI k9))] := hl
              refine lv_iload_n hx hb dX9_digest_215 rfl (lv_at hl 2 rfl) ?_
              refine lv_bipush (v := 6) hx hb dX9_digest_216 (by decide) ?_
              refine fz_geN (tgt := 237) hx hb k9 6 rfl rfl dX9_digest_218 (by decide) (by omega) (by omega) (fun c_7 => ?_) (fun c_7 => ?_)
              · skip
                refine lv_iinc (v := nI (k8 + 1)) (lv' := [(2, .int (nI (k8 + 1))), (0, .ref (b 0)), (3, .int (nI k9))]) hx hb dX9_digest_237 hl (k := 1) rfl (fz_inc rfl) (by decide) rfl (fun ls hl => ?_)
                refine lv_goto (tgt := 203) hx hb dX9_digest_240 (by decide) ?_
                exact ih203 (k8 + 1, h9) (show ((k8 + 1) ≤ nl) ∧ (h9 = fz_ht (fun q w => fm_l (X0 1) w q) 6 (fun _ h => h) (k8 + 1) (fm_dg3 X0 nt nc nl wk)) from ⟨(by omega), (by rw [fz_ht, ← e_h8, e_h9, show k9 = 6 by omega])⟩) (by show nl - (k8 + 1) < nl - k8; omega) _ _ ls hP hD hS (lv_sub hl [1, 0] rfl)
              · skip
                refine lv_aload_n hx hb dX9_digest_221 rfl (lv_at hl 0 rfl) ?_
                refine lv_aload_n hx hb dX9_digest_222 rfl (lv_at hl 0 rfl) ?_
                refine lv_iload_n hx hb dX9_digest_223 rfl (lv_at hl 1 rfl) ?_
                refine lv_iload_n hx hb dX9_digest_224 rfl (lv_at hl 2 rfl) ?_
                refine fz_retR (va_runV (As := [.int (nI k8), .int (nI k9)]) (rest := [.ref (b 0)]) ⟨hx, hb, hml, hown, hts⟩ (c_X9_loanOf l D cy b X0 h9 k8 k9 (by omega) (by omega)) (cwV 2 hts gX9_digest_X9_loanOf rfl rfl rfl (by decide +kernel) ⟨Nat.le_of_ble_eq_true rfl, Nat.le_of_ble_eq_true rfl⟩) (fz_preV (ci := 7) (q0 := 0) hK hP rfl rfl rfl fz_T_bl (fun _ _ _ => trivial)) rfl rfl hl.1 rfl (lv_room (Nat.le_of_ble_eq_true rfl)) dX9_digest_225 ⟨Nat.zero_le _, Nat.zero_le _⟩) ?_
                refine fz_retMV (ws' := MW cy b X0 (fz_mix h9 (fm_l (X0 1) k9 k8))) (va_runV (As := [.int (fm_l (X0 1) k9 k8)]) (rest := []) ⟨hx, hb, hml, hown, hts⟩ (c_X9_hashes l D cy b X0 h9 (fm_l (X0 1) k9 k8)) (cwV 1 hts gX9_digest_X9_hashes rfl rfl rfl (by decide +kernel) ⟨Nat.le_of_ble_eq_true rfl, Nat.le_of_ble_eq_true rfl⟩) (fz_preMV (ci := 7) (q0 := 0) hK hP hD rfl rfl rfl fz_T_bl (fun _ _ _ => trivial)) rfl rfl hl.1 rfl (lv_room (Nat.le_of_ble_eq_true rfl)) dX9_digest_228 ⟨Nat.zero_le _, Nat.zero_le _⟩) hP hD hS [0, 1, 2, 3, 4, 5] [] rfl rfl [true, true, true, true, true, true] (And.intro rfl (And.intro rfl (And.intro rfl (And.intro rfl (And.intro rfl (And.intro rfl trivial)))))) rfl rfl (fun H locs hP hD hS => ?_)
                have hP : va_P D vwCl (MW cy b X0 (fz_mix h9 (fm_l (X0 1) k9 k8))) H := hP
                have hD : va_D A (MW cy b X0 (fz_mix h9 (fm_l (X0 1) k9 k8))) := hD
                refine lv_iinc (v := nI (k9 + 1)) (lv' := [(3, .int (nI (k9 + 1))), (0, .ref (b 0)), (2, .int (nI k8))]) hx hb dX9_digest_231 hl (k := 2) rfl (fz_inc rfl) (by decide) rfl (fun ls hl => ?_)
                refine lv_goto (tgt := 215) hx hb dX9_digest_234 (by decide) ?_
                exact ih215 (k9 + 1, fz_mix h9 (fm_l (X0 1) k9 k8)) (show ((k9 + 1) ≤ 6) ∧ ((fz_mix h9 (fm_l (X0 1) k9 k8)) = fz_hs (fun w => fm_l (X0 1) w k8) (k9 + 1) h8) from ⟨(by omega), (by rw [fz_hs, ← e_h9])⟩) (by show 6 - (k9 + 1) < 6 - k9; omega) _ _ ls hP hD hS (lv_sub hl [1, 2, 0] rfl)
          · skip
            refine lv_aload_n hx hb dX9_digest_184 rfl (lv_at hl 0 rfl) ?_
            refine lv_aload_n hx hb dX9_digest_185 rfl (lv_at hl 0 rfl) ?_
            refine lv_iload_n hx hb dX9_digest_186 rfl (lv_at hl 2 rfl) ?_
            refine lv_iconst (v := (-1)) hx hb dX9_digest_187 (by decide) ?_
            refine lv_iconst (v := 1) hx hb dX9_digest_188 (by decide) ?_
            refine fz_retR (va_runV (As := [.int (nI k7), .int (-1), .int 1]) (rest := [.ref (b 0)]) ⟨hx, hb, hml, hown, hts⟩ (c_X9_waits l D cy b X0 h7 k7 (by omega) (-1) 1 nc hnc hnc30) (cwV 3 hts gX9_digest_X9_waits rfl rfl rfl (by decide +kernel) ⟨Nat.le_of_ble_eq_true rfl, Nat.le_of_ble_eq_true rfl⟩) (fz_preV (ci := 7) (q0 := 0) hK hP rfl rfl rfl fz_T_bl (fun _ _ _ => trivial)) rfl rfl hl.1 rfl (lv_room (Nat.le_of_ble_eq_true rfl)) dX9_digest_189 ⟨Nat.zero_le _, Nat.zero_le _⟩) ?_
            refine fz_retMV (ws' := MW cy b X0 (fz_mix h7 (fm_pick (fm_wl (X0 1) nc (-1) 1 1 9) k7))) (va_runV (As := [.int (fm_pick (fm_wl (X0 1) nc (-1) 1 1 9) k7)]) (rest := []) ⟨hx, hb, hml, hown, hts⟩ (c_X9_hashes l D cy b X0 h7 (fm_pick (fm_wl (X0 1) nc (-1) 1 1 9) k7)) (cwV 1 hts gX9_digest_X9_hashes rfl rfl rfl (by decide +kernel) ⟨Nat.le_of_ble_eq_true rfl, Nat.le_of_ble_eq_true rfl⟩) (fz_preMV (ci := 7) (q0 := 0) hK hP hD rfl rfl rfl fz_T_bl (fun _ _ _ => trivial)) rfl rfl hl.1 rfl (lv_room (Nat.le_of_ble_eq_true rfl)) dX9_digest_192 ⟨Nat.zero_le _, Nat.zero_le _⟩) hP hD hS [0, 1, 2, 3, 4, 5] [] rfl rfl [true, true, true, true, true, true] (And.intro rfl (And.intro rfl (And.intro rfl (And.intro rfl (And.intro rfl (And.intro rfl trivial)))))) rfl rfl (fun H locs hP hD hS => ?_)
            have hP : va_P D vwCl (MW cy b X0 (fz_mix h7 (fm_pick (fm_wl (X0 1) nc (-1) 1 1 9) k7))) H := hP
            have hD : va_D A (MW cy b X0 (fz_mix h7 (fm_pick (fm_wl (X0 1) nc (-1) 1 1 9) k7))) := hD
            refine lv_iinc (v := nI (k7 + 1)) (lv' := [(2, .int (nI (k7 + 1))), (0, .ref (b 0)), (1, .int (nI (fm_wtn (X0 1) nc)))]) hx hb dX9_digest_195 hl (k := 2) rfl (fz_inc rfl) (by decide) rfl (fun ls hl => ?_)
            refine lv_goto (tgt := 179) hx hb dX9_digest_198 (by decide) ?_
            exact ih179 (k7 + 1, fz_mix h7 (fm_pick (fm_wl (X0 1) nc (-1) 1 1 9) k7)) (show ((k7 + 1) ≤ fm_wtn (X0 1) nc) ∧ ((fz_mix h7 (fm_pick (fm_wl (X0 1) nc (-1) 1 1 9) k7)) = fz_hs (fm_pick (fm_wl (X0 1) nc (-1) 1 1 9)) (k7 + 1) (fz_ht (fun c w => fm_c (X0 1) w c) 7 (fun _ h => h) nc (fm_dg2 X0 nt nc nl wk))) from ⟨(by omega), (by rw [fz_hs, ← e_h7])⟩) (by show fm_wtn (X0 1) nc - (k7 + 1) < fm_wtn (X0 1) nc - k7; omega) _ _ ls hP hD hS (lv_sub hl [1, 2, 0] rfl)
        · skip
          refine lv_iconst (v := 0) hx hb dX9_digest_133 (by decide) ?_
          refine lv_istore_n (lv' := [(2, .int 0), (0, .ref (b 0)), (1, .int (nI k5))]) hx hb dX9_digest_134 rfl hl (by decide) rfl (fun ls hl => ?_)
          refine fz_loopM (σ := Nat × Int64) (pc := 135) (nL := 4) (fun x9 => match x9 with | (k6, h6) => [(0, .ref (b 0)), (1, .int (nI k5)), (2, .int (nI k6))]) (fun x9 => match x9 with | (k6, h6) => MW cy b X0 h6) (fun x9 => match x9 with | (k6, h6) => (k6 ≤ 7) ∧ (h6 = fz_hs (fun w => fm_c (X0 1) w k5) k6 h5)) (fun x9 => match x9 with | (k6, h6) => 7 - k6) ?_ (0, h5) (show (0 ≤ 7) ∧ (h5 = fz_hs (fun w => fm_c (X0 1) w k5) 0 h5) from ⟨(by omega), (fz_hs_0 _ _).symm⟩) _ _ ls hP hD hS (lv_sub hl [1, 2, 0] rfl)
          rintro ⟨k6, h6⟩ ⟨hk_k6, e_h6⟩ ih135 H locs ls hP hD hS hl
          have hP : va_P D vwCl (MW cy b X0 h6) H := hP
          have hD : va_D A (MW cy b X0 h6) := hD
          have hk_k6 : k6 ≤ 7 := hk_k6
          have e_h6 : h6 = fz_hs (fun w => fm_c (X0 1) w k5) k6 h5 := e_h6
          have hl : lv_has ls 4 [(0, .ref (b 0)), (1, .int (nI k5)), (2, .int (nI k6))] := hl
          refine lv_iload_n hx hb dX9_digest_135 rfl (lv_at hl 2 rfl) ?_
          refine lv_bipush (v := 7) hx hb dX9_digest_136 (by decide) ?_
          refine fz_geN (tgt := 157) hx hb k6 7 rfl rfl dX9_digest_138 (by decide) (by omega) (by omega) (fun c_8 => ?_) (fun c_8 => ?_)
          · skip
            refine lv_iinc (v := nI (k5 + 1)) (lv' := [(1, .int (nI (k5 + 1))), (0, .ref (b 0)), (2, .int (nI k6))]) hx hb dX9_digest_157 hl (k := 1) rfl (fz_inc rfl) (by decide) rfl (fun ls hl => ?_)
            refine lv_goto (tgt := 123) hx hb dX9_digest_160 (by decide) ?_
            exact ih123 (k5 + 1, h6) (show ((k5 + 1) ≤ nc) ∧ (h6 = fz_ht (fun c w => fm_c (X0 1) w c) 7 (fun _ h => h) (k5 + 1) (fm_dg2 X0 nt nc nl wk)) from ⟨(by omega), (by rw [fz_ht, ← e_h5, e_h6, show k6 = 7 by omega])⟩) (by show nc - (k5 + 1) < nc - k5; omega) _ _ ls hP hD hS (lv_sub hl [1, 0] rfl)
          · skip
            refine lv_aload_n hx hb dX9_digest_141 rfl (lv_at hl 0 rfl) ?_
            refine lv_aload_n hx hb dX9_digest_142 rfl (lv_at hl 0 rfl) ?_
            refine lv_iload_n hx hb dX9_digest_143 rfl (lv_at hl 1 rfl) ?_
            refine lv_iload_n hx hb dX9_digest_144 rfl (lv_at hl 2 rfl) ?_
            refine fz_retR (va_runV (As := [.int (nI k5), .int (nI k6)]) (rest := [.ref (b 0)]) ⟨hx, hb, hml, hown, hts⟩ (c_X9_told l D cy b X0 h6 k5 k6 (by omega) (by omega)) (cwV 2 hts gX9_digest_X9_told rfl rfl rfl (by decide +kernel) ⟨Nat.le_of_ble_eq_true rfl, Nat.le_of_ble_eq_true rfl⟩) (fz_preV (ci := 7) (q0 := 0) hK hP rfl rfl rfl fz_T_bl (fun _ _ _ => trivial)) rfl rfl hl.1 rfl (lv_room (Nat.le_of_ble_eq_true rfl)) dX9_digest_145 ⟨Nat.zero_le _, Nat.zero_le _⟩) ?_
            refine fz_retMV (ws' := MW cy b X0 (fz_mix h6 (fm_c (X0 1) k6 k5))) (va_runV (As := [.int (fm_c (X0 1) k6 k5)]) (rest := []) ⟨hx, hb, hml, hown, hts⟩ (c_X9_hashes l D cy b X0 h6 (fm_c (X0 1) k6 k5)) (cwV 1 hts gX9_digest_X9_hashes rfl rfl rfl (by decide +kernel) ⟨Nat.le_of_ble_eq_true rfl, Nat.le_of_ble_eq_true rfl⟩) (fz_preMV (ci := 7) (q0 := 0) hK hP hD rfl rfl rfl fz_T_bl (fun _ _ _ => trivial)) rfl rfl hl.1 rfl (lv_room (Nat.le_of_ble_eq_true rfl)) dX9_digest_148 ⟨Nat.zero_le _, Nat.zero_le _⟩) hP hD hS [0, 1, 2, 3, 4, 5] [] rfl rfl [true, true, true, true, true, true] (And.intro rfl (And.intro rfl (And.intro rfl (And.intro rfl (And.intro rfl (And.intro rfl trivial)))))) rfl rfl (fun H locs hP hD hS => ?_)
            have hP : va_P D vwCl (MW cy b X0 (fz_mix h6 (fm_c (X0 1) k6 k5))) H := hP
            have hD : va_D A (MW cy b X0 (fz_mix h6 (fm_c (X0 1) k6 k5))) := hD
            refine lv_iinc (v := nI (k6 + 1)) (lv' := [(2, .int (nI (k6 + 1))), (0, .ref (b 0)), (1, .int (nI k5))]) hx hb dX9_digest_151 hl (k := 2) rfl (fz_inc rfl) (by decide) rfl (fun ls hl => ?_)
            refine lv_goto (tgt := 135) hx hb dX9_digest_154 (by decide) ?_
            exact ih135 (k6 + 1, fz_mix h6 (fm_c (X0 1) k6 k5)) (show ((k6 + 1) ≤ 7) ∧ ((fz_mix h6 (fm_c (X0 1) k6 k5)) = fz_hs (fun w => fm_c (X0 1) w k5) (k6 + 1) h5) from ⟨(by omega), (by rw [fz_hs, ← e_h6])⟩) (by show 7 - (k6 + 1) < 7 - k6; omega) _ _ ls hP hD hS (lv_sub hl [1, 2, 0] rfl)
      · skip
        refine lv_iconst (v := 0) hx hb dX9_digest_82 (by decide) ?_
        refine lv_istore_n (lv' := [(2, .int 0), (0, .ref (b 0)), (1, .int (nI k3))]) hx hb dX9_digest_83 rfl hl (by decide) rfl (fun ls hl => ?_)
        refine fz_loopM (σ := Nat × Int64) (pc := 84) (nL := 4) (fun x9 => match x9 with | (k4, h4) => [(0, .ref (b 0)), (1, .int (nI k3)), (2, .int (nI k4))]) (fun x9 => match x9 with | (k4, h4) => MW cy b X0 h4) (fun x9 => match x9 with | (k4, h4) => (k4 ≤ 11) ∧ (h4 = fz_hs (fz_tval (fm_V (X0 1)) nc nl k3) k4 h3)) (fun x9 => match x9 with | (k4, h4) => 11 - k4) ?_ (0, h3) (show (0 ≤ 11) ∧ (h3 = fz_hs (fz_tval (fm_V (X0 1)) nc nl k3) 0 h3) from ⟨(by omega), (fz_hs_0 _ _).symm⟩) _ _ ls hP hD hS (lv_sub hl [1, 2, 0] rfl)
        rintro ⟨k4, h4⟩ ⟨hk_k4, e_h4⟩ ih84 H locs ls hP hD hS hl
        have hP : va_P D vwCl (MW cy b X0 h4) H := hP
        have hD : va_D A (MW cy b X0 h4) := hD
        have hk_k4 : k4 ≤ 11 := hk_k4
        have e_h4 : h4 = fz_hs (fz_tval (fm_V (X0 1)) nc nl k3) k4 h3 := e_h4
        have hl : lv_has ls 4 [(0, .ref (b 0)), (1, .int (nI k3)), (2, .int (nI k4))] := hl
        refine lv_iload_n hx hb dX9_digest_84 rfl (lv_at hl 2 rfl) ?_
        refine lv_bipush (v := 11) hx hb dX9_digest_85 (by decide) ?_
        refine fz_geN (tgt := 106) hx hb k4 11 rfl rfl dX9_digest_87 (by decide) (by omega) (by omega) (fun c_9 => ?_) (fun c_9 => ?_)
        · skip
          refine lv_aload_n hx hb dX9_digest_106 rfl (lv_at hl 0 rfl) ?_
          refine lv_aload_n hx hb dX9_digest_107 rfl (lv_at hl 0 rfl) ?_
          refine lv_iload_n hx hb dX9_digest_108 rfl (lv_at hl 1 rfl) ?_
          refine fz_retR (va_runV (As := [.int (nI k3)]) (rest := [.ref (b 0)]) ⟨hx, hb, hml, hown, hts⟩ (c_X9_couldExempt l D cy b X0 h4 nt nc nl wk wf k3 (by omega)) (cwV 1 hts gX9_digest_X9_couldExempt rfl rfl rfl (by decide +kernel) ⟨Nat.le_of_ble_eq_true rfl, Nat.le_of_ble_eq_true rfl⟩) (fz_preV (ci := 7) (q0 := 0) hK hP rfl rfl rfl fz_T_bl (fun _ _ _ => trivial)) rfl rfl hl.1 rfl (lv_room (Nat.le_of_ble_eq_true rfl)) dX9_digest_109 ⟨Nat.zero_le _, Nat.zero_le _⟩) ?_
          refine fz_retMV (ws' := MW cy b X0 (fz_mix h4 (fm_xc (X0 1) nc nl k3))) (va_runV (As := [.int (fm_xc (X0 1) nc nl k3)]) (rest := []) ⟨hx, hb, hml, hown, hts⟩ (c_X9_hashes l D cy b X0 h4 (fm_xc (X0 1) nc nl k3)) (cwV 1 hts gX9_digest_X9_hashes rfl rfl rfl (by decide +kernel) ⟨Nat.le_of_ble_eq_true rfl, Nat.le_of_ble_eq_true rfl⟩) (fz_preMV (ci := 7) (q0 := 0) hK hP hD rfl rfl rfl fz_T_bl (fun _ _ _ => trivial)) rfl rfl hl.1 rfl (lv_room (Nat.le_of_ble_eq_true rfl)) dX9_digest_112 ⟨Nat.zero_le _, Nat.zero_le _⟩) hP hD hS [0, 1, 2, 3, 4, 5] [] rfl rfl [true, true, true, true, true, true] (And.intro rfl (And.intro rfl (And.intro rfl (And.intro rfl (And.intro rfl (And.intro rfl trivial)))))) rfl rfl (fun H locs hP hD hS => ?_)
          have hP : va_P D vwCl (MW cy b X0 (fz_mix h4 (fm_xc (X0 1) nc nl k3))) H := hP
          have hD : va_D A (MW cy b X0 (fz_mix h4 (fm_xc (X0 1) nc nl k3))) := hD
          refine lv_iinc (v := nI (k3 + 1)) (lv' := [(1, .int (nI (k3 + 1))), (0, .ref (b 0)), (2, .int (nI k4))]) hx hb dX9_digest_115 hl (k := 1) rfl (fz_inc rfl) (by decide) rfl (fun ls hl => ?_)
          refine lv_goto (tgt := 72) hx hb dX9_digest_118 (by decide) ?_
          exact ih72 (k3 + 1, fz_mix h4 (fm_xc (X0 1) nc nl k3)) (show ((k3 + 1) ≤ nt) ∧ ((fz_mix h4 (fm_xc (X0 1) nc nl k3)) = fz_ht (fun t w => fz_tval (fm_V (X0 1)) nc nl t w) 11 (fun t h => fz_mix h (fm_xc (X0 1) nc nl t)) (k3 + 1) (fm_dg1 X0 nt nc nl wk)) from ⟨(by omega), (by rw [fz_ht, ← e_h3, e_h4, show k4 = 11 by omega])⟩) (by show nt - (k3 + 1) < nt - k3; omega) _ _ ls hP hD hS (lv_sub hl [1, 0] rfl)
        · skip
          refine lv_aload_n hx hb dX9_digest_90 rfl (lv_at hl 0 rfl) ?_
          refine lv_aload_n hx hb dX9_digest_91 rfl (lv_at hl 0 rfl) ?_
          refine lv_iload_n hx hb dX9_digest_92 rfl (lv_at hl 1 rfl) ?_
          refine lv_iload_n hx hb dX9_digest_93 rfl (lv_at hl 2 rfl) ?_
          refine fz_retR (va_runV (As := [.int (nI k3), .int (nI k4)]) (rest := [.ref (b 0)]) ⟨hx, hb, hml, hown, hts⟩ (c_X9_teamNumber l D cy b X0 h4 nt nc nl wk wf k3 k4 (by omega) (by omega)) (cwV 2 hts gX9_digest_X9_teamNumber rfl rfl rfl (by decide +kernel) ⟨Nat.le_of_ble_eq_true rfl, Nat.le_of_ble_eq_true rfl⟩) (fz_preV (ci := 7) (q0 := 0) hK hP rfl rfl rfl fz_T_bl (fun _ _ _ => trivial)) rfl rfl hl.1 rfl (lv_room (Nat.le_of_ble_eq_true rfl)) dX9_digest_94 ⟨Nat.zero_le _, Nat.zero_le _⟩) ?_
          refine fz_retMV (ws' := MW cy b X0 (fz_mix h4 (fz_tval (fm_V (X0 1)) nc nl k3 k4))) (va_runV (As := [.int (fz_tval (fm_V (X0 1)) nc nl k3 k4)]) (rest := []) ⟨hx, hb, hml, hown, hts⟩ (c_X9_hashes l D cy b X0 h4 (fz_tval (fm_V (X0 1)) nc nl k3 k4)) (cwV 1 hts gX9_digest_X9_hashes rfl rfl rfl (by decide +kernel) ⟨Nat.le_of_ble_eq_true rfl, Nat.le_of_ble_eq_true rfl⟩) (fz_preMV (ci := 7) (q0 := 0) hK hP hD rfl rfl rfl fz_T_bl (fun _ _ _ => trivial)) rfl rfl hl.1 rfl (lv_room (Nat.le_of_ble_eq_true rfl)) dX9_digest_97 ⟨Nat.zero_le _, Nat.zero_le _⟩) hP hD hS [0, 1, 2, 3, 4, 5] [] rfl rfl [true, true, true, true, true, true] (And.intro rfl (And.intro rfl (And.intro rfl (And.intro rfl (And.intro rfl (And.intro rfl trivial)))))) rfl rfl (fun H locs hP hD hS => ?_)
          have hP : va_P D vwCl (MW cy b X0 (fz_mix h4 (fz_tval (fm_V (X0 1)) nc nl k3 k4))) H := hP
          have hD : va_D A (MW cy b X0 (fz_mix h4 (fz_tval (fm_V (X0 1)) nc nl k3 k4))) := hD
          refine lv_iinc (v := nI (k4 + 1)) (lv' := [(2, .int (nI (k4 + 1))), (0, .ref (b 0)), (1, .int (nI k3))]) hx hb dX9_digest_100 hl (k := 2) rfl (fz_inc rfl) (by decide) rfl (fun ls hl => ?_)
          refine lv_goto (tgt := 84) hx hb dX9_digest_103 (by decide) ?_
          exact ih84 (k4 + 1, fz_mix h4 (fz_tval (fm_V (X0 1)) nc nl k3 k4)) (show ((k4 + 1) ≤ 11) ∧ ((fz_mix h4 (fz_tval (fm_V (X0 1)) nc nl k3 k4)) = fz_hs (fz_tval (fm_V (X0 1)) nc nl k3) (k4 + 1) h3) from ⟨(by omega), (by rw [fz_hs, ← e_h4])⟩) (by show 11 - (k4 + 1) < 11 - k4; omega) _ _ ls hP hD hS (lv_sub hl [1, 2, 0] rfl)
    · skip
      refine lv_aload_n hx hb dX9_digest_51 rfl (lv_at hl 0 rfl) ?_
      refine lv_aload_n hx hb dX9_digest_52 rfl (lv_at hl 0 rfl) ?_
      refine va_get (D := D) (ci := 7) (v := .ref (b 1)) (C := RX9) (T := TX9) (N := 13) hx hb hts inX9 hown hK hP 0 rfl rfl 0 (by decide) k_7 (fun _ h9 => h9) rfl dX9_digest_53 ?_
      refine lv_bipush (v := 9) hx hb dX9_digest_56 (by decide) ?_
      refine lv_iload_n hx hb dX9_digest_58 rfl (lv_at hl 1 rfl) ?_
      refine fz_iaddN hx hb 9 k2 rfl rfl dX9_digest_59 ?_
      refine fz_iald (f := X0 1) hx hb hK hP 1 0 rfl rfl (9 + k2) rfl (by omega) (by decide) dX9_digest_60 ?_
      refine fz_retMV (ws' := MW cy b X0 (fz_mix h2 (X0 1 (9 + k2)))) (va_runV (As := [.int (X0 1 (9 + k2))]) (rest := []) ⟨hx, hb, hml, hown, hts⟩ (c_X9_hashes l D cy b X0 h2 (X0 1 (9 + k2))) (cwV 1 hts gX9_digest_X9_hashes rfl rfl rfl (by decide +kernel) ⟨Nat.le_of_ble_eq_true rfl, Nat.le_of_ble_eq_true rfl⟩) (fz_preMV (ci := 7) (q0 := 0) hK hP hD rfl rfl rfl fz_T_bl (fun _ _ _ => trivial)) rfl rfl hl.1 rfl (lv_room (Nat.le_of_ble_eq_true rfl)) dX9_digest_61 ⟨Nat.zero_le _, Nat.zero_le _⟩) hP hD hS [0, 1, 2, 3, 4, 5] [] rfl rfl [true, true, true, true, true, true] (And.intro rfl (And.intro rfl (And.intro rfl (And.intro rfl (And.intro rfl (And.intro rfl trivial)))))) rfl rfl (fun H locs hP hD hS => ?_)
      have hP : va_P D vwCl (MW cy b X0 (fz_mix h2 (X0 1 (9 + k2)))) H := hP
      have hD : va_D A (MW cy b X0 (fz_mix h2 (X0 1 (9 + k2)))) := hD
      refine lv_iinc (v := nI (k2 + 1)) (lv' := [(1, .int (nI (k2 + 1))), (0, .ref (b 0))]) hx hb dX9_digest_64 hl (k := 1) rfl (fz_inc rfl) (by decide) rfl (fun ls hl => ?_)
      refine lv_goto (tgt := 45) hx hb dX9_digest_67 (by decide) ?_
      exact ih45 (k2 + 1, fz_mix h2 (X0 1 (9 + k2))) (show ((k2 + 1) ≤ 40) ∧ ((fz_mix h2 (X0 1 (9 + k2))) = fz_hs (fun w => X0 1 (9 + w)) (k2 + 1) (fz_hs (fm_num X0 nt nc nl wk) 18 (fz_mix 43672 (X0 0 0)))) from ⟨(by omega), (by rw [fz_hs, ← e_h2])⟩) (by show 40 - (k2 + 1) < 40 - k2; omega) _ _ ls hP hD hS (lv_sub hl [1, 0] rfl)
  · skip
    refine lv_aload_n hx hb dX9_digest_28 rfl (lv_at hl 0 rfl) ?_
    refine lv_aload_n hx hb dX9_digest_29 rfl (lv_at hl 0 rfl) ?_
    refine lv_iload_n hx hb dX9_digest_30 rfl (lv_at hl 1 rfl) ?_
    refine fz_retR (va_runV (As := [.int (nI k1)]) (rest := [.ref (b 0)]) ⟨hx, hb, hml, hown, hts⟩ (c_X9_number l D cy b X0 h1 nt nc nl wk wf k1 (by omega)) (cwV 1 hts gX9_digest_X9_number rfl rfl rfl (by decide +kernel) ⟨Nat.le_of_ble_eq_true rfl, Nat.le_of_ble_eq_true rfl⟩) (fz_preV (ci := 7) (q0 := 0) hK hP rfl rfl rfl fz_T_bl (fun _ _ _ => trivial)) rfl rfl hl.1 rfl (lv_room (Nat.le_of_ble_eq_true rfl)) dX9_digest_31 ⟨Nat.zero_le _, Nat.zero_le _⟩) ?_
    refine fz_retMV (ws' := MW cy b X0 (fz_mix h1 (fm_num X0 nt nc nl wk k1))) (va_runV (As := [.int (fm_num X0 nt nc nl wk k1)]) (rest := []) ⟨hx, hb, hml, hown, hts⟩ (c_X9_hashes l D cy b X0 h1 (fm_num X0 nt nc nl wk k1)) (cwV 1 hts gX9_digest_X9_hashes rfl rfl rfl (by decide +kernel) ⟨Nat.le_of_ble_eq_true rfl, Nat.le_of_ble_eq_true rfl⟩) (fz_preMV (ci := 7) (q0 := 0) hK hP hD rfl rfl rfl fz_T_bl (fun _ _ _ => trivial)) rfl rfl hl.1 rfl (lv_room (Nat.le_of_ble_eq_true rfl)) dX9_digest_34 ⟨Nat.zero_le _, Nat.zero_le _⟩) hP hD hS [0, 1, 2, 3, 4, 5] [] rfl rfl [true, true, true, true, true, true] (And.intro rfl (And.intro rfl (And.intro rfl (And.intro rfl (And.intro rfl (And.intro rfl trivial)))))) rfl rfl (fun H locs hP hD hS => ?_)
    have hP : va_P D vwCl (MW cy b X0 (fz_mix h1 (fm_num X0 nt nc nl wk k1))) H := hP
    have hD : va_D A (MW cy b X0 (fz_mix h1 (fm_num X0 nt nc nl wk k1))) := hD
    refine lv_iinc (v := nI (k1 + 1)) (lv' := [(1, .int (nI (k1 + 1))), (0, .ref (b 0))]) hx hb dX9_digest_37 hl (k := 1) rfl (fz_inc rfl) (by decide) rfl (fun ls hl => ?_)
    refine lv_goto (tgt := 22) hx hb dX9_digest_40 (by decide) ?_
    exact ih22 (k1 + 1, fz_mix h1 (fm_num X0 nt nc nl wk k1)) (show ((k1 + 1) ≤ 18) ∧ ((fz_mix h1 (fm_num X0 nt nc nl wk k1)) = fz_hs (fm_num X0 nt nc nl wk) (k1 + 1) (fz_mix 43672 (X0 0 0))) from ⟨(by omega), (by rw [fz_hs, ← e_h1])⟩) (by show 18 - (k1 + 1) < 18 - k1; omega) _ _ ls hP hD hS (lv_sub hl [1, 0] rfl)
