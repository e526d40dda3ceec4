set_option maxHeartbeats 4000000 in
set_option maxRecDepth 100000 in
theorem m_isSound {l : Launch} {D : va_G} {cy : Nat → ClassId} {A : Nat → Prop} {f a t h x ad adK adV : Nat → Nat} {cn : Nat} {V : Nat → Nat → Int32} {L : List Int32} {nt nc nq nl wk B : Nat} (hst : l.stackTraces = false) (J : pJ V nt nc nq nl wk B) (hB : B < 2000000000) : pm_M l yL_isSound wsL_isSound 9 151 3000 18000 D cy A (pE ad adK adV A) [.ref (f 0)] (pS cy f a t h x ad cn V L) (fun r W9 => r = 1 ∧ pS cy f a t h x ad cn V L W9) := by
  refine Met.ofW (cc := cL_isSound) (maxL := 14) (ret := (some .boolean)) (by decide) rfl ?_
  intro p e s m args below meth c s₁ B9 hml hv
  obtain ⟨rfl, hG, hK, hE⟩ := hv
  have hx := B9.exec
  have hb := B9.bytes
  have hr := B9.returns
  have hts := atoms_spec (ws := wsL_isSound) B9.pre
  have hown : s.vm.findClass RL = some m.cls := findClass_of_methodNamed B9.named
  have hlocks := B9.notSynchronized
  have hS : va_S A s.heap s.heap [] := va_S.rf
  have hl := lv_entry ([.ref (f 0)]) (n := 14) (Nat.le_of_ble_eq_true rfl)
  rw [lg_entry_eq]
  generalize (lg_sl ([.ref (f 0)]) ++ List.replicate (14 - (lg_sl ([.ref (f 0)])).length) Slot.unset).toArray = ls at hl ⊢
  have hl : lv_has ls 14 [(0, .ref (f 0))] := hl
  have h6 := J.nt6
  have h30 := J.nc30
  have hqc := J.nqc
  have h12 := J.nl12
  have h39 := J.wk39
  refine lv_iconst (v := 0) hx hb dL_isSound_0 (by decide) ?_
  refine lv_istore_n (lv' := [(1, .int 0), (0, .ref (f 0))]) hx hb dL_isSound_1 rfl hl (by decide) rfl (fun ls hl => ?_)
  refine lv_iconst (v := 0) hx hb dL_isSound_2 (by decide) ?_
  refine lv_istore_n (lv' := [(2, .int 0), (1, .int 0), (0, .ref (f 0))]) hx hb dL_isSound_3 rfl hl (by decide) rfl (fun ls hl => ?_)
  refine lv_iconst (v := 0) hx hb dL_isSound_4 (by decide) ?_
  refine lv_istore_n (lv' := [(3, .int 0), (2, .int 0), (1, .int 0), (0, .ref (f 0))]) hx hb dL_isSound_5 rfl hl (by decide) rfl (fun ls hl => ?_)
  refine lv_iconst (v := 0) hx hb dL_isSound_6 (by decide) ?_
  refine lv_istore (lv' := [(4, .int 0), (3, .int 0), (2, .int 0), (1, .int 0), (0, .ref (f 0))]) hx hb dL_isSound_7 hl (by decide) rfl (fun ls hl => ?_)
  refine lv_iconst (v := 0) hx hb dL_isSound_9 (by decide) ?_
  refine lv_istore (lv' := [(5, .int 0), (4, .int 0), (3, .int 0), (2, .int 0), (1, .int 0), (0, .ref (f 0))]) hx hb dL_isSound_10 hl (by decide) rfl (fun ls hl => ?_)
  refine lv_iconst (v := 0) hx hb dL_isSound_12 (by decide) ?_
  refine lv_istore (lv' := [(6, .int 0), (5, .int 0), (4, .int 0), (3, .int 0), (2, .int 0), (1, .int 0), (0, .ref (f 0))]) hx hb dL_isSound_13 hl (by decide) rfl (fun ls hl => ?_)
  refine lv_iconst (v := 0) hx hb dL_isSound_15 (by decide) ?_
  refine lv_istore (lv' := [(7, .int 0), (6, .int 0), (5, .int 0), (4, .int 0), (3, .int 0), (2, .int 0), (1, .int 0), (0, .ref (f 0))]) hx hb dL_isSound_16 hl (by decide) rfl (fun ls hl => ?_)
  refine lv_iconst (v := 0) hx hb dL_isSound_18 (by decide) ?_
  refine lv_istore (lv' := [(8, .int 0), (7, .int 0), (6, .int 0), (5, .int 0), (4, .int 0), (3, .int 0), (2, .int 0), (1, .int 0), (0, .ref (f 0))]) hx hb dL_isSound_19 hl (by decide) rfl (fun ls hl => ?_)
  refine lv_aload_n hx hb dL_isSound_21 rfl (lv_at hl 8 rfl) ?_
  refine lv_bipush (v := 12) hx hb dL_isSound_22 (by decide) ?_
  refine pw_call (rest := []) (pt_whole hst J 12 (by decide)) ⟨hx, hb, hml, hown, hts⟩ (vx_cwSW 2 hts gL_isSound_L_whole rfl rfl rfl (by decide +kernel) ⟨Nat.le_of_ble_eq_true rfl, Nat.le_of_ble_eq_true rfl⟩) hK hG hS hE.1 rfl hl.1 rfl (Nat.le_of_ble_eq_true rfl) dL_isSound_24 ⟨by show _ + 1 ≤ 3000; omega, by show _ + 6 ≤ 18000; omega⟩ (fun H locs hG hS => ?_)
  refine fz_top (show _ = fz_sum (V 5) nt from rfl) ?_
  refine lv_aload_n hx hb dL_isSound_27 rfl (lv_at hl 8 rfl) ?_
  refine lv_bipush (v := 13) hx hb dL_isSound_28 (by decide) ?_
  refine pw_call (rest := [.int (fz_sum (V 5) nt)]) (pt_whole hst J 13 (by decide)) ⟨hx, hb, hml, hown, hts⟩ (vx_cwSW 2 hts gL_isSound_L_whole rfl rfl rfl (by decide +kernel) ⟨Nat.le_of_ble_eq_true rfl, Nat.le_of_ble_eq_true rfl⟩) hK hG hS hE.1 rfl hl.1 rfl (Nat.le_of_ble_eq_true rfl) dL_isSound_30 ⟨by show _ + 1 ≤ 3000; omega, by show _ + 6 ≤ 18000; omega⟩ (fun H locs hG hS => ?_)
  refine fz_top (show _ = fz_sum (V 6) nt from rfl) ?_
  refine lv_iadd hx hb dL_isSound_33 ?_
  refine lv_aload_n hx hb dL_isSound_34 rfl (lv_at hl 8 rfl) ?_
  refine lv_bipush (v := 14) hx hb dL_isSound_35 (by decide) ?_
  refine pw_call (rest := [.int ((fz_sum (V 5) nt) + (fz_sum (V 6) nt))]) (pt_whole hst J 14 (by decide)) ⟨hx, hb, hml, hown, hts⟩ (vx_cwSW 2 hts gL_isSound_L_whole rfl rfl rfl (by decide +kernel) ⟨Nat.le_of_ble_eq_true rfl, Nat.le_of_ble_eq_true rfl⟩) hK hG hS hE.1 rfl hl.1 rfl (Nat.le_of_ble_eq_true rfl) dL_isSound_37 ⟨by show _ + 1 ≤ 3000; omega, by show _ + 6 ≤ 18000; omega⟩ (fun H locs hG hS => ?_)
  refine fz_top (show _ = fz_sum (V 7) nt from rfl) ?_
  refine lv_aload_n hx hb dL_isSound_40 rfl (lv_at hl 8 rfl) ?_
  refine lv_bipush (v := 10) hx hb dL_isSound_41 (by decide) ?_
  refine pw_call (rest := [.int (fz_sum (V 7) nt), .int ((fz_sum (V 5) nt) + (fz_sum (V 6) nt))]) (pt_whole hst J 10 (by decide)) ⟨hx, hb, hml, hown, hts⟩ (vx_cwSW 2 hts gL_isSound_L_whole rfl rfl rfl (by decide +kernel) ⟨Nat.le_of_ble_eq_true rfl, Nat.le_of_ble_eq_true rfl⟩) hK hG hS hE.1 rfl hl.1 rfl (Nat.le_of_ble_eq_true rfl) dL_isSound_43 ⟨by show _ + 1 ≤ 3000; omega, by show _ + 6 ≤ 18000; omega⟩ (fun H locs hG hS => ?_)
  refine fz_top (show _ = fz_sum (V 4) nt from rfl) ?_
  refine lv_iadd hx hb dL_isSound_46 ?_
  refine lv_aload_n hx hb dL_isSound_47 rfl (lv_at hl 8 rfl) ?_
  refine lv_bipush (v := 11) hx hb dL_isSound_48 (by decide) ?_
  refine pw_call (rest := [.int ((fz_sum (V 7) nt) + (fz_sum (V 4) nt)), .int ((fz_sum (V 5) nt) + (fz_sum (V 6) nt))]) (pt_whole hst J 11 (by decide)) ⟨hx, hb, hml, hown, hts⟩ (vx_cwSW 2 hts gL_isSound_L_whole rfl rfl rfl (by decide +kernel) ⟨Nat.le_of_ble_eq_true rfl, Nat.le_of_ble_eq_true rfl⟩) hK hG hS hE.1 rfl hl.1 rfl (Nat.le_of_ble_eq_true rfl) dL_isSound_50 ⟨by show _ + 1 ≤ 3000; omega, by show _ + 6 ≤ 18000; omega⟩ (fun H locs hG hS => ?_)
  refine fz_top (show _ = fz_sum (V 12) nc from rfl) ?_
  refine lv_iadd hx hb dL_isSound_53 ?_
  refine lv_icmp_ne (tgt := 82) hx hb dL_isSound_54 (by decide) (fun z9 => absurd z9 (not_not_p J.acc)) (fun _ => ?_)
  refine lv_aload_n hx hb dL_isSound_57 rfl (lv_at hl 8 rfl) ?_
  refine lv_bipush (v := 10) hx hb dL_isSound_58 (by decide) ?_
  refine pw_call (rest := []) (pt_whole hst J 10 (by decide)) ⟨hx, hb, hml, hown, hts⟩ (vx_cwSW 2 hts gL_isSound_L_whole rfl rfl rfl (by decide +kernel) ⟨Nat.le_of_ble_eq_true rfl, Nat.le_of_ble_eq_true rfl⟩) hK hG hS hE.1 rfl hl.1 rfl (Nat.le_of_ble_eq_true rfl) dL_isSound_60 ⟨by show _ + 1 ≤ 3000; omega, by show _ + 6 ≤ 18000; omega⟩ (fun H locs hG hS => ?_)
  refine fz_top (show _ = fz_sum (V 4) nt from rfl) ?_
  refine W.widen (k := 6) (n := 36) (by omega) (by omega) ?_
  refine lv_aload_n hx hb dL_isSound_63 rfl (lv_at hl 8 rfl) ?_
  refine lv_bipush (v := 11) hx hb dL_isSound_64 (by decide) ?_
  refine pw_call (rest := [.int (fz_sum (V 4) nt)]) (pt_whole hst J 11 (by decide)) ⟨hx, hb, hml, hown, hts⟩ (vx_cwSW 2 hts gL_isSound_L_whole rfl rfl rfl (by decide +kernel) ⟨Nat.le_of_ble_eq_true rfl, Nat.le_of_ble_eq_true rfl⟩) hK hG hS hE.1 rfl hl.1 rfl (Nat.le_of_ble_eq_true rfl) dL_isSound_66 ⟨by show _ + 1 ≤ 3000; omega, by show _ + 6 ≤ 18000; omega⟩ (fun H locs hG hS => ?_)
  refine fz_top (show _ = fz_sum (V 12) nc from rfl) ?_
  refine lv_iadd hx hb dL_isSound_69 ?_
  refine lv_aload_n hx hb dL_isSound_70 rfl (lv_at hl 8 rfl) ?_
  refine lv_iconst (v := 0) hx hb dL_isSound_71 (by decide) ?_
  refine pw_call (rest := [.int ((fz_sum (V 4) nt) + (fz_sum (V 12) nc))]) (pt_being hst J 0 (by decide)) ⟨hx, hb, hml, hown, hts⟩ (vx_cwSW 2 hts gL_isSound_L_inBeing rfl rfl rfl (by decide +kernel) ⟨Nat.le_of_ble_eq_true rfl, Nat.le_of_ble_eq_true rfl⟩) hK hG hS hE.1 rfl hl.1 rfl (Nat.le_of_ble_eq_true rfl) dL_isSound_72 ⟨by show _ + 1 ≤ 3000; omega, by show _ + 6 ≤ 18000; omega⟩ (fun H locs hG hS => ?_)
  refine fz_top (show _ = fz_sum (V 4) nt + fz_sum (V 12) nc from if_pos (by omega)) ?_
  refine lv_icmp_ne (tgt := 82) hx hb dL_isSound_75 (by decide) (fun z9 => absurd z9 (not_not_p rfl)) (fun _ => ?_)
  refine lv_iconst (v := 1) hx hb dL_isSound_78 (by decide) ?_
  refine lv_goto (tgt := 83) hx hb dL_isSound_79 (by decide) ?_
  refine lv_istore (lv' := [(9, .int 1), (8, .int 0), (7, .int 0), (6, .int 0), (5, .int 0), (4, .int 0), (3, .int 0), (2, .int 0), (1, .int 0), (0, .ref (f 0))]) hx hb dL_isSound_83 hl (by decide) rfl (fun ls hl => ?_)
  refine W.widen (k := 8) (n := 48) (by omega) (by omega) ?_
  refine lv_iconst (v := 0) hx hb dL_isSound_85 (by decide) ?_
  refine lv_istore (lv' := [(10, .int 0), (9, .int 1), (8, .int 0), (7, .int 0), (6, .int 0), (5, .int 0), (4, .int 0), (3, .int 0), (2, .int 0), (1, .int 0), (0, .ref (f 0))]) hx hb dL_isSound_86 hl (by decide) rfl (fun ls hl => ?_)
  have hl : lv_has ls 14 [(10, .int (nI 0)), (9, .int 1), (8, .int (fz_sum (fun i9 => fz_tval V nc nl i9 8) 0)), (7, .int (fz_sum (fun i9 => fz_tval V nc nl i9 7) 0)), (6, .int (fz_sum (fun i9 => fz_tval V nc nl i9 9) 0)), (5, .int (fz_sum (fun i9 => fz_tval V nc nl i9 4) 0)), (4, .int (fz_sum (V 7) 0)), (3, .int (fz_sum (V 6) 0)), (2, .int (fz_sum (fun i9 => fz_tval V nc nl i9 1) 0)), (1, .int (fz_sum (V 4) 0)), (0, .ref (f 0))] := hl
  refine W.widen (k := 100 + 40 * 0) (n := 600 + 240 * 0) (by omega) (by omega) ?_
  refine pw_loop (σ := Nat) (pc := 88) (nL := 14) (rest := []) (fun (ti : Nat) => [(0, .ref (f 0)), (1, .int (fz_sum (V 4) ti)), (2, .int (fz_sum (fun i9 => fz_tval V nc nl i9 1) ti)), (3, .int (fz_sum (V 6) ti)), (4, .int (fz_sum (V 7) ti)), (5, .int (fz_sum (fun i9 => fz_tval V nc nl i9 4) ti)), (6, .int (fz_sum (fun i9 => fz_tval V nc nl i9 9) ti)), (7, .int (fz_sum (fun i9 => fz_tval V nc nl i9 7) ti)), (8, .int (fz_sum (fun i9 => fz_tval V nc nl i9 8) ti)), (9, .int 1), (10, .int (nI ti))]) (fun (ti : Nat) => pS cy f a t h x ad cn V L) (fun (ti : Nat) => (ti ≤ nt)) (fun (ti : Nat) => nt - ti) (fun (ti : Nat) => 100 + 40 * ti) (fun (ti : Nat) => 600 + 240 * ti) ?_ 0 (show (0 ≤ nt) from (Nat.zero_le _)) _ _ ls hG hS (lv_sub hl [10, 9, 8, 7, 6, 5, 4, 3, 2, 1, 0] rfl)
  rintro ti ht ih88 H locs ls hG hS hl
  have ht : ti ≤ nt := ht
  have hG : pG D A (pS cy f a t h x ad cn V L) H := hG
  have hl : lv_has ls 14 [(0, .ref (f 0)), (1, .int (fz_sum (V 4) ti)), (2, .int (fz_sum (fun i9 => fz_tval V nc nl i9 1) ti)), (3, .int (fz_sum (V 6) ti)), (4, .int (fz_sum (V 7) ti)), (5, .int (fz_sum (fun i9 => fz_tval V nc nl i9 4) ti)), (6, .int (fz_sum (fun i9 => fz_tval V nc nl i9 9) ti)), (7, .int (fz_sum (fun i9 => fz_tval V nc nl i9 7) ti)), (8, .int (fz_sum (fun i9 => fz_tval V nc nl i9 8) ti)), (9, .int 1), (10, .int (nI ti))] := hl
  show W _ _ _ _ _ _ _ _ _ _ _ _ (100 + 40 * ti) (600 + 240 * ti) _ _
  refine lv_iload hx hb dL_isSound_88 (lv_at hl 10 rfl) ?_
  refine lv_aload_n hx hb dL_isSound_90 rfl (lv_at hl 0 rfl) ?_
  refine lv_iconst (v := 0) hx hb dL_isSound_91 (by decide) ?_
  refine pw_call (rest := [.int (nI ti)]) (pt_whole hst J 0 (by decide)) ⟨hx, hb, hml, hown, hts⟩ (vx_cwSW 2 hts gL_isSound_L_whole rfl rfl rfl (by decide +kernel) ⟨Nat.le_of_ble_eq_true rfl, Nat.le_of_ble_eq_true rfl⟩) hK hG hS hE.1 rfl hl.1 rfl (Nat.le_of_ble_eq_true rfl) dL_isSound_92 ⟨by show _ + 1 ≤ 3000; omega, by show _ + 6 ≤ 18000; omega⟩ (fun H locs hG hS => ?_)
  refine fz_top (show _ = nI nt from J.e3) ?_
  refine lv_icmp_ge (tgt := 276) hx hb dL_isSound_95 (by decide) (fun c9 => ?_) (fun c9 => ?_)
  · skip
    have e9 : ti = nt := by have := (nI_leI (by omega) (by omega)).mp c9; omega
    rw [e9] at hl
    have hl : lv_has ls 14 [(0, .ref (f 0)), (1, .int (fz_sum (V 4) nt)), (2, .int (fz_sum (fun i9 => fz_tval V nc nl i9 1) nt)), (3, .int (fz_sum (V 6) nt)), (4, .int (fz_sum (V 7) nt)), (5, .int (fz_sum (fun i9 => fz_tval V nc nl i9 4) nt)), (6, .int (fz_sum (fun i9 => fz_tval V nc nl i9 9) nt)), (7, .int (fz_sum (fun i9 => fz_tval V nc nl i9 7) nt)), (8, .int (fz_sum (fun i9 => fz_tval V nc nl i9 8) nt)), (9, .int 1), (10, .int (nI nt))] := hl
    refine lv_iload hx hb dL_isSound_276 (lv_at hl 9 rfl) ?_
    refine lv_if_eq (tgt := 359) hx hb dL_isSound_278 (by decide) (fun z9 => absurd z9 (by decide)) (fun _ => ?_)
    refine lv_iload_n hx hb dL_isSound_281 rfl (lv_at hl 1 rfl) ?_
    refine lv_aload_n hx hb dL_isSound_282 rfl (lv_at hl 0 rfl) ?_
    refine lv_bipush (v := 10) hx hb dL_isSound_283 (by decide) ?_
    refine pw_call (rest := [.int (fz_sum (V 4) nt)]) (pt_whole hst J 10 (by decide)) ⟨hx, hb, hml, hown, hts⟩ (vx_cwSW 2 hts gL_isSound_L_whole rfl rfl rfl (by decide +kernel) ⟨Nat.le_of_ble_eq_true rfl, Nat.le_of_ble_eq_true rfl⟩) hK hG hS hE.1 rfl hl.1 rfl (Nat.le_of_ble_eq_true rfl) dL_isSound_285 ⟨by show _ + 1 ≤ 3000; omega, by show _ + 6 ≤ 18000; omega⟩ (fun H locs hG hS => ?_)
    refine fz_top (show _ = fz_sum (V 4) nt from rfl) ?_
    refine lv_icmp_ne (tgt := 359) hx hb dL_isSound_288 (by decide) (fun z9 => absurd z9 (not_not_p rfl)) (fun _ => ?_)
    refine lv_iload_n hx hb dL_isSound_291 rfl (lv_at hl 2 rfl) ?_
    refine lv_aload_n hx hb dL_isSound_292 rfl (lv_at hl 0 rfl) ?_
    refine lv_bipush (v := 11) hx hb dL_isSound_293 (by decide) ?_
    refine pw_call (rest := [.int (fz_sum (fun i9 => fz_tval V nc nl i9 1) nt)]) (pt_whole hst J 11 (by decide)) ⟨hx, hb, hml, hown, hts⟩ (vx_cwSW 2 hts gL_isSound_L_whole rfl rfl rfl (by decide +kernel) ⟨Nat.le_of_ble_eq_true rfl, Nat.le_of_ble_eq_true rfl⟩) hK hG hS hE.1 rfl hl.1 rfl (Nat.le_of_ble_eq_true rfl) dL_isSound_295 ⟨by show _ + 1 ≤ 3000; omega, by show _ + 6 ≤ 18000; omega⟩ (fun H locs hG hS => ?_)
    refine fz_top (show _ = fz_sum (V 12) nc from rfl) ?_
    refine lv_icmp_ne (tgt := 359) hx hb dL_isSound_298 (by decide) (fun z9 => absurd z9 (not_not_p (sd_held J))) (fun _ => ?_)
    refine lv_iload_n hx hb dL_isSound_301 rfl (lv_at hl 3 rfl) ?_
    refine lv_aload_n hx hb dL_isSound_302 rfl (lv_at hl 0 rfl) ?_
    refine lv_bipush (v := 13) hx hb dL_isSound_303 (by decide) ?_
    refine pw_call (rest := [.int (fz_sum (V 6) nt)]) (pt_whole hst J 13 (by decide)) ⟨hx, hb, hml, hown, hts⟩ (vx_cwSW 2 hts gL_isSound_L_whole rfl rfl rfl (by decide +kernel) ⟨Nat.le_of_ble_eq_true rfl, Nat.le_of_ble_eq_true rfl⟩) hK hG hS hE.1 rfl hl.1 rfl (Nat.le_of_ble_eq_true rfl) dL_isSound_305 ⟨by show _ + 1 ≤ 3000; omega, by show _ + 6 ≤ 18000; omega⟩ (fun H locs hG hS => ?_)
    refine fz_top (show _ = fz_sum (V 6) nt from rfl) ?_
    refine lv_icmp_ne (tgt := 359) hx hb dL_isSound_308 (by decide) (fun z9 => absurd z9 (not_not_p rfl)) (fun _ => ?_)
    refine lv_iload hx hb dL_isSound_311 (lv_at hl 4 rfl) ?_
    refine lv_aload_n hx hb dL_isSound_313 rfl (lv_at hl 0 rfl) ?_
    refine lv_bipush (v := 14) hx hb dL_isSound_314 (by decide) ?_
    refine pw_call (rest := [.int (fz_sum (V 7) nt)]) (pt_whole hst J 14 (by decide)) ⟨hx, hb, hml, hown, hts⟩ (vx_cwSW 2 hts gL_isSound_L_whole rfl rfl rfl (by decide +kernel) ⟨Nat.le_of_ble_eq_true rfl, Nat.le_of_ble_eq_true rfl⟩) hK hG hS hE.1 rfl hl.1 rfl (Nat.le_of_ble_eq_true rfl) dL_isSound_316 ⟨by show _ + 1 ≤ 3000; omega, by show _ + 6 ≤ 18000; omega⟩ (fun H locs hG hS => ?_)
    refine fz_top (show _ = fz_sum (V 7) nt from rfl) ?_
    refine lv_icmp_ne (tgt := 359) hx hb dL_isSound_319 (by decide) (fun z9 => absurd z9 (not_not_p rfl)) (fun _ => ?_)
    refine lv_iload hx hb dL_isSound_322 (lv_at hl 6 rfl) ?_
    refine lv_aload_n hx hb dL_isSound_324 rfl (lv_at hl 0 rfl) ?_
    refine lv_bipush (v := 16) hx hb dL_isSound_325 (by decide) ?_
    refine pw_call (rest := [.int (fz_sum (fun i9 => fz_tval V nc nl i9 9) nt)]) (pt_whole hst J 16 (by decide)) ⟨hx, hb, hml, hown, hts⟩ (vx_cwSW 2 hts gL_isSound_L_whole rfl rfl rfl (by decide +kernel) ⟨Nat.le_of_ble_eq_true rfl, Nat.le_of_ble_eq_true rfl⟩) hK hG hS hE.1 rfl hl.1 rfl (Nat.le_of_ble_eq_true rfl) dL_isSound_327 ⟨by show _ + 1 ≤ 3000; omega, by show _ + 6 ≤ 18000; omega⟩ (fun H locs hG hS => ?_)
    refine fz_top (show _ = fz_wval V nt nc nl wk 16 from rfl) ?_
    refine W.widen (k := (100 + 40 * ti) + 6) (n := (600 + 240 * ti) + 36) (by omega) (by omega) ?_
    refine lv_icmp_ne (tgt := 359) hx hb dL_isSound_330 (by decide) (fun z9 => absurd z9 (not_not_p sd_owing)) (fun _ => ?_)
    refine lv_iload hx hb dL_isSound_333 (lv_at hl 7 rfl) ?_
    refine lv_iload hx hb dL_isSound_335 (lv_at hl 8 rfl) ?_
    refine lv_icmp_ne (tgt := 359) hx hb dL_isSound_337 (by decide) (fun z9 => absurd z9 (not_not_p (sd_lent J))) (fun _ => ?_)
    refine lv_aload_n hx hb dL_isSound_340 rfl (lv_at hl 0 rfl) ?_
    refine lv_aload_n hx hb dL_isSound_341 rfl (lv_at hl 0 rfl) ?_
    refine lv_iconst (v := 0) hx hb dL_isSound_342 (by decide) ?_
    refine pw_call (rest := [.ref (f 0)]) (pt_whole hst J 0 (by decide)) ⟨hx, hb, hml, hown, hts⟩ (vx_cwSW 2 hts gL_isSound_L_whole rfl rfl rfl (by decide +kernel) ⟨Nat.le_of_ble_eq_true rfl, Nat.le_of_ble_eq_true rfl⟩) hK hG hS hE.1 rfl hl.1 rfl (Nat.le_of_ble_eq_true rfl) dL_isSound_343 ⟨by show _ + 1 ≤ 3000; omega, by show _ + 6 ≤ 18000; omega⟩ (fun H locs hG hS => ?_)
    refine fz_top (show _ = nI nt from J.e3) ?_
    refine lv_iconst (v := 0) hx hb dL_isSound_346 (by decide) ?_
    refine pw_call (rest := []) (pt_teamX hst J 0) ⟨hx, hb, hml, hown, hts⟩ (vx_cwSW 3 hts gL_isSound_L_team rfl rfl rfl (by decide +kernel) ⟨Nat.le_of_ble_eq_true rfl, Nat.le_of_ble_eq_true rfl⟩) hK hG hS hE.1 rfl hl.1 rfl (Nat.le_of_ble_eq_true rfl) dL_isSound_347 ⟨by show _ + 2 ≤ 3000; omega, by show _ + 12 ≤ 18000; omega⟩ (fun H locs hG hS => ?_)
    refine lv_bipush (v := (-11)) hx hb dL_isSound_350 (by decide) ?_
    refine lv_icmp_ne (tgt := 359) hx hb dL_isSound_352 (by decide) (fun z9 => absurd z9 (by decide)) (fun _ => ?_)
    refine lv_iconst (v := 1) hx hb dL_isSound_355 (by decide) ?_
    refine lv_goto (tgt := 360) hx hb dL_isSound_356 (by decide) ?_
    have hl : lv_has ls 14 [(0, .ref (f 0)), (1, .int (fz_sum (V 4) nt)), (2, .int (fz_sum (fun i9 => fz_tval V nc nl i9 1) nt)), (3, .int (fz_sum (V 6) nt)), (4, .int (fz_sum (V 7) nt)), (5, .int (nI nq)), (6, .int (fz_sum (fun i9 => fz_tval V nc nl i9 9) nt)), (7, .int (fz_sum (fun i9 => fz_tval V nc nl i9 7) nt)), (8, .int (fz_sum (fun i9 => fz_tval V nc nl i9 8) nt)), (9, .int 1), (10, .int (nI nt))] := by rw [show (fz_sum (fun i9 => fz_tval V nc nl i9 4) nt) = nI nq from sd_wait J] at hl; exact hl
    refine lv_istore (lv' := [(9, .int 1), (0, .ref (f 0)), (1, .int (fz_sum (V 4) nt)), (2, .int (fz_sum (fun i9 => fz_tval V nc nl i9 1) nt)), (3, .int (fz_sum (V 6) nt)), (4, .int (fz_sum (V 7) nt)), (5, .int (nI nq)), (6, .int (fz_sum (fun i9 => fz_tval V nc nl i9 9) nt)), (7, .int (fz_sum (fun i9 => fz_tval V nc nl i9 7) nt)), (8, .int (fz_sum (fun i9 => fz_tval V nc nl i9 8) nt)), (10, .int (nI nt))]) hx hb dL_isSound_360 hl (by decide) rfl (fun ls hl => ?_)
    refine W.widen (k := (100 + 40 * ti) + 9) (n := (600 + 240 * ti) + 54) (by omega) (by omega) ?_
    refine lv_iconst (v := 0) hx hb dL_isSound_362 (by decide) ?_
    refine lv_istore (lv' := [(10, .int 0), (9, .int 1), (0, .ref (f 0)), (1, .int (fz_sum (V 4) nt)), (2, .int (fz_sum (fun i9 => fz_tval V nc nl i9 1) nt)), (3, .int (fz_sum (V 6) nt)), (4, .int (fz_sum (V 7) nt)), (5, .int (nI nq)), (6, .int (fz_sum (fun i9 => fz_tval V nc nl i9 9) nt)), (7, .int (fz_sum (fun i9 => fz_tval V nc nl i9 7) nt)), (8, .int (fz_sum (fun i9 => fz_tval V nc nl i9 8) nt))]) hx hb dL_isSound_363 hl (by decide) rfl (fun ls hl => ?_)
    refine lv_iconst (v := 0) hx hb dL_isSound_365 (by decide) ?_
    refine lv_istore (lv' := [(11, .int 0), (10, .int 0), (9, .int 1), (0, .ref (f 0)), (1, .int (fz_sum (V 4) nt)), (2, .int (fz_sum (fun i9 => fz_tval V nc nl i9 1) nt)), (3, .int (fz_sum (V 6) nt)), (4, .int (fz_sum (V 7) nt)), (5, .int (nI nq)), (6, .int (fz_sum (fun i9 => fz_tval V nc nl i9 9) nt)), (7, .int (fz_sum (fun i9 => fz_tval V nc nl i9 7) nt)), (8, .int (fz_sum (fun i9 => fz_tval V nc nl i9 8) nt))]) hx hb dL_isSound_366 hl (by decide) rfl (fun ls hl => ?_)
    have hl : lv_has ls 14 [(11, .int (nI 0)), (10, .int (fz_sum (V 12) 0)), (9, .int 1), (0, .ref (f 0)), (1, .int (fz_sum (V 4) nt)), (2, .int (fz_sum (fun i9 => fz_tval V nc nl i9 1) nt)), (3, .int (fz_sum (V 6) nt)), (4, .int (fz_sum (V 7) nt)), (5, .int (nI nq)), (6, .int (fz_sum (fun i9 => fz_tval V nc nl i9 9) nt)), (7, .int (fz_sum (fun i9 => fz_tval V nc nl i9 7) nt)), (8, .int (fz_sum (fun i9 => fz_tval V nc nl i9 8) nt))] := hl
    refine W.widen (k := 400 + 30 * 0) (n := 2400 + 180 * 0) (by omega) (by omega) ?_
    refine pw_loop (σ := Nat) (pc := 368) (nL := 14) (rest := []) (fun (c : Nat) => [(0, .ref (f 0)), (2, .int (fz_sum (fun i9 => fz_tval V nc nl i9 1) nt)), (5, .int (nI nq)), (9, .int 1), (10, .int (fz_sum (V 12) c)), (11, .int (nI c))]) (fun (c : Nat) => pS cy f a t h x ad cn V L) (fun (c : Nat) => (c ≤ nc)) (fun (c : Nat) => nc - c) (fun (c : Nat) => 400 + 30 * c) (fun (c : Nat) => 2400 + 180 * c) ?_ 0 (show (0 ≤ nc) from (Nat.zero_le _)) _ _ ls hG hS (lv_sub hl [3, 5, 8, 2, 1, 0] rfl)
    rintro c hc ih368 H locs ls hG hS hl
    have hc : c ≤ nc := hc
    have hG : pG D A (pS cy f a t h x ad cn V L) H := hG
    have hl : lv_has ls 14 [(0, .ref (f 0)), (2, .int (fz_sum (fun i9 => fz_tval V nc nl i9 1) nt)), (5, .int (nI nq)), (9, .int 1), (10, .int (fz_sum (V 12) c)), (11, .int (nI c))] := hl
    show W _ _ _ _ _ _ _ _ _ _ _ _ (400 + 30 * c) (2400 + 180 * c) _ _
    refine lv_iload hx hb dL_isSound_368 (lv_at hl 5 rfl) ?_
    refine lv_aload_n hx hb dL_isSound_370 rfl (lv_at hl 0 rfl) ?_
    refine lv_iconst (v := 1) hx hb dL_isSound_371 (by decide) ?_
    refine pw_call (rest := [.int (nI c)]) (pt_whole hst J 1 (by decide)) ⟨hx, hb, hml, hown, hts⟩ (vx_cwSW 2 hts gL_isSound_L_whole rfl rfl rfl (by decide +kernel) ⟨Nat.le_of_ble_eq_true rfl, Nat.le_of_ble_eq_true rfl⟩) hK hG hS hE.1 rfl hl.1 rfl (Nat.le_of_ble_eq_true rfl) dL_isSound_372 ⟨by show _ + 1 ≤ 3000; omega, by show _ + 6 ≤ 18000; omega⟩ (fun H locs hG hS => ?_)
    refine fz_top (show _ = nI nc from J.e8) ?_
    refine lv_icmp_ge (tgt := 499) hx hb dL_isSound_375 (by decide) (fun c9 => ?_) (fun c9 => ?_)
    · skip
      have e9 : c = nc := by have := (nI_leI (by omega) (by omega)).mp c9; omega
      rw [e9] at hl
      have hl : lv_has ls 14 [(0, .ref (f 0)), (2, .int (fz_sum (fun i9 => fz_tval V nc nl i9 1) nt)), (5, .int (nI nq)), (9, .int 1), (10, .int (fz_sum (V 12) nc)), (11, .int (nI nc))] := hl
      refine lv_iconst (v := 0) hx hb dL_isSound_499 (by decide) ?_
      refine lv_istore (lv' := [(11, .int 0), (0, .ref (f 0)), (2, .int (fz_sum (fun i9 => fz_tval V nc nl i9 1) nt)), (5, .int (nI nq)), (9, .int 1), (10, .int (fz_sum (V 12) nc))]) hx hb dL_isSound_500 hl (by decide) rfl (fun ls hl => ?_)
      refine W.widen (k := (400 + 30 * c) + 1) (n := (2400 + 180 * c) + 6) (by omega) (by omega) ?_
      have hl : lv_has ls 14 [(11, .int (nI 0)), (0, .ref (f 0)), (2, .int (fz_sum (fun i9 => fz_tval V nc nl i9 1) nt)), (5, .int (nI nq)), (9, .int 1), (10, .int (fz_sum (V 12) nc))] := hl
      refine W.widen (k := 1400 + 30 * 0) (n := 8400 + 180 * 0) (by omega) (by omega) ?_
      refine pw_loop (σ := Nat) (pc := 502) (nL := 14) (rest := []) (fun (k : Nat) => [(0, .ref (f 0)), (2, .int (fz_sum (fun i9 => fz_tval V nc nl i9 1) nt)), (5, .int (nI nq)), (9, .int 1), (10, .int (fz_sum (V 12) nc)), (11, .int (nI k))]) (fun (k : Nat) => pS cy f a t h x ad cn V L) (fun (k : Nat) => (k ≤ nq)) (fun (k : Nat) => nq - k) (fun (k : Nat) => 1400 + 30 * k) (fun (k : Nat) => 8400 + 180 * k) ?_ 0 (show (0 ≤ nq) from (Nat.zero_le _)) _ _ ls hG hS (lv_sub hl [1, 2, 3, 4, 5, 0] rfl)
      rintro k hk ih502 H locs ls hG hS hl
      have hk : k ≤ nq := hk
      have hG : pG D A (pS cy f a t h x ad cn V L) H := hG
      have hl : lv_has ls 14 [(0, .ref (f 0)), (2, .int (fz_sum (fun i9 => fz_tval V nc nl i9 1) nt)), (5, .int (nI nq)), (9, .int 1), (10, .int (fz_sum (V 12) nc)), (11, .int (nI k))] := hl
      show W _ _ _ _ _ _ _ _ _ _ _ _ (1400 + 30 * k) (8400 + 180 * k) _ _
      refine lv_iload hx hb dL_isSound_502 (lv_at hl 5 rfl) ?_
      refine lv_iload hx hb dL_isSound_504 (lv_at hl 2 rfl) ?_
      refine lv_icmp_ge (tgt := 636) hx hb dL_isSound_506 (by decide) (fun c9 => ?_) (fun c9 => ?_)
      · skip
        refine lv_iconst (v := 0) hx hb dL_isSound_636 (by decide) ?_
        refine lv_istore (lv' := [(11, .int 0), (0, .ref (f 0)), (2, .int (fz_sum (fun i9 => fz_tval V nc nl i9 1) nt)), (5, .int (nI nq)), (9, .int 1), (10, .int (fz_sum (V 12) nc))]) hx hb dL_isSound_637 hl (by decide) rfl (fun ls hl => ?_)
        refine lv_iconst (v := 0) hx hb dL_isSound_639 (by decide) ?_
        refine lv_istore (lv' := [(12, .int 0), (11, .int 0), (0, .ref (f 0)), (2, .int (fz_sum (fun i9 => fz_tval V nc nl i9 1) nt)), (5, .int (nI nq)), (9, .int 1), (10, .int (fz_sum (V 12) nc))]) hx hb dL_isSound_640 hl (by decide) rfl (fun ls hl => ?_)
        have hl : lv_has ls 14 [(12, .int (nI 0)), (11, .int (nI (fz_ct (fun i => !(decide (V 21 i ≤ 0))) 0))), (0, .ref (f 0)), (2, .int (fz_sum (fun i9 => fz_tval V nc nl i9 1) nt)), (5, .int (nI nq)), (9, .int 1), (10, .int (fz_sum (V 12) nc))] := hl
        refine W.widen (k := 2400 + 20 * 0) (n := 14400 + 120 * 0) (by omega) (by omega) ?_
        refine pw_loop (σ := Nat) (pc := 642) (nL := 14) (rest := []) (fun (q : Nat) => [(0, .ref (f 0)), (2, .int (fz_sum (fun i9 => fz_tval V nc nl i9 1) nt)), (5, .int (nI nq)), (9, .int 1), (10, .int (fz_sum (V 12) nc)), (11, .int (nI (fz_ct (fun i => !(decide (V 21 i ≤ 0))) q))), (12, .int (nI q))]) (fun (q : Nat) => pS cy f a t h x ad cn V L) (fun (q : Nat) => (q ≤ nl)) (fun (q : Nat) => nl - q) (fun (q : Nat) => 2400 + 20 * q) (fun (q : Nat) => 14400 + 120 * q) ?_ 0 (show (0 ≤ nl) from (Nat.zero_le _)) _ _ ls hG hS (lv_sub hl [2, 3, 4, 5, 6, 1, 0] rfl)
        rintro q hq ih642 H locs ls hG hS hl
        have hq : q ≤ nl := hq
        have hG : pG D A (pS cy f a t h x ad cn V L) H := hG
        have hl : lv_has ls 14 [(0, .ref (f 0)), (2, .int (fz_sum (fun i9 => fz_tval V nc nl i9 1) nt)), (5, .int (nI nq)), (9, .int 1), (10, .int (fz_sum (V 12) nc)), (11, .int (nI (fz_ct (fun i => !(decide (V 21 i ≤ 0))) q))), (12, .int (nI q))] := hl
        show W _ _ _ _ _ _ _ _ _ _ _ _ (2400 + 20 * q) (14400 + 120 * q) _ _
        refine lv_iload hx hb dL_isSound_642 (lv_at hl 6 rfl) ?_
        refine lv_aload_n hx hb dL_isSound_644 rfl (lv_at hl 0 rfl) ?_
        refine lv_iconst (v := 2) hx hb dL_isSound_645 (by decide) ?_
        refine pw_call (rest := [.int (nI q)]) (pt_whole hst J 2 (by decide)) ⟨hx, hb, hml, hown, hts⟩ (vx_cwSW 2 hts gL_isSound_L_whole rfl rfl rfl (by decide +kernel) ⟨Nat.le_of_ble_eq_true rfl, Nat.le_of_ble_eq_true rfl⟩) hK hG hS hE.1 rfl hl.1 rfl (Nat.le_of_ble_eq_true rfl) dL_isSound_646 ⟨by show _ + 1 ≤ 3000; omega, by show _ + 6 ≤ 18000; omega⟩ (fun H locs hG hS => ?_)
        refine fz_top (show _ = nI nl from J.e17) ?_
        refine lv_icmp_ge (tgt := 751) hx hb dL_isSound_649 (by decide) (fun c9 => ?_) (fun c9 => ?_)
        · skip
          have e9 : q = nl := by have := (nI_leI (by omega) (by omega)).mp c9; omega
          rw [e9] at hl
          have hl : lv_has ls 14 [(0, .ref (f 0)), (2, .int (fz_sum (fun i9 => fz_tval V nc nl i9 1) nt)), (5, .int (nI nq)), (9, .int 1), (10, .int (fz_sum (V 12) nc)), (11, .int (nI (fz_ct (fun i => !(decide (V 21 i ≤ 0))) nl))), (12, .int (nI nl))] := hl
          refine lv_iload hx hb dL_isSound_751 (lv_at hl 3 rfl) ?_
          refine lv_if_eq (tgt := 816) hx hb dL_isSound_753 (by decide) (fun z9 => absurd z9 (by decide)) (fun _ => ?_)
          refine lv_iload hx hb dL_isSound_756 (lv_at hl 4 rfl) ?_
          refine lv_iload_n hx hb dL_isSound_758 rfl (lv_at hl 1 rfl) ?_
          refine lv_icmp_ne (tgt := 816) hx hb dL_isSound_759 (by decide) (fun z9 => absurd z9 (not_not_p (sd_held J).symm)) (fun _ => ?_)
          refine lv_iload hx hb dL_isSound_762 (lv_at hl 5 rfl) ?_
          refine lv_aload_n hx hb dL_isSound_764 rfl (lv_at hl 0 rfl) ?_
          refine lv_iconst (v := 3) hx hb dL_isSound_765 (by decide) ?_
          refine pw_call (rest := [.int (nI (fz_ct (fun i => !(decide (V 21 i ≤ 0))) nl))]) (pt_whole hst J 3 (by decide)) ⟨hx, hb, hml, hown, hts⟩ (vx_cwSW 2 hts gL_isSound_L_whole rfl rfl rfl (by decide +kernel) ⟨Nat.le_of_ble_eq_true rfl, Nat.le_of_ble_eq_true rfl⟩) hK hG hS hE.1 rfl hl.1 rfl (Nat.le_of_ble_eq_true rfl) dL_isSound_766 ⟨by show _ + 1 ≤ 3000; omega, by show _ + 6 ≤ 18000; omega⟩ (fun H locs hG hS => ?_)
          refine fz_top (show _ = nI (fz_ct (fun i => !(decide (V 21 i ≤ 0))) nl) from rfl) ?_
          refine lv_icmp_ne (tgt := 816) hx hb dL_isSound_769 (by decide) (fun z9 => absurd z9 (not_not_p rfl)) (fun _ => ?_)
          refine lv_aload_n hx hb dL_isSound_772 rfl (lv_at hl 0 rfl) ?_
          refine lv_iload hx hb dL_isSound_773 (lv_at hl 2 rfl) ?_
          refine pw_call (rest := []) (pt_waiting hst J nq (by omega)) ⟨hx, hb, hml, hown, hts⟩ (vx_cwSW 2 hts gL_isSound_L_waiting rfl rfl rfl (by decide +kernel) ⟨Nat.le_of_ble_eq_true rfl, Nat.le_of_ble_eq_true rfl⟩) hK hG hS hE.1 rfl hl.1 rfl (Nat.le_of_ble_eq_true rfl) dL_isSound_775 ⟨by show _ + 1 ≤ 3000; omega, by show _ + 6 ≤ 18000; omega⟩ (fun H locs hG hS => ?_)
          refine fz_top (show _ = (-1) from if_neg (by omega)) ?_
          refine lv_iconst (v := (-1)) hx hb dL_isSound_778 (by decide) ?_
          refine lv_icmp_ne (tgt := 816) hx hb dL_isSound_779 (by decide) (fun z9 => absurd z9 (by decide)) (fun _ => ?_)
          refine lv_aload_n hx hb dL_isSound_782 rfl (lv_at hl 0 rfl) ?_
          refine lv_aload_n hx hb dL_isSound_783 rfl (lv_at hl 0 rfl) ?_
          refine lv_iconst (v := 1) hx hb dL_isSound_784 (by decide) ?_
          refine pw_call (rest := [.ref (f 0)]) (pt_whole hst J 1 (by decide)) ⟨hx, hb, hml, hown, hts⟩ (vx_cwSW 2 hts gL_isSound_L_whole rfl rfl rfl (by decide +kernel) ⟨Nat.le_of_ble_eq_true rfl, Nat.le_of_ble_eq_true rfl⟩) hK hG hS hE.1 rfl hl.1 rfl (Nat.le_of_ble_eq_true rfl) dL_isSound_785 ⟨by show _ + 1 ≤ 3000; omega, by show _ + 6 ≤ 18000; omega⟩ (fun H locs hG hS => ?_)
          refine fz_top (show _ = nI nc from J.e8) ?_
          refine lv_iconst (v := 0) hx hb dL_isSound_788 (by decide) ?_
          refine pw_call (rest := []) (pt_changeX hst J 0) ⟨hx, hb, hml, hown, hts⟩ (vx_cwSW 3 hts gL_isSound_L_change rfl rfl rfl (by decide +kernel) ⟨Nat.le_of_ble_eq_true rfl, Nat.le_of_ble_eq_true rfl⟩) hK hG hS hE.1 rfl hl.1 rfl (Nat.le_of_ble_eq_true rfl) dL_isSound_789 ⟨by show _ + 2 ≤ 3000; omega, by show _ + 12 ≤ 18000; omega⟩ (fun H locs hG hS => ?_)
          refine lv_bipush (v := (-11)) hx hb dL_isSound_792 (by decide) ?_
          refine lv_icmp_ne (tgt := 816) hx hb dL_isSound_794 (by decide) (fun z9 => absurd z9 (by decide)) (fun _ => ?_)
          refine lv_aload_n hx hb dL_isSound_797 rfl (lv_at hl 0 rfl) ?_
          refine lv_aload_n hx hb dL_isSound_798 rfl (lv_at hl 0 rfl) ?_
          refine lv_iconst (v := 2) hx hb dL_isSound_799 (by decide) ?_
          refine pw_call (rest := [.ref (f 0)]) (pt_whole hst J 2 (by decide)) ⟨hx, hb, hml, hown, hts⟩ (vx_cwSW 2 hts gL_isSound_L_whole rfl rfl rfl (by decide +kernel) ⟨Nat.le_of_ble_eq_true rfl, Nat.le_of_ble_eq_true rfl⟩) hK hG hS hE.1 rfl hl.1 rfl (Nat.le_of_ble_eq_true rfl) dL_isSound_800 ⟨by show _ + 1 ≤ 3000; omega, by show _ + 6 ≤ 18000; omega⟩ (fun H locs hG hS => ?_)
          refine fz_top (show _ = nI nl from J.e17) ?_
          refine W.widen (k := (2400 + 20 * q) + 7) (n := (14400 + 120 * q) + 42) (by omega) (by omega) ?_
          refine lv_iconst (v := 0) hx hb dL_isSound_803 (by decide) ?_
          refine pw_call (rest := []) (pt_loanX hst J 0) ⟨hx, hb, hml, hown, hts⟩ (vx_cwSW 3 hts gL_isSound_L_loan rfl rfl rfl (by decide +kernel) ⟨Nat.le_of_ble_eq_true rfl, Nat.le_of_ble_eq_true rfl⟩) hK hG hS hE.1 rfl hl.1 rfl (Nat.le_of_ble_eq_true rfl) dL_isSound_804 ⟨by show _ + 1 ≤ 3000; omega, by show _ + 6 ≤ 18000; omega⟩ (fun H locs hG hS => ?_)
          refine lv_bipush (v := (-11)) hx hb dL_isSound_807 (by decide) ?_
          refine lv_icmp_ne (tgt := 816) hx hb dL_isSound_809 (by decide) (fun z9 => absurd z9 (by decide)) (fun _ => ?_)
          refine lv_iconst (v := 1) hx hb dL_isSound_812 (by decide) ?_
          refine lv_goto (tgt := 817) hx hb dL_isSound_813 (by decide) ?_
          refine W.widen (k := 3000) (n := 18000) (by omega) (by omega) ?_
          obtain ⟨Wn, h9, hP, hD⟩ := hG
          exact W.zret (v := 1) hx hb hr (by decide) (fun t9 ht9 hW9 => ⟨⟨_, Wn, rfl, ⟨⟨rfl, h9⟩, hD⟩, fz_to ht9 hP⟩, hS.F ht9⟩) hS.2.2 dL_isSound_817
        · skip
          have hi : q < nl := Nat.lt_of_not_le fun z => c9 ((nI_leI (by omega) (by omega)).mpr z)
          refine lv_iload hx hb dL_isSound_652 (lv_at hl 3 rfl) ?_
          refine lv_if_eq (tgt := 751) hx hb dL_isSound_654 (by decide) (fun z9 => absurd z9 (by decide)) (fun _ => ?_)
          refine lv_iload hx hb dL_isSound_657 (lv_at hl 5 rfl) ?_
          refine lv_aload_n hx hb dL_isSound_659 rfl (lv_at hl 0 rfl) ?_
          refine lv_iload hx hb dL_isSound_660 (lv_at hl 6 rfl) ?_
          refine lv_iconst (v := 3) hx hb dL_isSound_662 (by decide) ?_
          refine pw_call (rest := [.int (nI (fz_ct (fun i => !(decide (V 21 i ≤ 0))) q))]) (pt_loan hst J q 3 hi (by decide)) ⟨hx, hb, hml, hown, hts⟩ (vx_cwSW 3 hts gL_isSound_L_loan rfl rfl rfl (by decide +kernel) ⟨Nat.le_of_ble_eq_true rfl, Nat.le_of_ble_eq_true rfl⟩) hK hG hS hE.1 rfl hl.1 rfl (Nat.le_of_ble_eq_true rfl) dL_isSound_663 ⟨by show _ + 1 ≤ 3000; omega, by show _ + 6 ≤ 18000; omega⟩ (fun H locs hG hS => ?_)
          refine fz_top (show _ = V 21 q from rfl) ?_
          refine lv_if_le (tgt := 673) hx hb dL_isSound_666 (by decide) (fun c7 => ?_) (fun c7 => ?_)
          · skip
            have e7 : fz_ct (fun i => !(decide (V 21 i ≤ 0))) (q + 1) = fz_ct (fun i => !(decide (V 21 i ≤ 0))) q + 0 := by rw [fz_ct, decide_eq_true c7]; rfl
            refine lv_iconst (v := 0) hx hb dL_isSound_673 (by decide) ?_
            refine lv_iadd hx hb dL_isSound_674 ?_
            refine fz_top (show _ = nI (fz_ct (fun i => !(decide (V 21 i ≤ 0))) (q + 1)) from (by rw [e7]; exact nI_add _ _)) ?_
            refine lv_istore (lv' := [(11, .int (nI (fz_ct (fun i => !(decide (V 21 i ≤ 0))) (q + 1)))), (0, .ref (f 0)), (2, .int (fz_sum (fun i9 => fz_tval V nc nl i9 1) nt)), (5, .int (nI nq)), (9, .int 1), (10, .int (fz_sum (V 12) nc)), (12, .int (nI q))]) hx hb dL_isSound_675 hl (by decide) rfl (fun ls hl => ?_)
            refine W.widen (k := (2400 + 20 * q) + 2) (n := (14400 + 120 * q) + 12) (by omega) (by omega) ?_
            refine lv_aload_n hx hb dL_isSound_677 rfl (lv_at hl 1 rfl) ?_
            refine lv_iload hx hb dL_isSound_678 (lv_at hl 6 rfl) ?_
            refine lv_iconst (v := 3) hx hb dL_isSound_680 (by decide) ?_
            refine pw_call (rest := []) (pt_loan hst J q 3 hi (by decide)) ⟨hx, hb, hml, hown, hts⟩ (vx_cwSW 3 hts gL_isSound_L_loan rfl rfl rfl (by decide +kernel) ⟨Nat.le_of_ble_eq_true rfl, Nat.le_of_ble_eq_true rfl⟩) hK hG hS hE.1 rfl hl.1 rfl (Nat.le_of_ble_eq_true rfl) dL_isSound_681 ⟨by show _ + 1 ≤ 3000; omega, by show _ + 6 ≤ 18000; omega⟩ (fun H locs hG hS => ?_)
            refine fz_top (show _ = V 21 q from rfl) ?_
            refine lv_if_lt (tgt := 742) hx hb dL_isSound_684 (by decide) (fun z9 => absurd z9 (sd_left0 J hi)) (fun _ => ?_)
            refine lv_aload_n hx hb dL_isSound_687 rfl (lv_at hl 1 rfl) ?_
            refine lv_iload hx hb dL_isSound_688 (lv_at hl 6 rfl) ?_
            refine lv_iconst (v := 3) hx hb dL_isSound_690 (by decide) ?_
            refine pw_call (rest := []) (pt_loan hst J q 3 hi (by decide)) ⟨hx, hb, hml, hown, hts⟩ (vx_cwSW 3 hts gL_isSound_L_loan rfl rfl rfl (by decide +kernel) ⟨Nat.le_of_ble_eq_true rfl, Nat.le_of_ble_eq_true rfl⟩) hK hG hS hE.1 rfl hl.1 rfl (Nat.le_of_ble_eq_true rfl) dL_isSound_691 ⟨by show _ + 1 ≤ 3000; omega, by show _ + 6 ≤ 18000; omega⟩ (fun H locs hG hS => ?_)
            refine fz_top (show _ = V 21 q from rfl) ?_
            refine lv_aload_n hx hb dL_isSound_694 rfl (lv_at hl 1 rfl) ?_
            refine lv_iload hx hb dL_isSound_695 (lv_at hl 6 rfl) ?_
            refine lv_iconst (v := 2) hx hb dL_isSound_697 (by decide) ?_
            refine pw_call (rest := [.int (V 21 q)]) (pt_loan hst J q 2 hi (by decide)) ⟨hx, hb, hml, hown, hts⟩ (vx_cwSW 3 hts gL_isSound_L_loan rfl rfl rfl (by decide +kernel) ⟨Nat.le_of_ble_eq_true rfl, Nat.le_of_ble_eq_true rfl⟩) hK hG hS hE.1 rfl hl.1 rfl (Nat.le_of_ble_eq_true rfl) dL_isSound_698 ⟨by show _ + 1 ≤ 3000; omega, by show _ + 6 ≤ 18000; omega⟩ (fun H locs hG hS => ?_)
            refine fz_top (show _ = V 20 q from rfl) ?_
            refine lv_icmp_gt (tgt := 742) hx hb dL_isSound_701 (by decide) (fun z9 => absurd z9 (Int32.not_lt.mpr (J.loans q hi).2.1)) (fun _ => ?_)
            refine lv_aload_n hx hb dL_isSound_704 rfl (lv_at hl 1 rfl) ?_
            refine lv_iload hx hb dL_isSound_705 (lv_at hl 6 rfl) ?_
            refine lv_iconst (v := 0) hx hb dL_isSound_707 (by decide) ?_
            refine pw_call (rest := []) (pt_loan hst J q 0 hi (by decide)) ⟨hx, hb, hml, hown, hts⟩ (vx_cwSW 3 hts gL_isSound_L_loan rfl rfl rfl (by decide +kernel) ⟨Nat.le_of_ble_eq_true rfl, Nat.le_of_ble_eq_true rfl⟩) hK hG hS hE.1 rfl hl.1 rfl (Nat.le_of_ble_eq_true rfl) dL_isSound_708 ⟨by show _ + 1 ≤ 3000; omega, by show _ + 6 ≤ 18000; omega⟩ (fun H locs hG hS => ?_)
            refine fz_top (show _ = V 18 q from rfl) ?_
            refine lv_aload_n hx hb dL_isSound_711 rfl (lv_at hl 1 rfl) ?_
            refine lv_iload hx hb dL_isSound_712 (lv_at hl 6 rfl) ?_
            refine lv_iconst (v := 1) hx hb dL_isSound_714 (by decide) ?_
            refine pw_call (rest := [.int (V 18 q)]) (pt_loan hst J q 1 hi (by decide)) ⟨hx, hb, hml, hown, hts⟩ (vx_cwSW 3 hts gL_isSound_L_loan rfl rfl rfl (by decide +kernel) ⟨Nat.le_of_ble_eq_true rfl, Nat.le_of_ble_eq_true rfl⟩) hK hG hS hE.1 rfl hl.1 rfl (Nat.le_of_ble_eq_true rfl) dL_isSound_715 ⟨by show _ + 1 ≤ 3000; omega, by show _ + 6 ≤ 18000; omega⟩ (fun H locs hG hS => ?_)
            refine fz_top (show _ = V 19 q from rfl) ?_
            refine lv_icmp_eq (tgt := 742) hx hb dL_isSound_718 (by decide) (fun z9 => absurd z9 (J.loans q hi).1) (fun _ => ?_)
            refine lv_aload_n hx hb dL_isSound_721 rfl (lv_at hl 1 rfl) ?_
            refine lv_iload hx hb dL_isSound_722 (lv_at hl 6 rfl) ?_
            refine lv_iconst (v := 5) hx hb dL_isSound_724 (by decide) ?_
            refine pw_call (rest := []) (pt_loan hst J q 5 hi (by decide)) ⟨hx, hb, hml, hown, hts⟩ (vx_cwSW 3 hts gL_isSound_L_loan rfl rfl rfl (by decide +kernel) ⟨Nat.le_of_ble_eq_true rfl, Nat.le_of_ble_eq_true rfl⟩) hK hG hS hE.1 rfl hl.1 rfl (Nat.le_of_ble_eq_true rfl) dL_isSound_725 ⟨by show _ + 1 ≤ 3000; omega, by show _ + 6 ≤ 18000; omega⟩ (fun H locs hG hS => ?_)
            refine fz_top (show _ = V 23 q from rfl) ?_
            refine W.widen (k := (2400 + 20 * q) + 8) (n := (14400 + 120 * q) + 48) (by omega) (by omega) ?_
            refine lv_aload_n hx hb dL_isSound_728 rfl (lv_at hl 1 rfl) ?_
            refine lv_iload hx hb dL_isSound_729 (lv_at hl 6 rfl) ?_
            refine lv_iconst (v := 4) hx hb dL_isSound_731 (by decide) ?_
            refine pw_call (rest := [.int (V 23 q)]) (pt_loan hst J q 4 hi (by decide)) ⟨hx, hb, hml, hown, hts⟩ (vx_cwSW 3 hts gL_isSound_L_loan rfl rfl rfl (by decide +kernel) ⟨Nat.le_of_ble_eq_true rfl, Nat.le_of_ble_eq_true rfl⟩) hK hG hS hE.1 rfl hl.1 rfl (Nat.le_of_ble_eq_true rfl) dL_isSound_732 ⟨by show _ + 1 ≤ 3000; omega, by show _ + 6 ≤ 18000; omega⟩ (fun H locs hG hS => ?_)
            refine fz_top (show _ = V 22 q from rfl) ?_
            refine lv_icmp_gt (tgt := 742) hx hb dL_isSound_735 (by decide) (fun z9 => absurd z9 (Int32.not_lt.mpr (J.loans q hi).2.2)) (fun _ => ?_)
            refine lv_iconst (v := 1) hx hb dL_isSound_738 (by decide) ?_
            refine lv_goto (tgt := 743) hx hb dL_isSound_739 (by decide) ?_
            refine lv_istore (lv' := [(9, .int 1), (11, .int (nI (fz_ct (fun i => !(decide (V 21 i ≤ 0))) (q + 1)))), (0, .ref (f 0)), (2, .int (fz_sum (fun i9 => fz_tval V nc nl i9 1) nt)), (5, .int (nI nq)), (10, .int (fz_sum (V 12) nc)), (12, .int (nI q))]) hx hb dL_isSound_743 hl (by decide) rfl (fun ls hl => ?_)
            refine W.widen (k := (2400 + 20 * q) + 9) (n := (14400 + 120 * q) + 54) (by omega) (by omega) ?_
            refine lv_iinc (v := nI (q + 1)) (lv' := [(12, .int (nI (q + 1))), (9, .int 1), (11, .int (nI (fz_ct (fun i => !(decide (V 21 i ≤ 0))) (q + 1)))), (0, .ref (f 0)), (2, .int (fz_sum (fun i9 => fz_tval V nc nl i9 1) nt)), (5, .int (nI nq)), (10, .int (fz_sum (V 12) nc))]) hx hb dL_isSound_745 hl (k := 6) rfl (nI_add _ 1) (by decide) rfl (fun ls hl => ?_)
            refine lv_goto (tgt := 642) hx hb dL_isSound_748 (by decide) ?_
            have hl : lv_has ls 14 [(12, .int (nI (q + 1))), (9, .int 1), (11, .int (nI (fz_ct (fun i => !(decide (V 21 i ≤ 0))) (q + 1)))), (0, .ref (f 0)), (2, .int (fz_sum (fun i9 => fz_tval V nc nl i9 1) nt)), (5, .int (nI nq)), (10, .int (fz_sum (V 12) nc))] := hl
            refine W.widen (k := 2400 + 20 * (q + 1)) (n := 14400 + 120 * (q + 1)) (by omega) (by omega) ?_
            exact ih642 (q + 1) (show ((q + 1) ≤ nl) from hi) (by show nl - (q + 1) < nl - q; omega) _ _ ls hG hS (lv_sub hl [3, 4, 5, 1, 6, 2, 0] rfl)
          · skip
            have e7 : fz_ct (fun i => !(decide (V 21 i ≤ 0))) (q + 1) = fz_ct (fun i => !(decide (V 21 i ≤ 0))) q + 1 := by rw [fz_ct, decide_eq_false c7]; rfl
            refine lv_iconst (v := 1) hx hb dL_isSound_669 (by decide) ?_
            refine lv_goto (tgt := 674) hx hb dL_isSound_670 (by decide) ?_
            refine lv_iadd hx hb dL_isSound_674 ?_
            refine fz_top (show _ = nI (fz_ct (fun i => !(decide (V 21 i ≤ 0))) (q + 1)) from (by rw [e7]; exact nI_add _ _)) ?_
            refine lv_istore (lv' := [(11, .int (nI (fz_ct (fun i => !(decide (V 21 i ≤ 0))) (q + 1)))), (0, .ref (f 0)), (2, .int (fz_sum (fun i9 => fz_tval V nc nl i9 1) nt)), (5, .int (nI nq)), (9, .int 1), (10, .int (fz_sum (V 12) nc)), (12, .int (nI q))]) hx hb dL_isSound_675 hl (by decide) rfl (fun ls hl => ?_)
            refine W.widen (k := (2400 + 20 * q) + 2) (n := (14400 + 120 * q) + 12) (by omega) (by omega) ?_
            refine lv_aload_n hx hb dL_isSound_677 rfl (lv_at hl 1 rfl) ?_
            refine lv_iload hx hb dL_isSound_678 (lv_at hl 6 rfl) ?_
            refine lv_iconst (v := 3) hx hb dL_isSound_680 (by decide) ?_
            refine pw_call (rest := []) (pt_loan hst J q 3 hi (by decide)) ⟨hx, hb, hml, hown, hts⟩ (vx_cwSW 3 hts gL_isSound_L_loan rfl rfl rfl (by decide +kernel) ⟨Nat.le_of_ble_eq_true rfl, Nat.le_of_ble_eq_true rfl⟩) hK hG hS hE.1 rfl hl.1 rfl (Nat.le_of_ble_eq_true rfl) dL_isSound_681 ⟨by show _ + 1 ≤ 3000; omega, by show _ + 6 ≤ 18000; omega⟩ (fun H locs hG hS => ?_)
            refine fz_top (show _ = V 21 q from rfl) ?_
            refine lv_if_lt (tgt := 742) hx hb dL_isSound_684 (by decide) (fun z9 => absurd z9 (sd_left0 J hi)) (fun _ => ?_)
            refine lv_aload_n hx hb dL_isSound_687 rfl (lv_at hl 1 rfl) ?_
            refine lv_iload hx hb dL_isSound_688 (lv_at hl 6 rfl) ?_
            refine lv_iconst (v := 3) hx hb dL_isSound_690 (by decide) ?_
            refine pw_call (rest := []) (pt_loan hst J q 3 hi (by decide)) ⟨hx, hb, hml, hown, hts⟩ (vx_cwSW 3 hts gL_isSound_L_loan rfl rfl rfl (by decide +kernel) ⟨Nat.le_of_ble_eq_true rfl, Nat.le_of_ble_eq_true rfl⟩) hK hG hS hE.1 rfl hl.1 rfl (Nat.le_of_ble_eq_true rfl) dL_isSound_691 ⟨by show _ + 1 ≤ 3000; omega, by show _ + 6 ≤ 18000; omega⟩ (fun H locs hG hS => ?_)
            refine fz_top (show _ = V 21 q from rfl) ?_
            refine lv_aload_n hx hb dL_isSound_694 rfl (lv_at hl 1 rfl) ?_
            refine lv_iload hx hb dL_isSound_695 (lv_at hl 6 rfl) ?_
            refine lv_iconst (v := 2) hx hb dL_isSound_697 (by decide) ?_
            refine pw_call (rest := [.int (V 21 q)]) (pt_loan hst J q 2 hi (by decide)) ⟨hx, hb, hml, hown, hts⟩ (vx_cwSW 3 hts gL_isSound_L_loan rfl rfl rfl (by decide +kernel) ⟨Nat.le_of_ble_eq_true rfl, Nat.le_of_ble_eq_true rfl⟩) hK hG hS hE.1 rfl hl.1 rfl (Nat.le_of_ble_eq_true rfl) dL_isSound_698 ⟨by show _ + 1 ≤ 3000; omega, by show _ + 6 ≤ 18000; omega⟩ (fun H locs hG hS => ?_)
            refine fz_top (show _ = V 20 q from rfl) ?_
            refine lv_icmp_gt (tgt := 742) hx hb dL_isSound_701 (by decide) (fun z9 => absurd z9 (Int32.not_lt.mpr (J.loans q hi).2.1)) (fun _ => ?_)
            refine lv_aload_n hx hb dL_isSound_704 rfl (lv_at hl 1 rfl) ?_
            refine lv_iload hx hb dL_isSound_705 (lv_at hl 6 rfl) ?_
            refine lv_iconst (v := 0) hx hb dL_isSound_707 (by decide) ?_
            refine pw_call (rest := []) (pt_loan hst J q 0 hi (by decide)) ⟨hx, hb, hml, hown, hts⟩ (vx_cwSW 3 hts gL_isSound_L_loan rfl rfl rfl (by decide +kernel) ⟨Nat.le_of_ble_eq_true rfl, Nat.le_of_ble_eq_true rfl⟩) hK hG hS hE.1 rfl hl.1 rfl (Nat.le_of_ble_eq_true rfl) dL_isSound_708 ⟨by show _ + 1 ≤ 3000; omega, by show _ + 6 ≤ 18000; omega⟩ (fun H locs hG hS => ?_)
            refine fz_top (show _ = V 18 q from rfl) ?_
            refine lv_aload_n hx hb dL_isSound_711 rfl (lv_at hl 1 rfl) ?_
            refine lv_iload hx hb dL_isSound_712 (lv_at hl 6 rfl) ?_
            refine lv_iconst (v := 1) hx hb dL_isSound_714 (by decide) ?_
            refine pw_call (rest := [.int (V 18 q)]) (pt_loan hst J q 1 hi (by decide)) ⟨hx, hb, hml, hown, hts⟩ (vx_cwSW 3 hts gL_isSound_L_loan rfl rfl rfl (by decide +kernel) ⟨Nat.le_of_ble_eq_true rfl, Nat.le_of_ble_eq_true rfl⟩) hK hG hS hE.1 rfl hl.1 rfl (Nat.le_of_ble_eq_true rfl) dL_isSound_715 ⟨by show _ + 1 ≤ 3000; omega, by show _ + 6 ≤ 18000; omega⟩ (fun H locs hG hS => ?_)
            refine fz_top (show _ = V 19 q from rfl) ?_
            refine lv_icmp_eq (tgt := 742) hx hb dL_isSound_718 (by decide) (fun z9 => absurd z9 (J.loans q hi).1) (fun _ => ?_)
            refine lv_aload_n hx hb dL_isSound_721 rfl (lv_at hl 1 rfl) ?_
            refine lv_iload hx hb dL_isSound_722 (lv_at hl 6 rfl) ?_
            refine lv_iconst (v := 5) hx hb dL_isSound_724 (by decide) ?_
            refine pw_call (rest := []) (pt_loan hst J q 5 hi (by decide)) ⟨hx, hb, hml, hown, hts⟩ (vx_cwSW 3 hts gL_isSound_L_loan rfl rfl rfl (by decide +kernel) ⟨Nat.le_of_ble_eq_true rfl, Nat.le_of_ble_eq_true rfl⟩) hK hG hS hE.1 rfl hl.1 rfl (Nat.le_of_ble_eq_true rfl) dL_isSound_725 ⟨by show _ + 1 ≤ 3000; omega, by show _ + 6 ≤ 18000; omega⟩ (fun H locs hG hS => ?_)
            refine fz_top (show _ = V 23 q from rfl) ?_
            refine W.widen (k := (2400 + 20 * q) + 8) (n := (14400 + 120 * q) + 48) (by omega) (by omega) ?_
            refine lv_aload_n hx hb dL_isSound_728 rfl (lv_at hl 1 rfl) ?_
            refine lv_iload hx hb dL_isSound_729 (lv_at hl 6 rfl) ?_
            refine lv_iconst (v := 4) hx hb dL_isSound_731 (by decide) ?_
            refine pw_call (rest := [.int (V 23 q)]) (pt_loan hst J q 4 hi (by decide)) ⟨hx, hb, hml, hown, hts⟩ (vx_cwSW 3 hts gL_isSound_L_loan rfl rfl rfl (by decide +kernel) ⟨Nat.le_of_ble_eq_true rfl, Nat.le_of_ble_eq_true rfl⟩) hK hG hS hE.1 rfl hl.1 rfl (Nat.le_of_ble_eq_true rfl) dL_isSound_732 ⟨by show _ + 1 ≤ 3000; omega, by show _ + 6 ≤ 18000; omega⟩ (fun H locs hG hS => ?_)
            refine fz_top (show _ = V 22 q from rfl) ?_
            refine lv_icmp_gt (tgt := 742) hx hb dL_isSound_735 (by decide) (fun z9 => absurd z9 (Int32.not_lt.mpr (J.loans q hi).2.2)) (fun _ => ?_)
            refine lv_iconst (v := 1) hx hb dL_isSound_738 (by decide) ?_
            refine lv_goto (tgt := 743) hx hb dL_isSound_739 (by decide) ?_
            refine lv_istore (lv' := [(9, .int 1), (11, .int (nI (fz_ct (fun i => !(decide (V 21 i ≤ 0))) (q + 1)))), (0, .ref (f 0)), (2, .int (fz_sum (fun i9 => fz_tval V nc nl i9 1) nt)), (5, .int (nI nq)), (10, .int (fz_sum (V 12) nc)), (12, .int (nI q))]) hx hb dL_isSound_743 hl (by decide) rfl (fun ls hl => ?_)
            refine W.widen (k := (2400 + 20 * q) + 9) (n := (14400 + 120 * q) + 54) (by omega) (by omega) ?_
            refine lv_iinc (v := nI (q + 1)) (lv' := [(12, .int (nI (q + 1))), (9, .int 1), (11, .int (nI (fz_ct (fun i => !(decide (V 21 i ≤ 0))) (q + 1)))), (0, .ref (f 0)), (2, .int (fz_sum (fun i9 => fz_tval V nc nl i9 1) nt)), (5, .int (nI nq)), (10, .int (fz_sum (V 12) nc))]) hx hb dL_isSound_745 hl (k := 6) rfl (nI_add _ 1) (by decide) rfl (fun ls hl => ?_)
            refine lv_goto (tgt := 642) hx hb dL_isSound_748 (by decide) ?_
            have hl : lv_has ls 14 [(12, .int (nI (q + 1))), (9, .int 1), (11, .int (nI (fz_ct (fun i => !(decide (V 21 i ≤ 0))) (q + 1)))), (0, .ref (f 0)), (2, .int (fz_sum (fun i9 => fz_tval V nc nl i9 1) nt)), (5, .int (nI nq)), (10, .int (fz_sum (V 12) nc))] := hl
            refine W.widen (k := 2400 + 20 * (q + 1)) (n := 14400 + 120 * (q + 1)) (by omega) (by omega) ?_
            exact ih642 (q + 1) (show ((q + 1) ≤ nl) from hi) (by show nl - (q + 1) < nl - q; omega) _ _ ls hG hS (lv_sub hl [3, 4, 5, 1, 6, 2, 0] rfl)
      · skip
        have hi : k < nq := Nat.lt_of_not_le fun z => c9 ((nI_leI (by omega) (by omega)).mpr z)
        refine lv_iload hx hb dL_isSound_509 (lv_at hl 3 rfl) ?_
        refine lv_if_eq (tgt := 636) hx hb dL_isSound_511 (by decide) (fun z9 => absurd z9 (by decide)) (fun _ => ?_)
        obtain ⟨b, hb2, eb, hs2⟩ := sd_at J hi
        refine lv_aload_n hx hb dL_isSound_514 rfl (lv_at hl 0 rfl) ?_
        refine lv_iload hx hb dL_isSound_515 (lv_at hl 5 rfl) ?_
        refine pw_call (rest := []) (pt_waiting hst J k (by omega)) ⟨hx, hb, hml, hown, hts⟩ (vx_cwSW 2 hts gL_isSound_L_waiting rfl rfl rfl (by decide +kernel) ⟨Nat.le_of_ble_eq_true rfl, Nat.le_of_ble_eq_true rfl⟩) hK hG hS hE.1 rfl hl.1 rfl (Nat.le_of_ble_eq_true rfl) dL_isSound_517 ⟨by show _ + 1 ≤ 3000; omega, by show _ + 6 ≤ 18000; omega⟩ (fun H locs hG hS => ?_)
        refine fz_top (show _ = nI b from (if_pos hi).trans eb) ?_
        refine lv_istore (lv' := [(12, .int (nI b)), (0, .ref (f 0)), (2, .int (fz_sum (fun i9 => fz_tval V nc nl i9 1) nt)), (5, .int (nI nq)), (9, .int 1), (10, .int (fz_sum (V 12) nc)), (11, .int (nI k))]) hx hb dL_isSound_520 hl (by decide) rfl (fun ls hl => ?_)
        refine W.widen (k := (1400 + 30 * k) + 1) (n := (8400 + 180 * k) + 6) (by omega) (by omega) ?_
        by_cases hn : k + 1 < nq
        · skip
          refine lv_aload_n hx hb dL_isSound_522 rfl (lv_at hl 1 rfl) ?_
          obtain ⟨d, hd2, ed, ho⟩ := sd_next J hn hb2 eb; rcases ho with ho | ho
          · skip
            refine lv_iload hx hb dL_isSound_523 (lv_at hl 6 rfl) ?_
            refine lv_iconst (v := 1) hx hb dL_isSound_525 (by decide) ?_
            refine lv_iadd hx hb dL_isSound_526 ?_
            refine fz_at0 (show ((nI k) + 1) = nI (k + 1) from nI_1 k) ?_
            refine pw_call (rest := []) (pt_waiting hst J (k + 1) (by omega)) ⟨hx, hb, hml, hown, hts⟩ (vx_cwSW 2 hts gL_isSound_L_waiting rfl rfl rfl (by decide +kernel) ⟨Nat.le_of_ble_eq_true rfl, Nat.le_of_ble_eq_true rfl⟩) hK hG hS hE.1 rfl hl.1 rfl (Nat.le_of_ble_eq_true rfl) dL_isSound_527 ⟨by show _ + 1 ≤ 3000; omega, by show _ + 6 ≤ 18000; omega⟩ (fun H locs hG hS => ?_)
            refine fz_top (show _ = nI d from (if_pos hn).trans ed) ?_
            refine lv_istore (lv' := [(13, .int (nI d)), (12, .int (nI b)), (0, .ref (f 0)), (2, .int (fz_sum (fun i9 => fz_tval V nc nl i9 1) nt)), (5, .int (nI nq)), (9, .int 1), (10, .int (fz_sum (V 12) nc)), (11, .int (nI k))]) hx hb dL_isSound_530 hl (by decide) rfl (fun ls hl => ?_)
            refine W.widen (k := (1400 + 30 * k) + 2) (n := (8400 + 180 * k) + 12) (by omega) (by omega) ?_
            refine lv_iload hx hb dL_isSound_532 (lv_at hl 1 rfl) ?_
            refine lv_if_lt (tgt := 627) hx hb dL_isSound_534 (by decide) (fun z9 => absurd z9 (nI_pos (n := b) (by omega))) (fun _ => ?_)
            refine lv_aload_n hx hb dL_isSound_537 rfl (lv_at hl 2 rfl) ?_
            refine lv_iload hx hb dL_isSound_538 (lv_at hl 1 rfl) ?_
            refine lv_iconst (v := 2) hx hb dL_isSound_540 (by decide) ?_
            refine pw_call (rest := []) (pt_change hst J b 2 hb2 (by decide)) ⟨hx, hb, hml, hown, hts⟩ (vx_cwSW 3 hts gL_isSound_L_change rfl rfl rfl (by decide +kernel) ⟨Nat.le_of_ble_eq_true rfl, Nat.le_of_ble_eq_true rfl⟩) hK hG hS hE.1 rfl hl.1 rfl (Nat.le_of_ble_eq_true rfl) dL_isSound_541 ⟨by show _ + 2 ≤ 3000; omega, by show _ + 12 ≤ 18000; omega⟩ (fun H locs hG hS => ?_)
            refine fz_top (show _ = V 11 b from rfl) ?_
            refine lv_iconst (v := 2) hx hb dL_isSound_544 (by decide) ?_
            refine lv_icmp_ge (tgt := 627) hx hb dL_isSound_545 (by decide) (fun z9 => absurd z9 (by rcases hs2 with q9 | q9 <;> rw [q9] <;> decide)) (fun _ => ?_)
            refine lv_iload hx hb dL_isSound_548 (lv_at hl 0 rfl) ?_
            refine lv_iconst (v := (-1)) hx hb dL_isSound_550 (by decide) ?_
            refine lv_icmp_ne (tgt := 558) hx hb dL_isSound_551 (by decide) (fun _ => ?_) (fun z9 => absurd z9 (sd_m1 (n := d) (by omega)))
            refine lv_iconst (v := 0) hx hb dL_isSound_558 (by decide) ?_
            refine lv_iload hx hb dL_isSound_559 (lv_at hl 7 rfl) ?_
            refine lv_iload hx hb dL_isSound_561 (lv_at hl 4 rfl) ?_
            refine lv_iconst (v := 1) hx hb dL_isSound_563 (by decide) ?_
            refine lv_isub hx hb dL_isSound_564 ?_
            refine lv_icmp_ne (tgt := 572) hx hb dL_isSound_565 (by decide) (fun _ => ?_) (fun z9 => absurd z9 (sd_nlast hn (by omega)))
            refine lv_iconst (v := 0) hx hb dL_isSound_572 (by decide) ?_
            refine lv_icmp_ne (tgt := 627) hx hb dL_isSound_573 (by decide) (fun z9 => absurd z9 (by decide)) (fun _ => ?_)
            refine lv_iload hx hb dL_isSound_576 (lv_at hl 0 rfl) ?_
            refine lv_iconst (v := (-1)) hx hb dL_isSound_578 (by decide) ?_
            refine lv_icmp_eq (tgt := 623) hx hb dL_isSound_579 (by decide) (fun z9 => absurd z9 (sd_m1 (n := d) (by omega))) (fun _ => ?_)
            refine lv_aload_n hx hb dL_isSound_582 rfl (lv_at hl 2 rfl) ?_
            refine lv_iload hx hb dL_isSound_583 (lv_at hl 0 rfl) ?_
            refine lv_iconst (v := 1) hx hb dL_isSound_585 (by decide) ?_
            refine pw_call (rest := []) (pt_change hst J d 1 hd2 (by decide)) ⟨hx, hb, hml, hown, hts⟩ (vx_cwSW 3 hts gL_isSound_L_change rfl rfl rfl (by decide +kernel) ⟨Nat.le_of_ble_eq_true rfl, Nat.le_of_ble_eq_true rfl⟩) hK hG hS hE.1 rfl hl.1 rfl (Nat.le_of_ble_eq_true rfl) dL_isSound_586 ⟨by show _ + 2 ≤ 3000; omega, by show _ + 12 ≤ 18000; omega⟩ (fun H locs hG hS => ?_)
            refine fz_top (show _ = V 10 d from rfl) ?_
            refine lv_aload_n hx hb dL_isSound_589 rfl (lv_at hl 2 rfl) ?_
            refine lv_iload hx hb dL_isSound_590 (lv_at hl 1 rfl) ?_
            refine lv_iconst (v := 1) hx hb dL_isSound_592 (by decide) ?_
            refine pw_call (rest := [.int (V 10 d)]) (pt_change hst J b 1 hb2 (by decide)) ⟨hx, hb, hml, hown, hts⟩ (vx_cwSW 3 hts gL_isSound_L_change rfl rfl rfl (by decide +kernel) ⟨Nat.le_of_ble_eq_true rfl, Nat.le_of_ble_eq_true rfl⟩) hK hG hS hE.1 rfl hl.1 rfl (Nat.le_of_ble_eq_true rfl) dL_isSound_593 ⟨by show _ + 2 ≤ 3000; omega, by show _ + 12 ≤ 18000; omega⟩ (fun H locs hG hS => ?_)
            refine fz_top (show _ = V 10 b from rfl) ?_
            refine lv_icmp_gt (tgt := 623) hx hb dL_isSound_596 (by decide) (fun _ => ?_) (fun z9 => absurd ho z9)
            refine lv_iconst (v := 1) hx hb dL_isSound_623 (by decide) ?_
            refine lv_goto (tgt := 628) hx hb dL_isSound_624 (by decide) ?_
            refine lv_istore (lv' := [(9, .int 1), (13, .int (nI d)), (12, .int (nI b)), (0, .ref (f 0)), (2, .int (fz_sum (fun i9 => fz_tval V nc nl i9 1) nt)), (5, .int (nI nq)), (10, .int (fz_sum (V 12) nc)), (11, .int (nI k))]) hx hb dL_isSound_628 hl (by decide) rfl (fun ls hl => ?_)
            refine W.widen (k := (1400 + 30 * k) + 8) (n := (8400 + 180 * k) + 48) (by omega) (by omega) ?_
            refine lv_iinc (v := nI (k + 1)) (lv' := [(11, .int (nI (k + 1))), (9, .int 1), (13, .int (nI d)), (12, .int (nI b)), (0, .ref (f 0)), (2, .int (fz_sum (fun i9 => fz_tval V nc nl i9 1) nt)), (5, .int (nI nq)), (10, .int (fz_sum (V 12) nc))]) hx hb dL_isSound_630 hl (k := 7) rfl (nI_add _ 1) (by decide) rfl (fun ls hl => ?_)
            refine lv_goto (tgt := 502) hx hb dL_isSound_633 (by decide) ?_
            have hl : lv_has ls 14 [(11, .int (nI (k + 1))), (9, .int 1), (13, .int (nI d)), (12, .int (nI b)), (0, .ref (f 0)), (2, .int (fz_sum (fun i9 => fz_tval V nc nl i9 1) nt)), (5, .int (nI nq)), (10, .int (fz_sum (V 12) nc))] := hl
            refine W.widen (k := 1400 + 30 * (k + 1)) (n := 8400 + 180 * (k + 1)) (by omega) (by omega) ?_
            exact ih502 (k + 1) (show ((k + 1) ≤ nq) from hi) (by show nq - (k + 1) < nq - k; omega) _ _ ls hG hS (lv_sub hl [4, 5, 6, 1, 7, 0] rfl)
          · skip
            refine lv_iload hx hb dL_isSound_523 (lv_at hl 6 rfl) ?_
            refine lv_iconst (v := 1) hx hb dL_isSound_525 (by decide) ?_
            refine lv_iadd hx hb dL_isSound_526 ?_
            refine fz_at0 (show ((nI k) + 1) = nI (k + 1) from nI_1 k) ?_
            refine pw_call (rest := []) (pt_waiting hst J (k + 1) (by omega)) ⟨hx, hb, hml, hown, hts⟩ (vx_cwSW 2 hts gL_isSound_L_waiting rfl rfl rfl (by decide +kernel) ⟨Nat.le_of_ble_eq_true rfl, Nat.le_of_ble_eq_true rfl⟩) hK hG hS hE.1 rfl hl.1 rfl (Nat.le_of_ble_eq_true rfl) dL_isSound_527 ⟨by show _ + 1 ≤ 3000; omega, by show _ + 6 ≤ 18000; omega⟩ (fun H locs hG hS => ?_)
            refine fz_top (show _ = nI d from (if_pos hn).trans ed) ?_
            refine lv_istore (lv' := [(13, .int (nI d)), (12, .int (nI b)), (0, .ref (f 0)), (2, .int (fz_sum (fun i9 => fz_tval V nc nl i9 1) nt)), (5, .int (nI nq)), (9, .int 1), (10, .int (fz_sum (V 12) nc)), (11, .int (nI k))]) hx hb dL_isSound_530 hl (by decide) rfl (fun ls hl => ?_)
            refine W.widen (k := (1400 + 30 * k) + 2) (n := (8400 + 180 * k) + 12) (by omega) (by omega) ?_
            refine lv_iload hx hb dL_isSound_532 (lv_at hl 1 rfl) ?_
            refine lv_if_lt (tgt := 627) hx hb dL_isSound_534 (by decide) (fun z9 => absurd z9 (nI_pos (n := b) (by omega))) (fun _ => ?_)
            refine lv_aload_n hx hb dL_isSound_537 rfl (lv_at hl 2 rfl) ?_
            refine lv_iload hx hb dL_isSound_538 (lv_at hl 1 rfl) ?_
            refine lv_iconst (v := 2) hx hb dL_isSound_540 (by decide) ?_
            refine pw_call (rest := []) (pt_change hst J b 2 hb2 (by decide)) ⟨hx, hb, hml, hown, hts⟩ (vx_cwSW 3 hts gL_isSound_L_change rfl rfl rfl (by decide +kernel) ⟨Nat.le_of_ble_eq_true rfl, Nat.le_of_ble_eq_true rfl⟩) hK hG hS hE.1 rfl hl.1 rfl (Nat.le_of_ble_eq_true rfl) dL_isSound_541 ⟨by show _ + 2 ≤ 3000; omega, by show _ + 12 ≤ 18000; omega⟩ (fun H locs hG hS => ?_)
            refine fz_top (show _ = V 11 b from rfl) ?_
            refine lv_iconst (v := 2) hx hb dL_isSound_544 (by decide) ?_
            refine lv_icmp_ge (tgt := 627) hx hb dL_isSound_545 (by decide) (fun z9 => absurd z9 (by rcases hs2 with q9 | q9 <;> rw [q9] <;> decide)) (fun _ => ?_)
            refine lv_iload hx hb dL_isSound_548 (lv_at hl 0 rfl) ?_
            refine lv_iconst (v := (-1)) hx hb dL_isSound_550 (by decide) ?_
            refine lv_icmp_ne (tgt := 558) hx hb dL_isSound_551 (by decide) (fun _ => ?_) (fun z9 => absurd z9 (sd_m1 (n := d) (by omega)))
            refine lv_iconst (v := 0) hx hb dL_isSound_558 (by decide) ?_
            refine lv_iload hx hb dL_isSound_559 (lv_at hl 7 rfl) ?_
            refine lv_iload hx hb dL_isSound_561 (lv_at hl 4 rfl) ?_
            refine lv_iconst (v := 1) hx hb dL_isSound_563 (by decide) ?_
            refine lv_isub hx hb dL_isSound_564 ?_
            refine lv_icmp_ne (tgt := 572) hx hb dL_isSound_565 (by decide) (fun _ => ?_) (fun z9 => absurd z9 (sd_nlast hn (by omega)))
            refine lv_iconst (v := 0) hx hb dL_isSound_572 (by decide) ?_
            refine lv_icmp_ne (tgt := 627) hx hb dL_isSound_573 (by decide) (fun z9 => absurd z9 (by decide)) (fun _ => ?_)
            refine lv_iload hx hb dL_isSound_576 (lv_at hl 0 rfl) ?_
            refine lv_iconst (v := (-1)) hx hb dL_isSound_578 (by decide) ?_
            refine lv_icmp_eq (tgt := 623) hx hb dL_isSound_579 (by decide) (fun z9 => absurd z9 (sd_m1 (n := d) (by omega))) (fun _ => ?_)
            refine lv_aload_n hx hb dL_isSound_582 rfl (lv_at hl 2 rfl) ?_
            refine lv_iload hx hb dL_isSound_583 (lv_at hl 0 rfl) ?_
            refine lv_iconst (v := 1) hx hb dL_isSound_585 (by decide) ?_
            refine pw_call (rest := []) (pt_change hst J d 1 hd2 (by decide)) ⟨hx, hb, hml, hown, hts⟩ (vx_cwSW 3 hts gL_isSound_L_change rfl rfl rfl (by decide +kernel) ⟨Nat.le_of_ble_eq_true rfl, Nat.le_of_ble_eq_true rfl⟩) hK hG hS hE.1 rfl hl.1 rfl (Nat.le_of_ble_eq_true rfl) dL_isSound_586 ⟨by show _ + 2 ≤ 3000; omega, by show _ + 12 ≤ 18000; omega⟩ (fun H locs hG hS => ?_)
            refine fz_top (show _ = V 10 d from rfl) ?_
            refine lv_aload_n hx hb dL_isSound_589 rfl (lv_at hl 2 rfl) ?_
            refine lv_iload hx hb dL_isSound_590 (lv_at hl 1 rfl) ?_
            refine lv_iconst (v := 1) hx hb dL_isSound_592 (by decide) ?_
            refine pw_call (rest := [.int (V 10 d)]) (pt_change hst J b 1 hb2 (by decide)) ⟨hx, hb, hml, hown, hts⟩ (vx_cwSW 3 hts gL_isSound_L_change rfl rfl rfl (by decide +kernel) ⟨Nat.le_of_ble_eq_true rfl, Nat.le_of_ble_eq_true rfl⟩) hK hG hS hE.1 rfl hl.1 rfl (Nat.le_of_ble_eq_true rfl) dL_isSound_593 ⟨by show _ + 2 ≤ 3000; omega, by show _ + 12 ≤ 18000; omega⟩ (fun H locs hG hS => ?_)
            refine fz_top (show _ = V 10 b from rfl) ?_
            refine lv_icmp_gt (tgt := 623) hx hb dL_isSound_596 (by decide) (fun z9 => absurd z9 (by rw [ho.1]; exact Int32.lt_irrefl)) (fun _ => ?_)
            refine lv_aload_n hx hb dL_isSound_599 rfl (lv_at hl 2 rfl) ?_
            refine lv_iload hx hb dL_isSound_600 (lv_at hl 0 rfl) ?_
            refine lv_iconst (v := 1) hx hb dL_isSound_602 (by decide) ?_
            refine pw_call (rest := []) (pt_change hst J d 1 hd2 (by decide)) ⟨hx, hb, hml, hown, hts⟩ (vx_cwSW 3 hts gL_isSound_L_change rfl rfl rfl (by decide +kernel) ⟨Nat.le_of_ble_eq_true rfl, Nat.le_of_ble_eq_true rfl⟩) hK hG hS hE.1 rfl hl.1 rfl (Nat.le_of_ble_eq_true rfl) dL_isSound_603 ⟨by show _ + 2 ≤ 3000; omega, by show _ + 12 ≤ 18000; omega⟩ (fun H locs hG hS => ?_)
            refine fz_top (show _ = V 10 d from rfl) ?_
            refine lv_aload_n hx hb dL_isSound_606 rfl (lv_at hl 2 rfl) ?_
            refine lv_iload hx hb dL_isSound_607 (lv_at hl 1 rfl) ?_
            refine lv_iconst (v := 1) hx hb dL_isSound_609 (by decide) ?_
            refine pw_call (rest := [.int (V 10 d)]) (pt_change hst J b 1 hb2 (by decide)) ⟨hx, hb, hml, hown, hts⟩ (vx_cwSW 3 hts gL_isSound_L_change rfl rfl rfl (by decide +kernel) ⟨Nat.le_of_ble_eq_true rfl, Nat.le_of_ble_eq_true rfl⟩) hK hG hS hE.1 rfl hl.1 rfl (Nat.le_of_ble_eq_true rfl) dL_isSound_610 ⟨by show _ + 2 ≤ 3000; omega, by show _ + 12 ≤ 18000; omega⟩ (fun H locs hG hS => ?_)
            refine fz_top (show _ = V 10 b from rfl) ?_
            refine lv_icmp_ne (tgt := 627) hx hb dL_isSound_613 (by decide) (fun z9 => absurd z9 (not_not_p ho.1)) (fun _ => ?_)
            refine lv_iload hx hb dL_isSound_616 (lv_at hl 0 rfl) ?_
            refine lv_iload hx hb dL_isSound_618 (lv_at hl 1 rfl) ?_
            refine lv_icmp_le (tgt := 627) hx hb dL_isSound_620 (by decide) (fun z9 => absurd z9 (nI_ge ho.2 (by omega))) (fun _ => ?_)
            refine lv_iconst (v := 1) hx hb dL_isSound_623 (by decide) ?_
            refine lv_goto (tgt := 628) hx hb dL_isSound_624 (by decide) ?_
            refine lv_istore (lv' := [(9, .int 1), (13, .int (nI d)), (12, .int (nI b)), (0, .ref (f 0)), (2, .int (fz_sum (fun i9 => fz_tval V nc nl i9 1) nt)), (5, .int (nI nq)), (10, .int (fz_sum (V 12) nc)), (11, .int (nI k))]) hx hb dL_isSound_628 hl (by decide) rfl (fun ls hl => ?_)
            refine W.widen (k := (1400 + 30 * k) + 12) (n := (8400 + 180 * k) + 72) (by omega) (by omega) ?_
            refine lv_iinc (v := nI (k + 1)) (lv' := [(11, .int (nI (k + 1))), (9, .int 1), (13, .int (nI d)), (12, .int (nI b)), (0, .ref (f 0)), (2, .int (fz_sum (fun i9 => fz_tval V nc nl i9 1) nt)), (5, .int (nI nq)), (10, .int (fz_sum (V 12) nc))]) hx hb dL_isSound_630 hl (k := 7) rfl (nI_add _ 1) (by decide) rfl (fun ls hl => ?_)
            refine lv_goto (tgt := 502) hx hb dL_isSound_633 (by decide) ?_
            have hl : lv_has ls 14 [(11, .int (nI (k + 1))), (9, .int 1), (13, .int (nI d)), (12, .int (nI b)), (0, .ref (f 0)), (2, .int (fz_sum (fun i9 => fz_tval V nc nl i9 1) nt)), (5, .int (nI nq)), (10, .int (fz_sum (V 12) nc))] := hl
            refine W.widen (k := 1400 + 30 * (k + 1)) (n := 8400 + 180 * (k + 1)) (by omega) (by omega) ?_
            exact ih502 (k + 1) (show ((k + 1) ≤ nq) from hi) (by show nq - (k + 1) < nq - k; omega) _ _ ls hG hS (lv_sub hl [4, 5, 6, 1, 7, 0] rfl)
        · skip
          refine lv_aload_n hx hb dL_isSound_522 rfl (lv_at hl 1 rfl) ?_
          refine lv_iload hx hb dL_isSound_523 (lv_at hl 6 rfl) ?_
          refine lv_iconst (v := 1) hx hb dL_isSound_525 (by decide) ?_
          refine lv_iadd hx hb dL_isSound_526 ?_
          refine fz_at0 (show ((nI k) + 1) = nI (k + 1) from nI_1 k) ?_
          refine pw_call (rest := []) (pt_waiting hst J (k + 1) (by omega)) ⟨hx, hb, hml, hown, hts⟩ (vx_cwSW 2 hts gL_isSound_L_waiting rfl rfl rfl (by decide +kernel) ⟨Nat.le_of_ble_eq_true rfl, Nat.le_of_ble_eq_true rfl⟩) hK hG hS hE.1 rfl hl.1 rfl (Nat.le_of_ble_eq_true rfl) dL_isSound_527 ⟨by show _ + 1 ≤ 3000; omega, by show _ + 6 ≤ 18000; omega⟩ (fun H locs hG hS => ?_)
          refine fz_top (show _ = (-1) from if_neg hn) ?_
          refine lv_istore (lv' := [(13, .int (-1)), (12, .int (nI b)), (0, .ref (f 0)), (2, .int (fz_sum (fun i9 => fz_tval V nc nl i9 1) nt)), (5, .int (nI nq)), (9, .int 1), (10, .int (fz_sum (V 12) nc)), (11, .int (nI k))]) hx hb dL_isSound_530 hl (by decide) rfl (fun ls hl => ?_)
          refine W.widen (k := (1400 + 30 * k) + 2) (n := (8400 + 180 * k) + 12) (by omega) (by omega) ?_
          refine lv_iload hx hb dL_isSound_532 (lv_at hl 1 rfl) ?_
          refine lv_if_lt (tgt := 627) hx hb dL_isSound_534 (by decide) (fun z9 => absurd z9 (nI_pos (n := b) (by omega))) (fun _ => ?_)
          refine lv_aload_n hx hb dL_isSound_537 rfl (lv_at hl 2 rfl) ?_
          refine lv_iload hx hb dL_isSound_538 (lv_at hl 1 rfl) ?_
          refine lv_iconst (v := 2) hx hb dL_isSound_540 (by decide) ?_
          refine pw_call (rest := []) (pt_change hst J b 2 hb2 (by decide)) ⟨hx, hb, hml, hown, hts⟩ (vx_cwSW 3 hts gL_isSound_L_change rfl rfl rfl (by decide +kernel) ⟨Nat.le_of_ble_eq_true rfl, Nat.le_of_ble_eq_true rfl⟩) hK hG hS hE.1 rfl hl.1 rfl (Nat.le_of_ble_eq_true rfl) dL_isSound_541 ⟨by show _ + 2 ≤ 3000; omega, by show _ + 12 ≤ 18000; omega⟩ (fun H locs hG hS => ?_)
          refine fz_top (show _ = V 11 b from rfl) ?_
          refine lv_iconst (v := 2) hx hb dL_isSound_544 (by decide) ?_
          refine lv_icmp_ge (tgt := 627) hx hb dL_isSound_545 (by decide) (fun z9 => absurd z9 (by rcases hs2 with q9 | q9 <;> rw [q9] <;> decide)) (fun _ => ?_)
          refine lv_iload hx hb dL_isSound_548 (lv_at hl 0 rfl) ?_
          refine lv_iconst (v := (-1)) hx hb dL_isSound_550 (by decide) ?_
          refine lv_icmp_ne (tgt := 558) hx hb dL_isSound_551 (by decide) (fun z9 => absurd z9 (by decide)) (fun _ => ?_)
          refine lv_iconst (v := 1) hx hb dL_isSound_554 (by decide) ?_
          refine lv_goto (tgt := 559) hx hb dL_isSound_555 (by decide) ?_
          refine lv_iload hx hb dL_isSound_559 (lv_at hl 7 rfl) ?_
          refine lv_iload hx hb dL_isSound_561 (lv_at hl 4 rfl) ?_
          refine lv_iconst (v := 1) hx hb dL_isSound_563 (by decide) ?_
          refine lv_isub hx hb dL_isSound_564 ?_
          refine lv_icmp_ne (tgt := 572) hx hb dL_isSound_565 (by decide) (fun z9 => absurd z9 (not_not_p (sd_last hi hn (by omega)))) (fun _ => ?_)
          refine lv_iconst (v := 1) hx hb dL_isSound_568 (by decide) ?_
          refine lv_goto (tgt := 573) hx hb dL_isSound_569 (by decide) ?_
          refine lv_icmp_ne (tgt := 627) hx hb dL_isSound_573 (by decide) (fun z9 => absurd z9 (by decide)) (fun _ => ?_)
          refine lv_iload hx hb dL_isSound_576 (lv_at hl 0 rfl) ?_
          refine lv_iconst (v := (-1)) hx hb dL_isSound_578 (by decide) ?_
          refine lv_icmp_eq (tgt := 623) hx hb dL_isSound_579 (by decide) (fun _ => ?_) (fun z9 => absurd (by decide) z9)
          refine lv_iconst (v := 1) hx hb dL_isSound_623 (by decide) ?_
          refine lv_goto (tgt := 628) hx hb dL_isSound_624 (by decide) ?_
          refine lv_istore (lv' := [(9, .int 1), (13, .int (-1)), (12, .int (nI b)), (0, .ref (f 0)), (2, .int (fz_sum (fun i9 => fz_tval V nc nl i9 1) nt)), (5, .int (nI nq)), (10, .int (fz_sum (V 12) nc)), (11, .int (nI k))]) hx hb dL_isSound_628 hl (by decide) rfl (fun ls hl => ?_)
          refine W.widen (k := (1400 + 30 * k) + 4) (n := (8400 + 180 * k) + 24) (by omega) (by omega) ?_
          refine lv_iinc (v := nI (k + 1)) (lv' := [(11, .int (nI (k + 1))), (9, .int 1), (13, .int (-1)), (12, .int (nI b)), (0, .ref (f 0)), (2, .int (fz_sum (fun i9 => fz_tval V nc nl i9 1) nt)), (5, .int (nI nq)), (10, .int (fz_sum (V 12) nc))]) hx hb dL_isSound_630 hl (k := 7) rfl (nI_add _ 1) (by decide) rfl (fun ls hl => ?_)
          refine lv_goto (tgt := 502) hx hb dL_isSound_633 (by decide) ?_
          have hl : lv_has ls 14 [(11, .int (nI (k + 1))), (9, .int 1), (13, .int (-1)), (12, .int (nI b)), (0, .ref (f 0)), (2, .int (fz_sum (fun i9 => fz_tval V nc nl i9 1) nt)), (5, .int (nI nq)), (10, .int (fz_sum (V 12) nc))] := hl
          refine W.widen (k := 1400 + 30 * (k + 1)) (n := 8400 + 180 * (k + 1)) (by omega) (by omega) ?_
          exact ih502 (k + 1) (show ((k + 1) ≤ nq) from hi) (by show nq - (k + 1) < nq - k; omega) _ _ ls hG hS (lv_sub hl [4, 5, 6, 1, 7, 0] rfl)
    · skip
      have hi : c < nc := Nat.lt_of_not_le fun z => c9 ((nI_leI (by omega) (by omega)).mpr z)
      refine lv_iload hx hb dL_isSound_378 (lv_at hl 3 rfl) ?_
      refine lv_if_eq (tgt := 499) hx hb dL_isSound_380 (by decide) (fun z9 => absurd z9 (by decide)) (fun _ => ?_)
      refine lv_aload_n hx hb dL_isSound_383 rfl (lv_at hl 0 rfl) ?_
      refine lv_iload hx hb dL_isSound_384 (lv_at hl 5 rfl) ?_
      refine lv_iconst (v := 2) hx hb dL_isSound_386 (by decide) ?_
      refine pw_call (rest := []) (pt_change hst J c 2 hi (by decide)) ⟨hx, hb, hml, hown, hts⟩ (vx_cwSW 3 hts gL_isSound_L_change rfl rfl rfl (by decide +kernel) ⟨Nat.le_of_ble_eq_true rfl, Nat.le_of_ble_eq_true rfl⟩) hK hG hS hE.1 rfl hl.1 rfl (Nat.le_of_ble_eq_true rfl) dL_isSound_387 ⟨by show _ + 2 ≤ 3000; omega, by show _ + 12 ≤ 18000; omega⟩ (fun H locs hG hS => ?_)
      refine fz_top (show _ = V 11 c from rfl) ?_
      refine lv_istore (lv' := [(12, .int (V 11 c)), (0, .ref (f 0)), (2, .int (fz_sum (fun i9 => fz_tval V nc nl i9 1) nt)), (5, .int (nI nq)), (9, .int 1), (10, .int (fz_sum (V 12) c)), (11, .int (nI c))]) hx hb dL_isSound_390 hl (by decide) rfl (fun ls hl => ?_)
      refine W.widen (k := (400 + 30 * c) + 3) (n := (2400 + 180 * c) + 18) (by omega) (by omega) ?_
      refine lv_iload hx hb dL_isSound_392 (lv_at hl 5 rfl) ?_
      refine lv_aload_n hx hb dL_isSound_394 rfl (lv_at hl 1 rfl) ?_
      refine lv_iload hx hb dL_isSound_395 (lv_at hl 6 rfl) ?_
      refine lv_iconst (v := 3) hx hb dL_isSound_397 (by decide) ?_
      refine pw_call (rest := [.int (fz_sum (V 12) c)]) (pt_change hst J c 3 hi (by decide)) ⟨hx, hb, hml, hown, hts⟩ (vx_cwSW 3 hts gL_isSound_L_change rfl rfl rfl (by decide +kernel) ⟨Nat.le_of_ble_eq_true rfl, Nat.le_of_ble_eq_true rfl⟩) hK hG hS hE.1 rfl hl.1 rfl (Nat.le_of_ble_eq_true rfl) dL_isSound_398 ⟨by show _ + 2 ≤ 3000; omega, by show _ + 12 ≤ 18000; omega⟩ (fun H locs hG hS => ?_)
      refine fz_top (show _ = V 12 c from rfl) ?_
      refine lv_iadd hx hb dL_isSound_401 ?_
      refine fz_top (show _ = fz_sum (V 12) (c + 1) from rfl) ?_
      refine lv_istore (lv' := [(10, .int (fz_sum (V 12) (c + 1))), (12, .int (V 11 c)), (0, .ref (f 0)), (2, .int (fz_sum (fun i9 => fz_tval V nc nl i9 1) nt)), (5, .int (nI nq)), (9, .int 1), (11, .int (nI c))]) hx hb dL_isSound_402 hl (by decide) rfl (fun ls hl => ?_)
      refine W.widen (k := (400 + 30 * c) + 5) (n := (2400 + 180 * c) + 30) (by omega) (by omega) ?_
      rcases sd_state J hi with e9 | e9 | e9 | e9 | e9
      · skip
        refine lv_iload hx hb dL_isSound_404 (lv_at hl 1 rfl) ?_
        refine lv_iconst (v := 1) hx hb dL_isSound_406 (by decide) ?_
        refine lv_icmp_eq (tgt := 420) hx hb dL_isSound_407 (by decide) (fun z9 => absurd z9 (by rw [e9]; decide)) (fun _ => ?_)
        refine lv_aload_n hx hb dL_isSound_410 rfl (lv_at hl 2 rfl) ?_
        refine lv_iload hx hb dL_isSound_411 (lv_at hl 6 rfl) ?_
        refine lv_iconst (v := 3) hx hb dL_isSound_413 (by decide) ?_
        refine pw_call (rest := []) (pt_change hst J c 3 hi (by decide)) ⟨hx, hb, hml, hown, hts⟩ (vx_cwSW 3 hts gL_isSound_L_change rfl rfl rfl (by decide +kernel) ⟨Nat.le_of_ble_eq_true rfl, Nat.le_of_ble_eq_true rfl⟩) hK hG hS hE.1 rfl hl.1 rfl (Nat.le_of_ble_eq_true rfl) dL_isSound_414 ⟨by show _ + 2 ≤ 3000; omega, by show _ + 12 ≤ 18000; omega⟩ (fun H locs hG hS => ?_)
        refine fz_top (show _ = V 12 c from rfl) ?_
        refine lv_if_ne (tgt := 490) hx hb dL_isSound_417 (by decide) (fun z9 => absurd z9 (not_not_p (sd_h0 J hi (by rw [e9]; decide)))) (fun _ => ?_)
        refine lv_iload hx hb dL_isSound_420 (lv_at hl 1 rfl) ?_
        refine lv_iconst (v := 2) hx hb dL_isSound_422 (by decide) ?_
        refine lv_icmp_eq (tgt := 432) hx hb dL_isSound_423 (by decide) (fun z9 => absurd z9 (by rw [e9]; decide)) (fun _ => ?_)
        refine lv_iload hx hb dL_isSound_426 (lv_at hl 1 rfl) ?_
        refine lv_iconst (v := 3) hx hb dL_isSound_428 (by decide) ?_
        refine lv_icmp_ne (tgt := 436) hx hb dL_isSound_429 (by decide) (fun _ => ?_) (fun z9 => absurd z9 (by rw [e9]; decide))
        refine lv_iconst (v := 0) hx hb dL_isSound_436 (by decide) ?_
        refine lv_aload_n hx hb dL_isSound_437 rfl (lv_at hl 2 rfl) ?_
        refine lv_iload hx hb dL_isSound_438 (lv_at hl 6 rfl) ?_
        refine lv_iconst (v := 5) hx hb dL_isSound_440 (by decide) ?_
        refine pw_call (rest := [.int 0]) (pt_change hst J c 5 hi (by decide)) ⟨hx, hb, hml, hown, hts⟩ (vx_cwSW 3 hts gL_isSound_L_change rfl rfl rfl (by decide +kernel) ⟨Nat.le_of_ble_eq_true rfl, Nat.le_of_ble_eq_true rfl⟩) hK hG hS hE.1 rfl hl.1 rfl (Nat.le_of_ble_eq_true rfl) dL_isSound_441 ⟨by show _ + 2 ≤ 3000; omega, by show _ + 12 ≤ 18000; omega⟩ (fun H locs hG hS => ?_)
        refine fz_top (show _ = V 14 c from rfl) ?_
        refine lv_if_lt (tgt := 451) hx hb dL_isSound_444 (by decide) (fun _ => ?_) (fun z9 => absurd (sd_unmade J hi (by rw [e9]; decide) (by rw [e9]; decide)) z9)
        refine lv_iconst (v := 0) hx hb dL_isSound_451 (by decide) ?_
        refine lv_icmp_ne (tgt := 490) hx hb dL_isSound_452 (by decide) (fun z9 => absurd z9 (by decide)) (fun _ => ?_)
        refine lv_iload hx hb dL_isSound_455 (lv_at hl 1 rfl) ?_
        refine lv_if_eq (tgt := 470) hx hb dL_isSound_457 (by decide) (fun _ => ?_) (fun z9 => absurd e9 z9)
        refine lv_aload_n hx hb dL_isSound_470 rfl (lv_at hl 2 rfl) ?_
        refine lv_iload hx hb dL_isSound_471 (lv_at hl 6 rfl) ?_
        refine lv_iconst (v := 4) hx hb dL_isSound_473 (by decide) ?_
        refine pw_call (rest := []) (pt_change hst J c 4 hi (by decide)) ⟨hx, hb, hml, hown, hts⟩ (vx_cwSW 3 hts gL_isSound_L_change rfl rfl rfl (by decide +kernel) ⟨Nat.le_of_ble_eq_true rfl, Nat.le_of_ble_eq_true rfl⟩) hK hG hS hE.1 rfl hl.1 rfl (Nat.le_of_ble_eq_true rfl) dL_isSound_474 ⟨by show _ + 2 ≤ 3000; omega, by show _ + 12 ≤ 18000; omega⟩ (fun H locs hG hS => ?_)
        refine fz_top (show _ = V 13 c from rfl) ?_
        refine lv_aload_n hx hb dL_isSound_477 rfl (lv_at hl 2 rfl) ?_
        refine lv_bipush (v := 8) hx hb dL_isSound_478 (by decide) ?_
        refine pw_call (rest := [.int (V 13 c)]) (pt_whole hst J 8 (by decide)) ⟨hx, hb, hml, hown, hts⟩ (vx_cwSW 2 hts gL_isSound_L_whole rfl rfl rfl (by decide +kernel) ⟨Nat.le_of_ble_eq_true rfl, Nat.le_of_ble_eq_true rfl⟩) hK hG hS hE.1 rfl hl.1 rfl (Nat.le_of_ble_eq_true rfl) dL_isSound_480 ⟨by show _ + 1 ≤ 3000; omega, by show _ + 6 ≤ 18000; omega⟩ (fun H locs hG hS => ?_)
        refine fz_top (show _ = V 0 0 from rfl) ?_
        refine lv_icmp_gt (tgt := 490) hx hb dL_isSound_483 (by decide) (fun z9 => absurd z9 (sd_asked J hi)) (fun _ => ?_)
        refine lv_iconst (v := 1) hx hb dL_isSound_486 (by decide) ?_
        refine lv_goto (tgt := 491) hx hb dL_isSound_487 (by decide) ?_
        refine lv_istore (lv' := [(9, .int 1), (10, .int (fz_sum (V 12) (c + 1))), (12, .int (V 11 c)), (0, .ref (f 0)), (2, .int (fz_sum (fun i9 => fz_tval V nc nl i9 1) nt)), (5, .int (nI nq)), (11, .int (nI c))]) hx hb dL_isSound_491 hl (by decide) rfl (fun ls hl => ?_)
        refine W.widen (k := (400 + 30 * c) + 12) (n := (2400 + 180 * c) + 72) (by omega) (by omega) ?_
        refine lv_iinc (v := nI (c + 1)) (lv' := [(11, .int (nI (c + 1))), (9, .int 1), (10, .int (fz_sum (V 12) (c + 1))), (12, .int (V 11 c)), (0, .ref (f 0)), (2, .int (fz_sum (fun i9 => fz_tval V nc nl i9 1) nt)), (5, .int (nI nq))]) hx hb dL_isSound_493 hl (k := 6) rfl (nI_add _ 1) (by decide) rfl (fun ls hl => ?_)
        refine lv_goto (tgt := 368) hx hb dL_isSound_496 (by decide) ?_
        have hl : lv_has ls 14 [(11, .int (nI (c + 1))), (9, .int 1), (10, .int (fz_sum (V 12) (c + 1))), (12, .int (V 11 c)), (0, .ref (f 0)), (2, .int (fz_sum (fun i9 => fz_tval V nc nl i9 1) nt)), (5, .int (nI nq))] := hl
        refine W.widen (k := 400 + 30 * (c + 1)) (n := 2400 + 180 * (c + 1)) (by omega) (by omega) ?_
        exact ih368 (c + 1) (show ((c + 1) ≤ nc) from hi) (by show nc - (c + 1) < nc - c; omega) _ _ ls hG hS (lv_sub hl [4, 5, 6, 1, 2, 0] rfl)
      · skip
        refine lv_iload hx hb dL_isSound_404 (lv_at hl 1 rfl) ?_
        refine lv_iconst (v := 1) hx hb dL_isSound_406 (by decide) ?_
        refine lv_icmp_eq (tgt := 420) hx hb dL_isSound_407 (by decide) (fun _ => ?_) (fun z9 => absurd e9 z9)
        refine lv_iload hx hb dL_isSound_420 (lv_at hl 1 rfl) ?_
        refine lv_iconst (v := 2) hx hb dL_isSound_422 (by decide) ?_
        refine lv_icmp_eq (tgt := 432) hx hb dL_isSound_423 (by decide) (fun z9 => absurd z9 (by rw [e9]; decide)) (fun _ => ?_)
        refine lv_iload hx hb dL_isSound_426 (lv_at hl 1 rfl) ?_
        refine lv_iconst (v := 3) hx hb dL_isSound_428 (by decide) ?_
        refine lv_icmp_ne (tgt := 436) hx hb dL_isSound_429 (by decide) (fun _ => ?_) (fun z9 => absurd z9 (by rw [e9]; decide))
        refine lv_iconst (v := 0) hx hb dL_isSound_436 (by decide) ?_
        refine lv_aload_n hx hb dL_isSound_437 rfl (lv_at hl 2 rfl) ?_
        refine lv_iload hx hb dL_isSound_438 (lv_at hl 6 rfl) ?_
        refine lv_iconst (v := 5) hx hb dL_isSound_440 (by decide) ?_
        refine pw_call (rest := [.int 0]) (pt_change hst J c 5 hi (by decide)) ⟨hx, hb, hml, hown, hts⟩ (vx_cwSW 3 hts gL_isSound_L_change rfl rfl rfl (by decide +kernel) ⟨Nat.le_of_ble_eq_true rfl, Nat.le_of_ble_eq_true rfl⟩) hK hG hS hE.1 rfl hl.1 rfl (Nat.le_of_ble_eq_true rfl) dL_isSound_441 ⟨by show _ + 2 ≤ 3000; omega, by show _ + 12 ≤ 18000; omega⟩ (fun H locs hG hS => ?_)
        refine fz_top (show _ = V 14 c from rfl) ?_
        refine lv_if_lt (tgt := 451) hx hb dL_isSound_444 (by decide) (fun _ => ?_) (fun z9 => absurd (sd_unmade J hi (by rw [e9]; decide) (by rw [e9]; decide)) z9)
        refine lv_iconst (v := 0) hx hb dL_isSound_451 (by decide) ?_
        refine lv_icmp_ne (tgt := 490) hx hb dL_isSound_452 (by decide) (fun z9 => absurd z9 (by decide)) (fun _ => ?_)
        refine lv_iload hx hb dL_isSound_455 (lv_at hl 1 rfl) ?_
        refine lv_if_eq (tgt := 470) hx hb dL_isSound_457 (by decide) (fun z9 => absurd z9 (by rw [e9]; decide)) (fun _ => ?_)
        refine lv_aload_n hx hb dL_isSound_460 rfl (lv_at hl 2 rfl) ?_
        refine lv_iload hx hb dL_isSound_461 (lv_at hl 6 rfl) ?_
        refine pw_call (rest := []) (pt_reason hst J c hi) ⟨hx, hb, hml, hown, hts⟩ (vx_cwSW 2 hts gL_isSound_L_reason rfl rfl rfl (by decide +kernel) ⟨Nat.le_of_ble_eq_true rfl, Nat.le_of_ble_eq_true rfl⟩) hK hG hS hE.1 rfl hl.1 rfl (Nat.le_of_ble_eq_true rfl) dL_isSound_463 ⟨by show _ + 1 ≤ 3000; omega, by show _ + 6 ≤ 18000; omega⟩ (fun H locs hG hS => ?_)
        refine fz_top (show _ = fz_reason V nl c from rfl) ?_
        refine lv_iconst (v := 1) hx hb dL_isSound_466 (by decide) ?_
        refine lv_icmp_ne (tgt := 490) hx hb dL_isSound_467 (by decide) (fun z9 => absurd z9 (not_not_p (sd_why (by rw [e9]; decide)))) (fun _ => ?_)
        refine lv_aload_n hx hb dL_isSound_470 rfl (lv_at hl 2 rfl) ?_
        refine lv_iload hx hb dL_isSound_471 (lv_at hl 6 rfl) ?_
        refine lv_iconst (v := 4) hx hb dL_isSound_473 (by decide) ?_
        refine pw_call (rest := []) (pt_change hst J c 4 hi (by decide)) ⟨hx, hb, hml, hown, hts⟩ (vx_cwSW 3 hts gL_isSound_L_change rfl rfl rfl (by decide +kernel) ⟨Nat.le_of_ble_eq_true rfl, Nat.le_of_ble_eq_true rfl⟩) hK hG hS hE.1 rfl hl.1 rfl (Nat.le_of_ble_eq_true rfl) dL_isSound_474 ⟨by show _ + 2 ≤ 3000; omega, by show _ + 12 ≤ 18000; omega⟩ (fun H locs hG hS => ?_)
        refine fz_top (show _ = V 13 c from rfl) ?_
        refine lv_aload_n hx hb dL_isSound_477 rfl (lv_at hl 2 rfl) ?_
        refine lv_bipush (v := 8) hx hb dL_isSound_478 (by decide) ?_
        refine pw_call (rest := [.int (V 13 c)]) (pt_whole hst J 8 (by decide)) ⟨hx, hb, hml, hown, hts⟩ (vx_cwSW 2 hts gL_isSound_L_whole rfl rfl rfl (by decide +kernel) ⟨Nat.le_of_ble_eq_true rfl, Nat.le_of_ble_eq_true rfl⟩) hK hG hS hE.1 rfl hl.1 rfl (Nat.le_of_ble_eq_true rfl) dL_isSound_480 ⟨by show _ + 1 ≤ 3000; omega, by show _ + 6 ≤ 18000; omega⟩ (fun H locs hG hS => ?_)
        refine fz_top (show _ = V 0 0 from rfl) ?_
        refine lv_icmp_gt (tgt := 490) hx hb dL_isSound_483 (by decide) (fun z9 => absurd z9 (sd_asked J hi)) (fun _ => ?_)
        refine lv_iconst (v := 1) hx hb dL_isSound_486 (by decide) ?_
        refine lv_goto (tgt := 491) hx hb dL_isSound_487 (by decide) ?_
        refine lv_istore (lv' := [(9, .int 1), (10, .int (fz_sum (V 12) (c + 1))), (12, .int (V 11 c)), (0, .ref (f 0)), (2, .int (fz_sum (fun i9 => fz_tval V nc nl i9 1) nt)), (5, .int (nI nq)), (11, .int (nI c))]) hx hb dL_isSound_491 hl (by decide) rfl (fun ls hl => ?_)
        refine W.widen (k := (400 + 30 * c) + 11) (n := (2400 + 180 * c) + 66) (by omega) (by omega) ?_
        refine lv_iinc (v := nI (c + 1)) (lv' := [(11, .int (nI (c + 1))), (9, .int 1), (10, .int (fz_sum (V 12) (c + 1))), (12, .int (V 11 c)), (0, .ref (f 0)), (2, .int (fz_sum (fun i9 => fz_tval V nc nl i9 1) nt)), (5, .int (nI nq))]) hx hb dL_isSound_493 hl (k := 6) rfl (nI_add _ 1) (by decide) rfl (fun ls hl => ?_)
        refine lv_goto (tgt := 368) hx hb dL_isSound_496 (by decide) ?_
        have hl : lv_has ls 14 [(11, .int (nI (c + 1))), (9, .int 1), (10, .int (fz_sum (V 12) (c + 1))), (12, .int (V 11 c)), (0, .ref (f 0)), (2, .int (fz_sum (fun i9 => fz_tval V nc nl i9 1) nt)), (5, .int (nI nq))] := hl
        refine W.widen (k := 400 + 30 * (c + 1)) (n := 2400 + 180 * (c + 1)) (by omega) (by omega) ?_
        exact ih368 (c + 1) (show ((c + 1) ≤ nc) from hi) (by show nc - (c + 1) < nc - c; omega) _ _ ls hG hS (lv_sub hl [4, 5, 6, 1, 2, 0] rfl)
      · skip
        refine lv_iload hx hb dL_isSound_404 (lv_at hl 1 rfl) ?_
        refine lv_iconst (v := 1) hx hb dL_isSound_406 (by decide) ?_
        refine lv_icmp_eq (tgt := 420) hx hb dL_isSound_407 (by decide) (fun z9 => absurd z9 (by rw [e9]; decide)) (fun _ => ?_)
        refine lv_aload_n hx hb dL_isSound_410 rfl (lv_at hl 2 rfl) ?_
        refine lv_iload hx hb dL_isSound_411 (lv_at hl 6 rfl) ?_
        refine lv_iconst (v := 3) hx hb dL_isSound_413 (by decide) ?_
        refine pw_call (rest := []) (pt_change hst J c 3 hi (by decide)) ⟨hx, hb, hml, hown, hts⟩ (vx_cwSW 3 hts gL_isSound_L_change rfl rfl rfl (by decide +kernel) ⟨Nat.le_of_ble_eq_true rfl, Nat.le_of_ble_eq_true rfl⟩) hK hG hS hE.1 rfl hl.1 rfl (Nat.le_of_ble_eq_true rfl) dL_isSound_414 ⟨by show _ + 2 ≤ 3000; omega, by show _ + 12 ≤ 18000; omega⟩ (fun H locs hG hS => ?_)
        refine fz_top (show _ = V 12 c from rfl) ?_
        refine lv_if_ne (tgt := 490) hx hb dL_isSound_417 (by decide) (fun z9 => absurd z9 (not_not_p (sd_h0 J hi (by rw [e9]; decide)))) (fun _ => ?_)
        refine lv_iload hx hb dL_isSound_420 (lv_at hl 1 rfl) ?_
        refine lv_iconst (v := 2) hx hb dL_isSound_422 (by decide) ?_
        refine lv_icmp_eq (tgt := 432) hx hb dL_isSound_423 (by decide) (fun _ => ?_) (fun z9 => absurd e9 z9)
        refine lv_iconst (v := 1) hx hb dL_isSound_432 (by decide) ?_
        refine lv_goto (tgt := 437) hx hb dL_isSound_433 (by decide) ?_
        refine lv_aload_n hx hb dL_isSound_437 rfl (lv_at hl 2 rfl) ?_
        refine lv_iload hx hb dL_isSound_438 (lv_at hl 6 rfl) ?_
        refine lv_iconst (v := 5) hx hb dL_isSound_440 (by decide) ?_
        refine pw_call (rest := [.int 1]) (pt_change hst J c 5 hi (by decide)) ⟨hx, hb, hml, hown, hts⟩ (vx_cwSW 3 hts gL_isSound_L_change rfl rfl rfl (by decide +kernel) ⟨Nat.le_of_ble_eq_true rfl, Nat.le_of_ble_eq_true rfl⟩) hK hG hS hE.1 rfl hl.1 rfl (Nat.le_of_ble_eq_true rfl) dL_isSound_441 ⟨by show _ + 2 ≤ 3000; omega, by show _ + 12 ≤ 18000; omega⟩ (fun H locs hG hS => ?_)
        refine fz_top (show _ = V 14 c from rfl) ?_
        refine lv_if_lt (tgt := 451) hx hb dL_isSound_444 (by decide) (fun z9 => absurd z9 (sd_made J hi (by rw [e9]; decide))) (fun _ => ?_)
        refine lv_iconst (v := 1) hx hb dL_isSound_447 (by decide) ?_
        refine lv_goto (tgt := 452) hx hb dL_isSound_448 (by decide) ?_
        refine lv_icmp_ne (tgt := 490) hx hb dL_isSound_452 (by decide) (fun z9 => absurd z9 (by decide)) (fun _ => ?_)
        refine lv_iload hx hb dL_isSound_455 (lv_at hl 1 rfl) ?_
        refine lv_if_eq (tgt := 470) hx hb dL_isSound_457 (by decide) (fun z9 => absurd z9 (by rw [e9]; decide)) (fun _ => ?_)
        refine lv_aload_n hx hb dL_isSound_460 rfl (lv_at hl 2 rfl) ?_
        refine lv_iload hx hb dL_isSound_461 (lv_at hl 6 rfl) ?_
        refine pw_call (rest := []) (pt_reason hst J c hi) ⟨hx, hb, hml, hown, hts⟩ (vx_cwSW 2 hts gL_isSound_L_reason rfl rfl rfl (by decide +kernel) ⟨Nat.le_of_ble_eq_true rfl, Nat.le_of_ble_eq_true rfl⟩) hK hG hS hE.1 rfl hl.1 rfl (Nat.le_of_ble_eq_true rfl) dL_isSound_463 ⟨by show _ + 1 ≤ 3000; omega, by show _ + 6 ≤ 18000; omega⟩ (fun H locs hG hS => ?_)
        refine fz_top (show _ = fz_reason V nl c from rfl) ?_
        refine lv_iconst (v := 1) hx hb dL_isSound_466 (by decide) ?_
        refine lv_icmp_ne (tgt := 490) hx hb dL_isSound_467 (by decide) (fun z9 => absurd z9 (not_not_p (sd_why (by rw [e9]; decide)))) (fun _ => ?_)
        refine lv_aload_n hx hb dL_isSound_470 rfl (lv_at hl 2 rfl) ?_
        refine lv_iload hx hb dL_isSound_471 (lv_at hl 6 rfl) ?_
        refine lv_iconst (v := 4) hx hb dL_isSound_473 (by decide) ?_
        refine pw_call (rest := []) (pt_change hst J c 4 hi (by decide)) ⟨hx, hb, hml, hown, hts⟩ (vx_cwSW 3 hts gL_isSound_L_change rfl rfl rfl (by decide +kernel) ⟨Nat.le_of_ble_eq_true rfl, Nat.le_of_ble_eq_true rfl⟩) hK hG hS hE.1 rfl hl.1 rfl (Nat.le_of_ble_eq_true rfl) dL_isSound_474 ⟨by show _ + 2 ≤ 3000; omega, by show _ + 12 ≤ 18000; omega⟩ (fun H locs hG hS => ?_)
        refine fz_top (show _ = V 13 c from rfl) ?_
        refine lv_aload_n hx hb dL_isSound_477 rfl (lv_at hl 2 rfl) ?_
        refine lv_bipush (v := 8) hx hb dL_isSound_478 (by decide) ?_
        refine pw_call (rest := [.int (V 13 c)]) (pt_whole hst J 8 (by decide)) ⟨hx, hb, hml, hown, hts⟩ (vx_cwSW 2 hts gL_isSound_L_whole rfl rfl rfl (by decide +kernel) ⟨Nat.le_of_ble_eq_true rfl, Nat.le_of_ble_eq_true rfl⟩) hK hG hS hE.1 rfl hl.1 rfl (Nat.le_of_ble_eq_true rfl) dL_isSound_480 ⟨by show _ + 1 ≤ 3000; omega, by show _ + 6 ≤ 18000; omega⟩ (fun H locs hG hS => ?_)
        refine fz_top (show _ = V 0 0 from rfl) ?_
        refine lv_icmp_gt (tgt := 490) hx hb dL_isSound_483 (by decide) (fun z9 => absurd z9 (sd_asked J hi)) (fun _ => ?_)
        refine lv_iconst (v := 1) hx hb dL_isSound_486 (by decide) ?_
        refine lv_goto (tgt := 491) hx hb dL_isSound_487 (by decide) ?_
        refine lv_istore (lv' := [(9, .int 1), (10, .int (fz_sum (V 12) (c + 1))), (12, .int (V 11 c)), (0, .ref (f 0)), (2, .int (fz_sum (fun i9 => fz_tval V nc nl i9 1) nt)), (5, .int (nI nq)), (11, .int (nI c))]) hx hb dL_isSound_491 hl (by decide) rfl (fun ls hl => ?_)
        refine W.widen (k := (400 + 30 * c) + 13) (n := (2400 + 180 * c) + 78) (by omega) (by omega) ?_
        refine lv_iinc (v := nI (c + 1)) (lv' := [(11, .int (nI (c + 1))), (9, .int 1), (10, .int (fz_sum (V 12) (c + 1))), (12, .int (V 11 c)), (0, .ref (f 0)), (2, .int (fz_sum (fun i9 => fz_tval V nc nl i9 1) nt)), (5, .int (nI nq))]) hx hb dL_isSound_493 hl (k := 6) rfl (nI_add _ 1) (by decide) rfl (fun ls hl => ?_)
        refine lv_goto (tgt := 368) hx hb dL_isSound_496 (by decide) ?_
        have hl : lv_has ls 14 [(11, .int (nI (c + 1))), (9, .int 1), (10, .int (fz_sum (V 12) (c + 1))), (12, .int (V 11 c)), (0, .ref (f 0)), (2, .int (fz_sum (fun i9 => fz_tval V nc nl i9 1) nt)), (5, .int (nI nq))] := hl
        refine W.widen (k := 400 + 30 * (c + 1)) (n := 2400 + 180 * (c + 1)) (by omega) (by omega) ?_
        exact ih368 (c + 1) (show ((c + 1) ≤ nc) from hi) (by show nc - (c + 1) < nc - c; omega) _ _ ls hG hS (lv_sub hl [4, 5, 6, 1, 2, 0] rfl)
      · skip
        refine lv_iload hx hb dL_isSound_404 (lv_at hl 1 rfl) ?_
        refine lv_iconst (v := 1) hx hb dL_isSound_406 (by decide) ?_
        refine lv_icmp_eq (tgt := 420) hx hb dL_isSound_407 (by decide) (fun z9 => absurd z9 (by rw [e9]; decide)) (fun _ => ?_)
        refine lv_aload_n hx hb dL_isSound_410 rfl (lv_at hl 2 rfl) ?_
        refine lv_iload hx hb dL_isSound_411 (lv_at hl 6 rfl) ?_
        refine lv_iconst (v := 3) hx hb dL_isSound_413 (by decide) ?_
        refine pw_call (rest := []) (pt_change hst J c 3 hi (by decide)) ⟨hx, hb, hml, hown, hts⟩ (vx_cwSW 3 hts gL_isSound_L_change rfl rfl rfl (by decide +kernel) ⟨Nat.le_of_ble_eq_true rfl, Nat.le_of_ble_eq_true rfl⟩) hK hG hS hE.1 rfl hl.1 rfl (Nat.le_of_ble_eq_true rfl) dL_isSound_414 ⟨by show _ + 2 ≤ 3000; omega, by show _ + 12 ≤ 18000; omega⟩ (fun H locs hG hS => ?_)
        refine fz_top (show _ = V 12 c from rfl) ?_
        refine lv_if_ne (tgt := 490) hx hb dL_isSound_417 (by decide) (fun z9 => absurd z9 (not_not_p (sd_h0 J hi (by rw [e9]; decide)))) (fun _ => ?_)
        refine lv_iload hx hb dL_isSound_420 (lv_at hl 1 rfl) ?_
        refine lv_iconst (v := 2) hx hb dL_isSound_422 (by decide) ?_
        refine lv_icmp_eq (tgt := 432) hx hb dL_isSound_423 (by decide) (fun z9 => absurd z9 (by rw [e9]; decide)) (fun _ => ?_)
        refine lv_iload hx hb dL_isSound_426 (lv_at hl 1 rfl) ?_
        refine lv_iconst (v := 3) hx hb dL_isSound_428 (by decide) ?_
        refine lv_icmp_ne (tgt := 436) hx hb dL_isSound_429 (by decide) (fun z9 => absurd z9 (not_not_p e9)) (fun _ => ?_)
        refine lv_iconst (v := 1) hx hb dL_isSound_432 (by decide) ?_
        refine lv_goto (tgt := 437) hx hb dL_isSound_433 (by decide) ?_
        refine lv_aload_n hx hb dL_isSound_437 rfl (lv_at hl 2 rfl) ?_
        refine lv_iload hx hb dL_isSound_438 (lv_at hl 6 rfl) ?_
        refine lv_iconst (v := 5) hx hb dL_isSound_440 (by decide) ?_
        refine pw_call (rest := [.int 1]) (pt_change hst J c 5 hi (by decide)) ⟨hx, hb, hml, hown, hts⟩ (vx_cwSW 3 hts gL_isSound_L_change rfl rfl rfl (by decide +kernel) ⟨Nat.le_of_ble_eq_true rfl, Nat.le_of_ble_eq_true rfl⟩) hK hG hS hE.1 rfl hl.1 rfl (Nat.le_of_ble_eq_true rfl) dL_isSound_441 ⟨by show _ + 2 ≤ 3000; omega, by show _ + 12 ≤ 18000; omega⟩ (fun H locs hG hS => ?_)
        refine fz_top (show _ = V 14 c from rfl) ?_
        refine lv_if_lt (tgt := 451) hx hb dL_isSound_444 (by decide) (fun z9 => absurd z9 (sd_made J hi (by rw [e9]; decide))) (fun _ => ?_)
        refine lv_iconst (v := 1) hx hb dL_isSound_447 (by decide) ?_
        refine lv_goto (tgt := 452) hx hb dL_isSound_448 (by decide) ?_
        refine lv_icmp_ne (tgt := 490) hx hb dL_isSound_452 (by decide) (fun z9 => absurd z9 (by decide)) (fun _ => ?_)
        refine lv_iload hx hb dL_isSound_455 (lv_at hl 1 rfl) ?_
        refine lv_if_eq (tgt := 470) hx hb dL_isSound_457 (by decide) (fun z9 => absurd z9 (by rw [e9]; decide)) (fun _ => ?_)
        refine lv_aload_n hx hb dL_isSound_460 rfl (lv_at hl 2 rfl) ?_
        refine lv_iload hx hb dL_isSound_461 (lv_at hl 6 rfl) ?_
        refine pw_call (rest := []) (pt_reason hst J c hi) ⟨hx, hb, hml, hown, hts⟩ (vx_cwSW 2 hts gL_isSound_L_reason rfl rfl rfl (by decide +kernel) ⟨Nat.le_of_ble_eq_true rfl, Nat.le_of_ble_eq_true rfl⟩) hK hG hS hE.1 rfl hl.1 rfl (Nat.le_of_ble_eq_true rfl) dL_isSound_463 ⟨by show _ + 1 ≤ 3000; omega, by show _ + 6 ≤ 18000; omega⟩ (fun H locs hG hS => ?_)
        refine fz_top (show _ = fz_reason V nl c from rfl) ?_
        refine lv_iconst (v := 1) hx hb dL_isSound_466 (by decide) ?_
        refine lv_icmp_ne (tgt := 490) hx hb dL_isSound_467 (by decide) (fun z9 => absurd z9 (not_not_p (sd_why (by rw [e9]; decide)))) (fun _ => ?_)
        refine lv_aload_n hx hb dL_isSound_470 rfl (lv_at hl 2 rfl) ?_
        refine lv_iload hx hb dL_isSound_471 (lv_at hl 6 rfl) ?_
        refine lv_iconst (v := 4) hx hb dL_isSound_473 (by decide) ?_
        refine pw_call (rest := []) (pt_change hst J c 4 hi (by decide)) ⟨hx, hb, hml, hown, hts⟩ (vx_cwSW 3 hts gL_isSound_L_change rfl rfl rfl (by decide +kernel) ⟨Nat.le_of_ble_eq_true rfl, Nat.le_of_ble_eq_true rfl⟩) hK hG hS hE.1 rfl hl.1 rfl (Nat.le_of_ble_eq_true rfl) dL_isSound_474 ⟨by show _ + 2 ≤ 3000; omega, by show _ + 12 ≤ 18000; omega⟩ (fun H locs hG hS => ?_)
        refine fz_top (show _ = V 13 c from rfl) ?_
        refine lv_aload_n hx hb dL_isSound_477 rfl (lv_at hl 2 rfl) ?_
        refine lv_bipush (v := 8) hx hb dL_isSound_478 (by decide) ?_
        refine pw_call (rest := [.int (V 13 c)]) (pt_whole hst J 8 (by decide)) ⟨hx, hb, hml, hown, hts⟩ (vx_cwSW 2 hts gL_isSound_L_whole rfl rfl rfl (by decide +kernel) ⟨Nat.le_of_ble_eq_true rfl, Nat.le_of_ble_eq_true rfl⟩) hK hG hS hE.1 rfl hl.1 rfl (Nat.le_of_ble_eq_true rfl) dL_isSound_480 ⟨by show _ + 1 ≤ 3000; omega, by show _ + 6 ≤ 18000; omega⟩ (fun H locs hG hS => ?_)
        refine fz_top (show _ = V 0 0 from rfl) ?_
        refine lv_icmp_gt (tgt := 490) hx hb dL_isSound_483 (by decide) (fun z9 => absurd z9 (sd_asked J hi)) (fun _ => ?_)
        refine lv_iconst (v := 1) hx hb dL_isSound_486 (by decide) ?_
        refine lv_goto (tgt := 491) hx hb dL_isSound_487 (by decide) ?_
        refine lv_istore (lv' := [(9, .int 1), (10, .int (fz_sum (V 12) (c + 1))), (12, .int (V 11 c)), (0, .ref (f 0)), (2, .int (fz_sum (fun i9 => fz_tval V nc nl i9 1) nt)), (5, .int (nI nq)), (11, .int (nI c))]) hx hb dL_isSound_491 hl (by decide) rfl (fun ls hl => ?_)
        refine W.widen (k := (400 + 30 * c) + 13) (n := (2400 + 180 * c) + 78) (by omega) (by omega) ?_
        refine lv_iinc (v := nI (c + 1)) (lv' := [(11, .int (nI (c + 1))), (9, .int 1), (10, .int (fz_sum (V 12) (c + 1))), (12, .int (V 11 c)), (0, .ref (f 0)), (2, .int (fz_sum (fun i9 => fz_tval V nc nl i9 1) nt)), (5, .int (nI nq))]) hx hb dL_isSound_493 hl (k := 6) rfl (nI_add _ 1) (by decide) rfl (fun ls hl => ?_)
        refine lv_goto (tgt := 368) hx hb dL_isSound_496 (by decide) ?_
        have hl : lv_has ls 14 [(11, .int (nI (c + 1))), (9, .int 1), (10, .int (fz_sum (V 12) (c + 1))), (12, .int (V 11 c)), (0, .ref (f 0)), (2, .int (fz_sum (fun i9 => fz_tval V nc nl i9 1) nt)), (5, .int (nI nq))] := hl
        refine W.widen (k := 400 + 30 * (c + 1)) (n := 2400 + 180 * (c + 1)) (by omega) (by omega) ?_
        exact ih368 (c + 1) (show ((c + 1) ≤ nc) from hi) (by show nc - (c + 1) < nc - c; omega) _ _ ls hG hS (lv_sub hl [4, 5, 6, 1, 2, 0] rfl)
      · skip
        refine lv_iload hx hb dL_isSound_404 (lv_at hl 1 rfl) ?_
        refine lv_iconst (v := 1) hx hb dL_isSound_406 (by decide) ?_
        refine lv_icmp_eq (tgt := 420) hx hb dL_isSound_407 (by decide) (fun z9 => absurd z9 (by rw [e9]; decide)) (fun _ => ?_)
        refine lv_aload_n hx hb dL_isSound_410 rfl (lv_at hl 2 rfl) ?_
        refine lv_iload hx hb dL_isSound_411 (lv_at hl 6 rfl) ?_
        refine lv_iconst (v := 3) hx hb dL_isSound_413 (by decide) ?_
        refine pw_call (rest := []) (pt_change hst J c 3 hi (by decide)) ⟨hx, hb, hml, hown, hts⟩ (vx_cwSW 3 hts gL_isSound_L_change rfl rfl rfl (by decide +kernel) ⟨Nat.le_of_ble_eq_true rfl, Nat.le_of_ble_eq_true rfl⟩) hK hG hS hE.1 rfl hl.1 rfl (Nat.le_of_ble_eq_true rfl) dL_isSound_414 ⟨by show _ + 2 ≤ 3000; omega, by show _ + 12 ≤ 18000; omega⟩ (fun H locs hG hS => ?_)
        refine fz_top (show _ = V 12 c from rfl) ?_
        refine lv_if_ne (tgt := 490) hx hb dL_isSound_417 (by decide) (fun z9 => absurd z9 (not_not_p (sd_h0 J hi (by rw [e9]; decide)))) (fun _ => ?_)
        refine lv_iload hx hb dL_isSound_420 (lv_at hl 1 rfl) ?_
        refine lv_iconst (v := 2) hx hb dL_isSound_422 (by decide) ?_
        refine lv_icmp_eq (tgt := 432) hx hb dL_isSound_423 (by decide) (fun z9 => absurd z9 (by rw [e9]; decide)) (fun _ => ?_)
        refine lv_iload hx hb dL_isSound_426 (lv_at hl 1 rfl) ?_
        refine lv_iconst (v := 3) hx hb dL_isSound_428 (by decide) ?_
        refine lv_icmp_ne (tgt := 436) hx hb dL_isSound_429 (by decide) (fun _ => ?_) (fun z9 => absurd z9 (by rw [e9]; decide))
        refine lv_iconst (v := 0) hx hb dL_isSound_436 (by decide) ?_
        refine lv_aload_n hx hb dL_isSound_437 rfl (lv_at hl 2 rfl) ?_
        refine lv_iload hx hb dL_isSound_438 (lv_at hl 6 rfl) ?_
        refine lv_iconst (v := 5) hx hb dL_isSound_440 (by decide) ?_
        refine pw_call (rest := [.int 0]) (pt_change hst J c 5 hi (by decide)) ⟨hx, hb, hml, hown, hts⟩ (vx_cwSW 3 hts gL_isSound_L_change rfl rfl rfl (by decide +kernel) ⟨Nat.le_of_ble_eq_true rfl, Nat.le_of_ble_eq_true rfl⟩) hK hG hS hE.1 rfl hl.1 rfl (Nat.le_of_ble_eq_true rfl) dL_isSound_441 ⟨by show _ + 2 ≤ 3000; omega, by show _ + 12 ≤ 18000; omega⟩ (fun H locs hG hS => ?_)
        refine fz_top (show _ = V 14 c from rfl) ?_
        refine lv_if_lt (tgt := 451) hx hb dL_isSound_444 (by decide) (fun _ => ?_) (fun z9 => absurd (sd_unmade J hi (by rw [e9]; decide) (by rw [e9]; decide)) z9)
        refine lv_iconst (v := 0) hx hb dL_isSound_451 (by decide) ?_
        refine lv_icmp_ne (tgt := 490) hx hb dL_isSound_452 (by decide) (fun z9 => absurd z9 (by decide)) (fun _ => ?_)
        refine lv_iload hx hb dL_isSound_455 (lv_at hl 1 rfl) ?_
        refine lv_if_eq (tgt := 470) hx hb dL_isSound_457 (by decide) (fun z9 => absurd z9 (by rw [e9]; decide)) (fun _ => ?_)
        refine lv_aload_n hx hb dL_isSound_460 rfl (lv_at hl 2 rfl) ?_
        refine lv_iload hx hb dL_isSound_461 (lv_at hl 6 rfl) ?_
        refine pw_call (rest := []) (pt_reason hst J c hi) ⟨hx, hb, hml, hown, hts⟩ (vx_cwSW 2 hts gL_isSound_L_reason rfl rfl rfl (by decide +kernel) ⟨Nat.le_of_ble_eq_true rfl, Nat.le_of_ble_eq_true rfl⟩) hK hG hS hE.1 rfl hl.1 rfl (Nat.le_of_ble_eq_true rfl) dL_isSound_463 ⟨by show _ + 1 ≤ 3000; omega, by show _ + 6 ≤ 18000; omega⟩ (fun H locs hG hS => ?_)
        refine fz_top (show _ = fz_reason V nl c from rfl) ?_
        refine lv_iconst (v := 1) hx hb dL_isSound_466 (by decide) ?_
        refine lv_icmp_ne (tgt := 490) hx hb dL_isSound_467 (by decide) (fun z9 => absurd z9 (not_not_p (sd_why (by rw [e9]; decide)))) (fun _ => ?_)
        refine lv_aload_n hx hb dL_isSound_470 rfl (lv_at hl 2 rfl) ?_
        refine lv_iload hx hb dL_isSound_471 (lv_at hl 6 rfl) ?_
        refine lv_iconst (v := 4) hx hb dL_isSound_473 (by decide) ?_
        refine pw_call (rest := []) (pt_change hst J c 4 hi (by decide)) ⟨hx, hb, hml, hown, hts⟩ (vx_cwSW 3 hts gL_isSound_L_change rfl rfl rfl (by decide +kernel) ⟨Nat.le_of_ble_eq_true rfl, Nat.le_of_ble_eq_true rfl⟩) hK hG hS hE.1 rfl hl.1 rfl (Nat.le_of_ble_eq_true rfl) dL_isSound_474 ⟨by show _ + 2 ≤ 3000; omega, by show _ + 12 ≤ 18000; omega⟩ (fun H locs hG hS => ?_)
        refine fz_top (show _ = V 13 c from rfl) ?_
        refine lv_aload_n hx hb dL_isSound_477 rfl (lv_at hl 2 rfl) ?_
        refine lv_bipush (v := 8) hx hb dL_isSound_478 (by decide) ?_
        refine pw_call (rest := [.int (V 13 c)]) (pt_whole hst J 8 (by decide)) ⟨hx, hb, hml, hown, hts⟩ (vx_cwSW 2 hts gL_isSound_L_whole rfl rfl rfl (by decide +kernel) ⟨Nat.le_of_ble_eq_true rfl, Nat.le_of_ble_eq_true rfl⟩) hK hG hS hE.1 rfl hl.1 rfl (Nat.le_of_ble_eq_true rfl) dL_isSound_480 ⟨by show _ + 1 ≤ 3000; omega, by show _ + 6 ≤ 18000; omega⟩ (fun H locs hG hS => ?_)
        refine fz_top (show _ = V 0 0 from rfl) ?_
        refine lv_icmp_gt (tgt := 490) hx hb dL_isSound_483 (by decide) (fun z9 => absurd z9 (sd_asked J hi)) (fun _ => ?_)
        refine lv_iconst (v := 1) hx hb dL_isSound_486 (by decide) ?_
        refine lv_goto (tgt := 491) hx hb dL_isSound_487 (by decide) ?_
        refine lv_istore (lv' := [(9, .int 1), (10, .int (fz_sum (V 12) (c + 1))), (12, .int (V 11 c)), (0, .ref (f 0)), (2, .int (fz_sum (fun i9 => fz_tval V nc nl i9 1) nt)), (5, .int (nI nq)), (11, .int (nI c))]) hx hb dL_isSound_491 hl (by decide) rfl (fun ls hl => ?_)
        refine W.widen (k := (400 + 30 * c) + 13) (n := (2400 + 180 * c) + 78) (by omega) (by omega) ?_
        refine lv_iinc (v := nI (c + 1)) (lv' := [(11, .int (nI (c + 1))), (9, .int 1), (10, .int (fz_sum (V 12) (c + 1))), (12, .int (V 11 c)), (0, .ref (f 0)), (2, .int (fz_sum (fun i9 => fz_tval V nc nl i9 1) nt)), (5, .int (nI nq))]) hx hb dL_isSound_493 hl (k := 6) rfl (nI_add _ 1) (by decide) rfl (fun ls hl => ?_)
        refine lv_goto (tgt := 368) hx hb dL_isSound_496 (by decide) ?_
        have hl : lv_has ls 14 [(11, .int (nI (c + 1))), (9, .int 1), (10, .int (fz_sum (V 12) (c + 1))), (12, .int (V 11 c)), (0, .ref (f 0)), (2, .int (fz_sum (fun i9 => fz_tval V nc nl i9 1) nt)), (5, .int (nI nq))] := hl
        refine W.widen (k := 400 + 30 * (c + 1)) (n := 2400 + 180 * (c + 1)) (by omega) (by omega) ?_
        exact ih368 (c + 1) (show ((c + 1) ≤ nc) from hi) (by show nc - (c + 1) < nc - c; omega) _ _ ls hG hS (lv_sub hl [4, 5, 6, 1, 2, 0] rfl)
  · skip
    have hi : ti < nt := Nat.lt_of_not_le fun z => c9 ((nI_leI (by omega) (by omega)).mpr z)
    refine lv_iload hx hb dL_isSound_98 (lv_at hl 9 rfl) ?_
    refine lv_if_eq (tgt := 276) hx hb dL_isSound_100 (by decide) (fun z9 => absurd z9 (by decide)) (fun _ => ?_)
    refine lv_iload_n hx hb dL_isSound_103 rfl (lv_at hl 1 rfl) ?_
    refine lv_aload_n hx hb dL_isSound_104 rfl (lv_at hl 0 rfl) ?_
    refine lv_iload hx hb dL_isSound_105 (lv_at hl 10 rfl) ?_
    refine lv_iconst (v := 0) hx hb dL_isSound_107 (by decide) ?_
    refine pw_call (rest := [.int (fz_sum (V 4) ti)]) (pt_team hst J ti 0 hi (by decide)) ⟨hx, hb, hml, hown, hts⟩ (vx_cwSW 3 hts gL_isSound_L_team rfl rfl rfl (by decide +kernel) ⟨Nat.le_of_ble_eq_true rfl, Nat.le_of_ble_eq_true rfl⟩) hK hG hS hE.1 rfl hl.1 rfl (Nat.le_of_ble_eq_true rfl) dL_isSound_108 ⟨by show _ + 2 ≤ 3000; omega, by show _ + 12 ≤ 18000; omega⟩ (fun H locs hG hS => ?_)
    refine fz_top (show _ = V 4 ti from rfl) ?_
    refine lv_iadd hx hb dL_isSound_111 ?_
    refine fz_top (show _ = fz_sum (V 4) (ti + 1) from rfl) ?_
    refine lv_istore_n (lv' := [(1, .int (fz_sum (V 4) (ti + 1))), (0, .ref (f 0)), (2, .int (fz_sum (fun i9 => fz_tval V nc nl i9 1) ti)), (3, .int (fz_sum (V 6) ti)), (4, .int (fz_sum (V 7) ti)), (5, .int (fz_sum (fun i9 => fz_tval V nc nl i9 4) ti)), (6, .int (fz_sum (fun i9 => fz_tval V nc nl i9 9) ti)), (7, .int (fz_sum (fun i9 => fz_tval V nc nl i9 7) ti)), (8, .int (fz_sum (fun i9 => fz_tval V nc nl i9 8) ti)), (9, .int 1), (10, .int (nI ti))]) hx hb dL_isSound_112 rfl hl (by decide) rfl (fun ls hl => ?_)
    refine W.widen (k := (100 + 40 * ti) + 3) (n := (600 + 240 * ti) + 18) (by omega) (by omega) ?_
    refine lv_iload_n hx hb dL_isSound_113 rfl (lv_at hl 2 rfl) ?_
    refine lv_aload_n hx hb dL_isSound_114 rfl (lv_at hl 1 rfl) ?_
    refine lv_iload hx hb dL_isSound_115 (lv_at hl 10 rfl) ?_
    refine lv_iconst (v := 1) hx hb dL_isSound_117 (by decide) ?_
    refine pw_call (rest := [.int (fz_sum (fun i9 => fz_tval V nc nl i9 1) ti)]) (pt_team hst J ti 1 hi (by decide)) ⟨hx, hb, hml, hown, hts⟩ (vx_cwSW 3 hts gL_isSound_L_team rfl rfl rfl (by decide +kernel) ⟨Nat.le_of_ble_eq_true rfl, Nat.le_of_ble_eq_true rfl⟩) hK hG hS hE.1 rfl hl.1 rfl (Nat.le_of_ble_eq_true rfl) dL_isSound_118 ⟨by show _ + 2 ≤ 3000; omega, by show _ + 12 ≤ 18000; omega⟩ (fun H locs hG hS => ?_)
    refine fz_top (show _ = fz_tval V nc nl ti 1 from rfl) ?_
    refine lv_iadd hx hb dL_isSound_121 ?_
    refine fz_top (show _ = fz_sum (fun i9 => fz_tval V nc nl i9 1) (ti + 1) from rfl) ?_
    refine lv_istore_n (lv' := [(2, .int (fz_sum (fun i9 => fz_tval V nc nl i9 1) (ti + 1))), (1, .int (fz_sum (V 4) (ti + 1))), (0, .ref (f 0)), (3, .int (fz_sum (V 6) ti)), (4, .int (fz_sum (V 7) ti)), (5, .int (fz_sum (fun i9 => fz_tval V nc nl i9 4) ti)), (6, .int (fz_sum (fun i9 => fz_tval V nc nl i9 9) ti)), (7, .int (fz_sum (fun i9 => fz_tval V nc nl i9 7) ti)), (8, .int (fz_sum (fun i9 => fz_tval V nc nl i9 8) ti)), (9, .int 1), (10, .int (nI ti))]) hx hb dL_isSound_122 rfl hl (by decide) rfl (fun ls hl => ?_)
    refine W.widen (k := (100 + 40 * ti) + 5) (n := (600 + 240 * ti) + 30) (by omega) (by omega) ?_
    refine lv_iload_n hx hb dL_isSound_123 rfl (lv_at hl 3 rfl) ?_
    refine lv_aload_n hx hb dL_isSound_124 rfl (lv_at hl 2 rfl) ?_
    refine lv_iload hx hb dL_isSound_125 (lv_at hl 10 rfl) ?_
    refine lv_iconst (v := 2) hx hb dL_isSound_127 (by decide) ?_
    refine pw_call (rest := [.int (fz_sum (V 6) ti)]) (pt_team hst J ti 2 hi (by decide)) ⟨hx, hb, hml, hown, hts⟩ (vx_cwSW 3 hts gL_isSound_L_team rfl rfl rfl (by decide +kernel) ⟨Nat.le_of_ble_eq_true rfl, Nat.le_of_ble_eq_true rfl⟩) hK hG hS hE.1 rfl hl.1 rfl (Nat.le_of_ble_eq_true rfl) dL_isSound_128 ⟨by show _ + 2 ≤ 3000; omega, by show _ + 12 ≤ 18000; omega⟩ (fun H locs hG hS => ?_)
    refine fz_top (show _ = V 6 ti from rfl) ?_
    refine lv_iadd hx hb dL_isSound_131 ?_
    refine fz_top (show _ = fz_sum (V 6) (ti + 1) from rfl) ?_
    refine lv_istore_n (lv' := [(3, .int (fz_sum (V 6) (ti + 1))), (2, .int (fz_sum (fun i9 => fz_tval V nc nl i9 1) (ti + 1))), (1, .int (fz_sum (V 4) (ti + 1))), (0, .ref (f 0)), (4, .int (fz_sum (V 7) ti)), (5, .int (fz_sum (fun i9 => fz_tval V nc nl i9 4) ti)), (6, .int (fz_sum (fun i9 => fz_tval V nc nl i9 9) ti)), (7, .int (fz_sum (fun i9 => fz_tval V nc nl i9 7) ti)), (8, .int (fz_sum (fun i9 => fz_tval V nc nl i9 8) ti)), (9, .int 1), (10, .int (nI ti))]) hx hb dL_isSound_132 rfl hl (by decide) rfl (fun ls hl => ?_)
    refine W.widen (k := (100 + 40 * ti) + 7) (n := (600 + 240 * ti) + 42) (by omega) (by omega) ?_
    refine lv_iload hx hb dL_isSound_133 (lv_at hl 4 rfl) ?_
    refine lv_aload_n hx hb dL_isSound_135 rfl (lv_at hl 3 rfl) ?_
    refine lv_iload hx hb dL_isSound_136 (lv_at hl 10 rfl) ?_
    refine lv_iconst (v := 3) hx hb dL_isSound_138 (by decide) ?_
    refine pw_call (rest := [.int (fz_sum (V 7) ti)]) (pt_team hst J ti 3 hi (by decide)) ⟨hx, hb, hml, hown, hts⟩ (vx_cwSW 3 hts gL_isSound_L_team rfl rfl rfl (by decide +kernel) ⟨Nat.le_of_ble_eq_true rfl, Nat.le_of_ble_eq_true rfl⟩) hK hG hS hE.1 rfl hl.1 rfl (Nat.le_of_ble_eq_true rfl) dL_isSound_139 ⟨by show _ + 2 ≤ 3000; omega, by show _ + 12 ≤ 18000; omega⟩ (fun H locs hG hS => ?_)
    refine fz_top (show _ = V 7 ti from rfl) ?_
    refine lv_iadd hx hb dL_isSound_142 ?_
    refine fz_top (show _ = fz_sum (V 7) (ti + 1) from rfl) ?_
    refine lv_istore (lv' := [(4, .int (fz_sum (V 7) (ti + 1))), (3, .int (fz_sum (V 6) (ti + 1))), (2, .int (fz_sum (fun i9 => fz_tval V nc nl i9 1) (ti + 1))), (1, .int (fz_sum (V 4) (ti + 1))), (0, .ref (f 0)), (5, .int (fz_sum (fun i9 => fz_tval V nc nl i9 4) ti)), (6, .int (fz_sum (fun i9 => fz_tval V nc nl i9 9) ti)), (7, .int (fz_sum (fun i9 => fz_tval V nc nl i9 7) ti)), (8, .int (fz_sum (fun i9 => fz_tval V nc nl i9 8) ti)), (9, .int 1), (10, .int (nI ti))]) hx hb dL_isSound_143 hl (by decide) rfl (fun ls hl => ?_)
    refine W.widen (k := (100 + 40 * ti) + 9) (n := (600 + 240 * ti) + 54) (by omega) (by omega) ?_
    refine lv_iload hx hb dL_isSound_145 (lv_at hl 5 rfl) ?_
    refine lv_aload_n hx hb dL_isSound_147 rfl (lv_at hl 4 rfl) ?_
    refine lv_iload hx hb dL_isSound_148 (lv_at hl 10 rfl) ?_
    refine lv_iconst (v := 4) hx hb dL_isSound_150 (by decide) ?_
    refine pw_call (rest := [.int (fz_sum (fun i9 => fz_tval V nc nl i9 4) ti)]) (pt_team hst J ti 4 hi (by decide)) ⟨hx, hb, hml, hown, hts⟩ (vx_cwSW 3 hts gL_isSound_L_team rfl rfl rfl (by decide +kernel) ⟨Nat.le_of_ble_eq_true rfl, Nat.le_of_ble_eq_true rfl⟩) hK hG hS hE.1 rfl hl.1 rfl (Nat.le_of_ble_eq_true rfl) dL_isSound_151 ⟨by show _ + 2 ≤ 3000; omega, by show _ + 12 ≤ 18000; omega⟩ (fun H locs hG hS => ?_)
    refine fz_top (show _ = fz_tval V nc nl ti 4 from rfl) ?_
    refine lv_iadd hx hb dL_isSound_154 ?_
    refine fz_top (show _ = fz_sum (fun i9 => fz_tval V nc nl i9 4) (ti + 1) from rfl) ?_
    refine lv_istore (lv' := [(5, .int (fz_sum (fun i9 => fz_tval V nc nl i9 4) (ti + 1))), (4, .int (fz_sum (V 7) (ti + 1))), (3, .int (fz_sum (V 6) (ti + 1))), (2, .int (fz_sum (fun i9 => fz_tval V nc nl i9 1) (ti + 1))), (1, .int (fz_sum (V 4) (ti + 1))), (0, .ref (f 0)), (6, .int (fz_sum (fun i9 => fz_tval V nc nl i9 9) ti)), (7, .int (fz_sum (fun i9 => fz_tval V nc nl i9 7) ti)), (8, .int (fz_sum (fun i9 => fz_tval V nc nl i9 8) ti)), (9, .int 1), (10, .int (nI ti))]) hx hb dL_isSound_155 hl (by decide) rfl (fun ls hl => ?_)
    refine W.widen (k := (100 + 40 * ti) + 11) (n := (600 + 240 * ti) + 66) (by omega) (by omega) ?_
    refine lv_iload hx hb dL_isSound_157 (lv_at hl 7 rfl) ?_
    refine lv_aload_n hx hb dL_isSound_159 rfl (lv_at hl 5 rfl) ?_
    refine lv_iload hx hb dL_isSound_160 (lv_at hl 10 rfl) ?_
    refine lv_bipush (v := 7) hx hb dL_isSound_162 (by decide) ?_
    refine pw_call (rest := [.int (fz_sum (fun i9 => fz_tval V nc nl i9 7) ti)]) (pt_team hst J ti 7 hi (by decide)) ⟨hx, hb, hml, hown, hts⟩ (vx_cwSW 3 hts gL_isSound_L_team rfl rfl rfl (by decide +kernel) ⟨Nat.le_of_ble_eq_true rfl, Nat.le_of_ble_eq_true rfl⟩) hK hG hS hE.1 rfl hl.1 rfl (Nat.le_of_ble_eq_true rfl) dL_isSound_164 ⟨by show _ + 2 ≤ 3000; omega, by show _ + 12 ≤ 18000; omega⟩ (fun H locs hG hS => ?_)
    refine fz_top (show _ = fz_tval V nc nl ti 7 from rfl) ?_
    refine lv_iadd hx hb dL_isSound_167 ?_
    refine fz_top (show _ = fz_sum (fun i9 => fz_tval V nc nl i9 7) (ti + 1) from rfl) ?_
    refine lv_istore (lv' := [(7, .int (fz_sum (fun i9 => fz_tval V nc nl i9 7) (ti + 1))), (5, .int (fz_sum (fun i9 => fz_tval V nc nl i9 4) (ti + 1))), (4, .int (fz_sum (V 7) (ti + 1))), (3, .int (fz_sum (V 6) (ti + 1))), (2, .int (fz_sum (fun i9 => fz_tval V nc nl i9 1) (ti + 1))), (1, .int (fz_sum (V 4) (ti + 1))), (0, .ref (f 0)), (6, .int (fz_sum (fun i9 => fz_tval V nc nl i9 9) ti)), (8, .int (fz_sum (fun i9 => fz_tval V nc nl i9 8) ti)), (9, .int 1), (10, .int (nI ti))]) hx hb dL_isSound_168 hl (by decide) rfl (fun ls hl => ?_)
    refine W.widen (k := (100 + 40 * ti) + 13) (n := (600 + 240 * ti) + 78) (by omega) (by omega) ?_
    refine lv_iload hx hb dL_isSound_170 (lv_at hl 8 rfl) ?_
    refine lv_aload_n hx hb dL_isSound_172 rfl (lv_at hl 6 rfl) ?_
    refine lv_iload hx hb dL_isSound_173 (lv_at hl 10 rfl) ?_
    refine lv_bipush (v := 8) hx hb dL_isSound_175 (by decide) ?_
    refine pw_call (rest := [.int (fz_sum (fun i9 => fz_tval V nc nl i9 8) ti)]) (pt_team hst J ti 8 hi (by decide)) ⟨hx, hb, hml, hown, hts⟩ (vx_cwSW 3 hts gL_isSound_L_team rfl rfl rfl (by decide +kernel) ⟨Nat.le_of_ble_eq_true rfl, Nat.le_of_ble_eq_true rfl⟩) hK hG hS hE.1 rfl hl.1 rfl (Nat.le_of_ble_eq_true rfl) dL_isSound_177 ⟨by show _ + 2 ≤ 3000; omega, by show _ + 12 ≤ 18000; omega⟩ (fun H locs hG hS => ?_)
    refine fz_top (show _ = fz_tval V nc nl ti 8 from rfl) ?_
    refine lv_iadd hx hb dL_isSound_180 ?_
    refine fz_top (show _ = fz_sum (fun i9 => fz_tval V nc nl i9 8) (ti + 1) from rfl) ?_
    refine lv_istore (lv' := [(8, .int (fz_sum (fun i9 => fz_tval V nc nl i9 8) (ti + 1))), (7, .int (fz_sum (fun i9 => fz_tval V nc nl i9 7) (ti + 1))), (5, .int (fz_sum (fun i9 => fz_tval V nc nl i9 4) (ti + 1))), (4, .int (fz_sum (V 7) (ti + 1))), (3, .int (fz_sum (V 6) (ti + 1))), (2, .int (fz_sum (fun i9 => fz_tval V nc nl i9 1) (ti + 1))), (1, .int (fz_sum (V 4) (ti + 1))), (0, .ref (f 0)), (6, .int (fz_sum (fun i9 => fz_tval V nc nl i9 9) ti)), (9, .int 1), (10, .int (nI ti))]) hx hb dL_isSound_181 hl (by decide) rfl (fun ls hl => ?_)
    refine W.widen (k := (100 + 40 * ti) + 15) (n := (600 + 240 * ti) + 90) (by omega) (by omega) ?_
    refine lv_iload hx hb dL_isSound_183 (lv_at hl 8 rfl) ?_
    refine lv_aload_n hx hb dL_isSound_185 rfl (lv_at hl 7 rfl) ?_
    refine lv_iload hx hb dL_isSound_186 (lv_at hl 10 rfl) ?_
    refine lv_bipush (v := 9) hx hb dL_isSound_188 (by decide) ?_
    refine pw_call (rest := [.int (fz_sum (fun i9 => fz_tval V nc nl i9 9) ti)]) (pt_team hst J ti 9 hi (by decide)) ⟨hx, hb, hml, hown, hts⟩ (vx_cwSW 3 hts gL_isSound_L_team rfl rfl rfl (by decide +kernel) ⟨Nat.le_of_ble_eq_true rfl, Nat.le_of_ble_eq_true rfl⟩) hK hG hS hE.1 rfl hl.1 rfl (Nat.le_of_ble_eq_true rfl) dL_isSound_190 ⟨by show _ + 2 ≤ 3000; omega, by show _ + 12 ≤ 18000; omega⟩ (fun H locs hG hS => ?_)
    refine fz_top (show _ = fz_tval V nc nl ti 9 from rfl) ?_
    refine lv_iadd hx hb dL_isSound_193 ?_
    refine fz_top (show _ = fz_sum (fun i9 => fz_tval V nc nl i9 9) (ti + 1) from rfl) ?_
    refine lv_istore (lv' := [(6, .int (fz_sum (fun i9 => fz_tval V nc nl i9 9) (ti + 1))), (8, .int (fz_sum (fun i9 => fz_tval V nc nl i9 8) (ti + 1))), (7, .int (fz_sum (fun i9 => fz_tval V nc nl i9 7) (ti + 1))), (5, .int (fz_sum (fun i9 => fz_tval V nc nl i9 4) (ti + 1))), (4, .int (fz_sum (V 7) (ti + 1))), (3, .int (fz_sum (V 6) (ti + 1))), (2, .int (fz_sum (fun i9 => fz_tval V nc nl i9 1) (ti + 1))), (1, .int (fz_sum (V 4) (ti + 1))), (0, .ref (f 0)), (9, .int 1), (10, .int (nI ti))]) hx hb dL_isSound_194 hl (by decide) rfl (fun ls hl => ?_)
    refine W.widen (k := (100 + 40 * ti) + 17) (n := (600 + 240 * ti) + 102) (by omega) (by omega) ?_
    refine lv_aload_n hx hb dL_isSound_196 rfl (lv_at hl 8 rfl) ?_
    refine lv_iload hx hb dL_isSound_197 (lv_at hl 10 rfl) ?_
    refine lv_iconst (v := 0) hx hb dL_isSound_199 (by decide) ?_
    refine pw_call (rest := []) (pt_team hst J ti 0 hi (by decide)) ⟨hx, hb, hml, hown, hts⟩ (vx_cwSW 3 hts gL_isSound_L_team rfl rfl rfl (by decide +kernel) ⟨Nat.le_of_ble_eq_true rfl, Nat.le_of_ble_eq_true rfl⟩) hK hG hS hE.1 rfl hl.1 rfl (Nat.le_of_ble_eq_true rfl) dL_isSound_200 ⟨by show _ + 2 ≤ 3000; omega, by show _ + 12 ≤ 18000; omega⟩ (fun H locs hG hS => ?_)
    refine fz_top (show _ = V 4 ti from rfl) ?_
    refine lv_if_lt (tgt := 267) hx hb dL_isSound_203 (by decide) (fun z9 => absurd z9 (sd_free J hB hi)) (fun _ => ?_)
    refine lv_aload_n hx hb dL_isSound_206 rfl (lv_at hl 8 rfl) ?_
    refine lv_iload hx hb dL_isSound_207 (lv_at hl 10 rfl) ?_
    refine pw_call (rest := []) (pt_xc hst J ti hi) ⟨hx, hb, hml, hown, hts⟩ (vx_cwSW 2 hts gL_isSound_L_exemptible rfl rfl rfl (by decide +kernel) ⟨Nat.le_of_ble_eq_true rfl, Nat.le_of_ble_eq_true rfl⟩) hK hG hS hE.1 rfl hl.1 rfl (Nat.le_of_ble_eq_true rfl) dL_isSound_209 ⟨by show _ + 1 ≤ 3000; omega, by show _ + 6 ≤ 18000; omega⟩ (fun H locs hG hS => ?_)
    refine fz_top (show _ = fz_xc V nl nq ti from rfl) ?_
    refine lv_if_lt (tgt := 267) hx hb dL_isSound_212 (by decide) (fun z9 => absurd z9 (sd_xc0 J hi)) (fun _ => ?_)
    refine lv_aload_n hx hb dL_isSound_215 rfl (lv_at hl 8 rfl) ?_
    refine lv_iload hx hb dL_isSound_216 (lv_at hl 10 rfl) ?_
    refine pw_call (rest := []) (pt_xc hst J ti hi) ⟨hx, hb, hml, hown, hts⟩ (vx_cwSW 2 hts gL_isSound_L_exemptible rfl rfl rfl (by decide +kernel) ⟨Nat.le_of_ble_eq_true rfl, Nat.le_of_ble_eq_true rfl⟩) hK hG hS hE.1 rfl hl.1 rfl (Nat.le_of_ble_eq_true rfl) dL_isSound_218 ⟨by show _ + 1 ≤ 3000; omega, by show _ + 6 ≤ 18000; omega⟩ (fun H locs hG hS => ?_)
    refine fz_top (show _ = fz_xc V nl nq ti from rfl) ?_
    refine lv_aload_n hx hb dL_isSound_221 rfl (lv_at hl 8 rfl) ?_
    refine lv_iload hx hb dL_isSound_222 (lv_at hl 10 rfl) ?_
    refine lv_iconst (v := 4) hx hb dL_isSound_224 (by decide) ?_
    refine pw_call (rest := [.int (fz_xc V nl nq ti)]) (pt_team hst J ti 4 hi (by decide)) ⟨hx, hb, hml, hown, hts⟩ (vx_cwSW 3 hts gL_isSound_L_team rfl rfl rfl (by decide +kernel) ⟨Nat.le_of_ble_eq_true rfl, Nat.le_of_ble_eq_true rfl⟩) hK hG hS hE.1 rfl hl.1 rfl (Nat.le_of_ble_eq_true rfl) dL_isSound_225 ⟨by show _ + 2 ≤ 3000; omega, by show _ + 12 ≤ 18000; omega⟩ (fun H locs hG hS => ?_)
    refine fz_top (show _ = fz_tval V nc nl ti 4 from rfl) ?_
    refine lv_icmp_gt (tgt := 267) hx hb dL_isSound_228 (by decide) (fun z9 => absurd z9 (sd_xc4 J hi)) (fun _ => ?_)
    refine lv_aload_n hx hb dL_isSound_231 rfl (lv_at hl 8 rfl) ?_
    refine lv_iload hx hb dL_isSound_232 (lv_at hl 10 rfl) ?_
    refine lv_bipush (v := 9) hx hb dL_isSound_234 (by decide) ?_
    refine pw_call (rest := []) (pt_team hst J ti 9 hi (by decide)) ⟨hx, hb, hml, hown, hts⟩ (vx_cwSW 3 hts gL_isSound_L_team rfl rfl rfl (by decide +kernel) ⟨Nat.le_of_ble_eq_true rfl, Nat.le_of_ble_eq_true rfl⟩) hK hG hS hE.1 rfl hl.1 rfl (Nat.le_of_ble_eq_true rfl) dL_isSound_236 ⟨by show _ + 2 ≤ 3000; omega, by show _ + 12 ≤ 18000; omega⟩ (fun H locs hG hS => ?_)
    refine fz_top (show _ = fz_tval V nc nl ti 9 from rfl) ?_
    refine lv_if_eq (tgt := 263) hx hb dL_isSound_239 (by decide) (fun c8 => ?_) (fun c8 => ?_)
    · skip
      refine lv_iconst (v := 1) hx hb dL_isSound_263 (by decide) ?_
      refine lv_goto (tgt := 268) hx hb dL_isSound_264 (by decide) ?_
      refine lv_istore (lv' := [(9, .int 1), (6, .int (fz_sum (fun i9 => fz_tval V nc nl i9 9) (ti + 1))), (8, .int (fz_sum (fun i9 => fz_tval V nc nl i9 8) (ti + 1))), (7, .int (fz_sum (fun i9 => fz_tval V nc nl i9 7) (ti + 1))), (5, .int (fz_sum (fun i9 => fz_tval V nc nl i9 4) (ti + 1))), (4, .int (fz_sum (V 7) (ti + 1))), (3, .int (fz_sum (V 6) (ti + 1))), (2, .int (fz_sum (fun i9 => fz_tval V nc nl i9 1) (ti + 1))), (1, .int (fz_sum (V 4) (ti + 1))), (0, .ref (f 0)), (10, .int (nI ti))]) hx hb dL_isSound_268 hl (by decide) rfl (fun ls hl => ?_)
      refine W.widen (k := (100 + 40 * ti) + 25) (n := (600 + 240 * ti) + 150) (by omega) (by omega) ?_
      refine lv_iinc (v := nI (ti + 1)) (lv' := [(10, .int (nI (ti + 1))), (9, .int 1), (6, .int (fz_sum (fun i9 => fz_tval V nc nl i9 9) (ti + 1))), (8, .int (fz_sum (fun i9 => fz_tval V nc nl i9 8) (ti + 1))), (7, .int (fz_sum (fun i9 => fz_tval V nc nl i9 7) (ti + 1))), (5, .int (fz_sum (fun i9 => fz_tval V nc nl i9 4) (ti + 1))), (4, .int (fz_sum (V 7) (ti + 1))), (3, .int (fz_sum (V 6) (ti + 1))), (2, .int (fz_sum (fun i9 => fz_tval V nc nl i9 1) (ti + 1))), (1, .int (fz_sum (V 4) (ti + 1))), (0, .ref (f 0))]) hx hb dL_isSound_270 hl (k := 10) rfl (nI_add _ 1) (by decide) rfl (fun ls hl => ?_)
      refine lv_goto (tgt := 88) hx hb dL_isSound_273 (by decide) ?_
      have hl : lv_has ls 14 [(10, .int (nI (ti + 1))), (9, .int 1), (6, .int (fz_sum (fun i9 => fz_tval V nc nl i9 9) (ti + 1))), (8, .int (fz_sum (fun i9 => fz_tval V nc nl i9 8) (ti + 1))), (7, .int (fz_sum (fun i9 => fz_tval V nc nl i9 7) (ti + 1))), (5, .int (fz_sum (fun i9 => fz_tval V nc nl i9 4) (ti + 1))), (4, .int (fz_sum (V 7) (ti + 1))), (3, .int (fz_sum (V 6) (ti + 1))), (2, .int (fz_sum (fun i9 => fz_tval V nc nl i9 1) (ti + 1))), (1, .int (fz_sum (V 4) (ti + 1))), (0, .ref (f 0))] := hl
      refine W.widen (k := 100 + 40 * (ti + 1)) (n := 600 + 240 * (ti + 1)) (by omega) (by omega) ?_
      exact ih88 (ti + 1) (show ((ti + 1) ≤ nt) from hi) (by show nt - (ti + 1) < nt - ti; omega) _ _ ls hG hS (lv_sub hl [10, 9, 8, 7, 6, 5, 2, 4, 3, 1, 0] rfl)
    · skip
      refine lv_aload_n hx hb dL_isSound_242 rfl (lv_at hl 8 rfl) ?_
      refine lv_iload hx hb dL_isSound_243 (lv_at hl 10 rfl) ?_
      refine pw_call (rest := []) (pt_xc hst J ti hi) ⟨hx, hb, hml, hown, hts⟩ (vx_cwSW 2 hts gL_isSound_L_exemptible rfl rfl rfl (by decide +kernel) ⟨Nat.le_of_ble_eq_true rfl, Nat.le_of_ble_eq_true rfl⟩) hK hG hS hE.1 rfl hl.1 rfl (Nat.le_of_ble_eq_true rfl) dL_isSound_245 ⟨by show _ + 1 ≤ 3000; omega, by show _ + 6 ≤ 18000; omega⟩ (fun H locs hG hS => ?_)
      refine fz_top (show _ = fz_xc V nl nq ti from rfl) ?_
      refine W.widen (k := (100 + 40 * ti) + 26) (n := (600 + 240 * ti) + 156) (by omega) (by omega) ?_
      refine lv_if_ne (tgt := 267) hx hb dL_isSound_248 (by decide) (fun z9 => absurd z9 (not_not_p (sd_owe_xc c8))) (fun _ => ?_)
      refine lv_aload_n hx hb dL_isSound_251 rfl (lv_at hl 8 rfl) ?_
      refine lv_iload hx hb dL_isSound_252 (lv_at hl 10 rfl) ?_
      refine lv_bipush (v := 9) hx hb dL_isSound_254 (by decide) ?_
      refine pw_call (rest := []) (pt_lender hst J ti hi 9 (by decide)) ⟨hx, hb, hml, hown, hts⟩ (vx_cwSW 3 hts gL_isSound_L_lender rfl rfl rfl (by decide +kernel) ⟨Nat.le_of_ble_eq_true rfl, Nat.le_of_ble_eq_true rfl⟩) hK hG hS hE.1 rfl hl.1 rfl (Nat.le_of_ble_eq_true rfl) dL_isSound_256 ⟨by show _ + 2 ≤ 3000; omega, by show _ + 12 ≤ 18000; omega⟩ (fun H locs hG hS => ?_)
      refine fz_top (show _ = fz_ldr V nt nl (nI ti) 9 from rfl) ?_
      refine lv_iconst (v := (-1)) hx hb dL_isSound_259 (by decide) ?_
      refine lv_icmp_ne (tgt := 267) hx hb dL_isSound_260 (by decide) (fun z9 => absurd z9 (not_not_p (sd_owe_ldr c8))) (fun _ => ?_)
      refine lv_iconst (v := 1) hx hb dL_isSound_263 (by decide) ?_
      refine lv_goto (tgt := 268) hx hb dL_isSound_264 (by decide) ?_
      refine lv_istore (lv' := [(9, .int 1), (6, .int (fz_sum (fun i9 => fz_tval V nc nl i9 9) (ti + 1))), (8, .int (fz_sum (fun i9 => fz_tval V nc nl i9 8) (ti + 1))), (7, .int (fz_sum (fun i9 => fz_tval V nc nl i9 7) (ti + 1))), (5, .int (fz_sum (fun i9 => fz_tval V nc nl i9 4) (ti + 1))), (4, .int (fz_sum (V 7) (ti + 1))), (3, .int (fz_sum (V 6) (ti + 1))), (2, .int (fz_sum (fun i9 => fz_tval V nc nl i9 1) (ti + 1))), (1, .int (fz_sum (V 4) (ti + 1))), (0, .ref (f 0)), (10, .int (nI ti))]) hx hb dL_isSound_268 hl (by decide) rfl (fun ls hl => ?_)
      refine W.widen (k := (100 + 40 * ti) + 28) (n := (600 + 240 * ti) + 168) (by omega) (by omega) ?_
      refine lv_iinc (v := nI (ti + 1)) (lv' := [(10, .int (nI (ti + 1))), (9, .int 1), (6, .int (fz_sum (fun i9 => fz_tval V nc nl i9 9) (ti + 1))), (8, .int (fz_sum (fun i9 => fz_tval V nc nl i9 8) (ti + 1))), (7, .int (fz_sum (fun i9 => fz_tval V nc nl i9 7) (ti + 1))), (5, .int (fz_sum (fun i9 => fz_tval V nc nl i9 4) (ti + 1))), (4, .int (fz_sum (V 7) (ti + 1))), (3, .int (fz_sum (V 6) (ti + 1))), (2, .int (fz_sum (fun i9 => fz_tval V nc nl i9 1) (ti + 1))), (1, .int (fz_sum (V 4) (ti + 1))), (0, .ref (f 0))]) hx hb dL_isSound_270 hl (k := 10) rfl (nI_add _ 1) (by decide) rfl (fun ls hl => ?_)
      refine lv_goto (tgt := 88) hx hb dL_isSound_273 (by decide) ?_
      have hl : lv_has ls 14 [(10, .int (nI (ti + 1))), (9, .int 1), (6, .int (fz_sum (fun i9 => fz_tval V nc nl i9 9) (ti + 1))), (8, .int (fz_sum (fun i9 => fz_tval V nc nl i9 8) (ti + 1))), (7, .int (fz_sum (fun i9 => fz_tval V nc nl i9 7) (ti + 1))), (5, .int (fz_sum (fun i9 => fz_tval V nc nl i9 4) (ti + 1))), (4, .int (fz_sum (V 7) (ti + 1))), (3, .int (fz_sum (V 6) (ti + 1))), (2, .int (fz_sum (fun i9 => fz_tval V nc nl i9 1) (ti + 1))), (1, .int (fz_sum (V 4) (ti + 1))), (0, .ref (f 0))] := hl
      refine W.widen (k := 100 + 40 * (ti + 1)) (n := 600 + 240 * (ti + 1)) (by omega) (by omega) ?_
      exact ih88 (ti + 1) (show ((ti + 1) ≤ nt) from hi) (by show nt - (ti + 1) < nt - ti; omega) _ _ ls hG hS (lv_sub hl [10, 9, 8, 7, 6, 5, 2, 4, 3, 1, 0] rfl)
