set_option maxHeartbeats 4000000 in
set_option maxRecDepth 100000 in
theorem m_weeks {l : Launch} {D : va_G} {cy : Nat → ClassId} {A : Nat → Prop} {f a t h x ad adK adV : Nat → Nat} {cn : Nat} {V : Nat → Nat → Int32} {L : List Int32} {nt nc nq nl wk B : Nat} (hst : l.stackTraces = false) (J : pJ V nt nc nq nl wk B) (hB : B < 50000000) {ti ri my : Nat} (ht : ti < nt) (h1 : 1 ≤ ri) (h9r : ri ≤ 9) (hm4 : my ≤ 4) : pm_M l yL_weeks wsL_weeks 9 151 200 1200 D cy A (pE ad adK adV A) [.ref (f 0), .int (nI ti), .int (nI ri), .int (nI my)] (pS cy f a t h x ad cn V L) (fun r W9 => r = 1 ∧ ∃ (cm wk9 : Nat) (U : Nat → Nat → Int32), pJ U nt nc nq nl wk9 (B + 400000) ∧ pS cy f a t h x ad cm U L W9) := by
  refine Met.ofW (cc := cL_weeks) (maxL := 10) (ret := (some .boolean)) (by decide) rfl ?_
  intro p e s m args below meth c s₁ B9 hml hv
  obtain ⟨rfl, hG, hK, hE⟩ := hv
  have hx := B9.exec
  have hb := B9.bytes
  have hr := B9.returns
  have hts := atoms_spec (ws := wsL_weeks) B9.pre
  have hown : s.vm.findClass RL = some m.cls := findClass_of_methodNamed B9.named
  have hlocks := B9.notSynchronized
  have hS : va_S A s.heap s.heap [] := va_S.rf
  have hl := lv_entry ([.ref (f 0), .int (nI ti), .int (nI ri), .int (nI my)]) (n := 10) (Nat.le_of_ble_eq_true rfl)
  rw [lg_entry_eq]
  generalize (lg_sl ([.ref (f 0), .int (nI ti), .int (nI ri), .int (nI my)]) ++ List.replicate (10 - (lg_sl ([.ref (f 0), .int (nI ti), .int (nI ri), .int (nI my)])).length) Slot.unset).toArray = ls at hl ⊢
  have hl : lv_has ls 10 [(0, .ref (f 0)), (1, .int (nI ti)), (2, .int (nI ri)), (3, .int (nI my))] := hl
  have h6 := J.nt6
  have h30 := J.nc30
  have hqc := J.nqc
  have h12 := J.nl12
  have h39 := J.wk39
  rcases wu_or (f := fun k => fz_its V nt nc nl wk k 4 ti) (c := nI ri * V 1 0) (39 - wk) 0 with ⟨u0, -, hu39, eu, hge, hlt⟩ | ⟨eu, hlt⟩
  · skip
    refine lv_aload_n hx hb dL_weeks_0 rfl (lv_at hl 0 rfl) ?_
    refine lv_bipush (v := 8) hx hb dL_weeks_1 (by decide) ?_
    refine pw_call (rest := []) (pt_whole hst J 8 (by decide)) ⟨hx, hb, hml, hown, hts⟩ (vx_cwSW 2 hts gL_weeks_L_whole rfl rfl rfl (by decide +kernel) ⟨Nat.le_of_ble_eq_true rfl, Nat.le_of_ble_eq_true rfl⟩) hK hG hS hE.1 rfl hl.1 rfl (Nat.le_of_ble_eq_true rfl) dL_weeks_3 ⟨by show _ + 1 ≤ 200; omega, by show _ + 6 ≤ 1200; omega⟩ (fun H locs hG hS => ?_)
    refine fz_top (show _ = nI wk from J.e0) ?_
    by_cases hu0 : u0 = 0
    · skip
      refine lv_istore (lv' := [(4, .int (nI wk)), (0, .ref (f 0)), (1, .int (nI ti)), (2, .int (nI ri)), (3, .int (nI my))]) hx hb dL_weeks_6 hl (by decide) rfl (fun ls hl => ?_)
      refine W.widen (k := 1) (n := 6) (by omega) (by omega) ?_
      refine lv_aload_n hx hb dL_weeks_8 rfl (lv_at hl 1 rfl) ?_
      refine lv_iload_n hx hb dL_weeks_9 rfl (lv_at hl 2 rfl) ?_
      refine lv_iload_n hx hb dL_weeks_10 rfl (lv_at hl 3 rfl) ?_
      refine pw_call (rest := []) (pt_until hst J ti ht (nI ri) (rk_ok h1 h9r)) ⟨hx, hb, hml, hown, hts⟩ (vx_cwSW 3 hts gL_weeks_L_weeksUntil rfl rfl rfl (by decide +kernel) ⟨Nat.le_of_ble_eq_true rfl, Nat.le_of_ble_eq_true rfl⟩) hK hG hS hE.1 rfl hl.1 rfl (Nat.le_of_ble_eq_true rfl) dL_weeks_11 ⟨by show _ + 2 ≤ 200; omega, by show _ + 12 ≤ 1200; omega⟩ (fun H locs hG hS => ?_)
      refine fz_top (show _ = nI u0 from eu) ?_
      refine lv_istore (lv' := [(5, .int (nI u0)), (4, .int (nI wk)), (0, .ref (f 0)), (1, .int (nI ti)), (2, .int (nI ri)), (3, .int (nI my))]) hx hb dL_weeks_14 hl (by decide) rfl (fun ls hl => ?_)
      refine W.widen (k := 3) (n := 18) (by omega) (by omega) ?_
      refine lv_iload_n hx hb dL_weeks_16 rfl (lv_at hl 4 rfl) ?_
      refine lv_aload_n hx hb dL_weeks_17 rfl (lv_at hl 2 rfl) ?_
      refine lv_iconst (v := 4) hx hb dL_weeks_18 (by decide) ?_
      refine pw_call (rest := [.int (nI ri)]) (pt_whole hst J 4 (by decide)) ⟨hx, hb, hml, hown, hts⟩ (vx_cwSW 2 hts gL_weeks_L_whole rfl rfl rfl (by decide +kernel) ⟨Nat.le_of_ble_eq_true rfl, Nat.le_of_ble_eq_true rfl⟩) hK hG hS hE.1 rfl hl.1 rfl (Nat.le_of_ble_eq_true rfl) dL_weeks_19 ⟨by show _ + 1 ≤ 200; omega, by show _ + 6 ≤ 1200; omega⟩ (fun H locs hG hS => ?_)
      refine fz_top (show _ = V 1 0 from rfl) ?_
      refine lv_imul hx hb dL_weeks_22 ?_
      refine lv_istore (lv' := [(6, .int ((nI ri) * (V 1 0))), (5, .int (nI u0)), (4, .int (nI wk)), (0, .ref (f 0)), (1, .int (nI ti)), (2, .int (nI ri)), (3, .int (nI my))]) hx hb dL_weeks_23 hl (by decide) rfl (fun ls hl => ?_)
      refine W.widen (k := 4) (n := 24) (by omega) (by omega) ?_
      by_cases hm : wk + my ≤ 39
      · skip
        obtain ⟨b9, hb9, eb⟩ := being_n (its_J J (by omega) my hm) (by omega)
        refine lv_aload_n hx hb dL_weeks_25 rfl (lv_at hl 3 rfl) ?_
        refine lv_iload_n hx hb dL_weeks_26 rfl (lv_at hl 6 rfl) ?_
        refine pw_call (rest := []) (pt_being hst J my (by omega)) ⟨hx, hb, hml, hown, hts⟩ (vx_cwSW 2 hts gL_weeks_L_inBeing rfl rfl rfl (by decide +kernel) ⟨Nat.le_of_ble_eq_true rfl, Nat.le_of_ble_eq_true rfl⟩) hK hG hS hE.1 rfl hl.1 rfl (Nat.le_of_ble_eq_true rfl) dL_weeks_27 ⟨by show _ + 1 ≤ 200; omega, by show _ + 6 ≤ 1200; omega⟩ (fun H locs hG hS => ?_)
        refine fz_top (show _ = fz_sum ((fz_its V nt nc nl wk my) 4) nt + fz_sum ((fz_its V nt nc nl wk my) 12) nc from if_pos hm) ?_
        refine lv_istore (lv' := [(7, .int (fz_sum ((fz_its V nt nc nl wk my) 4) nt + fz_sum ((fz_its V nt nc nl wk my) 12) nc)), (6, .int ((nI ri) * (V 1 0))), (5, .int (nI u0)), (4, .int (nI wk)), (0, .ref (f 0)), (1, .int (nI ti)), (2, .int (nI ri)), (3, .int (nI my))]) hx hb dL_weeks_30 hl (by decide) rfl (fun ls hl => ?_)
        refine W.widen (k := 5) (n := 30) (by omega) (by omega) ?_
        refine lv_iload hx hb dL_weeks_32 (lv_at hl 2 rfl) ?_
        refine lv_if_ne (tgt := 41) hx hb dL_weeks_34 (by decide) (fun z9 => absurd z9 (not_not_p (by rw [hu0]; exact nI_0))) (fun _ => ?_)
        refine lv_iconst (v := 1) hx hb dL_weeks_37 (by decide) ?_
        refine lv_goto (tgt := 42) hx hb dL_weeks_38 (by decide) ?_
        refine lv_aload_n hx hb dL_weeks_42 rfl (lv_at hl 4 rfl) ?_
        refine lv_iload_n hx hb dL_weeks_43 rfl (lv_at hl 5 rfl) ?_
        refine lv_iconst (v := 0) hx hb dL_weeks_44 (by decide) ?_
        refine pw_call (rest := [.int 1]) (pt_team hst J ti 0 ht (by decide)) ⟨hx, hb, hml, hown, hts⟩ (vx_cwSW 3 hts gL_weeks_L_team rfl rfl rfl (by decide +kernel) ⟨Nat.le_of_ble_eq_true rfl, Nat.le_of_ble_eq_true rfl⟩) hK hG hS hE.1 rfl hl.1 rfl (Nat.le_of_ble_eq_true rfl) dL_weeks_45 ⟨by show _ + 2 ≤ 200; omega, by show _ + 12 ≤ 1200; omega⟩ (fun H locs hG hS => ?_)
        refine fz_top (show _ = V 4 ti from rfl) ?_
        refine lv_iload hx hb dL_weeks_48 (lv_at hl 1 rfl) ?_
        refine lv_icmp_lt (tgt := 57) hx hb dL_weeks_50 (by decide) (fun z9 => absurd z9 (Int32.not_lt.mpr (by rw [hu0] at hge; exact hge))) (fun _ => ?_)
        refine lv_iconst (v := 1) hx hb dL_weeks_53 (by decide) ?_
        refine lv_goto (tgt := 58) hx hb dL_weeks_54 (by decide) ?_
        refine lv_icmp_ne (tgt := 93) hx hb dL_weeks_58 (by decide) (fun z9 => absurd z9 (by decide)) (fun _ => ?_)
        refine lv_iload hx hb dL_weeks_61 (lv_at hl 3 rfl) ?_
        refine lv_iload_n hx hb dL_weeks_63 rfl (lv_at hl 7 rfl) ?_
        refine lv_iadd hx hb dL_weeks_64 ?_
        refine lv_bipush (v := 39) hx hb dL_weeks_65 (by decide) ?_
        refine lv_icmp_le (tgt := 74) hx hb dL_weeks_67 (by decide) (fun _ => ?_) (fun z9 => absurd (by rw [nI_add]; exact (nI_leI (b := 39) (by omega) (by omega)).mpr hm) z9)
        refine lv_iconst (v := 0) hx hb dL_weeks_74 (by decide) ?_
        refine lv_iload hx hb dL_weeks_75 (lv_at hl 0 rfl) ?_
        refine lv_iconst (v := (-1)) hx hb dL_weeks_77 (by decide) ?_
        refine lv_icmp_ne (tgt := 85) hx hb dL_weeks_78 (by decide) (fun _ => ?_) (fun z9 => absurd z9 (by rw [eb]; exact sd_m1 (by omega)))
        refine lv_iconst (v := 0) hx hb dL_weeks_85 (by decide) ?_
        refine lv_icmp_ne (tgt := 93) hx hb dL_weeks_86 (by decide) (fun z9 => absurd z9 (by decide)) (fun _ => ?_)
        refine lv_iconst (v := 1) hx hb dL_weeks_89 (by decide) ?_
        refine lv_goto (tgt := 94) hx hb dL_weeks_90 (by decide) ?_
        refine lv_istore (lv' := [(8, .int 1), (7, .int (fz_sum ((fz_its V nt nc nl wk my) 4) nt + fz_sum ((fz_its V nt nc nl wk my) 12) nc)), (6, .int ((nI ri) * (V 1 0))), (5, .int (nI u0)), (4, .int (nI wk)), (0, .ref (f 0)), (1, .int (nI ti)), (2, .int (nI ri)), (3, .int (nI my))]) hx hb dL_weeks_94 hl (by decide) rfl (fun ls hl => ?_)
        refine W.widen (k := 7) (n := 42) (by omega) (by omega) ?_
        refine lv_iconst (v := 0) hx hb dL_weeks_96 (by decide) ?_
        refine lv_istore (lv' := [(9, .int 0), (8, .int 1), (7, .int (fz_sum ((fz_its V nt nc nl wk my) 4) nt + fz_sum ((fz_its V nt nc nl wk my) 12) nc)), (6, .int ((nI ri) * (V 1 0))), (5, .int (nI u0)), (4, .int (nI wk)), (0, .ref (f 0)), (1, .int (nI ti)), (2, .int (nI ri)), (3, .int (nI my))]) hx hb dL_weeks_97 hl (by decide) rfl (fun ls hl => ?_)
        have hl : lv_has ls 10 [(9, .int (nI 0)), (8, .int 1), (7, .int (fz_sum ((fz_its V nt nc nl wk my) 4) nt + fz_sum ((fz_its V nt nc nl wk my) 12) nc)), (6, .int (nI ri * V 1 0)), (5, .int (nI u0)), (4, .int (nI wk)), (0, .ref (f 0)), (1, .int (nI ti)), (2, .int (nI ri)), (3, .int (nI my))] := hl
        refine W.widen (k := 40 + 20 * 0) (n := 240 + 120 * 0) (by omega) (by omega) ?_
        refine pw_loop (σ := Nat × Nat) (pc := 99) (nL := 10) (rest := []) (fun x9 => match x9 with | (n, cm) => [(0, .ref (f 0)), (1, .int (nI ti)), (3, .int (nI my)), (4, .int (nI wk)), (5, .int (nI u0)), (6, .int (nI ri * V 1 0)), (7, .int (fz_sum ((fz_its V nt nc nl wk my) 4) nt + fz_sum ((fz_its V nt nc nl wk my) 12) nc)), (8, .int 1), (9, .int (nI n))]) (fun x9 => match x9 with | (n, cm) => pS cy f a t h x ad cm (fz_its V nt nc nl wk n) L) (fun x9 => match x9 with | (n, cm) => (n ≤ my) ∧ (wk + n ≤ 39)) (fun x9 => match x9 with | (n, cm) => my - n) (fun x9 => match x9 with | (n, cm) => 40 + 20 * n) (fun x9 => match x9 with | (n, cm) => 240 + 120 * n) ?_ (0, cn) (show (0 ≤ my) ∧ (wk + 0 ≤ 39) from ⟨(Nat.zero_le _), (by omega)⟩) _ _ ls hG hS (lv_sub hl [6, 7, 9, 5, 4, 3, 2, 1, 0] rfl)
        rintro ⟨n, cm⟩ ⟨hn, hwn⟩ ih99 H locs ls hG hS hl
        have hn : n ≤ my := hn
        have hwn : wk + n ≤ 39 := hwn
        have hG : pG D A (pS cy f a t h x ad cm (fz_its V nt nc nl wk n) L) H := hG
        have hl : lv_has ls 10 [(0, .ref (f 0)), (1, .int (nI ti)), (3, .int (nI my)), (4, .int (nI wk)), (5, .int (nI u0)), (6, .int (nI ri * V 1 0)), (7, .int (fz_sum ((fz_its V nt nc nl wk my) 4) nt + fz_sum ((fz_its V nt nc nl wk my) 12) nc)), (8, .int 1), (9, .int (nI n))] := hl
        show W _ _ _ _ _ _ _ _ _ _ _ _ (40 + 20 * n) (240 + 120 * n) _ _
        have J9 := its_J J (by omega) n hwn
        refine lv_iload hx hb dL_weeks_99 (lv_at hl 8 rfl) ?_
        refine lv_iload_n hx hb dL_weeks_101 rfl (lv_at hl 2 rfl) ?_
        refine lv_icmp_ge (tgt := 215) hx hb dL_weeks_102 (by decide) (fun c9 => ?_) (fun c9 => ?_)
        · skip
          have e9 : n = my := by have := (nI_leI (by omega) (by omega)).mp c9; omega
          refine lv_iload hx hb dL_weeks_215 (lv_at hl 7 rfl) ?_
          refine lv_if_eq (tgt := 285) hx hb dL_weeks_217 (by decide) (fun z9 => absurd z9 (by decide)) (fun _ => ?_)
          refine lv_aload_n hx hb dL_weeks_220 rfl (lv_at hl 0 rfl) ?_
          refine lv_bipush (v := 8) hx hb dL_weeks_221 (by decide) ?_
          refine pw_call (rest := []) (pt_whole hst J9 8 (by decide)) ⟨hx, hb, hml, hown, hts⟩ (vx_cwSW 2 hts gL_weeks_L_whole rfl rfl rfl (by decide +kernel) ⟨Nat.le_of_ble_eq_true rfl, Nat.le_of_ble_eq_true rfl⟩) hK hG hS hE.1 rfl hl.1 rfl (Nat.le_of_ble_eq_true rfl) dL_weeks_223 ⟨by show _ + 1 ≤ 200; omega, by show _ + 6 ≤ 1200; omega⟩ (fun H locs hG hS => ?_)
          refine fz_top (show _ = nI (wk + n) from J9.e0) ?_
          refine lv_iload hx hb dL_weeks_226 (lv_at hl 3 rfl) ?_
          refine lv_iload hx hb dL_weeks_228 (lv_at hl 8 rfl) ?_
          refine lv_iadd hx hb dL_weeks_230 ?_
          refine lv_icmp_ne (tgt := 285) hx hb dL_weeks_231 (by decide) (fun z9 => absurd z9 (not_not_p (nI_add wk n).symm)) (fun _ => ?_)
          refine lv_iload hx hb dL_weeks_234 (lv_at hl 8 rfl) ?_
          refine lv_iload_n hx hb dL_weeks_236 rfl (lv_at hl 2 rfl) ?_
          refine lv_icmp_lt (tgt := 258) hx hb dL_weeks_237 (by decide) (fun z9 => absurd z9 (by rw [e9]; exact Int32.lt_irrefl)) (fun _ => ?_)
          refine lv_iload hx hb dL_weeks_240 (lv_at hl 6 rfl) ?_
          refine lv_aload_n hx hb dL_weeks_242 rfl (lv_at hl 0 rfl) ?_
          refine lv_bipush (v := 10) hx hb dL_weeks_243 (by decide) ?_
          refine pw_call (rest := [.int (fz_sum ((fz_its V nt nc nl wk my) 4) nt + fz_sum ((fz_its V nt nc nl wk my) 12) nc)]) (pt_whole hst J9 10 (by decide)) ⟨hx, hb, hml, hown, hts⟩ (vx_cwSW 2 hts gL_weeks_L_whole rfl rfl rfl (by decide +kernel) ⟨Nat.le_of_ble_eq_true rfl, Nat.le_of_ble_eq_true rfl⟩) hK hG hS hE.1 rfl hl.1 rfl (Nat.le_of_ble_eq_true rfl) dL_weeks_245 ⟨by show _ + 1 ≤ 200; omega, by show _ + 6 ≤ 1200; omega⟩ (fun H locs hG hS => ?_)
          refine fz_top (show _ = fz_sum ((fz_its V nt nc nl wk n) 4) nt from rfl) ?_
          refine lv_aload_n hx hb dL_weeks_248 rfl (lv_at hl 0 rfl) ?_
          refine lv_bipush (v := 11) hx hb dL_weeks_249 (by decide) ?_
          refine pw_call (rest := [.int (fz_sum ((fz_its V nt nc nl wk n) 4) nt), .int (fz_sum ((fz_its V nt nc nl wk my) 4) nt + fz_sum ((fz_its V nt nc nl wk my) 12) nc)]) (pt_whole hst J9 11 (by decide)) ⟨hx, hb, hml, hown, hts⟩ (vx_cwSW 2 hts gL_weeks_L_whole rfl rfl rfl (by decide +kernel) ⟨Nat.le_of_ble_eq_true rfl, Nat.le_of_ble_eq_true rfl⟩) hK hG hS hE.1 rfl hl.1 rfl (Nat.le_of_ble_eq_true rfl) dL_weeks_251 ⟨by show _ + 1 ≤ 200; omega, by show _ + 6 ≤ 1200; omega⟩ (fun H locs hG hS => ?_)
          refine fz_top (show _ = fz_sum ((fz_its V nt nc nl wk n) 12) nc from rfl) ?_
          refine lv_iadd hx hb dL_weeks_254 ?_
          refine lv_icmp_ne (tgt := 285) hx hb dL_weeks_255 (by decide) (fun z9 => absurd z9 (not_not_p (by rw [e9]))) (fun _ => ?_)
          refine lv_iload hx hb dL_weeks_258 (lv_at hl 4 rfl) ?_
          refine lv_if_lt (tgt := 281) hx hb dL_weeks_260 (by decide) (fun z9 => absurd z9 (nI_pos (n := u0) (by omega))) (fun _ => ?_)
          refine lv_iload hx hb dL_weeks_263 (lv_at hl 4 rfl) ?_
          refine lv_iload hx hb dL_weeks_265 (lv_at hl 8 rfl) ?_
          refine lv_icmp_ne (tgt := 281) hx hb dL_weeks_267 (by decide) (fun c3 => ?_) (fun c3 => ?_)
          · skip
            refine lv_iconst (v := 1) hx hb dL_weeks_281 (by decide) ?_
            refine lv_goto (tgt := 286) hx hb dL_weeks_282 (by decide) ?_
            refine lv_istore (lv' := [(8, .int 1), (0, .ref (f 0)), (1, .int (nI ti)), (3, .int (nI my)), (4, .int (nI wk)), (5, .int (nI u0)), (6, .int (nI ri * V 1 0)), (7, .int (fz_sum ((fz_its V nt nc nl wk my) 4) nt + fz_sum ((fz_its V nt nc nl wk my) 12) nc)), (9, .int (nI n))]) hx hb dL_weeks_286 hl (by decide) rfl (fun ls hl => ?_)
            refine W.widen (k := (40 + 20 * n) + 3) (n := (240 + 120 * n) + 18) (by omega) (by omega) ?_
            refine lv_iload hx hb dL_weeks_288 (lv_at hl 0 rfl) ?_
            refine lv_if_eq (tgt := 317) hx hb dL_weeks_290 (by decide) (fun z9 => absurd z9 (by decide)) (fun _ => ?_)
            refine lv_aload_n hx hb dL_weeks_293 rfl (lv_at hl 1 rfl) ?_
            refine lv_bipush (v := 8) hx hb dL_weeks_294 (by decide) ?_
            refine pw_call (rest := []) (pt_whole hst J9 8 (by decide)) ⟨hx, hb, hml, hown, hts⟩ (vx_cwSW 2 hts gL_weeks_L_whole rfl rfl rfl (by decide +kernel) ⟨Nat.le_of_ble_eq_true rfl, Nat.le_of_ble_eq_true rfl⟩) hK hG hS hE.1 rfl hl.1 rfl (Nat.le_of_ble_eq_true rfl) dL_weeks_296 ⟨by show _ + 1 ≤ 200; omega, by show _ + 6 ≤ 1200; omega⟩ (fun H locs hG hS => ?_)
            refine fz_top (show _ = nI (wk + n) from J9.e0) ?_
            refine lv_bipush (v := 39) hx hb dL_weeks_299 (by decide) ?_
            refine lv_icmp_lt (tgt := 313) hx hb dL_weeks_301 (by decide) (fun c2 => ?_) (fun c2 => ?_)
            · skip
              refine lv_iconst (v := 1) hx hb dL_weeks_313 (by decide) ?_
              refine lv_goto (tgt := 318) hx hb dL_weeks_314 (by decide) ?_
              refine W.widen (k := 200) (n := 1200) (by omega) (by omega) ?_
              obtain ⟨Wn, h9, hP, hD⟩ := hG
              exact W.zret (v := 1) hx hb hr (by decide) (fun t9 ht9 hW9 => ⟨⟨_, Wn, rfl, ⟨⟨rfl, cm, wk + n, fz_its V nt nc nl wk n, J9.mono (by omega), h9⟩, hD⟩, fz_to ht9 hP⟩, hS.F ht9⟩) hS.2.2 dL_weeks_318
            · skip
              refine lv_aload_n hx hb dL_weeks_304 rfl (lv_at hl 1 rfl) ?_
              refine pw_call (rest := []) (pw_endWeek_IS hst J9.wf J9.zo (cl_no (V := (fz_its V nt nc nl wk n)) (fun z => c2 (nI_lt (b := 39) z (by omega))))) ⟨hx, hb, hml, hown, hts⟩ (vx_cwSW 1 hts gL_weeks_L_endWeek rfl rfl rfl (by decide +kernel) ⟨Nat.le_of_ble_eq_true rfl, Nat.le_of_ble_eq_true rfl⟩) hK hG hS hE.1 rfl hl.1 rfl (Nat.le_of_ble_eq_true rfl) dL_weeks_305 ⟨by show _ + 1 ≤ 200; omega, by show _ + 6 ≤ 1200; omega⟩ (fun H locs hG hS => ?_)
              refine lv_bipush (v := (-11)) hx hb dL_weeks_308 (by decide) ?_
              refine lv_icmp_ne (tgt := 317) hx hb dL_weeks_310 (by decide) (fun z9 => absurd z9 (by decide)) (fun _ => ?_)
              refine lv_iconst (v := 1) hx hb dL_weeks_313 (by decide) ?_
              refine lv_goto (tgt := 318) hx hb dL_weeks_314 (by decide) ?_
              refine W.widen (k := 200) (n := 1200) (by omega) (by omega) ?_
              obtain ⟨Wn, h9, hP, hD⟩ := hG
              exact W.zret (v := 1) hx hb hr (by decide) (fun t9 ht9 hW9 => ⟨⟨_, Wn, rfl, ⟨⟨rfl, cm, wk + n, fz_its V nt nc nl wk n, J9.mono (by omega), h9⟩, hD⟩, fz_to ht9 hP⟩, hS.F ht9⟩) hS.2.2 dL_weeks_318
          · skip
            have e6 : u0 = n := (nI_eq (by omega) (by omega)).mp c3
            refine lv_aload_n hx hb dL_weeks_270 rfl (lv_at hl 0 rfl) ?_
            refine lv_iload_n hx hb dL_weeks_271 rfl (lv_at hl 1 rfl) ?_
            refine lv_iconst (v := 0) hx hb dL_weeks_272 (by decide) ?_
            refine pw_call (rest := []) (pt_team hst J9 ti 0 ht (by decide)) ⟨hx, hb, hml, hown, hts⟩ (vx_cwSW 3 hts gL_weeks_L_team rfl rfl rfl (by decide +kernel) ⟨Nat.le_of_ble_eq_true rfl, Nat.le_of_ble_eq_true rfl⟩) hK hG hS hE.1 rfl hl.1 rfl (Nat.le_of_ble_eq_true rfl) dL_weeks_273 ⟨by show _ + 2 ≤ 200; omega, by show _ + 12 ≤ 1200; omega⟩ (fun H locs hG hS => ?_)
            refine fz_top (show _ = (fz_its V nt nc nl wk n) 4 ti from rfl) ?_
            refine lv_iload hx hb dL_weeks_276 (lv_at hl 5 rfl) ?_
            refine lv_icmp_lt (tgt := 285) hx hb dL_weeks_278 (by decide) (fun z9 => absurd z9 (Int32.not_lt.mpr (by rw [← e6]; exact hge))) (fun _ => ?_)
            refine lv_iconst (v := 1) hx hb dL_weeks_281 (by decide) ?_
            refine lv_goto (tgt := 286) hx hb dL_weeks_282 (by decide) ?_
            refine lv_istore (lv' := [(8, .int 1), (0, .ref (f 0)), (1, .int (nI ti)), (3, .int (nI my)), (4, .int (nI wk)), (5, .int (nI u0)), (6, .int (nI ri * V 1 0)), (7, .int (fz_sum ((fz_its V nt nc nl wk my) 4) nt + fz_sum ((fz_its V nt nc nl wk my) 12) nc)), (9, .int (nI n))]) hx hb dL_weeks_286 hl (by decide) rfl (fun ls hl => ?_)
            refine W.widen (k := (40 + 20 * n) + 5) (n := (240 + 120 * n) + 30) (by omega) (by omega) ?_
            refine lv_iload hx hb dL_weeks_288 (lv_at hl 0 rfl) ?_
            refine lv_if_eq (tgt := 317) hx hb dL_weeks_290 (by decide) (fun z9 => absurd z9 (by decide)) (fun _ => ?_)
            refine lv_aload_n hx hb dL_weeks_293 rfl (lv_at hl 1 rfl) ?_
            refine lv_bipush (v := 8) hx hb dL_weeks_294 (by decide) ?_
            refine pw_call (rest := []) (pt_whole hst J9 8 (by decide)) ⟨hx, hb, hml, hown, hts⟩ (vx_cwSW 2 hts gL_weeks_L_whole rfl rfl rfl (by decide +kernel) ⟨Nat.le_of_ble_eq_true rfl, Nat.le_of_ble_eq_true rfl⟩) hK hG hS hE.1 rfl hl.1 rfl (Nat.le_of_ble_eq_true rfl) dL_weeks_296 ⟨by show _ + 1 ≤ 200; omega, by show _ + 6 ≤ 1200; omega⟩ (fun H locs hG hS => ?_)
            refine fz_top (show _ = nI (wk + n) from J9.e0) ?_
            refine lv_bipush (v := 39) hx hb dL_weeks_299 (by decide) ?_
            refine lv_icmp_lt (tgt := 313) hx hb dL_weeks_301 (by decide) (fun c2 => ?_) (fun c2 => ?_)
            · skip
              refine lv_iconst (v := 1) hx hb dL_weeks_313 (by decide) ?_
              refine lv_goto (tgt := 318) hx hb dL_weeks_314 (by decide) ?_
              refine W.widen (k := 200) (n := 1200) (by omega) (by omega) ?_
              obtain ⟨Wn, h9, hP, hD⟩ := hG
              exact W.zret (v := 1) hx hb hr (by decide) (fun t9 ht9 hW9 => ⟨⟨_, Wn, rfl, ⟨⟨rfl, cm, wk + n, fz_its V nt nc nl wk n, J9.mono (by omega), h9⟩, hD⟩, fz_to ht9 hP⟩, hS.F ht9⟩) hS.2.2 dL_weeks_318
            · skip
              refine lv_aload_n hx hb dL_weeks_304 rfl (lv_at hl 1 rfl) ?_
              refine pw_call (rest := []) (pw_endWeek_IS hst J9.wf J9.zo (cl_no (V := (fz_its V nt nc nl wk n)) (fun z => c2 (nI_lt (b := 39) z (by omega))))) ⟨hx, hb, hml, hown, hts⟩ (vx_cwSW 1 hts gL_weeks_L_endWeek rfl rfl rfl (by decide +kernel) ⟨Nat.le_of_ble_eq_true rfl, Nat.le_of_ble_eq_true rfl⟩) hK hG hS hE.1 rfl hl.1 rfl (Nat.le_of_ble_eq_true rfl) dL_weeks_305 ⟨by show _ + 1 ≤ 200; omega, by show _ + 6 ≤ 1200; omega⟩ (fun H locs hG hS => ?_)
              refine lv_bipush (v := (-11)) hx hb dL_weeks_308 (by decide) ?_
              refine lv_icmp_ne (tgt := 317) hx hb dL_weeks_310 (by decide) (fun z9 => absurd z9 (by decide)) (fun _ => ?_)
              refine lv_iconst (v := 1) hx hb dL_weeks_313 (by decide) ?_
              refine lv_goto (tgt := 318) hx hb dL_weeks_314 (by decide) ?_
              refine W.widen (k := 200) (n := 1200) (by omega) (by omega) ?_
              obtain ⟨Wn, h9, hP, hD⟩ := hG
              exact W.zret (v := 1) hx hb hr (by decide) (fun t9 ht9 hW9 => ⟨⟨_, Wn, rfl, ⟨⟨rfl, cm, wk + n, fz_its V nt nc nl wk n, J9.mono (by omega), h9⟩, hD⟩, fz_to ht9 hP⟩, hS.F ht9⟩) hS.2.2 dL_weeks_318
        · skip
          have hnm : n < my := Nat.lt_of_not_le fun z => c9 ((nI_leI (by omega) (by omega)).mpr z)
          refine lv_aload_n hx hb dL_weeks_105 rfl (lv_at hl 0 rfl) ?_
          refine lv_bipush (v := 8) hx hb dL_weeks_106 (by decide) ?_
          refine pw_call (rest := []) (pt_whole hst J9 8 (by decide)) ⟨hx, hb, hml, hown, hts⟩ (vx_cwSW 2 hts gL_weeks_L_whole rfl rfl rfl (by decide +kernel) ⟨Nat.le_of_ble_eq_true rfl, Nat.le_of_ble_eq_true rfl⟩) hK hG hS hE.1 rfl hl.1 rfl (Nat.le_of_ble_eq_true rfl) dL_weeks_108 ⟨by show _ + 1 ≤ 200; omega, by show _ + 6 ≤ 1200; omega⟩ (fun H locs hG hS => ?_)
          refine fz_top (show _ = nI (wk + n) from J9.e0) ?_
          refine lv_bipush (v := 39) hx hb dL_weeks_111 (by decide) ?_
          refine lv_icmp_ge (tgt := 215) hx hb dL_weeks_113 (by decide) (fun c8 => ?_) (fun c8 => ?_)
          · skip
            have e8 : wk + n = 39 := by have := (nI_leI (a := 39) (by omega) (by omega)).mp c8; omega
            refine lv_iload hx hb dL_weeks_215 (lv_at hl 7 rfl) ?_
            refine lv_if_eq (tgt := 285) hx hb dL_weeks_217 (by decide) (fun z9 => absurd z9 (by decide)) (fun _ => ?_)
            refine lv_aload_n hx hb dL_weeks_220 rfl (lv_at hl 0 rfl) ?_
            refine lv_bipush (v := 8) hx hb dL_weeks_221 (by decide) ?_
            refine pw_call (rest := []) (pt_whole hst J9 8 (by decide)) ⟨hx, hb, hml, hown, hts⟩ (vx_cwSW 2 hts gL_weeks_L_whole rfl rfl rfl (by decide +kernel) ⟨Nat.le_of_ble_eq_true rfl, Nat.le_of_ble_eq_true rfl⟩) hK hG hS hE.1 rfl hl.1 rfl (Nat.le_of_ble_eq_true rfl) dL_weeks_223 ⟨by show _ + 1 ≤ 200; omega, by show _ + 6 ≤ 1200; omega⟩ (fun H locs hG hS => ?_)
            refine fz_top (show _ = nI (wk + n) from J9.e0) ?_
            refine lv_iload hx hb dL_weeks_226 (lv_at hl 3 rfl) ?_
            refine lv_iload hx hb dL_weeks_228 (lv_at hl 8 rfl) ?_
            refine lv_iadd hx hb dL_weeks_230 ?_
            refine lv_icmp_ne (tgt := 285) hx hb dL_weeks_231 (by decide) (fun z9 => absurd z9 (not_not_p (nI_add wk n).symm)) (fun _ => ?_)
            refine lv_iload hx hb dL_weeks_234 (lv_at hl 8 rfl) ?_
            refine lv_iload_n hx hb dL_weeks_236 rfl (lv_at hl 2 rfl) ?_
            refine lv_icmp_lt (tgt := 258) hx hb dL_weeks_237 (by decide) (fun _ => ?_) (fun z9 => absurd (nI_lt hnm (by omega)) z9)
            refine lv_iload hx hb dL_weeks_258 (lv_at hl 4 rfl) ?_
            refine lv_if_lt (tgt := 281) hx hb dL_weeks_260 (by decide) (fun z9 => absurd z9 (nI_pos (n := u0) (by omega))) (fun _ => ?_)
            refine lv_iload hx hb dL_weeks_263 (lv_at hl 4 rfl) ?_
            refine lv_iload hx hb dL_weeks_265 (lv_at hl 8 rfl) ?_
            refine lv_icmp_ne (tgt := 281) hx hb dL_weeks_267 (by decide) (fun c3 => ?_) (fun c3 => ?_)
            · skip
              refine lv_iconst (v := 1) hx hb dL_weeks_281 (by decide) ?_
              refine lv_goto (tgt := 286) hx hb dL_weeks_282 (by decide) ?_
              refine lv_istore (lv' := [(8, .int 1), (0, .ref (f 0)), (1, .int (nI ti)), (3, .int (nI my)), (4, .int (nI wk)), (5, .int (nI u0)), (6, .int (nI ri * V 1 0)), (7, .int (fz_sum ((fz_its V nt nc nl wk my) 4) nt + fz_sum ((fz_its V nt nc nl wk my) 12) nc)), (9, .int (nI n))]) hx hb dL_weeks_286 hl (by decide) rfl (fun ls hl => ?_)
              refine W.widen (k := (40 + 20 * n) + 2) (n := (240 + 120 * n) + 12) (by omega) (by omega) ?_
              refine lv_iload hx hb dL_weeks_288 (lv_at hl 0 rfl) ?_
              refine lv_if_eq (tgt := 317) hx hb dL_weeks_290 (by decide) (fun z9 => absurd z9 (by decide)) (fun _ => ?_)
              refine lv_aload_n hx hb dL_weeks_293 rfl (lv_at hl 1 rfl) ?_
              refine lv_bipush (v := 8) hx hb dL_weeks_294 (by decide) ?_
              refine pw_call (rest := []) (pt_whole hst J9 8 (by decide)) ⟨hx, hb, hml, hown, hts⟩ (vx_cwSW 2 hts gL_weeks_L_whole rfl rfl rfl (by decide +kernel) ⟨Nat.le_of_ble_eq_true rfl, Nat.le_of_ble_eq_true rfl⟩) hK hG hS hE.1 rfl hl.1 rfl (Nat.le_of_ble_eq_true rfl) dL_weeks_296 ⟨by show _ + 1 ≤ 200; omega, by show _ + 6 ≤ 1200; omega⟩ (fun H locs hG hS => ?_)
              refine fz_top (show _ = nI (wk + n) from J9.e0) ?_
              refine lv_bipush (v := 39) hx hb dL_weeks_299 (by decide) ?_
              refine lv_icmp_lt (tgt := 313) hx hb dL_weeks_301 (by decide) (fun c2 => ?_) (fun c2 => ?_)
              · skip
                refine lv_iconst (v := 1) hx hb dL_weeks_313 (by decide) ?_
                refine lv_goto (tgt := 318) hx hb dL_weeks_314 (by decide) ?_
                refine W.widen (k := 200) (n := 1200) (by omega) (by omega) ?_
                obtain ⟨Wn, h9, hP, hD⟩ := hG
                exact W.zret (v := 1) hx hb hr (by decide) (fun t9 ht9 hW9 => ⟨⟨_, Wn, rfl, ⟨⟨rfl, cm, wk + n, fz_its V nt nc nl wk n, J9.mono (by omega), h9⟩, hD⟩, fz_to ht9 hP⟩, hS.F ht9⟩) hS.2.2 dL_weeks_318
              · skip
                refine lv_aload_n hx hb dL_weeks_304 rfl (lv_at hl 1 rfl) ?_
                refine pw_call (rest := []) (pw_endWeek_IS hst J9.wf J9.zo (cl_no (V := (fz_its V nt nc nl wk n)) (fun z => c2 (nI_lt (b := 39) z (by omega))))) ⟨hx, hb, hml, hown, hts⟩ (vx_cwSW 1 hts gL_weeks_L_endWeek rfl rfl rfl (by decide +kernel) ⟨Nat.le_of_ble_eq_true rfl, Nat.le_of_ble_eq_true rfl⟩) hK hG hS hE.1 rfl hl.1 rfl (Nat.le_of_ble_eq_true rfl) dL_weeks_305 ⟨by show _ + 1 ≤ 200; omega, by show _ + 6 ≤ 1200; omega⟩ (fun H locs hG hS => ?_)
                refine lv_bipush (v := (-11)) hx hb dL_weeks_308 (by decide) ?_
                refine lv_icmp_ne (tgt := 317) hx hb dL_weeks_310 (by decide) (fun z9 => absurd z9 (by decide)) (fun _ => ?_)
                refine lv_iconst (v := 1) hx hb dL_weeks_313 (by decide) ?_
                refine lv_goto (tgt := 318) hx hb dL_weeks_314 (by decide) ?_
                refine W.widen (k := 200) (n := 1200) (by omega) (by omega) ?_
                obtain ⟨Wn, h9, hP, hD⟩ := hG
                exact W.zret (v := 1) hx hb hr (by decide) (fun t9 ht9 hW9 => ⟨⟨_, Wn, rfl, ⟨⟨rfl, cm, wk + n, fz_its V nt nc nl wk n, J9.mono (by omega), h9⟩, hD⟩, fz_to ht9 hP⟩, hS.F ht9⟩) hS.2.2 dL_weeks_318
            · skip
              have e6 : u0 = n := (nI_eq (by omega) (by omega)).mp c3
              refine lv_aload_n hx hb dL_weeks_270 rfl (lv_at hl 0 rfl) ?_
              refine lv_iload_n hx hb dL_weeks_271 rfl (lv_at hl 1 rfl) ?_
              refine lv_iconst (v := 0) hx hb dL_weeks_272 (by decide) ?_
              refine pw_call (rest := []) (pt_team hst J9 ti 0 ht (by decide)) ⟨hx, hb, hml, hown, hts⟩ (vx_cwSW 3 hts gL_weeks_L_team rfl rfl rfl (by decide +kernel) ⟨Nat.le_of_ble_eq_true rfl, Nat.le_of_ble_eq_true rfl⟩) hK hG hS hE.1 rfl hl.1 rfl (Nat.le_of_ble_eq_true rfl) dL_weeks_273 ⟨by show _ + 2 ≤ 200; omega, by show _ + 12 ≤ 1200; omega⟩ (fun H locs hG hS => ?_)
              refine fz_top (show _ = (fz_its V nt nc nl wk n) 4 ti from rfl) ?_
              refine lv_iload hx hb dL_weeks_276 (lv_at hl 5 rfl) ?_
              refine lv_icmp_lt (tgt := 285) hx hb dL_weeks_278 (by decide) (fun z9 => absurd z9 (Int32.not_lt.mpr (by rw [← e6]; exact hge))) (fun _ => ?_)
              refine lv_iconst (v := 1) hx hb dL_weeks_281 (by decide) ?_
              refine lv_goto (tgt := 286) hx hb dL_weeks_282 (by decide) ?_
              refine lv_istore (lv' := [(8, .int 1), (0, .ref (f 0)), (1, .int (nI ti)), (3, .int (nI my)), (4, .int (nI wk)), (5, .int (nI u0)), (6, .int (nI ri * V 1 0)), (7, .int (fz_sum ((fz_its V nt nc nl wk my) 4) nt + fz_sum ((fz_its V nt nc nl wk my) 12) nc)), (9, .int (nI n))]) hx hb dL_weeks_286 hl (by decide) rfl (fun ls hl => ?_)
              refine W.widen (k := (40 + 20 * n) + 4) (n := (240 + 120 * n) + 24) (by omega) (by omega) ?_
              refine lv_iload hx hb dL_weeks_288 (lv_at hl 0 rfl) ?_
              refine lv_if_eq (tgt := 317) hx hb dL_weeks_290 (by decide) (fun z9 => absurd z9 (by decide)) (fun _ => ?_)
              refine lv_aload_n hx hb dL_weeks_293 rfl (lv_at hl 1 rfl) ?_
              refine lv_bipush (v := 8) hx hb dL_weeks_294 (by decide) ?_
              refine pw_call (rest := []) (pt_whole hst J9 8 (by decide)) ⟨hx, hb, hml, hown, hts⟩ (vx_cwSW 2 hts gL_weeks_L_whole rfl rfl rfl (by decide +kernel) ⟨Nat.le_of_ble_eq_true rfl, Nat.le_of_ble_eq_true rfl⟩) hK hG hS hE.1 rfl hl.1 rfl (Nat.le_of_ble_eq_true rfl) dL_weeks_296 ⟨by show _ + 1 ≤ 200; omega, by show _ + 6 ≤ 1200; omega⟩ (fun H locs hG hS => ?_)
              refine fz_top (show _ = nI (wk + n) from J9.e0) ?_
              refine lv_bipush (v := 39) hx hb dL_weeks_299 (by decide) ?_
              refine lv_icmp_lt (tgt := 313) hx hb dL_weeks_301 (by decide) (fun c2 => ?_) (fun c2 => ?_)
              · skip
                refine lv_iconst (v := 1) hx hb dL_weeks_313 (by decide) ?_
                refine lv_goto (tgt := 318) hx hb dL_weeks_314 (by decide) ?_
                refine W.widen (k := 200) (n := 1200) (by omega) (by omega) ?_
                obtain ⟨Wn, h9, hP, hD⟩ := hG
                exact W.zret (v := 1) hx hb hr (by decide) (fun t9 ht9 hW9 => ⟨⟨_, Wn, rfl, ⟨⟨rfl, cm, wk + n, fz_its V nt nc nl wk n, J9.mono (by omega), h9⟩, hD⟩, fz_to ht9 hP⟩, hS.F ht9⟩) hS.2.2 dL_weeks_318
              · skip
                refine lv_aload_n hx hb dL_weeks_304 rfl (lv_at hl 1 rfl) ?_
                refine pw_call (rest := []) (pw_endWeek_IS hst J9.wf J9.zo (cl_no (V := (fz_its V nt nc nl wk n)) (fun z => c2 (nI_lt (b := 39) z (by omega))))) ⟨hx, hb, hml, hown, hts⟩ (vx_cwSW 1 hts gL_weeks_L_endWeek rfl rfl rfl (by decide +kernel) ⟨Nat.le_of_ble_eq_true rfl, Nat.le_of_ble_eq_true rfl⟩) hK hG hS hE.1 rfl hl.1 rfl (Nat.le_of_ble_eq_true rfl) dL_weeks_305 ⟨by show _ + 1 ≤ 200; omega, by show _ + 6 ≤ 1200; omega⟩ (fun H locs hG hS => ?_)
                refine lv_bipush (v := (-11)) hx hb dL_weeks_308 (by decide) ?_
                refine lv_icmp_ne (tgt := 317) hx hb dL_weeks_310 (by decide) (fun z9 => absurd z9 (by decide)) (fun _ => ?_)
                refine lv_iconst (v := 1) hx hb dL_weeks_313 (by decide) ?_
                refine lv_goto (tgt := 318) hx hb dL_weeks_314 (by decide) ?_
                refine W.widen (k := 200) (n := 1200) (by omega) (by omega) ?_
                obtain ⟨Wn, h9, hP, hD⟩ := hG
                exact W.zret (v := 1) hx hb hr (by decide) (fun t9 ht9 hW9 => ⟨⟨_, Wn, rfl, ⟨⟨rfl, cm, wk + n, fz_its V nt nc nl wk n, J9.mono (by omega), h9⟩, hD⟩, fz_to ht9 hP⟩, hS.F ht9⟩) hS.2.2 dL_weeks_318
          · skip
            have hw39 : wk + n < 39 := Nat.lt_of_not_le fun z => c8 ((nI_leI (a := 39) (by omega) (by omega)).mpr z)
            refine lv_iload hx hb dL_weeks_116 (lv_at hl 7 rfl) ?_
            refine lv_if_eq (tgt := 215) hx hb dL_weeks_118 (by decide) (fun z9 => absurd z9 (by decide)) (fun _ => ?_)
            rcases Nat.lt_trichotomy n u0 with e6 | e6 | e6
            · skip
              refine lv_iload hx hb dL_weeks_121 (lv_at hl 8 rfl) ?_
              refine lv_iload hx hb dL_weeks_123 (lv_at hl 4 rfl) ?_
              refine lv_icmp_ne (tgt := 132) hx hb dL_weeks_125 (by decide) (fun _ => ?_) (fun z9 => absurd z9 (fun z => absurd ((nI_eq (by omega) (by omega)).mp z) (by omega)))
              refine lv_iconst (v := 0) hx hb dL_weeks_132 (by decide) ?_
              refine lv_aload_n hx hb dL_weeks_133 rfl (lv_at hl 0 rfl) ?_
              refine lv_iload_n hx hb dL_weeks_134 rfl (lv_at hl 1 rfl) ?_
              refine lv_iconst (v := 0) hx hb dL_weeks_135 (by decide) ?_
              refine pw_call (rest := [.int 0]) (pt_team hst J9 ti 0 ht (by decide)) ⟨hx, hb, hml, hown, hts⟩ (vx_cwSW 3 hts gL_weeks_L_team rfl rfl rfl (by decide +kernel) ⟨Nat.le_of_ble_eq_true rfl, Nat.le_of_ble_eq_true rfl⟩) hK hG hS hE.1 rfl hl.1 rfl (Nat.le_of_ble_eq_true rfl) dL_weeks_136 ⟨by show _ + 2 ≤ 200; omega, by show _ + 12 ≤ 1200; omega⟩ (fun H locs hG hS => ?_)
              refine fz_top (show _ = (fz_its V nt nc nl wk n) 4 ti from rfl) ?_
              refine lv_iload hx hb dL_weeks_139 (lv_at hl 5 rfl) ?_
              refine lv_icmp_lt (tgt := 167) hx hb dL_weeks_141 (by decide) (fun _ => ?_) (fun z9 => absurd (Int32.not_le.mp (hlt n (by omega) (by omega))) z9)
              refine lv_iconst (v := 0) hx hb dL_weeks_167 (by decide) ?_
              refine lv_icmp_eq (tgt := 183) hx hb dL_weeks_168 (by decide) (fun _ => ?_) (fun z9 => absurd (by decide) z9)
              refine lv_iconst (v := 1) hx hb dL_weeks_183 (by decide) ?_
              refine lv_goto (tgt := 188) hx hb dL_weeks_184 (by decide) ?_
              refine lv_istore (lv' := [(8, .int 1), (0, .ref (f 0)), (1, .int (nI ti)), (3, .int (nI my)), (4, .int (nI wk)), (5, .int (nI u0)), (6, .int (nI ri * V 1 0)), (7, .int (fz_sum ((fz_its V nt nc nl wk my) 4) nt + fz_sum ((fz_its V nt nc nl wk my) 12) nc)), (9, .int (nI n))]) hx hb dL_weeks_188 hl (by decide) rfl (fun ls hl => ?_)
              refine W.widen (k := (40 + 20 * n) + 3) (n := (240 + 120 * n) + 18) (by omega) (by omega) ?_
              refine lv_iload hx hb dL_weeks_190 (lv_at hl 0 rfl) ?_
              refine lv_if_eq (tgt := 206) hx hb dL_weeks_192 (by decide) (fun z9 => absurd z9 (by decide)) (fun _ => ?_)
              refine lv_aload_n hx hb dL_weeks_195 rfl (lv_at hl 1 rfl) ?_
              refine pw_call (rest := []) (pw_endWeek_t hst J9.wf J9.zo (cl_ok J9 (by omega) hw39).1) ⟨hx, hb, hml, hown, hts⟩ (vx_cwSW 1 hts gL_weeks_L_endWeek rfl rfl rfl (by decide +kernel) ⟨Nat.le_of_ble_eq_true rfl, Nat.le_of_ble_eq_true rfl⟩) hK hG hS hE.1 rfl hl.1 rfl (Nat.le_of_ble_eq_true rfl) dL_weeks_196 ⟨by show _ + 1 ≤ 200; omega, by show _ + 6 ≤ 1200; omega⟩ (fun H locs hG hS => ?_)
              refine fz_top (show _ = (fz_close (fz_its V nt nc nl wk n) nt nc nl (wk + n)).1 from rfl) ?_
              refine lv_if_lt (tgt := 206) hx hb dL_weeks_199 (by decide) (fun z9 => absurd z9 (Int32.not_lt.mpr (cl_ok J9 (by omega) hw39).2)) (fun _ => ?_)
              refine lv_iconst (v := 1) hx hb dL_weeks_202 (by decide) ?_
              refine lv_goto (tgt := 207) hx hb dL_weeks_203 (by decide) ?_
              refine lv_istore (lv' := [(8, .int 1), (0, .ref (f 0)), (1, .int (nI ti)), (3, .int (nI my)), (4, .int (nI wk)), (5, .int (nI u0)), (6, .int (nI ri * V 1 0)), (7, .int (fz_sum ((fz_its V nt nc nl wk my) 4) nt + fz_sum ((fz_its V nt nc nl wk my) 12) nc)), (9, .int (nI n))]) hx hb dL_weeks_207 hl (by decide) rfl (fun ls hl => ?_)
              refine W.widen (k := (40 + 20 * n) + 4) (n := (240 + 120 * n) + 24) (by omega) (by omega) ?_
              have hG : pG D A (pS cy f a t h x ad (hs_n cm) (fz_its V nt nc nl wk (n + 1)) L) H := hG
              refine lv_iinc (v := nI (n + 1)) (lv' := [(9, .int (nI (n + 1))), (8, .int 1), (0, .ref (f 0)), (1, .int (nI ti)), (3, .int (nI my)), (4, .int (nI wk)), (5, .int (nI u0)), (6, .int (nI ri * V 1 0)), (7, .int (fz_sum ((fz_its V nt nc nl wk my) 4) nt + fz_sum ((fz_its V nt nc nl wk my) 12) nc))]) hx hb dL_weeks_209 hl (k := 8) rfl (nI_add _ 1) (by decide) rfl (fun ls hl => ?_)
              refine lv_goto (tgt := 99) hx hb dL_weeks_212 (by decide) ?_
              have hl : lv_has ls 10 [(9, .int (nI (n + 1))), (8, .int 1), (0, .ref (f 0)), (1, .int (nI ti)), (3, .int (nI my)), (4, .int (nI wk)), (5, .int (nI u0)), (6, .int (nI ri * V 1 0)), (7, .int (fz_sum ((fz_its V nt nc nl wk my) 4) nt + fz_sum ((fz_its V nt nc nl wk my) 12) nc))] := hl
              refine W.widen (k := 40 + 20 * (n + 1)) (n := 240 + 120 * (n + 1)) (by omega) (by omega) ?_
              exact ih99 (n + 1, hs_n cm) (show ((n + 1) ≤ my) ∧ (wk + (n + 1) ≤ 39) from ⟨hnm, (by omega)⟩) (by show my - (n + 1) < my - n; omega) _ _ ls hG hS (lv_sub hl [2, 3, 4, 5, 6, 7, 8, 1, 0] rfl)
            · skip
              refine lv_iload hx hb dL_weeks_121 (lv_at hl 8 rfl) ?_
              refine lv_iload hx hb dL_weeks_123 (lv_at hl 4 rfl) ?_
              refine lv_icmp_ne (tgt := 132) hx hb dL_weeks_125 (by decide) (fun z9 => absurd z9 (not_not_p (by rw [e6]))) (fun _ => ?_)
              refine lv_iconst (v := 1) hx hb dL_weeks_128 (by decide) ?_
              refine lv_goto (tgt := 133) hx hb dL_weeks_129 (by decide) ?_
              refine lv_aload_n hx hb dL_weeks_133 rfl (lv_at hl 0 rfl) ?_
              refine lv_iload_n hx hb dL_weeks_134 rfl (lv_at hl 1 rfl) ?_
              refine lv_iconst (v := 0) hx hb dL_weeks_135 (by decide) ?_
              refine pw_call (rest := [.int 1]) (pt_team hst J9 ti 0 ht (by decide)) ⟨hx, hb, hml, hown, hts⟩ (vx_cwSW 3 hts gL_weeks_L_team rfl rfl rfl (by decide +kernel) ⟨Nat.le_of_ble_eq_true rfl, Nat.le_of_ble_eq_true rfl⟩) hK hG hS hE.1 rfl hl.1 rfl (Nat.le_of_ble_eq_true rfl) dL_weeks_136 ⟨by show _ + 2 ≤ 200; omega, by show _ + 12 ≤ 1200; omega⟩ (fun H locs hG hS => ?_)
              refine fz_top (show _ = (fz_its V nt nc nl wk n) 4 ti from rfl) ?_
              refine lv_iload hx hb dL_weeks_139 (lv_at hl 5 rfl) ?_
              refine lv_icmp_lt (tgt := 167) hx hb dL_weeks_141 (by decide) (fun z9 => absurd z9 (Int32.not_lt.mpr (by rw [e6]; exact hge))) (fun _ => ?_)
              refine lv_iload hx hb dL_weeks_144 (lv_at hl 4 rfl) ?_
              refine lv_iload hx hb dL_weeks_146 (lv_at hl 8 rfl) ?_
              refine lv_icmp_eq (tgt := 163) hx hb dL_weeks_148 (by decide) (fun _ => ?_) (fun z9 => absurd (by rw [e6]) z9)
              refine lv_iconst (v := 1) hx hb dL_weeks_163 (by decide) ?_
              refine lv_goto (tgt := 168) hx hb dL_weeks_164 (by decide) ?_
              refine lv_icmp_eq (tgt := 183) hx hb dL_weeks_168 (by decide) (fun _ => ?_) (fun z9 => absurd (by decide) z9)
              refine lv_iconst (v := 1) hx hb dL_weeks_183 (by decide) ?_
              refine lv_goto (tgt := 188) hx hb dL_weeks_184 (by decide) ?_
              refine lv_istore (lv' := [(8, .int 1), (0, .ref (f 0)), (1, .int (nI ti)), (3, .int (nI my)), (4, .int (nI wk)), (5, .int (nI u0)), (6, .int (nI ri * V 1 0)), (7, .int (fz_sum ((fz_its V nt nc nl wk my) 4) nt + fz_sum ((fz_its V nt nc nl wk my) 12) nc)), (9, .int (nI n))]) hx hb dL_weeks_188 hl (by decide) rfl (fun ls hl => ?_)
              refine W.widen (k := (40 + 20 * n) + 3) (n := (240 + 120 * n) + 18) (by omega) (by omega) ?_
              refine lv_iload hx hb dL_weeks_190 (lv_at hl 0 rfl) ?_
              refine lv_if_eq (tgt := 206) hx hb dL_weeks_192 (by decide) (fun z9 => absurd z9 (by decide)) (fun _ => ?_)
              refine lv_aload_n hx hb dL_weeks_195 rfl (lv_at hl 1 rfl) ?_
              refine pw_call (rest := []) (pw_endWeek_t hst J9.wf J9.zo (cl_ok J9 (by omega) hw39).1) ⟨hx, hb, hml, hown, hts⟩ (vx_cwSW 1 hts gL_weeks_L_endWeek rfl rfl rfl (by decide +kernel) ⟨Nat.le_of_ble_eq_true rfl, Nat.le_of_ble_eq_true rfl⟩) hK hG hS hE.1 rfl hl.1 rfl (Nat.le_of_ble_eq_true rfl) dL_weeks_196 ⟨by show _ + 1 ≤ 200; omega, by show _ + 6 ≤ 1200; omega⟩ (fun H locs hG hS => ?_)
              refine fz_top (show _ = (fz_close (fz_its V nt nc nl wk n) nt nc nl (wk + n)).1 from rfl) ?_
              refine lv_if_lt (tgt := 206) hx hb dL_weeks_199 (by decide) (fun z9 => absurd z9 (Int32.not_lt.mpr (cl_ok J9 (by omega) hw39).2)) (fun _ => ?_)
              refine lv_iconst (v := 1) hx hb dL_weeks_202 (by decide) ?_
              refine lv_goto (tgt := 207) hx hb dL_weeks_203 (by decide) ?_
              refine lv_istore (lv' := [(8, .int 1), (0, .ref (f 0)), (1, .int (nI ti)), (3, .int (nI my)), (4, .int (nI wk)), (5, .int (nI u0)), (6, .int (nI ri * V 1 0)), (7, .int (fz_sum ((fz_its V nt nc nl wk my) 4) nt + fz_sum ((fz_its V nt nc nl wk my) 12) nc)), (9, .int (nI n))]) hx hb dL_weeks_207 hl (by decide) rfl (fun ls hl => ?_)
              refine W.widen (k := (40 + 20 * n) + 4) (n := (240 + 120 * n) + 24) (by omega) (by omega) ?_
              have hG : pG D A (pS cy f a t h x ad (hs_n cm) (fz_its V nt nc nl wk (n + 1)) L) H := hG
              refine lv_iinc (v := nI (n + 1)) (lv' := [(9, .int (nI (n + 1))), (8, .int 1), (0, .ref (f 0)), (1, .int (nI ti)), (3, .int (nI my)), (4, .int (nI wk)), (5, .int (nI u0)), (6, .int (nI ri * V 1 0)), (7, .int (fz_sum ((fz_its V nt nc nl wk my) 4) nt + fz_sum ((fz_its V nt nc nl wk my) 12) nc))]) hx hb dL_weeks_209 hl (k := 8) rfl (nI_add _ 1) (by decide) rfl (fun ls hl => ?_)
              refine lv_goto (tgt := 99) hx hb dL_weeks_212 (by decide) ?_
              have hl : lv_has ls 10 [(9, .int (nI (n + 1))), (8, .int 1), (0, .ref (f 0)), (1, .int (nI ti)), (3, .int (nI my)), (4, .int (nI wk)), (5, .int (nI u0)), (6, .int (nI ri * V 1 0)), (7, .int (fz_sum ((fz_its V nt nc nl wk my) 4) nt + fz_sum ((fz_its V nt nc nl wk my) 12) nc))] := hl
              refine W.widen (k := 40 + 20 * (n + 1)) (n := 240 + 120 * (n + 1)) (by omega) (by omega) ?_
              exact ih99 (n + 1, hs_n cm) (show ((n + 1) ≤ my) ∧ (wk + (n + 1) ≤ 39) from ⟨hnm, (by omega)⟩) (by show my - (n + 1) < my - n; omega) _ _ ls hG hS (lv_sub hl [2, 3, 4, 5, 6, 7, 8, 1, 0] rfl)
            · skip
              refine lv_iload hx hb dL_weeks_121 (lv_at hl 8 rfl) ?_
              refine lv_iload hx hb dL_weeks_123 (lv_at hl 4 rfl) ?_
              refine lv_icmp_ne (tgt := 132) hx hb dL_weeks_125 (by decide) (fun _ => ?_) (fun z9 => absurd z9 (fun z => absurd ((nI_eq (by omega) (by omega)).mp z) (by omega)))
              refine lv_iconst (v := 0) hx hb dL_weeks_132 (by decide) ?_
              refine lv_aload_n hx hb dL_weeks_133 rfl (lv_at hl 0 rfl) ?_
              refine lv_iload_n hx hb dL_weeks_134 rfl (lv_at hl 1 rfl) ?_
              refine lv_iconst (v := 0) hx hb dL_weeks_135 (by decide) ?_
              refine pw_call (rest := [.int 0]) (pt_team hst J9 ti 0 ht (by decide)) ⟨hx, hb, hml, hown, hts⟩ (vx_cwSW 3 hts gL_weeks_L_team rfl rfl rfl (by decide +kernel) ⟨Nat.le_of_ble_eq_true rfl, Nat.le_of_ble_eq_true rfl⟩) hK hG hS hE.1 rfl hl.1 rfl (Nat.le_of_ble_eq_true rfl) dL_weeks_136 ⟨by show _ + 2 ≤ 200; omega, by show _ + 12 ≤ 1200; omega⟩ (fun H locs hG hS => ?_)
              refine fz_top (show _ = (fz_its V nt nc nl wk n) 4 ti from rfl) ?_
              refine lv_iload hx hb dL_weeks_139 (lv_at hl 5 rfl) ?_
              refine lv_icmp_lt (tgt := 167) hx hb dL_weeks_141 (by decide) (fun c5 => ?_) (fun c5 => ?_)
              · skip
                refine lv_iconst (v := 0) hx hb dL_weeks_167 (by decide) ?_
                refine lv_icmp_eq (tgt := 183) hx hb dL_weeks_168 (by decide) (fun _ => ?_) (fun z9 => absurd (by decide) z9)
                refine lv_iconst (v := 1) hx hb dL_weeks_183 (by decide) ?_
                refine lv_goto (tgt := 188) hx hb dL_weeks_184 (by decide) ?_
                refine lv_istore (lv' := [(8, .int 1), (0, .ref (f 0)), (1, .int (nI ti)), (3, .int (nI my)), (4, .int (nI wk)), (5, .int (nI u0)), (6, .int (nI ri * V 1 0)), (7, .int (fz_sum ((fz_its V nt nc nl wk my) 4) nt + fz_sum ((fz_its V nt nc nl wk my) 12) nc)), (9, .int (nI n))]) hx hb dL_weeks_188 hl (by decide) rfl (fun ls hl => ?_)
                refine W.widen (k := (40 + 20 * n) + 3) (n := (240 + 120 * n) + 18) (by omega) (by omega) ?_
                refine lv_iload hx hb dL_weeks_190 (lv_at hl 0 rfl) ?_
                refine lv_if_eq (tgt := 206) hx hb dL_weeks_192 (by decide) (fun z9 => absurd z9 (by decide)) (fun _ => ?_)
                refine lv_aload_n hx hb dL_weeks_195 rfl (lv_at hl 1 rfl) ?_
                refine pw_call (rest := []) (pw_endWeek_t hst J9.wf J9.zo (cl_ok J9 (by omega) hw39).1) ⟨hx, hb, hml, hown, hts⟩ (vx_cwSW 1 hts gL_weeks_L_endWeek rfl rfl rfl (by decide +kernel) ⟨Nat.le_of_ble_eq_true rfl, Nat.le_of_ble_eq_true rfl⟩) hK hG hS hE.1 rfl hl.1 rfl (Nat.le_of_ble_eq_true rfl) dL_weeks_196 ⟨by show _ + 1 ≤ 200; omega, by show _ + 6 ≤ 1200; omega⟩ (fun H locs hG hS => ?_)
                refine fz_top (show _ = (fz_close (fz_its V nt nc nl wk n) nt nc nl (wk + n)).1 from rfl) ?_
                refine lv_if_lt (tgt := 206) hx hb dL_weeks_199 (by decide) (fun z9 => absurd z9 (Int32.not_lt.mpr (cl_ok J9 (by omega) hw39).2)) (fun _ => ?_)
                refine lv_iconst (v := 1) hx hb dL_weeks_202 (by decide) ?_
                refine lv_goto (tgt := 207) hx hb dL_weeks_203 (by decide) ?_
                refine lv_istore (lv' := [(8, .int 1), (0, .ref (f 0)), (1, .int (nI ti)), (3, .int (nI my)), (4, .int (nI wk)), (5, .int (nI u0)), (6, .int (nI ri * V 1 0)), (7, .int (fz_sum ((fz_its V nt nc nl wk my) 4) nt + fz_sum ((fz_its V nt nc nl wk my) 12) nc)), (9, .int (nI n))]) hx hb dL_weeks_207 hl (by decide) rfl (fun ls hl => ?_)
                refine W.widen (k := (40 + 20 * n) + 4) (n := (240 + 120 * n) + 24) (by omega) (by omega) ?_
                have hG : pG D A (pS cy f a t h x ad (hs_n cm) (fz_its V nt nc nl wk (n + 1)) L) H := hG
                refine lv_iinc (v := nI (n + 1)) (lv' := [(9, .int (nI (n + 1))), (8, .int 1), (0, .ref (f 0)), (1, .int (nI ti)), (3, .int (nI my)), (4, .int (nI wk)), (5, .int (nI u0)), (6, .int (nI ri * V 1 0)), (7, .int (fz_sum ((fz_its V nt nc nl wk my) 4) nt + fz_sum ((fz_its V nt nc nl wk my) 12) nc))]) hx hb dL_weeks_209 hl (k := 8) rfl (nI_add _ 1) (by decide) rfl (fun ls hl => ?_)
                refine lv_goto (tgt := 99) hx hb dL_weeks_212 (by decide) ?_
                have hl : lv_has ls 10 [(9, .int (nI (n + 1))), (8, .int 1), (0, .ref (f 0)), (1, .int (nI ti)), (3, .int (nI my)), (4, .int (nI wk)), (5, .int (nI u0)), (6, .int (nI ri * V 1 0)), (7, .int (fz_sum ((fz_its V nt nc nl wk my) 4) nt + fz_sum ((fz_its V nt nc nl wk my) 12) nc))] := hl
                refine W.widen (k := 40 + 20 * (n + 1)) (n := 240 + 120 * (n + 1)) (by omega) (by omega) ?_
                exact ih99 (n + 1, hs_n cm) (show ((n + 1) ≤ my) ∧ (wk + (n + 1) ≤ 39) from ⟨hnm, (by omega)⟩) (by show my - (n + 1) < my - n; omega) _ _ ls hG hS (lv_sub hl [2, 3, 4, 5, 6, 7, 8, 1, 0] rfl)
              · skip
                refine lv_iload hx hb dL_weeks_144 (lv_at hl 4 rfl) ?_
                refine lv_iload hx hb dL_weeks_146 (lv_at hl 8 rfl) ?_
                refine lv_icmp_eq (tgt := 163) hx hb dL_weeks_148 (by decide) (fun z9 => absurd z9 (fun z => absurd ((nI_eq (by omega) (by omega)).mp z) (by omega))) (fun _ => ?_)
                refine lv_iload hx hb dL_weeks_151 (lv_at hl 4 rfl) ?_
                refine lv_if_lt (tgt := 163) hx hb dL_weeks_153 (by decide) (fun z9 => absurd z9 (nI_pos (n := u0) (by omega))) (fun _ => ?_)
                refine lv_iload hx hb dL_weeks_156 (lv_at hl 4 rfl) ?_
                refine lv_iload hx hb dL_weeks_158 (lv_at hl 8 rfl) ?_
                refine lv_icmp_le (tgt := 167) hx hb dL_weeks_160 (by decide) (fun _ => ?_) (fun z9 => absurd ((nI_leI (by omega) (by omega)).mpr (by omega)) z9)
                refine lv_iconst (v := 0) hx hb dL_weeks_167 (by decide) ?_
                refine lv_icmp_eq (tgt := 183) hx hb dL_weeks_168 (by decide) (fun _ => ?_) (fun z9 => absurd (by decide) z9)
                refine lv_iconst (v := 1) hx hb dL_weeks_183 (by decide) ?_
                refine lv_goto (tgt := 188) hx hb dL_weeks_184 (by decide) ?_
                refine lv_istore (lv' := [(8, .int 1), (0, .ref (f 0)), (1, .int (nI ti)), (3, .int (nI my)), (4, .int (nI wk)), (5, .int (nI u0)), (6, .int (nI ri * V 1 0)), (7, .int (fz_sum ((fz_its V nt nc nl wk my) 4) nt + fz_sum ((fz_its V nt nc nl wk my) 12) nc)), (9, .int (nI n))]) hx hb dL_weeks_188 hl (by decide) rfl (fun ls hl => ?_)
                refine W.widen (k := (40 + 20 * n) + 3) (n := (240 + 120 * n) + 18) (by omega) (by omega) ?_
                refine lv_iload hx hb dL_weeks_190 (lv_at hl 0 rfl) ?_
                refine lv_if_eq (tgt := 206) hx hb dL_weeks_192 (by decide) (fun z9 => absurd z9 (by decide)) (fun _ => ?_)
                refine lv_aload_n hx hb dL_weeks_195 rfl (lv_at hl 1 rfl) ?_
                refine pw_call (rest := []) (pw_endWeek_t hst J9.wf J9.zo (cl_ok J9 (by omega) hw39).1) ⟨hx, hb, hml, hown, hts⟩ (vx_cwSW 1 hts gL_weeks_L_endWeek rfl rfl rfl (by decide +kernel) ⟨Nat.le_of_ble_eq_true rfl, Nat.le_of_ble_eq_true rfl⟩) hK hG hS hE.1 rfl hl.1 rfl (Nat.le_of_ble_eq_true rfl) dL_weeks_196 ⟨by show _ + 1 ≤ 200; omega, by show _ + 6 ≤ 1200; omega⟩ (fun H locs hG hS => ?_)
                refine fz_top (show _ = (fz_close (fz_its V nt nc nl wk n) nt nc nl (wk + n)).1 from rfl) ?_
                refine lv_if_lt (tgt := 206) hx hb dL_weeks_199 (by decide) (fun z9 => absurd z9 (Int32.not_lt.mpr (cl_ok J9 (by omega) hw39).2)) (fun _ => ?_)
                refine lv_iconst (v := 1) hx hb dL_weeks_202 (by decide) ?_
                refine lv_goto (tgt := 207) hx hb dL_weeks_203 (by decide) ?_
                refine lv_istore (lv' := [(8, .int 1), (0, .ref (f 0)), (1, .int (nI ti)), (3, .int (nI my)), (4, .int (nI wk)), (5, .int (nI u0)), (6, .int (nI ri * V 1 0)), (7, .int (fz_sum ((fz_its V nt nc nl wk my) 4) nt + fz_sum ((fz_its V nt nc nl wk my) 12) nc)), (9, .int (nI n))]) hx hb dL_weeks_207 hl (by decide) rfl (fun ls hl => ?_)
                refine W.widen (k := (40 + 20 * n) + 4) (n := (240 + 120 * n) + 24) (by omega) (by omega) ?_
                have hG : pG D A (pS cy f a t h x ad (hs_n cm) (fz_its V nt nc nl wk (n + 1)) L) H := hG
                refine lv_iinc (v := nI (n + 1)) (lv' := [(9, .int (nI (n + 1))), (8, .int 1), (0, .ref (f 0)), (1, .int (nI ti)), (3, .int (nI my)), (4, .int (nI wk)), (5, .int (nI u0)), (6, .int (nI ri * V 1 0)), (7, .int (fz_sum ((fz_its V nt nc nl wk my) 4) nt + fz_sum ((fz_its V nt nc nl wk my) 12) nc))]) hx hb dL_weeks_209 hl (k := 8) rfl (nI_add _ 1) (by decide) rfl (fun ls hl => ?_)
                refine lv_goto (tgt := 99) hx hb dL_weeks_212 (by decide) ?_
                have hl : lv_has ls 10 [(9, .int (nI (n + 1))), (8, .int 1), (0, .ref (f 0)), (1, .int (nI ti)), (3, .int (nI my)), (4, .int (nI wk)), (5, .int (nI u0)), (6, .int (nI ri * V 1 0)), (7, .int (fz_sum ((fz_its V nt nc nl wk my) 4) nt + fz_sum ((fz_its V nt nc nl wk my) 12) nc))] := hl
                refine W.widen (k := 40 + 20 * (n + 1)) (n := 240 + 120 * (n + 1)) (by omega) (by omega) ?_
                exact ih99 (n + 1, hs_n cm) (show ((n + 1) ≤ my) ∧ (wk + (n + 1) ≤ 39) from ⟨hnm, (by omega)⟩) (by show my - (n + 1) < my - n; omega) _ _ ls hG hS (lv_sub hl [2, 3, 4, 5, 6, 7, 8, 1, 0] rfl)
      · skip
        refine lv_aload_n hx hb dL_weeks_25 rfl (lv_at hl 3 rfl) ?_
        refine lv_iload_n hx hb dL_weeks_26 rfl (lv_at hl 6 rfl) ?_
        refine pw_call (rest := []) (pt_being hst J my (by omega)) ⟨hx, hb, hml, hown, hts⟩ (vx_cwSW 2 hts gL_weeks_L_inBeing rfl rfl rfl (by decide +kernel) ⟨Nat.le_of_ble_eq_true rfl, Nat.le_of_ble_eq_true rfl⟩) hK hG hS hE.1 rfl hl.1 rfl (Nat.le_of_ble_eq_true rfl) dL_weeks_27 ⟨by show _ + 1 ≤ 200; omega, by show _ + 6 ≤ 1200; omega⟩ (fun H locs hG hS => ?_)
        refine fz_top (show _ = (-1) from if_neg hm) ?_
        refine lv_istore (lv' := [(7, .int (-1)), (6, .int ((nI ri) * (V 1 0))), (5, .int (nI u0)), (4, .int (nI wk)), (0, .ref (f 0)), (1, .int (nI ti)), (2, .int (nI ri)), (3, .int (nI my))]) hx hb dL_weeks_30 hl (by decide) rfl (fun ls hl => ?_)
        refine W.widen (k := 5) (n := 30) (by omega) (by omega) ?_
        refine lv_iload hx hb dL_weeks_32 (lv_at hl 2 rfl) ?_
        refine lv_if_ne (tgt := 41) hx hb dL_weeks_34 (by decide) (fun z9 => absurd z9 (not_not_p (by rw [hu0]; exact nI_0))) (fun _ => ?_)
        refine lv_iconst (v := 1) hx hb dL_weeks_37 (by decide) ?_
        refine lv_goto (tgt := 42) hx hb dL_weeks_38 (by decide) ?_
        refine lv_aload_n hx hb dL_weeks_42 rfl (lv_at hl 4 rfl) ?_
        refine lv_iload_n hx hb dL_weeks_43 rfl (lv_at hl 5 rfl) ?_
        refine lv_iconst (v := 0) hx hb dL_weeks_44 (by decide) ?_
        refine pw_call (rest := [.int 1]) (pt_team hst J ti 0 ht (by decide)) ⟨hx, hb, hml, hown, hts⟩ (vx_cwSW 3 hts gL_weeks_L_team rfl rfl rfl (by decide +kernel) ⟨Nat.le_of_ble_eq_true rfl, Nat.le_of_ble_eq_true rfl⟩) hK hG hS hE.1 rfl hl.1 rfl (Nat.le_of_ble_eq_true rfl) dL_weeks_45 ⟨by show _ + 2 ≤ 200; omega, by show _ + 12 ≤ 1200; omega⟩ (fun H locs hG hS => ?_)
        refine fz_top (show _ = V 4 ti from rfl) ?_
        refine lv_iload hx hb dL_weeks_48 (lv_at hl 1 rfl) ?_
        refine lv_icmp_lt (tgt := 57) hx hb dL_weeks_50 (by decide) (fun z9 => absurd z9 (Int32.not_lt.mpr (by rw [hu0] at hge; exact hge))) (fun _ => ?_)
        refine lv_iconst (v := 1) hx hb dL_weeks_53 (by decide) ?_
        refine lv_goto (tgt := 58) hx hb dL_weeks_54 (by decide) ?_
        refine lv_icmp_ne (tgt := 93) hx hb dL_weeks_58 (by decide) (fun z9 => absurd z9 (by decide)) (fun _ => ?_)
        refine lv_iload hx hb dL_weeks_61 (lv_at hl 3 rfl) ?_
        refine lv_iload_n hx hb dL_weeks_63 rfl (lv_at hl 7 rfl) ?_
        refine lv_iadd hx hb dL_weeks_64 ?_
        refine lv_bipush (v := 39) hx hb dL_weeks_65 (by decide) ?_
        refine lv_icmp_le (tgt := 74) hx hb dL_weeks_67 (by decide) (fun z9 => absurd z9 (by rw [nI_add]; exact fun z => hm ((nI_leI (b := 39) (by omega) (by omega)).mp z))) (fun _ => ?_)
        refine lv_iconst (v := 1) hx hb dL_weeks_70 (by decide) ?_
        refine lv_goto (tgt := 75) hx hb dL_weeks_71 (by decide) ?_
        refine lv_iload hx hb dL_weeks_75 (lv_at hl 0 rfl) ?_
        refine lv_iconst (v := (-1)) hx hb dL_weeks_77 (by decide) ?_
        refine lv_icmp_ne (tgt := 85) hx hb dL_weeks_78 (by decide) (fun z9 => absurd z9 (by decide)) (fun _ => ?_)
        refine lv_iconst (v := 1) hx hb dL_weeks_81 (by decide) ?_
        refine lv_goto (tgt := 86) hx hb dL_weeks_82 (by decide) ?_
        refine lv_icmp_ne (tgt := 93) hx hb dL_weeks_86 (by decide) (fun z9 => absurd z9 (by decide)) (fun _ => ?_)
        refine lv_iconst (v := 1) hx hb dL_weeks_89 (by decide) ?_
        refine lv_goto (tgt := 94) hx hb dL_weeks_90 (by decide) ?_
        refine lv_istore (lv' := [(8, .int 1), (7, .int (-1)), (6, .int ((nI ri) * (V 1 0))), (5, .int (nI u0)), (4, .int (nI wk)), (0, .ref (f 0)), (1, .int (nI ti)), (2, .int (nI ri)), (3, .int (nI my))]) hx hb dL_weeks_94 hl (by decide) rfl (fun ls hl => ?_)
        refine W.widen (k := 7) (n := 42) (by omega) (by omega) ?_
        refine lv_iconst (v := 0) hx hb dL_weeks_96 (by decide) ?_
        refine lv_istore (lv' := [(9, .int 0), (8, .int 1), (7, .int (-1)), (6, .int ((nI ri) * (V 1 0))), (5, .int (nI u0)), (4, .int (nI wk)), (0, .ref (f 0)), (1, .int (nI ti)), (2, .int (nI ri)), (3, .int (nI my))]) hx hb dL_weeks_97 hl (by decide) rfl (fun ls hl => ?_)
        have hl : lv_has ls 10 [(9, .int (nI 0)), (8, .int 1), (7, .int (-1)), (6, .int (nI ri * V 1 0)), (5, .int (nI u0)), (4, .int (nI wk)), (0, .ref (f 0)), (1, .int (nI ti)), (2, .int (nI ri)), (3, .int (nI my))] := hl
        refine W.widen (k := 40 + 20 * 0) (n := 240 + 120 * 0) (by omega) (by omega) ?_
        refine pw_loop (σ := Nat × Nat) (pc := 99) (nL := 10) (rest := []) (fun x9 => match x9 with | (n, cm) => [(0, .ref (f 0)), (1, .int (nI ti)), (3, .int (nI my)), (4, .int (nI wk)), (5, .int (nI u0)), (6, .int (nI ri * V 1 0)), (7, .int (-1)), (8, .int 1), (9, .int (nI n))]) (fun x9 => match x9 with | (n, cm) => pS cy f a t h x ad cm (fz_its V nt nc nl wk n) L) (fun x9 => match x9 with | (n, cm) => (n ≤ my) ∧ (wk + n ≤ 39)) (fun x9 => match x9 with | (n, cm) => my - n) (fun x9 => match x9 with | (n, cm) => 40 + 20 * n) (fun x9 => match x9 with | (n, cm) => 240 + 120 * n) ?_ (0, cn) (show (0 ≤ my) ∧ (wk + 0 ≤ 39) from ⟨(Nat.zero_le _), (by omega)⟩) _ _ ls hG hS (lv_sub hl [6, 7, 9, 5, 4, 3, 2, 1, 0] rfl)
        rintro ⟨n, cm⟩ ⟨hn, hwn⟩ ih99 H locs ls hG hS hl
        have hn : n ≤ my := hn
        have hwn : wk + n ≤ 39 := hwn
        have hG : pG D A (pS cy f a t h x ad cm (fz_its V nt nc nl wk n) L) H := hG
        have hl : lv_has ls 10 [(0, .ref (f 0)), (1, .int (nI ti)), (3, .int (nI my)), (4, .int (nI wk)), (5, .int (nI u0)), (6, .int (nI ri * V 1 0)), (7, .int (-1)), (8, .int 1), (9, .int (nI n))] := hl
        show W _ _ _ _ _ _ _ _ _ _ _ _ (40 + 20 * n) (240 + 120 * n) _ _
        have J9 := its_J J (by omega) n hwn
        refine lv_iload hx hb dL_weeks_99 (lv_at hl 8 rfl) ?_
        refine lv_iload_n hx hb dL_weeks_101 rfl (lv_at hl 2 rfl) ?_
        refine lv_icmp_ge (tgt := 215) hx hb dL_weeks_102 (by decide) (fun c9 => ?_) (fun c9 => ?_)
        · skip
          have e9 : n = my := by have := (nI_leI (by omega) (by omega)).mp c9; omega
          exact absurd (by omega : wk + my ≤ 39) hm
        · skip
          have hnm : n < my := Nat.lt_of_not_le fun z => c9 ((nI_leI (by omega) (by omega)).mpr z)
          refine lv_aload_n hx hb dL_weeks_105 rfl (lv_at hl 0 rfl) ?_
          refine lv_bipush (v := 8) hx hb dL_weeks_106 (by decide) ?_
          refine pw_call (rest := []) (pt_whole hst J9 8 (by decide)) ⟨hx, hb, hml, hown, hts⟩ (vx_cwSW 2 hts gL_weeks_L_whole rfl rfl rfl (by decide +kernel) ⟨Nat.le_of_ble_eq_true rfl, Nat.le_of_ble_eq_true rfl⟩) hK hG hS hE.1 rfl hl.1 rfl (Nat.le_of_ble_eq_true rfl) dL_weeks_108 ⟨by show _ + 1 ≤ 200; omega, by show _ + 6 ≤ 1200; omega⟩ (fun H locs hG hS => ?_)
          refine fz_top (show _ = nI (wk + n) from J9.e0) ?_
          refine lv_bipush (v := 39) hx hb dL_weeks_111 (by decide) ?_
          refine lv_icmp_ge (tgt := 215) hx hb dL_weeks_113 (by decide) (fun c8 => ?_) (fun c8 => ?_)
          · skip
            have e8 : wk + n = 39 := by have := (nI_leI (a := 39) (by omega) (by omega)).mp c8; omega
            refine lv_iload hx hb dL_weeks_215 (lv_at hl 7 rfl) ?_
            refine lv_if_eq (tgt := 285) hx hb dL_weeks_217 (by decide) (fun z9 => absurd z9 (by decide)) (fun _ => ?_)
            refine lv_aload_n hx hb dL_weeks_220 rfl (lv_at hl 0 rfl) ?_
            refine lv_bipush (v := 8) hx hb dL_weeks_221 (by decide) ?_
            refine pw_call (rest := []) (pt_whole hst J9 8 (by decide)) ⟨hx, hb, hml, hown, hts⟩ (vx_cwSW 2 hts gL_weeks_L_whole rfl rfl rfl (by decide +kernel) ⟨Nat.le_of_ble_eq_true rfl, Nat.le_of_ble_eq_true rfl⟩) hK hG hS hE.1 rfl hl.1 rfl (Nat.le_of_ble_eq_true rfl) dL_weeks_223 ⟨by show _ + 1 ≤ 200; omega, by show _ + 6 ≤ 1200; omega⟩ (fun H locs hG hS => ?_)
            refine fz_top (show _ = nI (wk + n) from J9.e0) ?_
            refine lv_iload hx hb dL_weeks_226 (lv_at hl 3 rfl) ?_
            refine lv_iload hx hb dL_weeks_228 (lv_at hl 8 rfl) ?_
            refine lv_iadd hx hb dL_weeks_230 ?_
            refine lv_icmp_ne (tgt := 285) hx hb dL_weeks_231 (by decide) (fun z9 => absurd z9 (not_not_p (nI_add wk n).symm)) (fun _ => ?_)
            refine lv_iload hx hb dL_weeks_234 (lv_at hl 8 rfl) ?_
            refine lv_iload_n hx hb dL_weeks_236 rfl (lv_at hl 2 rfl) ?_
            refine lv_icmp_lt (tgt := 258) hx hb dL_weeks_237 (by decide) (fun _ => ?_) (fun z9 => absurd (nI_lt hnm (by omega)) z9)
            refine lv_iload hx hb dL_weeks_258 (lv_at hl 4 rfl) ?_
            refine lv_if_lt (tgt := 281) hx hb dL_weeks_260 (by decide) (fun z9 => absurd z9 (nI_pos (n := u0) (by omega))) (fun _ => ?_)
            refine lv_iload hx hb dL_weeks_263 (lv_at hl 4 rfl) ?_
            refine lv_iload hx hb dL_weeks_265 (lv_at hl 8 rfl) ?_
            refine lv_icmp_ne (tgt := 281) hx hb dL_weeks_267 (by decide) (fun c3 => ?_) (fun c3 => ?_)
            · skip
              refine lv_iconst (v := 1) hx hb dL_weeks_281 (by decide) ?_
              refine lv_goto (tgt := 286) hx hb dL_weeks_282 (by decide) ?_
              refine lv_istore (lv' := [(8, .int 1), (0, .ref (f 0)), (1, .int (nI ti)), (3, .int (nI my)), (4, .int (nI wk)), (5, .int (nI u0)), (6, .int (nI ri * V 1 0)), (7, .int (-1)), (9, .int (nI n))]) hx hb dL_weeks_286 hl (by decide) rfl (fun ls hl => ?_)
              refine W.widen (k := (40 + 20 * n) + 2) (n := (240 + 120 * n) + 12) (by omega) (by omega) ?_
              refine lv_iload hx hb dL_weeks_288 (lv_at hl 0 rfl) ?_
              refine lv_if_eq (tgt := 317) hx hb dL_weeks_290 (by decide) (fun z9 => absurd z9 (by decide)) (fun _ => ?_)
              refine lv_aload_n hx hb dL_weeks_293 rfl (lv_at hl 1 rfl) ?_
              refine lv_bipush (v := 8) hx hb dL_weeks_294 (by decide) ?_
              refine pw_call (rest := []) (pt_whole hst J9 8 (by decide)) ⟨hx, hb, hml, hown, hts⟩ (vx_cwSW 2 hts gL_weeks_L_whole rfl rfl rfl (by decide +kernel) ⟨Nat.le_of_ble_eq_true rfl, Nat.le_of_ble_eq_true rfl⟩) hK hG hS hE.1 rfl hl.1 rfl (Nat.le_of_ble_eq_true rfl) dL_weeks_296 ⟨by show _ + 1 ≤ 200; omega, by show _ + 6 ≤ 1200; omega⟩ (fun H locs hG hS => ?_)
              refine fz_top (show _ = nI (wk + n) from J9.e0) ?_
              refine lv_bipush (v := 39) hx hb dL_weeks_299 (by decide) ?_
              refine lv_icmp_lt (tgt := 313) hx hb dL_weeks_301 (by decide) (fun c2 => ?_) (fun c2 => ?_)
              · skip
                refine lv_iconst (v := 1) hx hb dL_weeks_313 (by decide) ?_
                refine lv_goto (tgt := 318) hx hb dL_weeks_314 (by decide) ?_
                refine W.widen (k := 200) (n := 1200) (by omega) (by omega) ?_
                obtain ⟨Wn, h9, hP, hD⟩ := hG
                exact W.zret (v := 1) hx hb hr (by decide) (fun t9 ht9 hW9 => ⟨⟨_, Wn, rfl, ⟨⟨rfl, cm, wk + n, fz_its V nt nc nl wk n, J9.mono (by omega), h9⟩, hD⟩, fz_to ht9 hP⟩, hS.F ht9⟩) hS.2.2 dL_weeks_318
              · skip
                refine lv_aload_n hx hb dL_weeks_304 rfl (lv_at hl 1 rfl) ?_
                refine pw_call (rest := []) (pw_endWeek_IS hst J9.wf J9.zo (cl_no (V := (fz_its V nt nc nl wk n)) (fun z => c2 (nI_lt (b := 39) z (by omega))))) ⟨hx, hb, hml, hown, hts⟩ (vx_cwSW 1 hts gL_weeks_L_endWeek rfl rfl rfl (by decide +kernel) ⟨Nat.le_of_ble_eq_true rfl, Nat.le_of_ble_eq_true rfl⟩) hK hG hS hE.1 rfl hl.1 rfl (Nat.le_of_ble_eq_true rfl) dL_weeks_305 ⟨by show _ + 1 ≤ 200; omega, by show _ + 6 ≤ 1200; omega⟩ (fun H locs hG hS => ?_)
                refine lv_bipush (v := (-11)) hx hb dL_weeks_308 (by decide) ?_
                refine lv_icmp_ne (tgt := 317) hx hb dL_weeks_310 (by decide) (fun z9 => absurd z9 (by decide)) (fun _ => ?_)
                refine lv_iconst (v := 1) hx hb dL_weeks_313 (by decide) ?_
                refine lv_goto (tgt := 318) hx hb dL_weeks_314 (by decide) ?_
                refine W.widen (k := 200) (n := 1200) (by omega) (by omega) ?_
                obtain ⟨Wn, h9, hP, hD⟩ := hG
                exact W.zret (v := 1) hx hb hr (by decide) (fun t9 ht9 hW9 => ⟨⟨_, Wn, rfl, ⟨⟨rfl, cm, wk + n, fz_its V nt nc nl wk n, J9.mono (by omega), h9⟩, hD⟩, fz_to ht9 hP⟩, hS.F ht9⟩) hS.2.2 dL_weeks_318
            · skip
              have e6 : u0 = n := (nI_eq (by omega) (by omega)).mp c3
              refine lv_aload_n hx hb dL_weeks_270 rfl (lv_at hl 0 rfl) ?_
              refine lv_iload_n hx hb dL_weeks_271 rfl (lv_at hl 1 rfl) ?_
              refine lv_iconst (v := 0) hx hb dL_weeks_272 (by decide) ?_
              refine pw_call (rest := []) (pt_team hst J9 ti 0 ht (by decide)) ⟨hx, hb, hml, hown, hts⟩ (vx_cwSW 3 hts gL_weeks_L_team rfl rfl rfl (by decide +kernel) ⟨Nat.le_of_ble_eq_true rfl, Nat.le_of_ble_eq_true rfl⟩) hK hG hS hE.1 rfl hl.1 rfl (Nat.le_of_ble_eq_true rfl) dL_weeks_273 ⟨by show _ + 2 ≤ 200; omega, by show _ + 12 ≤ 1200; omega⟩ (fun H locs hG hS => ?_)
              refine fz_top (show _ = (fz_its V nt nc nl wk n) 4 ti from rfl) ?_
              refine lv_iload hx hb dL_weeks_276 (lv_at hl 5 rfl) ?_
              refine lv_icmp_lt (tgt := 285) hx hb dL_weeks_278 (by decide) (fun z9 => absurd z9 (Int32.not_lt.mpr (by rw [← e6]; exact hge))) (fun _ => ?_)
              refine lv_iconst (v := 1) hx hb dL_weeks_281 (by decide) ?_
              refine lv_goto (tgt := 286) hx hb dL_weeks_282 (by decide) ?_
              refine lv_istore (lv' := [(8, .int 1), (0, .ref (f 0)), (1, .int (nI ti)), (3, .int (nI my)), (4, .int (nI wk)), (5, .int (nI u0)), (6, .int (nI ri * V 1 0)), (7, .int (-1)), (9, .int (nI n))]) hx hb dL_weeks_286 hl (by decide) rfl (fun ls hl => ?_)
              refine W.widen (k := (40 + 20 * n) + 4) (n := (240 + 120 * n) + 24) (by omega) (by omega) ?_
              refine lv_iload hx hb dL_weeks_288 (lv_at hl 0 rfl) ?_
              refine lv_if_eq (tgt := 317) hx hb dL_weeks_290 (by decide) (fun z9 => absurd z9 (by decide)) (fun _ => ?_)
              refine lv_aload_n hx hb dL_weeks_293 rfl (lv_at hl 1 rfl) ?_
              refine lv_bipush (v := 8) hx hb dL_weeks_294 (by decide) ?_
              refine pw_call (rest := []) (pt_whole hst J9 8 (by decide)) ⟨hx, hb, hml, hown, hts⟩ (vx_cwSW 2 hts gL_weeks_L_whole rfl rfl rfl (by decide +kernel) ⟨Nat.le_of_ble_eq_true rfl, Nat.le_of_ble_eq_true rfl⟩) hK hG hS hE.1 rfl hl.1 rfl (Nat.le_of_ble_eq_true rfl) dL_weeks_296 ⟨by show _ + 1 ≤ 200; omega, by show _ + 6 ≤ 1200; omega⟩ (fun H locs hG hS => ?_)
              refine fz_top (show _ = nI (wk + n) from J9.e0) ?_
              refine lv_bipush (v := 39) hx hb dL_weeks_299 (by decide) ?_
              refine lv_icmp_lt (tgt := 313) hx hb dL_weeks_301 (by decide) (fun c2 => ?_) (fun c2 => ?_)
              · skip
                refine lv_iconst (v := 1) hx hb dL_weeks_313 (by decide) ?_
                refine lv_goto (tgt := 318) hx hb dL_weeks_314 (by decide) ?_
                refine W.widen (k := 200) (n := 1200) (by omega) (by omega) ?_
                obtain ⟨Wn, h9, hP, hD⟩ := hG
                exact W.zret (v := 1) hx hb hr (by decide) (fun t9 ht9 hW9 => ⟨⟨_, Wn, rfl, ⟨⟨rfl, cm, wk + n, fz_its V nt nc nl wk n, J9.mono (by omega), h9⟩, hD⟩, fz_to ht9 hP⟩, hS.F ht9⟩) hS.2.2 dL_weeks_318
              · skip
                refine lv_aload_n hx hb dL_weeks_304 rfl (lv_at hl 1 rfl) ?_
                refine pw_call (rest := []) (pw_endWeek_IS hst J9.wf J9.zo (cl_no (V := (fz_its V nt nc nl wk n)) (fun z => c2 (nI_lt (b := 39) z (by omega))))) ⟨hx, hb, hml, hown, hts⟩ (vx_cwSW 1 hts gL_weeks_L_endWeek rfl rfl rfl (by decide +kernel) ⟨Nat.le_of_ble_eq_true rfl, Nat.le_of_ble_eq_true rfl⟩) hK hG hS hE.1 rfl hl.1 rfl (Nat.le_of_ble_eq_true rfl) dL_weeks_305 ⟨by show _ + 1 ≤ 200; omega, by show _ + 6 ≤ 1200; omega⟩ (fun H locs hG hS => ?_)
                refine lv_bipush (v := (-11)) hx hb dL_weeks_308 (by decide) ?_
                refine lv_icmp_ne (tgt := 317) hx hb dL_weeks_310 (by decide) (fun z9 => absurd z9 (by decide)) (fun _ => ?_)
                refine lv_iconst (v := 1) hx hb dL_weeks_313 (by decide) ?_
                refine lv_goto (tgt := 318) hx hb dL_weeks_314 (by decide) ?_
                refine W.widen (k := 200) (n := 1200) (by omega) (by omega) ?_
                obtain ⟨Wn, h9, hP, hD⟩ := hG
                exact W.zret (v := 1) hx hb hr (by decide) (fun t9 ht9 hW9 => ⟨⟨_, Wn, rfl, ⟨⟨rfl, cm, wk + n, fz_its V nt nc nl wk n, J9.mono (by omega), h9⟩, hD⟩, fz_to ht9 hP⟩, hS.F ht9⟩) hS.2.2 dL_weeks_318
          · skip
            have hw39 : wk + n < 39 := Nat.lt_of_not_le fun z => c8 ((nI_leI (a := 39) (by omega) (by omega)).mpr z)
            refine lv_iload hx hb dL_weeks_116 (lv_at hl 7 rfl) ?_
            refine lv_if_eq (tgt := 215) hx hb dL_weeks_118 (by decide) (fun z9 => absurd z9 (by decide)) (fun _ => ?_)
            rcases Nat.lt_trichotomy n u0 with e6 | e6 | e6
            · skip
              refine lv_iload hx hb dL_weeks_121 (lv_at hl 8 rfl) ?_
              refine lv_iload hx hb dL_weeks_123 (lv_at hl 4 rfl) ?_
              refine lv_icmp_ne (tgt := 132) hx hb dL_weeks_125 (by decide) (fun _ => ?_) (fun z9 => absurd z9 (fun z => absurd ((nI_eq (by omega) (by omega)).mp z) (by omega)))
              refine lv_iconst (v := 0) hx hb dL_weeks_132 (by decide) ?_
              refine lv_aload_n hx hb dL_weeks_133 rfl (lv_at hl 0 rfl) ?_
              refine lv_iload_n hx hb dL_weeks_134 rfl (lv_at hl 1 rfl) ?_
              refine lv_iconst (v := 0) hx hb dL_weeks_135 (by decide) ?_
              refine pw_call (rest := [.int 0]) (pt_team hst J9 ti 0 ht (by decide)) ⟨hx, hb, hml, hown, hts⟩ (vx_cwSW 3 hts gL_weeks_L_team rfl rfl rfl (by decide +kernel) ⟨Nat.le_of_ble_eq_true rfl, Nat.le_of_ble_eq_true rfl⟩) hK hG hS hE.1 rfl hl.1 rfl (Nat.le_of_ble_eq_true rfl) dL_weeks_136 ⟨by show _ + 2 ≤ 200; omega, by show _ + 12 ≤ 1200; omega⟩ (fun H locs hG hS => ?_)
              refine fz_top (show _ = (fz_its V nt nc nl wk n) 4 ti from rfl) ?_
              refine lv_iload hx hb dL_weeks_139 (lv_at hl 5 rfl) ?_
              refine lv_icmp_lt (tgt := 167) hx hb dL_weeks_141 (by decide) (fun _ => ?_) (fun z9 => absurd (Int32.not_le.mp (hlt n (by omega) (by omega))) z9)
              refine lv_iconst (v := 0) hx hb dL_weeks_167 (by decide) ?_
              refine lv_icmp_eq (tgt := 183) hx hb dL_weeks_168 (by decide) (fun _ => ?_) (fun z9 => absurd (by decide) z9)
              refine lv_iconst (v := 1) hx hb dL_weeks_183 (by decide) ?_
              refine lv_goto (tgt := 188) hx hb dL_weeks_184 (by decide) ?_
              refine lv_istore (lv' := [(8, .int 1), (0, .ref (f 0)), (1, .int (nI ti)), (3, .int (nI my)), (4, .int (nI wk)), (5, .int (nI u0)), (6, .int (nI ri * V 1 0)), (7, .int (-1)), (9, .int (nI n))]) hx hb dL_weeks_188 hl (by decide) rfl (fun ls hl => ?_)
              refine W.widen (k := (40 + 20 * n) + 3) (n := (240 + 120 * n) + 18) (by omega) (by omega) ?_
              refine lv_iload hx hb dL_weeks_190 (lv_at hl 0 rfl) ?_
              refine lv_if_eq (tgt := 206) hx hb dL_weeks_192 (by decide) (fun z9 => absurd z9 (by decide)) (fun _ => ?_)
              refine lv_aload_n hx hb dL_weeks_195 rfl (lv_at hl 1 rfl) ?_
              refine pw_call (rest := []) (pw_endWeek_t hst J9.wf J9.zo (cl_ok J9 (by omega) hw39).1) ⟨hx, hb, hml, hown, hts⟩ (vx_cwSW 1 hts gL_weeks_L_endWeek rfl rfl rfl (by decide +kernel) ⟨Nat.le_of_ble_eq_true rfl, Nat.le_of_ble_eq_true rfl⟩) hK hG hS hE.1 rfl hl.1 rfl (Nat.le_of_ble_eq_true rfl) dL_weeks_196 ⟨by show _ + 1 ≤ 200; omega, by show _ + 6 ≤ 1200; omega⟩ (fun H locs hG hS => ?_)
              refine fz_top (show _ = (fz_close (fz_its V nt nc nl wk n) nt nc nl (wk + n)).1 from rfl) ?_
              refine lv_if_lt (tgt := 206) hx hb dL_weeks_199 (by decide) (fun z9 => absurd z9 (Int32.not_lt.mpr (cl_ok J9 (by omega) hw39).2)) (fun _ => ?_)
              refine lv_iconst (v := 1) hx hb dL_weeks_202 (by decide) ?_
              refine lv_goto (tgt := 207) hx hb dL_weeks_203 (by decide) ?_
              refine lv_istore (lv' := [(8, .int 1), (0, .ref (f 0)), (1, .int (nI ti)), (3, .int (nI my)), (4, .int (nI wk)), (5, .int (nI u0)), (6, .int (nI ri * V 1 0)), (7, .int (-1)), (9, .int (nI n))]) hx hb dL_weeks_207 hl (by decide) rfl (fun ls hl => ?_)
              refine W.widen (k := (40 + 20 * n) + 4) (n := (240 + 120 * n) + 24) (by omega) (by omega) ?_
              have hG : pG D A (pS cy f a t h x ad (hs_n cm) (fz_its V nt nc nl wk (n + 1)) L) H := hG
              refine lv_iinc (v := nI (n + 1)) (lv' := [(9, .int (nI (n + 1))), (8, .int 1), (0, .ref (f 0)), (1, .int (nI ti)), (3, .int (nI my)), (4, .int (nI wk)), (5, .int (nI u0)), (6, .int (nI ri * V 1 0)), (7, .int (-1))]) hx hb dL_weeks_209 hl (k := 8) rfl (nI_add _ 1) (by decide) rfl (fun ls hl => ?_)
              refine lv_goto (tgt := 99) hx hb dL_weeks_212 (by decide) ?_
              have hl : lv_has ls 10 [(9, .int (nI (n + 1))), (8, .int 1), (0, .ref (f 0)), (1, .int (nI ti)), (3, .int (nI my)), (4, .int (nI wk)), (5, .int (nI u0)), (6, .int (nI ri * V 1 0)), (7, .int (-1))] := hl
              refine W.widen (k := 40 + 20 * (n + 1)) (n := 240 + 120 * (n + 1)) (by omega) (by omega) ?_
              exact ih99 (n + 1, hs_n cm) (show ((n + 1) ≤ my) ∧ (wk + (n + 1) ≤ 39) from ⟨hnm, (by omega)⟩) (by show my - (n + 1) < my - n; omega) _ _ ls hG hS (lv_sub hl [2, 3, 4, 5, 6, 7, 8, 1, 0] rfl)
            · skip
              refine lv_iload hx hb dL_weeks_121 (lv_at hl 8 rfl) ?_
              refine lv_iload hx hb dL_weeks_123 (lv_at hl 4 rfl) ?_
              refine lv_icmp_ne (tgt := 132) hx hb dL_weeks_125 (by decide) (fun z9 => absurd z9 (not_not_p (by rw [e6]))) (fun _ => ?_)
              refine lv_iconst (v := 1) hx hb dL_weeks_128 (by decide) ?_
              refine lv_goto (tgt := 133) hx hb dL_weeks_129 (by decide) ?_
              refine lv_aload_n hx hb dL_weeks_133 rfl (lv_at hl 0 rfl) ?_
              refine lv_iload_n hx hb dL_weeks_134 rfl (lv_at hl 1 rfl) ?_
              refine lv_iconst (v := 0) hx hb dL_weeks_135 (by decide) ?_
              refine pw_call (rest := [.int 1]) (pt_team hst J9 ti 0 ht (by decide)) ⟨hx, hb, hml, hown, hts⟩ (vx_cwSW 3 hts gL_weeks_L_team rfl rfl rfl (by decide +kernel) ⟨Nat.le_of_ble_eq_true rfl, Nat.le_of_ble_eq_true rfl⟩) hK hG hS hE.1 rfl hl.1 rfl (Nat.le_of_ble_eq_true rfl) dL_weeks_136 ⟨by show _ + 2 ≤ 200; omega, by show _ + 12 ≤ 1200; omega⟩ (fun H locs hG hS => ?_)
              refine fz_top (show _ = (fz_its V nt nc nl wk n) 4 ti from rfl) ?_
              refine lv_iload hx hb dL_weeks_139 (lv_at hl 5 rfl) ?_
              refine lv_icmp_lt (tgt := 167) hx hb dL_weeks_141 (by decide) (fun z9 => absurd z9 (Int32.not_lt.mpr (by rw [e6]; exact hge))) (fun _ => ?_)
              refine lv_iload hx hb dL_weeks_144 (lv_at hl 4 rfl) ?_
              refine lv_iload hx hb dL_weeks_146 (lv_at hl 8 rfl) ?_
              refine lv_icmp_eq (tgt := 163) hx hb dL_weeks_148 (by decide) (fun _ => ?_) (fun z9 => absurd (by rw [e6]) z9)
              refine lv_iconst (v := 1) hx hb dL_weeks_163 (by decide) ?_
              refine lv_goto (tgt := 168) hx hb dL_weeks_164 (by decide) ?_
              refine lv_icmp_eq (tgt := 183) hx hb dL_weeks_168 (by decide) (fun _ => ?_) (fun z9 => absurd (by decide) z9)
              refine lv_iconst (v := 1) hx hb dL_weeks_183 (by decide) ?_
              refine lv_goto (tgt := 188) hx hb dL_weeks_184 (by decide) ?_
              refine lv_istore (lv' := [(8, .int 1), (0, .ref (f 0)), (1, .int (nI ti)), (3, .int (nI my)), (4, .int (nI wk)), (5, .int (nI u0)), (6, .int (nI ri * V 1 0)), (7, .int (-1)), (9, .int (nI n))]) hx hb dL_weeks_188 hl (by decide) rfl (fun ls hl => ?_)
              refine W.widen (k := (40 + 20 * n) + 3) (n := (240 + 120 * n) + 18) (by omega) (by omega) ?_
              refine lv_iload hx hb dL_weeks_190 (lv_at hl 0 rfl) ?_
              refine lv_if_eq (tgt := 206) hx hb dL_weeks_192 (by decide) (fun z9 => absurd z9 (by decide)) (fun _ => ?_)
              refine lv_aload_n hx hb dL_weeks_195 rfl (lv_at hl 1 rfl) ?_
              refine pw_call (rest := []) (pw_endWeek_t hst J9.wf J9.zo (cl_ok J9 (by omega) hw39).1) ⟨hx, hb, hml, hown, hts⟩ (vx_cwSW 1 hts gL_weeks_L_endWeek rfl rfl rfl (by decide +kernel) ⟨Nat.le_of_ble_eq_true rfl, Nat.le_of_ble_eq_true rfl⟩) hK hG hS hE.1 rfl hl.1 rfl (Nat.le_of_ble_eq_true rfl) dL_weeks_196 ⟨by show _ + 1 ≤ 200; omega, by show _ + 6 ≤ 1200; omega⟩ (fun H locs hG hS => ?_)
              refine fz_top (show _ = (fz_close (fz_its V nt nc nl wk n) nt nc nl (wk + n)).1 from rfl) ?_
              refine lv_if_lt (tgt := 206) hx hb dL_weeks_199 (by decide) (fun z9 => absurd z9 (Int32.not_lt.mpr (cl_ok J9 (by omega) hw39).2)) (fun _ => ?_)
              refine lv_iconst (v := 1) hx hb dL_weeks_202 (by decide) ?_
              refine lv_goto (tgt := 207) hx hb dL_weeks_203 (by decide) ?_
              refine lv_istore (lv' := [(8, .int 1), (0, .ref (f 0)), (1, .int (nI ti)), (3, .int (nI my)), (4, .int (nI wk)), (5, .int (nI u0)), (6, .int (nI ri * V 1 0)), (7, .int (-1)), (9, .int (nI n))]) hx hb dL_weeks_207 hl (by decide) rfl (fun ls hl => ?_)
              refine W.widen (k := (40 + 20 * n) + 4) (n := (240 + 120 * n) + 24) (by omega) (by omega) ?_
              have hG : pG D A (pS cy f a t h x ad (hs_n cm) (fz_its V nt nc nl wk (n + 1)) L) H := hG
              refine lv_iinc (v := nI (n + 1)) (lv' := [(9, .int (nI (n + 1))), (8, .int 1), (0, .ref (f 0)), (1, .int (nI ti)), (3, .int (nI my)), (4, .int (nI wk)), (5, .int (nI u0)), (6, .int (nI ri * V 1 0)), (7, .int (-1))]) hx hb dL_weeks_209 hl (k := 8) rfl (nI_add _ 1) (by decide) rfl (fun ls hl => ?_)
              refine lv_goto (tgt := 99) hx hb dL_weeks_212 (by decide) ?_
              have hl : lv_has ls 10 [(9, .int (nI (n + 1))), (8, .int 1), (0, .ref (f 0)), (1, .int (nI ti)), (3, .int (nI my)), (4, .int (nI wk)), (5, .int (nI u0)), (6, .int (nI ri * V 1 0)), (7, .int (-1))] := hl
              refine W.widen (k := 40 + 20 * (n + 1)) (n := 240 + 120 * (n + 1)) (by omega) (by omega) ?_
              exact ih99 (n + 1, hs_n cm) (show ((n + 1) ≤ my) ∧ (wk + (n + 1) ≤ 39) from ⟨hnm, (by omega)⟩) (by show my - (n + 1) < my - n; omega) _ _ ls hG hS (lv_sub hl [2, 3, 4, 5, 6, 7, 8, 1, 0] rfl)
            · skip
              refine lv_iload hx hb dL_weeks_121 (lv_at hl 8 rfl) ?_
              refine lv_iload hx hb dL_weeks_123 (lv_at hl 4 rfl) ?_
              refine lv_icmp_ne (tgt := 132) hx hb dL_weeks_125 (by decide) (fun _ => ?_) (fun z9 => absurd z9 (fun z => absurd ((nI_eq (by omega) (by omega)).mp z) (by omega)))
              refine lv_iconst (v := 0) hx hb dL_weeks_132 (by decide) ?_
              refine lv_aload_n hx hb dL_weeks_133 rfl (lv_at hl 0 rfl) ?_
              refine lv_iload_n hx hb dL_weeks_134 rfl (lv_at hl 1 rfl) ?_
              refine lv_iconst (v := 0) hx hb dL_weeks_135 (by decide) ?_
              refine pw_call (rest := [.int 0]) (pt_team hst J9 ti 0 ht (by decide)) ⟨hx, hb, hml, hown, hts⟩ (vx_cwSW 3 hts gL_weeks_L_team rfl rfl rfl (by decide +kernel) ⟨Nat.le_of_ble_eq_true rfl, Nat.le_of_ble_eq_true rfl⟩) hK hG hS hE.1 rfl hl.1 rfl (Nat.le_of_ble_eq_true rfl) dL_weeks_136 ⟨by show _ + 2 ≤ 200; omega, by show _ + 12 ≤ 1200; omega⟩ (fun H locs hG hS => ?_)
              refine fz_top (show _ = (fz_its V nt nc nl wk n) 4 ti from rfl) ?_
              refine lv_iload hx hb dL_weeks_139 (lv_at hl 5 rfl) ?_
              refine lv_icmp_lt (tgt := 167) hx hb dL_weeks_141 (by decide) (fun c5 => ?_) (fun c5 => ?_)
              · skip
                refine lv_iconst (v := 0) hx hb dL_weeks_167 (by decide) ?_
                refine lv_icmp_eq (tgt := 183) hx hb dL_weeks_168 (by decide) (fun _ => ?_) (fun z9 => absurd (by decide) z9)
                refine lv_iconst (v := 1) hx hb dL_weeks_183 (by decide) ?_
                refine lv_goto (tgt := 188) hx hb dL_weeks_184 (by decide) ?_
                refine lv_istore (lv' := [(8, .int 1), (0, .ref (f 0)), (1, .int (nI ti)), (3, .int (nI my)), (4, .int (nI wk)), (5, .int (nI u0)), (6, .int (nI ri * V 1 0)), (7, .int (-1)), (9, .int (nI n))]) hx hb dL_weeks_188 hl (by decide) rfl (fun ls hl => ?_)
                refine W.widen (k := (40 + 20 * n) + 3) (n := (240 + 120 * n) + 18) (by omega) (by omega) ?_
                refine lv_iload hx hb dL_weeks_190 (lv_at hl 0 rfl) ?_
                refine lv_if_eq (tgt := 206) hx hb dL_weeks_192 (by decide) (fun z9 => absurd z9 (by decide)) (fun _ => ?_)
                refine lv_aload_n hx hb dL_weeks_195 rfl (lv_at hl 1 rfl) ?_
                refine pw_call (rest := []) (pw_endWeek_t hst J9.wf J9.zo (cl_ok J9 (by omega) hw39).1) ⟨hx, hb, hml, hown, hts⟩ (vx_cwSW 1 hts gL_weeks_L_endWeek rfl rfl rfl (by decide +kernel) ⟨Nat.le_of_ble_eq_true rfl, Nat.le_of_ble_eq_true rfl⟩) hK hG hS hE.1 rfl hl.1 rfl (Nat.le_of_ble_eq_true rfl) dL_weeks_196 ⟨by show _ + 1 ≤ 200; omega, by show _ + 6 ≤ 1200; omega⟩ (fun H locs hG hS => ?_)
                refine fz_top (show _ = (fz_close (fz_its V nt nc nl wk n) nt nc nl (wk + n)).1 from rfl) ?_
                refine lv_if_lt (tgt := 206) hx hb dL_weeks_199 (by decide) (fun z9 => absurd z9 (Int32.not_lt.mpr (cl_ok J9 (by omega) hw39).2)) (fun _ => ?_)
                refine lv_iconst (v := 1) hx hb dL_weeks_202 (by decide) ?_
                refine lv_goto (tgt := 207) hx hb dL_weeks_203 (by decide) ?_
                refine lv_istore (lv' := [(8, .int 1), (0, .ref (f 0)), (1, .int (nI ti)), (3, .int (nI my)), (4, .int (nI wk)), (5, .int (nI u0)), (6, .int (nI ri * V 1 0)), (7, .int (-1)), (9, .int (nI n))]) hx hb dL_weeks_207 hl (by decide) rfl (fun ls hl => ?_)
                refine W.widen (k := (40 + 20 * n) + 4) (n := (240 + 120 * n) + 24) (by omega) (by omega) ?_
                have hG : pG D A (pS cy f a t h x ad (hs_n cm) (fz_its V nt nc nl wk (n + 1)) L) H := hG
                refine lv_iinc (v := nI (n + 1)) (lv' := [(9, .int (nI (n + 1))), (8, .int 1), (0, .ref (f 0)), (1, .int (nI ti)), (3, .int (nI my)), (4, .int (nI wk)), (5, .int (nI u0)), (6, .int (nI ri * V 1 0)), (7, .int (-1))]) hx hb dL_weeks_209 hl (k := 8) rfl (nI_add _ 1) (by decide) rfl (fun ls hl => ?_)
                refine lv_goto (tgt := 99) hx hb dL_weeks_212 (by decide) ?_
                have hl : lv_has ls 10 [(9, .int (nI (n + 1))), (8, .int 1), (0, .ref (f 0)), (1, .int (nI ti)), (3, .int (nI my)), (4, .int (nI wk)), (5, .int (nI u0)), (6, .int (nI ri * V 1 0)), (7, .int (-1))] := hl
                refine W.widen (k := 40 + 20 * (n + 1)) (n := 240 + 120 * (n + 1)) (by omega) (by omega) ?_
                exact ih99 (n + 1, hs_n cm) (show ((n + 1) ≤ my) ∧ (wk + (n + 1) ≤ 39) from ⟨hnm, (by omega)⟩) (by show my - (n + 1) < my - n; omega) _ _ ls hG hS (lv_sub hl [2, 3, 4, 5, 6, 7, 8, 1, 0] rfl)
              · skip
                refine lv_iload hx hb dL_weeks_144 (lv_at hl 4 rfl) ?_
                refine lv_iload hx hb dL_weeks_146 (lv_at hl 8 rfl) ?_
                refine lv_icmp_eq (tgt := 163) hx hb dL_weeks_148 (by decide) (fun z9 => absurd z9 (fun z => absurd ((nI_eq (by omega) (by omega)).mp z) (by omega))) (fun _ => ?_)
                refine lv_iload hx hb dL_weeks_151 (lv_at hl 4 rfl) ?_
                refine lv_if_lt (tgt := 163) hx hb dL_weeks_153 (by decide) (fun z9 => absurd z9 (nI_pos (n := u0) (by omega))) (fun _ => ?_)
                refine lv_iload hx hb dL_weeks_156 (lv_at hl 4 rfl) ?_
                refine lv_iload hx hb dL_weeks_158 (lv_at hl 8 rfl) ?_
                refine lv_icmp_le (tgt := 167) hx hb dL_weeks_160 (by decide) (fun _ => ?_) (fun z9 => absurd ((nI_leI (by omega) (by omega)).mpr (by omega)) z9)
                refine lv_iconst (v := 0) hx hb dL_weeks_167 (by decide) ?_
                refine lv_icmp_eq (tgt := 183) hx hb dL_weeks_168 (by decide) (fun _ => ?_) (fun z9 => absurd (by decide) z9)
                refine lv_iconst (v := 1) hx hb dL_weeks_183 (by decide) ?_
                refine lv_goto (tgt := 188) hx hb dL_weeks_184 (by decide) ?_
                refine lv_istore (lv' := [(8, .int 1), (0, .ref (f 0)), (1, .int (nI ti)), (3, .int (nI my)), (4, .int (nI wk)), (5, .int (nI u0)), (6, .int (nI ri * V 1 0)), (7, .int (-1)), (9, .int (nI n))]) hx hb dL_weeks_188 hl (by decide) rfl (fun ls hl => ?_)
                refine W.widen (k := (40 + 20 * n) + 3) (n := (240 + 120 * n) + 18) (by omega) (by omega) ?_
                refine lv_iload hx hb dL_weeks_190 (lv_at hl 0 rfl) ?_
                refine lv_if_eq (tgt := 206) hx hb dL_weeks_192 (by decide) (fun z9 => absurd z9 (by decide)) (fun _ => ?_)
                refine lv_aload_n hx hb dL_weeks_195 rfl (lv_at hl 1 rfl) ?_
                refine pw_call (rest := []) (pw_endWeek_t hst J9.wf J9.zo (cl_ok J9 (by omega) hw39).1) ⟨hx, hb, hml, hown, hts⟩ (vx_cwSW 1 hts gL_weeks_L_endWeek rfl rfl rfl (by decide +kernel) ⟨Nat.le_of_ble_eq_true rfl, Nat.le_of_ble_eq_true rfl⟩) hK hG hS hE.1 rfl hl.1 rfl (Nat.le_of_ble_eq_true rfl) dL_weeks_196 ⟨by show _ + 1 ≤ 200; omega, by show _ + 6 ≤ 1200; omega⟩ (fun H locs hG hS => ?_)
                refine fz_top (show _ = (fz_close (fz_its V nt nc nl wk n) nt nc nl (wk + n)).1 from rfl) ?_
                refine lv_if_lt (tgt := 206) hx hb dL_weeks_199 (by decide) (fun z9 => absurd z9 (Int32.not_lt.mpr (cl_ok J9 (by omega) hw39).2)) (fun _ => ?_)
                refine lv_iconst (v := 1) hx hb dL_weeks_202 (by decide) ?_
                refine lv_goto (tgt := 207) hx hb dL_weeks_203 (by decide) ?_
                refine lv_istore (lv' := [(8, .int 1), (0, .ref (f 0)), (1, .int (nI ti)), (3, .int (nI my)), (4, .int (nI wk)), (5, .int (nI u0)), (6, .int (nI ri * V 1 0)), (7, .int (-1)), (9, .int (nI n))]) hx hb dL_weeks_207 hl (by decide) rfl (fun ls hl => ?_)
                refine W.widen (k := (40 + 20 * n) + 4) (n := (240 + 120 * n) + 24) (by omega) (by omega) ?_
                have hG : pG D A (pS cy f a t h x ad (hs_n cm) (fz_its V nt nc nl wk (n + 1)) L) H := hG
                refine lv_iinc (v := nI (n + 1)) (lv' := [(9, .int (nI (n + 1))), (8, .int 1), (0, .ref (f 0)), (1, .int (nI ti)), (3, .int (nI my)), (4, .int (nI wk)), (5, .int (nI u0)), (6, .int (nI ri * V 1 0)), (7, .int (-1))]) hx hb dL_weeks_209 hl (k := 8) rfl (nI_add _ 1) (by decide) rfl (fun ls hl => ?_)
                refine lv_goto (tgt := 99) hx hb dL_weeks_212 (by decide) ?_
                have hl : lv_has ls 10 [(9, .int (nI (n + 1))), (8, .int 1), (0, .ref (f 0)), (1, .int (nI ti)), (3, .int (nI my)), (4, .int (nI wk)), (5, .int (nI u0)), (6, .int (nI ri * V 1 0)), (7, .int (-1))] := hl
                refine W.widen (k := 40 + 20 * (n + 1)) (n := 240 + 120 * (n + 1)) (by omega) (by omega) ?_
                exact ih99 (n + 1, hs_n cm) (show ((n + 1) ≤ my) ∧ (wk + (n + 1) ≤ 39) from ⟨hnm, (by omega)⟩) (by show my - (n + 1) < my - n; omega) _ _ ls hG hS (lv_sub hl [2, 3, 4, 5, 6, 7, 8, 1, 0] rfl)
    · skip
      refine lv_istore (lv' := [(4, .int (nI wk)), (0, .ref (f 0)), (1, .int (nI ti)), (2, .int (nI ri)), (3, .int (nI my))]) hx hb dL_weeks_6 hl (by decide) rfl (fun ls hl => ?_)
      refine W.widen (k := 1) (n := 6) (by omega) (by omega) ?_
      refine lv_aload_n hx hb dL_weeks_8 rfl (lv_at hl 1 rfl) ?_
      refine lv_iload_n hx hb dL_weeks_9 rfl (lv_at hl 2 rfl) ?_
      refine lv_iload_n hx hb dL_weeks_10 rfl (lv_at hl 3 rfl) ?_
      refine pw_call (rest := []) (pt_until hst J ti ht (nI ri) (rk_ok h1 h9r)) ⟨hx, hb, hml, hown, hts⟩ (vx_cwSW 3 hts gL_weeks_L_weeksUntil rfl rfl rfl (by decide +kernel) ⟨Nat.le_of_ble_eq_true rfl, Nat.le_of_ble_eq_true rfl⟩) hK hG hS hE.1 rfl hl.1 rfl (Nat.le_of_ble_eq_true rfl) dL_weeks_11 ⟨by show _ + 2 ≤ 200; omega, by show _ + 12 ≤ 1200; omega⟩ (fun H locs hG hS => ?_)
      refine fz_top (show _ = nI u0 from eu) ?_
      refine lv_istore (lv' := [(5, .int (nI u0)), (4, .int (nI wk)), (0, .ref (f 0)), (1, .int (nI ti)), (2, .int (nI ri)), (3, .int (nI my))]) hx hb dL_weeks_14 hl (by decide) rfl (fun ls hl => ?_)
      refine W.widen (k := 3) (n := 18) (by omega) (by omega) ?_
      refine lv_iload_n hx hb dL_weeks_16 rfl (lv_at hl 4 rfl) ?_
      refine lv_aload_n hx hb dL_weeks_17 rfl (lv_at hl 2 rfl) ?_
      refine lv_iconst (v := 4) hx hb dL_weeks_18 (by decide) ?_
      refine pw_call (rest := [.int (nI ri)]) (pt_whole hst J 4 (by decide)) ⟨hx, hb, hml, hown, hts⟩ (vx_cwSW 2 hts gL_weeks_L_whole rfl rfl rfl (by decide +kernel) ⟨Nat.le_of_ble_eq_true rfl, Nat.le_of_ble_eq_true rfl⟩) hK hG hS hE.1 rfl hl.1 rfl (Nat.le_of_ble_eq_true rfl) dL_weeks_19 ⟨by show _ + 1 ≤ 200; omega, by show _ + 6 ≤ 1200; omega⟩ (fun H locs hG hS => ?_)
      refine fz_top (show _ = V 1 0 from rfl) ?_
      refine lv_imul hx hb dL_weeks_22 ?_
      refine lv_istore (lv' := [(6, .int ((nI ri) * (V 1 0))), (5, .int (nI u0)), (4, .int (nI wk)), (0, .ref (f 0)), (1, .int (nI ti)), (2, .int (nI ri)), (3, .int (nI my))]) hx hb dL_weeks_23 hl (by decide) rfl (fun ls hl => ?_)
      refine W.widen (k := 4) (n := 24) (by omega) (by omega) ?_
      by_cases hm : wk + my ≤ 39
      · skip
        obtain ⟨b9, hb9, eb⟩ := being_n (its_J J (by omega) my hm) (by omega)
        refine lv_aload_n hx hb dL_weeks_25 rfl (lv_at hl 3 rfl) ?_
        refine lv_iload_n hx hb dL_weeks_26 rfl (lv_at hl 6 rfl) ?_
        refine pw_call (rest := []) (pt_being hst J my (by omega)) ⟨hx, hb, hml, hown, hts⟩ (vx_cwSW 2 hts gL_weeks_L_inBeing rfl rfl rfl (by decide +kernel) ⟨Nat.le_of_ble_eq_true rfl, Nat.le_of_ble_eq_true rfl⟩) hK hG hS hE.1 rfl hl.1 rfl (Nat.le_of_ble_eq_true rfl) dL_weeks_27 ⟨by show _ + 1 ≤ 200; omega, by show _ + 6 ≤ 1200; omega⟩ (fun H locs hG hS => ?_)
        refine fz_top (show _ = fz_sum ((fz_its V nt nc nl wk my) 4) nt + fz_sum ((fz_its V nt nc nl wk my) 12) nc from if_pos hm) ?_
        refine lv_istore (lv' := [(7, .int (fz_sum ((fz_its V nt nc nl wk my) 4) nt + fz_sum ((fz_its V nt nc nl wk my) 12) nc)), (6, .int ((nI ri) * (V 1 0))), (5, .int (nI u0)), (4, .int (nI wk)), (0, .ref (f 0)), (1, .int (nI ti)), (2, .int (nI ri)), (3, .int (nI my))]) hx hb dL_weeks_30 hl (by decide) rfl (fun ls hl => ?_)
        refine W.widen (k := 5) (n := 30) (by omega) (by omega) ?_
        refine lv_iload hx hb dL_weeks_32 (lv_at hl 2 rfl) ?_
        refine lv_if_ne (tgt := 41) hx hb dL_weeks_34 (by decide) (fun _ => ?_) (fun z9 => absurd z9 (fun z => hu0 ((nI_eq (a := u0) (b := 0) (by omega) (by decide)).mp z)))
        refine lv_iconst (v := 0) hx hb dL_weeks_41 (by decide) ?_
        refine lv_aload_n hx hb dL_weeks_42 rfl (lv_at hl 4 rfl) ?_
        refine lv_iload_n hx hb dL_weeks_43 rfl (lv_at hl 5 rfl) ?_
        refine lv_iconst (v := 0) hx hb dL_weeks_44 (by decide) ?_
        refine pw_call (rest := [.int 0]) (pt_team hst J ti 0 ht (by decide)) ⟨hx, hb, hml, hown, hts⟩ (vx_cwSW 3 hts gL_weeks_L_team rfl rfl rfl (by decide +kernel) ⟨Nat.le_of_ble_eq_true rfl, Nat.le_of_ble_eq_true rfl⟩) hK hG hS hE.1 rfl hl.1 rfl (Nat.le_of_ble_eq_true rfl) dL_weeks_45 ⟨by show _ + 2 ≤ 200; omega, by show _ + 12 ≤ 1200; omega⟩ (fun H locs hG hS => ?_)
        refine fz_top (show _ = V 4 ti from rfl) ?_
        refine lv_iload hx hb dL_weeks_48 (lv_at hl 1 rfl) ?_
        refine lv_icmp_lt (tgt := 57) hx hb dL_weeks_50 (by decide) (fun _ => ?_) (fun z9 => absurd (Int32.not_le.mp (hlt 0 (by omega) (by omega))) z9)
        refine lv_iconst (v := 0) hx hb dL_weeks_57 (by decide) ?_
        refine lv_icmp_ne (tgt := 93) hx hb dL_weeks_58 (by decide) (fun z9 => absurd z9 (by decide)) (fun _ => ?_)
        refine lv_iload hx hb dL_weeks_61 (lv_at hl 3 rfl) ?_
        refine lv_iload_n hx hb dL_weeks_63 rfl (lv_at hl 7 rfl) ?_
        refine lv_iadd hx hb dL_weeks_64 ?_
        refine lv_bipush (v := 39) hx hb dL_weeks_65 (by decide) ?_
        refine lv_icmp_le (tgt := 74) hx hb dL_weeks_67 (by decide) (fun _ => ?_) (fun z9 => absurd (by rw [nI_add]; exact (nI_leI (b := 39) (by omega) (by omega)).mpr hm) z9)
        refine lv_iconst (v := 0) hx hb dL_weeks_74 (by decide) ?_
        refine lv_iload hx hb dL_weeks_75 (lv_at hl 0 rfl) ?_
        refine lv_iconst (v := (-1)) hx hb dL_weeks_77 (by decide) ?_
        refine lv_icmp_ne (tgt := 85) hx hb dL_weeks_78 (by decide) (fun _ => ?_) (fun z9 => absurd z9 (by rw [eb]; exact sd_m1 (by omega)))
        refine lv_iconst (v := 0) hx hb dL_weeks_85 (by decide) ?_
        refine lv_icmp_ne (tgt := 93) hx hb dL_weeks_86 (by decide) (fun z9 => absurd z9 (by decide)) (fun _ => ?_)
        refine lv_iconst (v := 1) hx hb dL_weeks_89 (by decide) ?_
        refine lv_goto (tgt := 94) hx hb dL_weeks_90 (by decide) ?_
        refine lv_istore (lv' := [(8, .int 1), (7, .int (fz_sum ((fz_its V nt nc nl wk my) 4) nt + fz_sum ((fz_its V nt nc nl wk my) 12) nc)), (6, .int ((nI ri) * (V 1 0))), (5, .int (nI u0)), (4, .int (nI wk)), (0, .ref (f 0)), (1, .int (nI ti)), (2, .int (nI ri)), (3, .int (nI my))]) hx hb dL_weeks_94 hl (by decide) rfl (fun ls hl => ?_)
        refine W.widen (k := 7) (n := 42) (by omega) (by omega) ?_
        refine lv_iconst (v := 0) hx hb dL_weeks_96 (by decide) ?_
        refine lv_istore (lv' := [(9, .int 0), (8, .int 1), (7, .int (fz_sum ((fz_its V nt nc nl wk my) 4) nt + fz_sum ((fz_its V nt nc nl wk my) 12) nc)), (6, .int ((nI ri) * (V 1 0))), (5, .int (nI u0)), (4, .int (nI wk)), (0, .ref (f 0)), (1, .int (nI ti)), (2, .int (nI ri)), (3, .int (nI my))]) hx hb dL_weeks_97 hl (by decide) rfl (fun ls hl => ?_)
        have hl : lv_has ls 10 [(9, .int (nI 0)), (8, .int 1), (7, .int (fz_sum ((fz_its V nt nc nl wk my) 4) nt + fz_sum ((fz_its V nt nc nl wk my) 12) nc)), (6, .int (nI ri * V 1 0)), (5, .int (nI u0)), (4, .int (nI wk)), (0, .ref (f 0)), (1, .int (nI ti)), (2, .int (nI ri)), (3, .int (nI my))] := hl
        refine W.widen (k := 40 + 20 * 0) (n := 240 + 120 * 0) (by omega) (by omega) ?_
        refine pw_loop (σ := Nat × Nat) (pc := 99) (nL := 10) (rest := []) (fun x9 => match x9 with | (n, cm) => [(0, .ref (f 0)), (1, .int (nI ti)), (3, .int (nI my)), (4, .int (nI wk)), (5, .int (nI u0)), (6, .int (nI ri * V 1 0)), (7, .int (fz_sum ((fz_its V nt nc nl wk my) 4) nt + fz_sum ((fz_its V nt nc nl wk my) 12) nc)), (8, .int 1), (9, .int (nI n))]) (fun x9 => match x9 with | (n, cm) => pS cy f a t h x ad cm (fz_its V nt nc nl wk n) L) (fun x9 => match x9 with | (n, cm) => (n ≤ my) ∧ (wk + n ≤ 39)) (fun x9 => match x9 with | (n, cm) => my - n) (fun x9 => match x9 with | (n, cm) => 40 + 20 * n) (fun x9 => match x9 with | (n, cm) => 240 + 120 * n) ?_ (0, cn) (show (0 ≤ my) ∧ (wk + 0 ≤ 39) from ⟨(Nat.zero_le _), (by omega)⟩) _ _ ls hG hS (lv_sub hl [6, 7, 9, 5, 4, 3, 2, 1, 0] rfl)
        rintro ⟨n, cm⟩ ⟨hn, hwn⟩ ih99 H locs ls hG hS hl
        have hn : n ≤ my := hn
        have hwn : wk + n ≤ 39 := hwn
        have hG : pG D A (pS cy f a t h x ad cm (fz_its V nt nc nl wk n) L) H := hG
        have hl : lv_has ls 10 [(0, .ref (f 0)), (1, .int (nI ti)), (3, .int (nI my)), (4, .int (nI wk)), (5, .int (nI u0)), (6, .int (nI ri * V 1 0)), (7, .int (fz_sum ((fz_its V nt nc nl wk my) 4) nt + fz_sum ((fz_its V nt nc nl wk my) 12) nc)), (8, .int 1), (9, .int (nI n))] := hl
        show W _ _ _ _ _ _ _ _ _ _ _ _ (40 + 20 * n) (240 + 120 * n) _ _
        have J9 := its_J J (by omega) n hwn
        refine lv_iload hx hb dL_weeks_99 (lv_at hl 8 rfl) ?_
        refine lv_iload_n hx hb dL_weeks_101 rfl (lv_at hl 2 rfl) ?_
        refine lv_icmp_ge (tgt := 215) hx hb dL_weeks_102 (by decide) (fun c9 => ?_) (fun c9 => ?_)
        · skip
          have e9 : n = my := by have := (nI_leI (by omega) (by omega)).mp c9; omega
          refine lv_iload hx hb dL_weeks_215 (lv_at hl 7 rfl) ?_
          refine lv_if_eq (tgt := 285) hx hb dL_weeks_217 (by decide) (fun z9 => absurd z9 (by decide)) (fun _ => ?_)
          refine lv_aload_n hx hb dL_weeks_220 rfl (lv_at hl 0 rfl) ?_
          refine lv_bipush (v := 8) hx hb dL_weeks_221 (by decide) ?_
          refine pw_call (rest := []) (pt_whole hst J9 8 (by decide)) ⟨hx, hb, hml, hown, hts⟩ (vx_cwSW 2 hts gL_weeks_L_whole rfl rfl rfl (by decide +kernel) ⟨Nat.le_of_ble_eq_true rfl, Nat.le_of_ble_eq_true rfl⟩) hK hG hS hE.1 rfl hl.1 rfl (Nat.le_of_ble_eq_true rfl) dL_weeks_223 ⟨by show _ + 1 ≤ 200; omega, by show _ + 6 ≤ 1200; omega⟩ (fun H locs hG hS => ?_)
          refine fz_top (show _ = nI (wk + n) from J9.e0) ?_
          refine lv_iload hx hb dL_weeks_226 (lv_at hl 3 rfl) ?_
          refine lv_iload hx hb dL_weeks_228 (lv_at hl 8 rfl) ?_
          refine lv_iadd hx hb dL_weeks_230 ?_
          refine lv_icmp_ne (tgt := 285) hx hb dL_weeks_231 (by decide) (fun z9 => absurd z9 (not_not_p (nI_add wk n).symm)) (fun _ => ?_)
          refine lv_iload hx hb dL_weeks_234 (lv_at hl 8 rfl) ?_
          refine lv_iload_n hx hb dL_weeks_236 rfl (lv_at hl 2 rfl) ?_
          refine lv_icmp_lt (tgt := 258) hx hb dL_weeks_237 (by decide) (fun z9 => absurd z9 (by rw [e9]; exact Int32.lt_irrefl)) (fun _ => ?_)
          refine lv_iload hx hb dL_weeks_240 (lv_at hl 6 rfl) ?_
          refine lv_aload_n hx hb dL_weeks_242 rfl (lv_at hl 0 rfl) ?_
          refine lv_bipush (v := 10) hx hb dL_weeks_243 (by decide) ?_
          refine pw_call (rest := [.int (fz_sum ((fz_its V nt nc nl wk my) 4) nt + fz_sum ((fz_its V nt nc nl wk my) 12) nc)]) (pt_whole hst J9 10 (by decide)) ⟨hx, hb, hml, hown, hts⟩ (vx_cwSW 2 hts gL_weeks_L_whole rfl rfl rfl (by decide +kernel) ⟨Nat.le_of_ble_eq_true rfl, Nat.le_of_ble_eq_true rfl⟩) hK hG hS hE.1 rfl hl.1 rfl (Nat.le_of_ble_eq_true rfl) dL_weeks_245 ⟨by show _ + 1 ≤ 200; omega, by show _ + 6 ≤ 1200; omega⟩ (fun H locs hG hS => ?_)
          refine fz_top (show _ = fz_sum ((fz_its V nt nc nl wk n) 4) nt from rfl) ?_
          refine lv_aload_n hx hb dL_weeks_248 rfl (lv_at hl 0 rfl) ?_
          refine lv_bipush (v := 11) hx hb dL_weeks_249 (by decide) ?_
          refine pw_call (rest := [.int (fz_sum ((fz_its V nt nc nl wk n) 4) nt), .int (fz_sum ((fz_its V nt nc nl wk my) 4) nt + fz_sum ((fz_its V nt nc nl wk my) 12) nc)]) (pt_whole hst J9 11 (by decide)) ⟨hx, hb, hml, hown, hts⟩ (vx_cwSW 2 hts gL_weeks_L_whole rfl rfl rfl (by decide +kernel) ⟨Nat.le_of_ble_eq_true rfl, Nat.le_of_ble_eq_true rfl⟩) hK hG hS hE.1 rfl hl.1 rfl (Nat.le_of_ble_eq_true rfl) dL_weeks_251 ⟨by show _ + 1 ≤ 200; omega, by show _ + 6 ≤ 1200; omega⟩ (fun H locs hG hS => ?_)
          refine fz_top (show _ = fz_sum ((fz_its V nt nc nl wk n) 12) nc from rfl) ?_
          refine lv_iadd hx hb dL_weeks_254 ?_
          refine lv_icmp_ne (tgt := 285) hx hb dL_weeks_255 (by decide) (fun z9 => absurd z9 (not_not_p (by rw [e9]))) (fun _ => ?_)
          refine lv_iload hx hb dL_weeks_258 (lv_at hl 4 rfl) ?_
          refine lv_if_lt (tgt := 281) hx hb dL_weeks_260 (by decide) (fun z9 => absurd z9 (nI_pos (n := u0) (by omega))) (fun _ => ?_)
          refine lv_iload hx hb dL_weeks_263 (lv_at hl 4 rfl) ?_
          refine lv_iload hx hb dL_weeks_265 (lv_at hl 8 rfl) ?_
          refine lv_icmp_ne (tgt := 281) hx hb dL_weeks_267 (by decide) (fun c3 => ?_) (fun c3 => ?_)
          · skip
            refine lv_iconst (v := 1) hx hb dL_weeks_281 (by decide) ?_
            refine lv_goto (tgt := 286) hx hb dL_weeks_282 (by decide) ?_
            refine lv_istore (lv' := [(8, .int 1), (0, .ref (f 0)), (1, .int (nI ti)), (3, .int (nI my)), (4, .int (nI wk)), (5, .int (nI u0)), (6, .int (nI ri * V 1 0)), (7, .int (fz_sum ((fz_its V nt nc nl wk my) 4) nt + fz_sum ((fz_its V nt nc nl wk my) 12) nc)), (9, .int (nI n))]) hx hb dL_weeks_286 hl (by decide) rfl (fun ls hl => ?_)
            refine W.widen (k := (40 + 20 * n) + 3) (n := (240 + 120 * n) + 18) (by omega) (by omega) ?_
            refine lv_iload hx hb dL_weeks_288 (lv_at hl 0 rfl) ?_
            refine lv_if_eq (tgt := 317) hx hb dL_weeks_290 (by decide) (fun z9 => absurd z9 (by decide)) (fun _ => ?_)
            refine lv_aload_n hx hb dL_weeks_293 rfl (lv_at hl 1 rfl) ?_
            refine lv_bipush (v := 8) hx hb dL_weeks_294 (by decide) ?_
            refine pw_call (rest := []) (pt_whole hst J9 8 (by decide)) ⟨hx, hb, hml, hown, hts⟩ (vx_cwSW 2 hts gL_weeks_L_whole rfl rfl rfl (by decide +kernel) ⟨Nat.le_of_ble_eq_true rfl, Nat.le_of_ble_eq_true rfl⟩) hK hG hS hE.1 rfl hl.1 rfl (Nat.le_of_ble_eq_true rfl) dL_weeks_296 ⟨by show _ + 1 ≤ 200; omega, by show _ + 6 ≤ 1200; omega⟩ (fun H locs hG hS => ?_)
            refine fz_top (show _ = nI (wk + n) from J9.e0) ?_
            refine lv_bipush (v := 39) hx hb dL_weeks_299 (by decide) ?_
            refine lv_icmp_lt (tgt := 313) hx hb dL_weeks_301 (by decide) (fun c2 => ?_) (fun c2 => ?_)
            · skip
              refine lv_iconst (v := 1) hx hb dL_weeks_313 (by decide) ?_
              refine lv_goto (tgt := 318) hx hb dL_weeks_314 (by decide) ?_
              refine W.widen (k := 200) (n := 1200) (by omega) (by omega) ?_
              obtain ⟨Wn, h9, hP, hD⟩ := hG
              exact W.zret (v := 1) hx hb hr (by decide) (fun t9 ht9 hW9 => ⟨⟨_, Wn, rfl, ⟨⟨rfl, cm, wk + n, fz_its V nt nc nl wk n, J9.mono (by omega), h9⟩, hD⟩, fz_to ht9 hP⟩, hS.F ht9⟩) hS.2.2 dL_weeks_318
            · skip
              refine lv_aload_n hx hb dL_weeks_304 rfl (lv_at hl 1 rfl) ?_
              refine pw_call (rest := []) (pw_endWeek_IS hst J9.wf J9.zo (cl_no (V := (fz_its V nt nc nl wk n)) (fun z => c2 (nI_lt (b := 39) z (by omega))))) ⟨hx, hb, hml, hown, hts⟩ (vx_cwSW 1 hts gL_weeks_L_endWeek rfl rfl rfl (by decide +kernel) ⟨Nat.le_of_ble_eq_true rfl, Nat.le_of_ble_eq_true rfl⟩) hK hG hS hE.1 rfl hl.1 rfl (Nat.le_of_ble_eq_true rfl) dL_weeks_305 ⟨by show _ + 1 ≤ 200; omega, by show _ + 6 ≤ 1200; omega⟩ (fun H locs hG hS => ?_)
              refine lv_bipush (v := (-11)) hx hb dL_weeks_308 (by decide) ?_
              refine lv_icmp_ne (tgt := 317) hx hb dL_weeks_310 (by decide) (fun z9 => absurd z9 (by decide)) (fun _ => ?_)
              refine lv_iconst (v := 1) hx hb dL_weeks_313 (by decide) ?_
              refine lv_goto (tgt := 318) hx hb dL_weeks_314 (by decide) ?_
              refine W.widen (k := 200) (n := 1200) (by omega) (by omega) ?_
              obtain ⟨Wn, h9, hP, hD⟩ := hG
              exact W.zret (v := 1) hx hb hr (by decide) (fun t9 ht9 hW9 => ⟨⟨_, Wn, rfl, ⟨⟨rfl, cm, wk + n, fz_its V nt nc nl wk n, J9.mono (by omega), h9⟩, hD⟩, fz_to ht9 hP⟩, hS.F ht9⟩) hS.2.2 dL_weeks_318
          · skip
            have e6 : u0 = n := (nI_eq (by omega) (by omega)).mp c3
            refine lv_aload_n hx hb dL_weeks_270 rfl (lv_at hl 0 rfl) ?_
            refine lv_iload_n hx hb dL_weeks_271 rfl (lv_at hl 1 rfl) ?_
            refine lv_iconst (v := 0) hx hb dL_weeks_272 (by decide) ?_
            refine pw_call (rest := []) (pt_team hst J9 ti 0 ht (by decide)) ⟨hx, hb, hml, hown, hts⟩ (vx_cwSW 3 hts gL_weeks_L_team rfl rfl rfl (by decide +kernel) ⟨Nat.le_of_ble_eq_true rfl, Nat.le_of_ble_eq_true rfl⟩) hK hG hS hE.1 rfl hl.1 rfl (Nat.le_of_ble_eq_true rfl) dL_weeks_273 ⟨by show _ + 2 ≤ 200; omega, by show _ + 12 ≤ 1200; omega⟩ (fun H locs hG hS => ?_)
            refine fz_top (show _ = (fz_its V nt nc nl wk n) 4 ti from rfl) ?_
            refine lv_iload hx hb dL_weeks_276 (lv_at hl 5 rfl) ?_
            refine lv_icmp_lt (tgt := 285) hx hb dL_weeks_278 (by decide) (fun z9 => absurd z9 (Int32.not_lt.mpr (by rw [← e6]; exact hge))) (fun _ => ?_)
            refine lv_iconst (v := 1) hx hb dL_weeks_281 (by decide) ?_
            refine lv_goto (tgt := 286) hx hb dL_weeks_282 (by decide) ?_
            refine lv_istore (lv' := [(8, .int 1), (0, .ref (f 0)), (1, .int (nI ti)), (3, .int (nI my)), (4, .int (nI wk)), (5, .int (nI u0)), (6, .int (nI ri * V 1 0)), (7, .int (fz_sum ((fz_its V nt nc nl wk my) 4) nt + fz_sum ((fz_its V nt nc nl wk my) 12) nc)), (9, .int (nI n))]) hx hb dL_weeks_286 hl (by decide) rfl (fun ls hl => ?_)
            refine W.widen (k := (40 + 20 * n) + 5) (n := (240 + 120 * n) + 30) (by omega) (by omega) ?_
            refine lv_iload hx hb dL_weeks_288 (lv_at hl 0 rfl) ?_
            refine lv_if_eq (tgt := 317) hx hb dL_weeks_290 (by decide) (fun z9 => absurd z9 (by decide)) (fun _ => ?_)
            refine lv_aload_n hx hb dL_weeks_293 rfl (lv_at hl 1 rfl) ?_
            refine lv_bipush (v := 8) hx hb dL_weeks_294 (by decide) ?_
            refine pw_call (rest := []) (pt_whole hst J9 8 (by decide)) ⟨hx, hb, hml, hown, hts⟩ (vx_cwSW 2 hts gL_weeks_L_whole rfl rfl rfl (by decide +kernel) ⟨Nat.le_of_ble_eq_true rfl, Nat.le_of_ble_eq_true rfl⟩) hK hG hS hE.1 rfl hl.1 rfl (Nat.le_of_ble_eq_true rfl) dL_weeks_296 ⟨by show _ + 1 ≤ 200; omega, by show _ + 6 ≤ 1200; omega⟩ (fun H locs hG hS => ?_)
            refine fz_top (show _ = nI (wk + n) from J9.e0) ?_
            refine lv_bipush (v := 39) hx hb dL_weeks_299 (by decide) ?_
            refine lv_icmp_lt (tgt := 313) hx hb dL_weeks_301 (by decide) (fun c2 => ?_) (fun c2 => ?_)
            · skip
              refine lv_iconst (v := 1) hx hb dL_weeks_313 (by decide) ?_
              refine lv_goto (tgt := 318) hx hb dL_weeks_314 (by decide) ?_
              refine W.widen (k := 200) (n := 1200) (by omega) (by omega) ?_
              obtain ⟨Wn, h9, hP, hD⟩ := hG
              exact W.zret (v := 1) hx hb hr (by decide) (fun t9 ht9 hW9 => ⟨⟨_, Wn, rfl, ⟨⟨rfl, cm, wk + n, fz_its V nt nc nl wk n, J9.mono (by omega), h9⟩, hD⟩, fz_to ht9 hP⟩, hS.F ht9⟩) hS.2.2 dL_weeks_318
            · skip
              refine lv_aload_n hx hb dL_weeks_304 rfl (lv_at hl 1 rfl) ?_
              refine pw_call (rest := []) (pw_endWeek_IS hst J9.wf J9.zo (cl_no (V := (fz_its V nt nc nl wk n)) (fun z => c2 (nI_lt (b := 39) z (by omega))))) ⟨hx, hb, hml, hown, hts⟩ (vx_cwSW 1 hts gL_weeks_L_endWeek rfl rfl rfl (by decide +kernel) ⟨Nat.le_of_ble_eq_true rfl, Nat.le_of_ble_eq_true rfl⟩) hK hG hS hE.1 rfl hl.1 rfl (Nat.le_of_ble_eq_true rfl) dL_weeks_305 ⟨by show _ + 1 ≤ 200; omega, by show _ + 6 ≤ 1200; omega⟩ (fun H locs hG hS => ?_)
              refine lv_bipush (v := (-11)) hx hb dL_weeks_308 (by decide) ?_
              refine lv_icmp_ne (tgt := 317) hx hb dL_weeks_310 (by decide) (fun z9 => absurd z9 (by decide)) (fun _ => ?_)
              refine lv_iconst (v := 1) hx hb dL_weeks_313 (by decide) ?_
              refine lv_goto (tgt := 318) hx hb dL_weeks_314 (by decide) ?_
              refine W.widen (k := 200) (n := 1200) (by omega) (by omega) ?_
              obtain ⟨Wn, h9, hP, hD⟩ := hG
              exact W.zret (v := 1) hx hb hr (by decide) (fun t9 ht9 hW9 => ⟨⟨_, Wn, rfl, ⟨⟨rfl, cm, wk + n, fz_its V nt nc nl wk n, J9.mono (by omega), h9⟩, hD⟩, fz_to ht9 hP⟩, hS.F ht9⟩) hS.2.2 dL_weeks_318
        · skip
          have hnm : n < my := Nat.lt_of_not_le fun z => c9 ((nI_leI (by omega) (by omega)).mpr z)
          refine lv_aload_n hx hb dL_weeks_105 rfl (lv_at hl 0 rfl) ?_
          refine lv_bipush (v := 8) hx hb dL_weeks_106 (by decide) ?_
          refine pw_call (rest := []) (pt_whole hst J9 8 (by decide)) ⟨hx, hb, hml, hown, hts⟩ (vx_cwSW 2 hts gL_weeks_L_whole rfl rfl rfl (by decide +kernel) ⟨Nat.le_of_ble_eq_true rfl, Nat.le_of_ble_eq_true rfl⟩) hK hG hS hE.1 rfl hl.1 rfl (Nat.le_of_ble_eq_true rfl) dL_weeks_108 ⟨by show _ + 1 ≤ 200; omega, by show _ + 6 ≤ 1200; omega⟩ (fun H locs hG hS => ?_)
          refine fz_top (show _ = nI (wk + n) from J9.e0) ?_
          refine lv_bipush (v := 39) hx hb dL_weeks_111 (by decide) ?_
          refine lv_icmp_ge (tgt := 215) hx hb dL_weeks_113 (by decide) (fun c8 => ?_) (fun c8 => ?_)
          · skip
            have e8 : wk + n = 39 := by have := (nI_leI (a := 39) (by omega) (by omega)).mp c8; omega
            refine lv_iload hx hb dL_weeks_215 (lv_at hl 7 rfl) ?_
            refine lv_if_eq (tgt := 285) hx hb dL_weeks_217 (by decide) (fun z9 => absurd z9 (by decide)) (fun _ => ?_)
            refine lv_aload_n hx hb dL_weeks_220 rfl (lv_at hl 0 rfl) ?_
            refine lv_bipush (v := 8) hx hb dL_weeks_221 (by decide) ?_
            refine pw_call (rest := []) (pt_whole hst J9 8 (by decide)) ⟨hx, hb, hml, hown, hts⟩ (vx_cwSW 2 hts gL_weeks_L_whole rfl rfl rfl (by decide +kernel) ⟨Nat.le_of_ble_eq_true rfl, Nat.le_of_ble_eq_true rfl⟩) hK hG hS hE.1 rfl hl.1 rfl (Nat.le_of_ble_eq_true rfl) dL_weeks_223 ⟨by show _ + 1 ≤ 200; omega, by show _ + 6 ≤ 1200; omega⟩ (fun H locs hG hS => ?_)
            refine fz_top (show _ = nI (wk + n) from J9.e0) ?_
            refine lv_iload hx hb dL_weeks_226 (lv_at hl 3 rfl) ?_
            refine lv_iload hx hb dL_weeks_228 (lv_at hl 8 rfl) ?_
            refine lv_iadd hx hb dL_weeks_230 ?_
            refine lv_icmp_ne (tgt := 285) hx hb dL_weeks_231 (by decide) (fun z9 => absurd z9 (not_not_p (nI_add wk n).symm)) (fun _ => ?_)
            refine lv_iload hx hb dL_weeks_234 (lv_at hl 8 rfl) ?_
            refine lv_iload_n hx hb dL_weeks_236 rfl (lv_at hl 2 rfl) ?_
            refine lv_icmp_lt (tgt := 258) hx hb dL_weeks_237 (by decide) (fun _ => ?_) (fun z9 => absurd (nI_lt hnm (by omega)) z9)
            refine lv_iload hx hb dL_weeks_258 (lv_at hl 4 rfl) ?_
            refine lv_if_lt (tgt := 281) hx hb dL_weeks_260 (by decide) (fun z9 => absurd z9 (nI_pos (n := u0) (by omega))) (fun _ => ?_)
            refine lv_iload hx hb dL_weeks_263 (lv_at hl 4 rfl) ?_
            refine lv_iload hx hb dL_weeks_265 (lv_at hl 8 rfl) ?_
            refine lv_icmp_ne (tgt := 281) hx hb dL_weeks_267 (by decide) (fun c3 => ?_) (fun c3 => ?_)
            · skip
              refine lv_iconst (v := 1) hx hb dL_weeks_281 (by decide) ?_
              refine lv_goto (tgt := 286) hx hb dL_weeks_282 (by decide) ?_
              refine lv_istore (lv' := [(8, .int 1), (0, .ref (f 0)), (1, .int (nI ti)), (3, .int (nI my)), (4, .int (nI wk)), (5, .int (nI u0)), (6, .int (nI ri * V 1 0)), (7, .int (fz_sum ((fz_its V nt nc nl wk my) 4) nt + fz_sum ((fz_its V nt nc nl wk my) 12) nc)), (9, .int (nI n))]) hx hb dL_weeks_286 hl (by decide) rfl (fun ls hl => ?_)
              refine W.widen (k := (40 + 20 * n) + 2) (n := (240 + 120 * n) + 12) (by omega) (by omega) ?_
              refine lv_iload hx hb dL_weeks_288 (lv_at hl 0 rfl) ?_
              refine lv_if_eq (tgt := 317) hx hb dL_weeks_290 (by decide) (fun z9 => absurd z9 (by decide)) (fun _ => ?_)
              refine lv_aload_n hx hb dL_weeks_293 rfl (lv_at hl 1 rfl) ?_
              refine lv_bipush (v := 8) hx hb dL_weeks_294 (by decide) ?_
              refine pw_call (rest := []) (pt_whole hst J9 8 (by decide)) ⟨hx, hb, hml, hown, hts⟩ (vx_cwSW 2 hts gL_weeks_L_whole rfl rfl rfl (by decide +kernel) ⟨Nat.le_of_ble_eq_true rfl, Nat.le_of_ble_eq_true rfl⟩) hK hG hS hE.1 rfl hl.1 rfl (Nat.le_of_ble_eq_true rfl) dL_weeks_296 ⟨by show _ + 1 ≤ 200; omega, by show _ + 6 ≤ 1200; omega⟩ (fun H locs hG hS => ?_)
              refine fz_top (show _ = nI (wk + n) from J9.e0) ?_
              refine lv_bipush (v := 39) hx hb dL_weeks_299 (by decide) ?_
              refine lv_icmp_lt (tgt := 313) hx hb dL_weeks_301 (by decide) (fun c2 => ?_) (fun c2 => ?_)
              · skip
                refine lv_iconst (v := 1) hx hb dL_weeks_313 (by decide) ?_
                refine lv_goto (tgt := 318) hx hb dL_weeks_314 (by decide) ?_
                refine W.widen (k := 200) (n := 1200) (by omega) (by omega) ?_
                obtain ⟨Wn, h9, hP, hD⟩ := hG
                exact W.zret (v := 1) hx hb hr (by decide) (fun t9 ht9 hW9 => ⟨⟨_, Wn, rfl, ⟨⟨rfl, cm, wk + n, fz_its V nt nc nl wk n, J9.mono (by omega), h9⟩, hD⟩, fz_to ht9 hP⟩, hS.F ht9⟩) hS.2.2 dL_weeks_318
              · skip
                refine lv_aload_n hx hb dL_weeks_304 rfl (lv_at hl 1 rfl) ?_
                refine pw_call (rest := []) (pw_endWeek_IS hst J9.wf J9.zo (cl_no (V := (fz_its V nt nc nl wk n)) (fun z => c2 (nI_lt (b := 39) z (by omega))))) ⟨hx, hb, hml, hown, hts⟩ (vx_cwSW 1 hts gL_weeks_L_endWeek rfl rfl rfl (by decide +kernel) ⟨Nat.le_of_ble_eq_true rfl, Nat.le_of_ble_eq_true rfl⟩) hK hG hS hE.1 rfl hl.1 rfl (Nat.le_of_ble_eq_true rfl) dL_weeks_305 ⟨by show _ + 1 ≤ 200; omega, by show _ + 6 ≤ 1200; omega⟩ (fun H locs hG hS => ?_)
                refine lv_bipush (v := (-11)) hx hb dL_weeks_308 (by decide) ?_
                refine lv_icmp_ne (tgt := 317) hx hb dL_weeks_310 (by decide) (fun z9 => absurd z9 (by decide)) (fun _ => ?_)
                refine lv_iconst (v := 1) hx hb dL_weeks_313 (by decide) ?_
                refine lv_goto (tgt := 318) hx hb dL_weeks_314 (by decide) ?_
                refine W.widen (k := 200) (n := 1200) (by omega) (by omega) ?_
                obtain ⟨Wn, h9, hP, hD⟩ := hG
                exact W.zret (v := 1) hx hb hr (by decide) (fun t9 ht9 hW9 => ⟨⟨_, Wn, rfl, ⟨⟨rfl, cm, wk + n, fz_its V nt nc nl wk n, J9.mono (by omega), h9⟩, hD⟩, fz_to ht9 hP⟩, hS.F ht9⟩) hS.2.2 dL_weeks_318
            · skip
              have e6 : u0 = n := (nI_eq (by omega) (by omega)).mp c3
              refine lv_aload_n hx hb dL_weeks_270 rfl (lv_at hl 0 rfl) ?_
              refine lv_iload_n hx hb dL_weeks_271 rfl (lv_at hl 1 rfl) ?_
              refine lv_iconst (v := 0) hx hb dL_weeks_272 (by decide) ?_
              refine pw_call (rest := []) (pt_team hst J9 ti 0 ht (by decide)) ⟨hx, hb, hml, hown, hts⟩ (vx_cwSW 3 hts gL_weeks_L_team rfl rfl rfl (by decide +kernel) ⟨Nat.le_of_ble_eq_true rfl, Nat.le_of_ble_eq_true rfl⟩) hK hG hS hE.1 rfl hl.1 rfl (Nat.le_of_ble_eq_true rfl) dL_weeks_273 ⟨by show _ + 2 ≤ 200; omega, by show _ + 12 ≤ 1200; omega⟩ (fun H locs hG hS => ?_)
              refine fz_top (show _ = (fz_its V nt nc nl wk n) 4 ti from rfl) ?_
              refine lv_iload hx hb dL_weeks_276 (lv_at hl 5 rfl) ?_
              refine lv_icmp_lt (tgt := 285) hx hb dL_weeks_278 (by decide) (fun z9 => absurd z9 (Int32.not_lt.mpr (by rw [← e6]; exact hge))) (fun _ => ?_)
              refine lv_iconst (v := 1) hx hb dL_weeks_281 (by decide) ?_
              refine lv_goto (tgt := 286) hx hb dL_weeks_282 (by decide) ?_
              refine lv_istore (lv' := [(8, .int 1), (0, .ref (f 0)), (1, .int (nI ti)), (3, .int (nI my)), (4, .int (nI wk)), (5, .int (nI u0)), (6, .int (nI ri * V 1 0)), (7, .int (fz_sum ((fz_its V nt nc nl wk my) 4) nt + fz_sum ((fz_its V nt nc nl wk my) 12) nc)), (9, .int (nI n))]) hx hb dL_weeks_286 hl (by decide) rfl (fun ls hl => ?_)
              refine W.widen (k := (40 + 20 * n) + 4) (n := (240 + 120 * n) + 24) (by omega) (by omega) ?_
              refine lv_iload hx hb dL_weeks_288 (lv_at hl 0 rfl) ?_
              refine lv_if_eq (tgt := 317) hx hb dL_weeks_290 (by decide) (fun z9 => absurd z9 (by decide)) (fun _ => ?_)
              refine lv_aload_n hx hb dL_weeks_293 rfl (lv_at hl 1 rfl) ?_
              refine lv_bipush (v := 8) hx hb dL_weeks_294 (by decide) ?_
              refine pw_call (rest := []) (pt_whole hst J9 8 (by decide)) ⟨hx, hb, hml, hown, hts⟩ (vx_cwSW 2 hts gL_weeks_L_whole rfl rfl rfl (by decide +kernel) ⟨Nat.le_of_ble_eq_true rfl, Nat.le_of_ble_eq_true rfl⟩) hK hG hS hE.1 rfl hl.1 rfl (Nat.le_of_ble_eq_true rfl) dL_weeks_296 ⟨by show _ + 1 ≤ 200; omega, by show _ + 6 ≤ 1200; omega⟩ (fun H locs hG hS => ?_)
              refine fz_top (show _ = nI (wk + n) from J9.e0) ?_
              refine lv_bipush (v := 39) hx hb dL_weeks_299 (by decide) ?_
              refine lv_icmp_lt (tgt := 313) hx hb dL_weeks_301 (by decide) (fun c2 => ?_) (fun c2 => ?_)
              · skip
                refine lv_iconst (v := 1) hx hb dL_weeks_313 (by decide) ?_
                refine lv_goto (tgt := 318) hx hb dL_weeks_314 (by decide) ?_
                refine W.widen (k := 200) (n := 1200) (by omega) (by omega) ?_
                obtain ⟨Wn, h9, hP, hD⟩ := hG
                exact W.zret (v := 1) hx hb hr (by decide) (fun t9 ht9 hW9 => ⟨⟨_, Wn, rfl, ⟨⟨rfl, cm, wk + n, fz_its V nt nc nl wk n, J9.mono (by omega), h9⟩, hD⟩, fz_to ht9 hP⟩, hS.F ht9⟩) hS.2.2 dL_weeks_318
              · skip
                refine lv_aload_n hx hb dL_weeks_304 rfl (lv_at hl 1 rfl) ?_
                refine pw_call (rest := []) (pw_endWeek_IS hst J9.wf J9.zo (cl_no (V := (fz_its V nt nc nl wk n)) (fun z => c2 (nI_lt (b := 39) z (by omega))))) ⟨hx, hb, hml, hown, hts⟩ (vx_cwSW 1 hts gL_weeks_L_endWeek rfl rfl rfl (by decide +kernel) ⟨Nat.le_of_ble_eq_true rfl, Nat.le_of_ble_eq_true rfl⟩) hK hG hS hE.1 rfl hl.1 rfl (Nat.le_of_ble_eq_true rfl) dL_weeks_305 ⟨by show _ + 1 ≤ 200; omega, by show _ + 6 ≤ 1200; omega⟩ (fun H locs hG hS => ?_)
                refine lv_bipush (v := (-11)) hx hb dL_weeks_308 (by decide) ?_
                refine lv_icmp_ne (tgt := 317) hx hb dL_weeks_310 (by decide) (fun z9 => absurd z9 (by decide)) (fun _ => ?_)
                refine lv_iconst (v := 1) hx hb dL_weeks_313 (by decide) ?_
                refine lv_goto (tgt := 318) hx hb dL_weeks_314 (by decide) ?_
                refine W.widen (k := 200) (n := 1200) (by omega) (by omega) ?_
                obtain ⟨Wn, h9, hP, hD⟩ := hG
                exact W.zret (v := 1) hx hb hr (by decide) (fun t9 ht9 hW9 => ⟨⟨_, Wn, rfl, ⟨⟨rfl, cm, wk + n, fz_its V nt nc nl wk n, J9.mono (by omega), h9⟩, hD⟩, fz_to ht9 hP⟩, hS.F ht9⟩) hS.2.2 dL_weeks_318
          · skip
            have hw39 : wk + n < 39 := Nat.lt_of_not_le fun z => c8 ((nI_leI (a := 39) (by omega) (by omega)).mpr z)
            refine lv_iload hx hb dL_weeks_116 (lv_at hl 7 rfl) ?_
            refine lv_if_eq (tgt := 215) hx hb dL_weeks_118 (by decide) (fun z9 => absurd z9 (by decide)) (fun _ => ?_)
            rcases Nat.lt_trichotomy n u0 with e6 | e6 | e6
            · skip
              refine lv_iload hx hb dL_weeks_121 (lv_at hl 8 rfl) ?_
              refine lv_iload hx hb dL_weeks_123 (lv_at hl 4 rfl) ?_
              refine lv_icmp_ne (tgt := 132) hx hb dL_weeks_125 (by decide) (fun _ => ?_) (fun z9 => absurd z9 (fun z => absurd ((nI_eq (by omega) (by omega)).mp z) (by omega)))
              refine lv_iconst (v := 0) hx hb dL_weeks_132 (by decide) ?_
              refine lv_aload_n hx hb dL_weeks_133 rfl (lv_at hl 0 rfl) ?_
              refine lv_iload_n hx hb dL_weeks_134 rfl (lv_at hl 1 rfl) ?_
              refine lv_iconst (v := 0) hx hb dL_weeks_135 (by decide) ?_
              refine pw_call (rest := [.int 0]) (pt_team hst J9 ti 0 ht (by decide)) ⟨hx, hb, hml, hown, hts⟩ (vx_cwSW 3 hts gL_weeks_L_team rfl rfl rfl (by decide +kernel) ⟨Nat.le_of_ble_eq_true rfl, Nat.le_of_ble_eq_true rfl⟩) hK hG hS hE.1 rfl hl.1 rfl (Nat.le_of_ble_eq_true rfl) dL_weeks_136 ⟨by show _ + 2 ≤ 200; omega, by show _ + 12 ≤ 1200; omega⟩ (fun H locs hG hS => ?_)
              refine fz_top (show _ = (fz_its V nt nc nl wk n) 4 ti from rfl) ?_
              refine lv_iload hx hb dL_weeks_139 (lv_at hl 5 rfl) ?_
              refine lv_icmp_lt (tgt := 167) hx hb dL_weeks_141 (by decide) (fun _ => ?_) (fun z9 => absurd (Int32.not_le.mp (hlt n (by omega) (by omega))) z9)
              refine lv_iconst (v := 0) hx hb dL_weeks_167 (by decide) ?_
              refine lv_icmp_eq (tgt := 183) hx hb dL_weeks_168 (by decide) (fun _ => ?_) (fun z9 => absurd (by decide) z9)
              refine lv_iconst (v := 1) hx hb dL_weeks_183 (by decide) ?_
              refine lv_goto (tgt := 188) hx hb dL_weeks_184 (by decide) ?_
              refine lv_istore (lv' := [(8, .int 1), (0, .ref (f 0)), (1, .int (nI ti)), (3, .int (nI my)), (4, .int (nI wk)), (5, .int (nI u0)), (6, .int (nI ri * V 1 0)), (7, .int (fz_sum ((fz_its V nt nc nl wk my) 4) nt + fz_sum ((fz_its V nt nc nl wk my) 12) nc)), (9, .int (nI n))]) hx hb dL_weeks_188 hl (by decide) rfl (fun ls hl => ?_)
              refine W.widen (k := (40 + 20 * n) + 3) (n := (240 + 120 * n) + 18) (by omega) (by omega) ?_
              refine lv_iload hx hb dL_weeks_190 (lv_at hl 0 rfl) ?_
              refine lv_if_eq (tgt := 206) hx hb dL_weeks_192 (by decide) (fun z9 => absurd z9 (by decide)) (fun _ => ?_)
              refine lv_aload_n hx hb dL_weeks_195 rfl (lv_at hl 1 rfl) ?_
              refine pw_call (rest := []) (pw_endWeek_t hst J9.wf J9.zo (cl_ok J9 (by omega) hw39).1) ⟨hx, hb, hml, hown, hts⟩ (vx_cwSW 1 hts gL_weeks_L_endWeek rfl rfl rfl (by decide +kernel) ⟨Nat.le_of_ble_eq_true rfl, Nat.le_of_ble_eq_true rfl⟩) hK hG hS hE.1 rfl hl.1 rfl (Nat.le_of_ble_eq_true rfl) dL_weeks_196 ⟨by show _ + 1 ≤ 200; omega, by show _ + 6 ≤ 1200; omega⟩ (fun H locs hG hS => ?_)
              refine fz_top (show _ = (fz_close (fz_its V nt nc nl wk n) nt nc nl (wk + n)).1 from rfl) ?_
              refine lv_if_lt (tgt := 206) hx hb dL_weeks_199 (by decide) (fun z9 => absurd z9 (Int32.not_lt.mpr (cl_ok J9 (by omega) hw39).2)) (fun _ => ?_)
              refine lv_iconst (v := 1) hx hb dL_weeks_202 (by decide) ?_
              refine lv_goto (tgt := 207) hx hb dL_weeks_203 (by decide) ?_
              refine lv_istore (lv' := [(8, .int 1), (0, .ref (f 0)), (1, .int (nI ti)), (3, .int (nI my)), (4, .int (nI wk)), (5, .int (nI u0)), (6, .int (nI ri * V 1 0)), (7, .int (fz_sum ((fz_its V nt nc nl wk my) 4) nt + fz_sum ((fz_its V nt nc nl wk my) 12) nc)), (9, .int (nI n))]) hx hb dL_weeks_207 hl (by decide) rfl (fun ls hl => ?_)
              refine W.widen (k := (40 + 20 * n) + 4) (n := (240 + 120 * n) + 24) (by omega) (by omega) ?_
              have hG : pG D A (pS cy f a t h x ad (hs_n cm) (fz_its V nt nc nl wk (n + 1)) L) H := hG
              refine lv_iinc (v := nI (n + 1)) (lv' := [(9, .int (nI (n + 1))), (8, .int 1), (0, .ref (f 0)), (1, .int (nI ti)), (3, .int (nI my)), (4, .int (nI wk)), (5, .int (nI u0)), (6, .int (nI ri * V 1 0)), (7, .int (fz_sum ((fz_its V nt nc nl wk my) 4) nt + fz_sum ((fz_its V nt nc nl wk my) 12) nc))]) hx hb dL_weeks_209 hl (k := 8) rfl (nI_add _ 1) (by decide) rfl (fun ls hl => ?_)
              refine lv_goto (tgt := 99) hx hb dL_weeks_212 (by decide) ?_
              have hl : lv_has ls 10 [(9, .int (nI (n + 1))), (8, .int 1), (0, .ref (f 0)), (1, .int (nI ti)), (3, .int (nI my)), (4, .int (nI wk)), (5, .int (nI u0)), (6, .int (nI ri * V 1 0)), (7, .int (fz_sum ((fz_its V nt nc nl wk my) 4) nt + fz_sum ((fz_its V nt nc nl wk my) 12) nc))] := hl
              refine W.widen (k := 40 + 20 * (n + 1)) (n := 240 + 120 * (n + 1)) (by omega) (by omega) ?_
              exact ih99 (n + 1, hs_n cm) (show ((n + 1) ≤ my) ∧ (wk + (n + 1) ≤ 39) from ⟨hnm, (by omega)⟩) (by show my - (n + 1) < my - n; omega) _ _ ls hG hS (lv_sub hl [2, 3, 4, 5, 6, 7, 8, 1, 0] rfl)
            · skip
              refine lv_iload hx hb dL_weeks_121 (lv_at hl 8 rfl) ?_
              refine lv_iload hx hb dL_weeks_123 (lv_at hl 4 rfl) ?_
              refine lv_icmp_ne (tgt := 132) hx hb dL_weeks_125 (by decide) (fun z9 => absurd z9 (not_not_p (by rw [e6]))) (fun _ => ?_)
              refine lv_iconst (v := 1) hx hb dL_weeks_128 (by decide) ?_
              refine lv_goto (tgt := 133) hx hb dL_weeks_129 (by decide) ?_
              refine lv_aload_n hx hb dL_weeks_133 rfl (lv_at hl 0 rfl) ?_
              refine lv_iload_n hx hb dL_weeks_134 rfl (lv_at hl 1 rfl) ?_
              refine lv_iconst (v := 0) hx hb dL_weeks_135 (by decide) ?_
              refine pw_call (rest := [.int 1]) (pt_team hst J9 ti 0 ht (by decide)) ⟨hx, hb, hml, hown, hts⟩ (vx_cwSW 3 hts gL_weeks_L_team rfl rfl rfl (by decide +kernel) ⟨Nat.le_of_ble_eq_true rfl, Nat.le_of_ble_eq_true rfl⟩) hK hG hS hE.1 rfl hl.1 rfl (Nat.le_of_ble_eq_true rfl) dL_weeks_136 ⟨by show _ + 2 ≤ 200; omega, by show _ + 12 ≤ 1200; omega⟩ (fun H locs hG hS => ?_)
              refine fz_top (show _ = (fz_its V nt nc nl wk n) 4 ti from rfl) ?_
              refine lv_iload hx hb dL_weeks_139 (lv_at hl 5 rfl) ?_
              refine lv_icmp_lt (tgt := 167) hx hb dL_weeks_141 (by decide) (fun z9 => absurd z9 (Int32.not_lt.mpr (by rw [e6]; exact hge))) (fun _ => ?_)
              refine lv_iload hx hb dL_weeks_144 (lv_at hl 4 rfl) ?_
              refine lv_iload hx hb dL_weeks_146 (lv_at hl 8 rfl) ?_
              refine lv_icmp_eq (tgt := 163) hx hb dL_weeks_148 (by decide) (fun _ => ?_) (fun z9 => absurd (by rw [e6]) z9)
              refine lv_iconst (v := 1) hx hb dL_weeks_163 (by decide) ?_
              refine lv_goto (tgt := 168) hx hb dL_weeks_164 (by decide) ?_
              refine lv_icmp_eq (tgt := 183) hx hb dL_weeks_168 (by decide) (fun _ => ?_) (fun z9 => absurd (by decide) z9)
              refine lv_iconst (v := 1) hx hb dL_weeks_183 (by decide) ?_
              refine lv_goto (tgt := 188) hx hb dL_weeks_184 (by decide) ?_
              refine lv_istore (lv' := [(8, .int 1), (0, .ref (f 0)), (1, .int (nI ti)), (3, .int (nI my)), (4, .int (nI wk)), (5, .int (nI u0)), (6, .int (nI ri * V 1 0)), (7, .int (fz_sum ((fz_its V nt nc nl wk my) 4) nt + fz_sum ((fz_its V nt nc nl wk my) 12) nc)), (9, .int (nI n))]) hx hb dL_weeks_188 hl (by decide) rfl (fun ls hl => ?_)
              refine W.widen (k := (40 + 20 * n) + 3) (n := (240 + 120 * n) + 18) (by omega) (by omega) ?_
              refine lv_iload hx hb dL_weeks_190 (lv_at hl 0 rfl) ?_
              refine lv_if_eq (tgt := 206) hx hb dL_weeks_192 (by decide) (fun z9 => absurd z9 (by decide)) (fun _ => ?_)
              refine lv_aload_n hx hb dL_weeks_195 rfl (lv_at hl 1 rfl) ?_
              refine pw_call (rest := []) (pw_endWeek_t hst J9.wf J9.zo (cl_ok J9 (by omega) hw39).1) ⟨hx, hb, hml, hown, hts⟩ (vx_cwSW 1 hts gL_weeks_L_endWeek rfl rfl rfl (by decide +kernel) ⟨Nat.le_of_ble_eq_true rfl, Nat.le_of_ble_eq_true rfl⟩) hK hG hS hE.1 rfl hl.1 rfl (Nat.le_of_ble_eq_true rfl) dL_weeks_196 ⟨by show _ + 1 ≤ 200; omega, by show _ + 6 ≤ 1200; omega⟩ (fun H locs hG hS => ?_)
              refine fz_top (show _ = (fz_close (fz_its V nt nc nl wk n) nt nc nl (wk + n)).1 from rfl) ?_
              refine lv_if_lt (tgt := 206) hx hb dL_weeks_199 (by decide) (fun z9 => absurd z9 (Int32.not_lt.mpr (cl_ok J9 (by omega) hw39).2)) (fun _ => ?_)
              refine lv_iconst (v := 1) hx hb dL_weeks_202 (by decide) ?_
              refine lv_goto (tgt := 207) hx hb dL_weeks_203 (by decide) ?_
              refine lv_istore (lv' := [(8, .int 1), (0, .ref (f 0)), (1, .int (nI ti)), (3, .int (nI my)), (4, .int (nI wk)), (5, .int (nI u0)), (6, .int (nI ri * V 1 0)), (7, .int (fz_sum ((fz_its V nt nc nl wk my) 4) nt + fz_sum ((fz_its V nt nc nl wk my) 12) nc)), (9, .int (nI n))]) hx hb dL_weeks_207 hl (by decide) rfl (fun ls hl => ?_)
              refine W.widen (k := (40 + 20 * n) + 4) (n := (240 + 120 * n) + 24) (by omega) (by omega) ?_
              have hG : pG D A (pS cy f a t h x ad (hs_n cm) (fz_its V nt nc nl wk (n + 1)) L) H := hG
              refine lv_iinc (v := nI (n + 1)) (lv' := [(9, .int (nI (n + 1))), (8, .int 1), (0, .ref (f 0)), (1, .int (nI ti)), (3, .int (nI my)), (4, .int (nI wk)), (5, .int (nI u0)), (6, .int (nI ri * V 1 0)), (7, .int (fz_sum ((fz_its V nt nc nl wk my) 4) nt + fz_sum ((fz_its V nt nc nl wk my) 12) nc))]) hx hb dL_weeks_209 hl (k := 8) rfl (nI_add _ 1) (by decide) rfl (fun ls hl => ?_)
              refine lv_goto (tgt := 99) hx hb dL_weeks_212 (by decide) ?_
              have hl : lv_has ls 10 [(9, .int (nI (n + 1))), (8, .int 1), (0, .ref (f 0)), (1, .int (nI ti)), (3, .int (nI my)), (4, .int (nI wk)), (5, .int (nI u0)), (6, .int (nI ri * V 1 0)), (7, .int (fz_sum ((fz_its V nt nc nl wk my) 4) nt + fz_sum ((fz_its V nt nc nl wk my) 12) nc))] := hl
              refine W.widen (k := 40 + 20 * (n + 1)) (n := 240 + 120 * (n + 1)) (by omega) (by omega) ?_
              exact ih99 (n + 1, hs_n cm) (show ((n + 1) ≤ my) ∧ (wk + (n + 1) ≤ 39) from ⟨hnm, (by omega)⟩) (by show my - (n + 1) < my - n; omega) _ _ ls hG hS (lv_sub hl [2, 3, 4, 5, 6, 7, 8, 1, 0] rfl)
            · skip
              refine lv_iload hx hb dL_weeks_121 (lv_at hl 8 rfl) ?_
              refine lv_iload hx hb dL_weeks_123 (lv_at hl 4 rfl) ?_
              refine lv_icmp_ne (tgt := 132) hx hb dL_weeks_125 (by decide) (fun _ => ?_) (fun z9 => absurd z9 (fun z => absurd ((nI_eq (by omega) (by omega)).mp z) (by omega)))
              refine lv_iconst (v := 0) hx hb dL_weeks_132 (by decide) ?_
              refine lv_aload_n hx hb dL_weeks_133 rfl (lv_at hl 0 rfl) ?_
              refine lv_iload_n hx hb dL_weeks_134 rfl (lv_at hl 1 rfl) ?_
              refine lv_iconst (v := 0) hx hb dL_weeks_135 (by decide) ?_
              refine pw_call (rest := [.int 0]) (pt_team hst J9 ti 0 ht (by decide)) ⟨hx, hb, hml, hown, hts⟩ (vx_cwSW 3 hts gL_weeks_L_team rfl rfl rfl (by decide +kernel) ⟨Nat.le_of_ble_eq_true rfl, Nat.le_of_ble_eq_true rfl⟩) hK hG hS hE.1 rfl hl.1 rfl (Nat.le_of_ble_eq_true rfl) dL_weeks_136 ⟨by show _ + 2 ≤ 200; omega, by show _ + 12 ≤ 1200; omega⟩ (fun H locs hG hS => ?_)
              refine fz_top (show _ = (fz_its V nt nc nl wk n) 4 ti from rfl) ?_
              refine lv_iload hx hb dL_weeks_139 (lv_at hl 5 rfl) ?_
              refine lv_icmp_lt (tgt := 167) hx hb dL_weeks_141 (by decide) (fun c5 => ?_) (fun c5 => ?_)
              · skip
                refine lv_iconst (v := 0) hx hb dL_weeks_167 (by decide) ?_
                refine lv_icmp_eq (tgt := 183) hx hb dL_weeks_168 (by decide) (fun _ => ?_) (fun z9 => absurd (by decide) z9)
                refine lv_iconst (v := 1) hx hb dL_weeks_183 (by decide) ?_
                refine lv_goto (tgt := 188) hx hb dL_weeks_184 (by decide) ?_
                refine lv_istore (lv' := [(8, .int 1), (0, .ref (f 0)), (1, .int (nI ti)), (3, .int (nI my)), (4, .int (nI wk)), (5, .int (nI u0)), (6, .int (nI ri * V 1 0)), (7, .int (fz_sum ((fz_its V nt nc nl wk my) 4) nt + fz_sum ((fz_its V nt nc nl wk my) 12) nc)), (9, .int (nI n))]) hx hb dL_weeks_188 hl (by decide) rfl (fun ls hl => ?_)
                refine W.widen (k := (40 + 20 * n) + 3) (n := (240 + 120 * n) + 18) (by omega) (by omega) ?_
                refine lv_iload hx hb dL_weeks_190 (lv_at hl 0 rfl) ?_
                refine lv_if_eq (tgt := 206) hx hb dL_weeks_192 (by decide) (fun z9 => absurd z9 (by decide)) (fun _ => ?_)
                refine lv_aload_n hx hb dL_weeks_195 rfl (lv_at hl 1 rfl) ?_
                refine pw_call (rest := []) (pw_endWeek_t hst J9.wf J9.zo (cl_ok J9 (by omega) hw39).1) ⟨hx, hb, hml, hown, hts⟩ (vx_cwSW 1 hts gL_weeks_L_endWeek rfl rfl rfl (by decide +kernel) ⟨Nat.le_of_ble_eq_true rfl, Nat.le_of_ble_eq_true rfl⟩) hK hG hS hE.1 rfl hl.1 rfl (Nat.le_of_ble_eq_true rfl) dL_weeks_196 ⟨by show _ + 1 ≤ 200; omega, by show _ + 6 ≤ 1200; omega⟩ (fun H locs hG hS => ?_)
                refine fz_top (show _ = (fz_close (fz_its V nt nc nl wk n) nt nc nl (wk + n)).1 from rfl) ?_
                refine lv_if_lt (tgt := 206) hx hb dL_weeks_199 (by decide) (fun z9 => absurd z9 (Int32.not_lt.mpr (cl_ok J9 (by omega) hw39).2)) (fun _ => ?_)
                refine lv_iconst (v := 1) hx hb dL_weeks_202 (by decide) ?_
                refine lv_goto (tgt := 207) hx hb dL_weeks_203 (by decide) ?_
                refine lv_istore (lv' := [(8, .int 1), (0, .ref (f 0)), (1, .int (nI ti)), (3, .int (nI my)), (4, .int (nI wk)), (5, .int (nI u0)), (6, .int (nI ri * V 1 0)), (7, .int (fz_sum ((fz_its V nt nc nl wk my) 4) nt + fz_sum ((fz_its V nt nc nl wk my) 12) nc)), (9, .int (nI n))]) hx hb dL_weeks_207 hl (by decide) rfl (fun ls hl => ?_)
                refine W.widen (k := (40 + 20 * n) + 4) (n := (240 + 120 * n) + 24) (by omega) (by omega) ?_
                have hG : pG D A (pS cy f a t h x ad (hs_n cm) (fz_its V nt nc nl wk (n + 1)) L) H := hG
                refine lv_iinc (v := nI (n + 1)) (lv' := [(9, .int (nI (n + 1))), (8, .int 1), (0, .ref (f 0)), (1, .int (nI ti)), (3, .int (nI my)), (4, .int (nI wk)), (5, .int (nI u0)), (6, .int (nI ri * V 1 0)), (7, .int (fz_sum ((fz_its V nt nc nl wk my) 4) nt + fz_sum ((fz_its V nt nc nl wk my) 12) nc))]) hx hb dL_weeks_209 hl (k := 8) rfl (nI_add _ 1) (by decide) rfl (fun ls hl => ?_)
                refine lv_goto (tgt := 99) hx hb dL_weeks_212 (by decide) ?_
                have hl : lv_has ls 10 [(9, .int (nI (n + 1))), (8, .int 1), (0, .ref (f 0)), (1, .int (nI ti)), (3, .int (nI my)), (4, .int (nI wk)), (5, .int (nI u0)), (6, .int (nI ri * V 1 0)), (7, .int (fz_sum ((fz_its V nt nc nl wk my) 4) nt + fz_sum ((fz_its V nt nc nl wk my) 12) nc))] := hl
                refine W.widen (k := 40 + 20 * (n + 1)) (n := 240 + 120 * (n + 1)) (by omega) (by omega) ?_
                exact ih99 (n + 1, hs_n cm) (show ((n + 1) ≤ my) ∧ (wk + (n + 1) ≤ 39) from ⟨hnm, (by omega)⟩) (by show my - (n + 1) < my - n; omega) _ _ ls hG hS (lv_sub hl [2, 3, 4, 5, 6, 7, 8, 1, 0] rfl)
              · skip
                refine lv_iload hx hb dL_weeks_144 (lv_at hl 4 rfl) ?_
                refine lv_iload hx hb dL_weeks_146 (lv_at hl 8 rfl) ?_
                refine lv_icmp_eq (tgt := 163) hx hb dL_weeks_148 (by decide) (fun z9 => absurd z9 (fun z => absurd ((nI_eq (by omega) (by omega)).mp z) (by omega))) (fun _ => ?_)
                refine lv_iload hx hb dL_weeks_151 (lv_at hl 4 rfl) ?_
                refine lv_if_lt (tgt := 163) hx hb dL_weeks_153 (by decide) (fun z9 => absurd z9 (nI_pos (n := u0) (by omega))) (fun _ => ?_)
                refine lv_iload hx hb dL_weeks_156 (lv_at hl 4 rfl) ?_
                refine lv_iload hx hb dL_weeks_158 (lv_at hl 8 rfl) ?_
                refine lv_icmp_le (tgt := 167) hx hb dL_weeks_160 (by decide) (fun _ => ?_) (fun z9 => absurd ((nI_leI (by omega) (by omega)).mpr (by omega)) z9)
                refine lv_iconst (v := 0) hx hb dL_weeks_167 (by decide) ?_
                refine lv_icmp_eq (tgt := 183) hx hb dL_weeks_168 (by decide) (fun _ => ?_) (fun z9 => absurd (by decide) z9)
                refine lv_iconst (v := 1) hx hb dL_weeks_183 (by decide) ?_
                refine lv_goto (tgt := 188) hx hb dL_weeks_184 (by decide) ?_
                refine lv_istore (lv' := [(8, .int 1), (0, .ref (f 0)), (1, .int (nI ti)), (3, .int (nI my)), (4, .int (nI wk)), (5, .int (nI u0)), (6, .int (nI ri * V 1 0)), (7, .int (fz_sum ((fz_its V nt nc nl wk my) 4) nt + fz_sum ((fz_its V nt nc nl wk my) 12) nc)), (9, .int (nI n))]) hx hb dL_weeks_188 hl (by decide) rfl (fun ls hl => ?_)
                refine W.widen (k := (40 + 20 * n) + 3) (n := (240 + 120 * n) + 18) (by omega) (by omega) ?_
                refine lv_iload hx hb dL_weeks_190 (lv_at hl 0 rfl) ?_
                refine lv_if_eq (tgt := 206) hx hb dL_weeks_192 (by decide) (fun z9 => absurd z9 (by decide)) (fun _ => ?_)
                refine lv_aload_n hx hb dL_weeks_195 rfl (lv_at hl 1 rfl) ?_
                refine pw_call (rest := []) (pw_endWeek_t hst J9.wf J9.zo (cl_ok J9 (by omega) hw39).1) ⟨hx, hb, hml, hown, hts⟩ (vx_cwSW 1 hts gL_weeks_L_endWeek rfl rfl rfl (by decide +kernel) ⟨Nat.le_of_ble_eq_true rfl, Nat.le_of_ble_eq_true rfl⟩) hK hG hS hE.1 rfl hl.1 rfl (Nat.le_of_ble_eq_true rfl) dL_weeks_196 ⟨by show _ + 1 ≤ 200; omega, by show _ + 6 ≤ 1200; omega⟩ (fun H locs hG hS => ?_)
                refine fz_top (show _ = (fz_close (fz_its V nt nc nl wk n) nt nc nl (wk + n)).1 from rfl) ?_
                refine lv_if_lt (tgt := 206) hx hb dL_weeks_199 (by decide) (fun z9 => absurd z9 (Int32.not_lt.mpr (cl_ok J9 (by omega) hw39).2)) (fun _ => ?_)
                refine lv_iconst (v := 1) hx hb dL_weeks_202 (by decide) ?_
                refine lv_goto (tgt := 207) hx hb dL_weeks_203 (by decide) ?_
                refine lv_istore (lv' := [(8, .int 1), (0, .ref (f 0)), (1, .int (nI ti)), (3, .int (nI my)), (4, .int (nI wk)), (5, .int (nI u0)), (6, .int (nI ri * V 1 0)), (7, .int (fz_sum ((fz_its V nt nc nl wk my) 4) nt + fz_sum ((fz_its V nt nc nl wk my) 12) nc)), (9, .int (nI n))]) hx hb dL_weeks_207 hl (by decide) rfl (fun ls hl => ?_)
                refine W.widen (k := (40 + 20 * n) + 4) (n := (240 + 120 * n) + 24) (by omega) (by omega) ?_
                have hG : pG D A (pS cy f a t h x ad (hs_n cm) (fz_its V nt nc nl wk (n + 1)) L) H := hG
                refine lv_iinc (v := nI (n + 1)) (lv' := [(9, .int (nI (n + 1))), (8, .int 1), (0, .ref (f 0)), (1, .int (nI ti)), (3, .int (nI my)), (4, .int (nI wk)), (5, .int (nI u0)), (6, .int (nI ri * V 1 0)), (7, .int (fz_sum ((fz_its V nt nc nl wk my) 4) nt + fz_sum ((fz_its V nt nc nl wk my) 12) nc))]) hx hb dL_weeks_209 hl (k := 8) rfl (nI_add _ 1) (by decide) rfl (fun ls hl => ?_)
                refine lv_goto (tgt := 99) hx hb dL_weeks_212 (by decide) ?_
                have hl : lv_has ls 10 [(9, .int (nI (n + 1))), (8, .int 1), (0, .ref (f 0)), (1, .int (nI ti)), (3, .int (nI my)), (4, .int (nI wk)), (5, .int (nI u0)), (6, .int (nI ri * V 1 0)), (7, .int (fz_sum ((fz_its V nt nc nl wk my) 4) nt + fz_sum ((fz_its V nt nc nl wk my) 12) nc))] := hl
                refine W.widen (k := 40 + 20 * (n + 1)) (n := 240 + 120 * (n + 1)) (by omega) (by omega) ?_
                exact ih99 (n + 1, hs_n cm) (show ((n + 1) ≤ my) ∧ (wk + (n + 1) ≤ 39) from ⟨hnm, (by omega)⟩) (by show my - (n + 1) < my - n; omega) _ _ ls hG hS (lv_sub hl [2, 3, 4, 5, 6, 7, 8, 1, 0] rfl)
      · skip
        refine lv_aload_n hx hb dL_weeks_25 rfl (lv_at hl 3 rfl) ?_
        refine lv_iload_n hx hb dL_weeks_26 rfl (lv_at hl 6 rfl) ?_
        refine pw_call (rest := []) (pt_being hst J my (by omega)) ⟨hx, hb, hml, hown, hts⟩ (vx_cwSW 2 hts gL_weeks_L_inBeing rfl rfl rfl (by decide +kernel) ⟨Nat.le_of_ble_eq_true rfl, Nat.le_of_ble_eq_true rfl⟩) hK hG hS hE.1 rfl hl.1 rfl (Nat.le_of_ble_eq_true rfl) dL_weeks_27 ⟨by show _ + 1 ≤ 200; omega, by show _ + 6 ≤ 1200; omega⟩ (fun H locs hG hS => ?_)
        refine fz_top (show _ = (-1) from if_neg hm) ?_
        refine lv_istore (lv' := [(7, .int (-1)), (6, .int ((nI ri) * (V 1 0))), (5, .int (nI u0)), (4, .int (nI wk)), (0, .ref (f 0)), (1, .int (nI ti)), (2, .int (nI ri)), (3, .int (nI my))]) hx hb dL_weeks_30 hl (by decide) rfl (fun ls hl => ?_)
        refine W.widen (k := 5) (n := 30) (by omega) (by omega) ?_
        refine lv_iload hx hb dL_weeks_32 (lv_at hl 2 rfl) ?_
        refine lv_if_ne (tgt := 41) hx hb dL_weeks_34 (by decide) (fun _ => ?_) (fun z9 => absurd z9 (fun z => hu0 ((nI_eq (a := u0) (b := 0) (by omega) (by decide)).mp z)))
        refine lv_iconst (v := 0) hx hb dL_weeks_41 (by decide) ?_
        refine lv_aload_n hx hb dL_weeks_42 rfl (lv_at hl 4 rfl) ?_
        refine lv_iload_n hx hb dL_weeks_43 rfl (lv_at hl 5 rfl) ?_
        refine lv_iconst (v := 0) hx hb dL_weeks_44 (by decide) ?_
        refine pw_call (rest := [.int 0]) (pt_team hst J ti 0 ht (by decide)) ⟨hx, hb, hml, hown, hts⟩ (vx_cwSW 3 hts gL_weeks_L_team rfl rfl rfl (by decide +kernel) ⟨Nat.le_of_ble_eq_true rfl, Nat.le_of_ble_eq_true rfl⟩) hK hG hS hE.1 rfl hl.1 rfl (Nat.le_of_ble_eq_true rfl) dL_weeks_45 ⟨by show _ + 2 ≤ 200; omega, by show _ + 12 ≤ 1200; omega⟩ (fun H locs hG hS => ?_)
        refine fz_top (show _ = V 4 ti from rfl) ?_
        refine lv_iload hx hb dL_weeks_48 (lv_at hl 1 rfl) ?_
        refine lv_icmp_lt (tgt := 57) hx hb dL_weeks_50 (by decide) (fun _ => ?_) (fun z9 => absurd (Int32.not_le.mp (hlt 0 (by omega) (by omega))) z9)
        refine lv_iconst (v := 0) hx hb dL_weeks_57 (by decide) ?_
        refine lv_icmp_ne (tgt := 93) hx hb dL_weeks_58 (by decide) (fun z9 => absurd z9 (by decide)) (fun _ => ?_)
        refine lv_iload hx hb dL_weeks_61 (lv_at hl 3 rfl) ?_
        refine lv_iload_n hx hb dL_weeks_63 rfl (lv_at hl 7 rfl) ?_
        refine lv_iadd hx hb dL_weeks_64 ?_
        refine lv_bipush (v := 39) hx hb dL_weeks_65 (by decide) ?_
        refine lv_icmp_le (tgt := 74) hx hb dL_weeks_67 (by decide) (fun z9 => absurd z9 (by rw [nI_add]; exact fun z => hm ((nI_leI (b := 39) (by omega) (by omega)).mp z))) (fun _ => ?_)
        refine lv_iconst (v := 1) hx hb dL_weeks_70 (by decide) ?_
        refine lv_goto (tgt := 75) hx hb dL_weeks_71 (by decide) ?_
        refine lv_iload hx hb dL_weeks_75 (lv_at hl 0 rfl) ?_
        refine lv_iconst (v := (-1)) hx hb dL_weeks_77 (by decide) ?_
        refine lv_icmp_ne (tgt := 85) hx hb dL_weeks_78 (by decide) (fun z9 => absurd z9 (by decide)) (fun _ => ?_)
        refine lv_iconst (v := 1) hx hb dL_weeks_81 (by decide) ?_
        refine lv_goto (tgt := 86) hx hb dL_weeks_82 (by decide) ?_
        refine lv_icmp_ne (tgt := 93) hx hb dL_weeks_86 (by decide) (fun z9 => absurd z9 (by decide)) (fun _ => ?_)
        refine lv_iconst (v := 1) hx hb dL_weeks_89 (by decide) ?_
        refine lv_goto (tgt := 94) hx hb dL_weeks_90 (by decide) ?_
        refine lv_istore (lv' := [(8, .int 1), (7, .int (-1)), (6, .int ((nI ri) * (V 1 0))), (5, .int (nI u0)), (4, .int (nI wk)), (0, .ref (f 0)), (1, .int (nI ti)), (2, .int (nI ri)), (3, .int (nI my))]) hx hb dL_weeks_94 hl (by decide) rfl (fun ls hl => ?_)
        refine W.widen (k := 7) (n := 42) (by omega) (by omega) ?_
        refine lv_iconst (v := 0) hx hb dL_weeks_96 (by decide) ?_
        refine lv_istore (lv' := [(9, .int 0), (8, .int 1), (7, .int (-1)), (6, .int ((nI ri) * (V 1 0))), (5, .int (nI u0)), (4, .int (nI wk)), (0, .ref (f 0)), (1, .int (nI ti)), (2, .int (nI ri)), (3, .int (nI my))]) hx hb dL_weeks_97 hl (by decide) rfl (fun ls hl => ?_)
        have hl : lv_has ls 10 [(9, .int (nI 0)), (8, .int 1), (7, .int (-1)), (6, .int (nI ri * V 1 0)), (5, .int (nI u0)), (4, .int (nI wk)), (0, .ref (f 0)), (1, .int (nI ti)), (2, .int (nI ri)), (3, .int (nI my))] := hl
        refine W.widen (k := 40 + 20 * 0) (n := 240 + 120 * 0) (by omega) (by omega) ?_
        refine pw_loop (σ := Nat × Nat) (pc := 99) (nL := 10) (rest := []) (fun x9 => match x9 with | (n, cm) => [(0, .ref (f 0)), (1, .int (nI ti)), (3, .int (nI my)), (4, .int (nI wk)), (5, .int (nI u0)), (6, .int (nI ri * V 1 0)), (7, .int (-1)), (8, .int 1), (9, .int (nI n))]) (fun x9 => match x9 with | (n, cm) => pS cy f a t h x ad cm (fz_its V nt nc nl wk n) L) (fun x9 => match x9 with | (n, cm) => (n ≤ my) ∧ (wk + n ≤ 39)) (fun x9 => match x9 with | (n, cm) => my - n) (fun x9 => match x9 with | (n, cm) => 40 + 20 * n) (fun x9 => match x9 with | (n, cm) => 240 + 120 * n) ?_ (0, cn) (show (0 ≤ my) ∧ (wk + 0 ≤ 39) from ⟨(Nat.zero_le _), (by omega)⟩) _ _ ls hG hS (lv_sub hl [6, 7, 9, 5, 4, 3, 2, 1, 0] rfl)
        rintro ⟨n, cm⟩ ⟨hn, hwn⟩ ih99 H locs ls hG hS hl
        have hn : n ≤ my := hn
        have hwn : wk + n ≤ 39 := hwn
        have hG : pG D A (pS cy f a t h x ad cm (fz_its V nt nc nl wk n) L) H := hG
        have hl : lv_has ls 10 [(0, .ref (f 0)), (1, .int (nI ti)), (3, .int (nI my)), (4, .int (nI wk)), (5, .int (nI u0)), (6, .int (nI ri * V 1 0)), (7, .int (-1)), (8, .int 1), (9, .int (nI n))] := hl
        show W _ _ _ _ _ _ _ _ _ _ _ _ (40 + 20 * n) (240 + 120 * n) _ _
        have J9 := its_J J (by omega) n hwn
        refine lv_iload hx hb dL_weeks_99 (lv_at hl 8 rfl) ?_
        refine lv_iload_n hx hb dL_weeks_101 rfl (lv_at hl 2 rfl) ?_
        refine lv_icmp_ge (tgt := 215) hx hb dL_weeks_102 (by decide) (fun c9 => ?_) (fun c9 => ?_)
        · skip
          have e9 : n = my := by have := (nI_leI (by omega) (by omega)).mp c9; omega
          exact absurd (by omega : wk + my ≤ 39) hm
        · skip
          have hnm : n < my := Nat.lt_of_not_le fun z => c9 ((nI_leI (by omega) (by omega)).mpr z)
          refine lv_aload_n hx hb dL_weeks_105 rfl (lv_at hl 0 rfl) ?_
          refine lv_bipush (v := 8) hx hb dL_weeks_106 (by decide) ?_
          refine pw_call (rest := []) (pt_whole hst J9 8 (by decide)) ⟨hx, hb, hml, hown, hts⟩ (vx_cwSW 2 hts gL_weeks_L_whole rfl rfl rfl (by decide +kernel) ⟨Nat.le_of_ble_eq_true rfl, Nat.le_of_ble_eq_true rfl⟩) hK hG hS hE.1 rfl hl.1 rfl (Nat.le_of_ble_eq_true rfl) dL_weeks_108 ⟨by show _ + 1 ≤ 200; omega, by show _ + 6 ≤ 1200; omega⟩ (fun H locs hG hS => ?_)
          refine fz_top (show _ = nI (wk + n) from J9.e0) ?_
          refine lv_bipush (v := 39) hx hb dL_weeks_111 (by decide) ?_
          refine lv_icmp_ge (tgt := 215) hx hb dL_weeks_113 (by decide) (fun c8 => ?_) (fun c8 => ?_)
          · skip
            have e8 : wk + n = 39 := by have := (nI_leI (a := 39) (by omega) (by omega)).mp c8; omega
            refine lv_iload hx hb dL_weeks_215 (lv_at hl 7 rfl) ?_
            refine lv_if_eq (tgt := 285) hx hb dL_weeks_217 (by decide) (fun z9 => absurd z9 (by decide)) (fun _ => ?_)
            refine lv_aload_n hx hb dL_weeks_220 rfl (lv_at hl 0 rfl) ?_
            refine lv_bipush (v := 8) hx hb dL_weeks_221 (by decide) ?_
            refine pw_call (rest := []) (pt_whole hst J9 8 (by decide)) ⟨hx, hb, hml, hown, hts⟩ (vx_cwSW 2 hts gL_weeks_L_whole rfl rfl rfl (by decide +kernel) ⟨Nat.le_of_ble_eq_true rfl, Nat.le_of_ble_eq_true rfl⟩) hK hG hS hE.1 rfl hl.1 rfl (Nat.le_of_ble_eq_true rfl) dL_weeks_223 ⟨by show _ + 1 ≤ 200; omega, by show _ + 6 ≤ 1200; omega⟩ (fun H locs hG hS => ?_)
            refine fz_top (show _ = nI (wk + n) from J9.e0) ?_
            refine lv_iload hx hb dL_weeks_226 (lv_at hl 3 rfl) ?_
            refine lv_iload hx hb dL_weeks_228 (lv_at hl 8 rfl) ?_
            refine lv_iadd hx hb dL_weeks_230 ?_
            refine lv_icmp_ne (tgt := 285) hx hb dL_weeks_231 (by decide) (fun z9 => absurd z9 (not_not_p (nI_add wk n).symm)) (fun _ => ?_)
            refine lv_iload hx hb dL_weeks_234 (lv_at hl 8 rfl) ?_
            refine lv_iload_n hx hb dL_weeks_236 rfl (lv_at hl 2 rfl) ?_
            refine lv_icmp_lt (tgt := 258) hx hb dL_weeks_237 (by decide) (fun _ => ?_) (fun z9 => absurd (nI_lt hnm (by omega)) z9)
            refine lv_iload hx hb dL_weeks_258 (lv_at hl 4 rfl) ?_
            refine lv_if_lt (tgt := 281) hx hb dL_weeks_260 (by decide) (fun z9 => absurd z9 (nI_pos (n := u0) (by omega))) (fun _ => ?_)
            refine lv_iload hx hb dL_weeks_263 (lv_at hl 4 rfl) ?_
            refine lv_iload hx hb dL_weeks_265 (lv_at hl 8 rfl) ?_
            refine lv_icmp_ne (tgt := 281) hx hb dL_weeks_267 (by decide) (fun c3 => ?_) (fun c3 => ?_)
            · skip
              refine lv_iconst (v := 1) hx hb dL_weeks_281 (by decide) ?_
              refine lv_goto (tgt := 286) hx hb dL_weeks_282 (by decide) ?_
              refine lv_istore (lv' := [(8, .int 1), (0, .ref (f 0)), (1, .int (nI ti)), (3, .int (nI my)), (4, .int (nI wk)), (5, .int (nI u0)), (6, .int (nI ri * V 1 0)), (7, .int (-1)), (9, .int (nI n))]) hx hb dL_weeks_286 hl (by decide) rfl (fun ls hl => ?_)
              refine W.widen (k := (40 + 20 * n) + 2) (n := (240 + 120 * n) + 12) (by omega) (by omega) ?_
              refine lv_iload hx hb dL_weeks_288 (lv_at hl 0 rfl) ?_
              refine lv_if_eq (tgt := 317) hx hb dL_weeks_290 (by decide) (fun z9 => absurd z9 (by decide)) (fun _ => ?_)
              refine lv_aload_n hx hb dL_weeks_293 rfl (lv_at hl 1 rfl) ?_
              refine lv_bipush (v := 8) hx hb dL_weeks_294 (by decide) ?_
              refine pw_call (rest := []) (pt_whole hst J9 8 (by decide)) ⟨hx, hb, hml, hown, hts⟩ (vx_cwSW 2 hts gL_weeks_L_whole rfl rfl rfl (by decide +kernel) ⟨Nat.le_of_ble_eq_true rfl, Nat.le_of_ble_eq_true rfl⟩) hK hG hS hE.1 rfl hl.1 rfl (Nat.le_of_ble_eq_true rfl) dL_weeks_296 ⟨by show _ + 1 ≤ 200; omega, by show _ + 6 ≤ 1200; omega⟩ (fun H locs hG hS => ?_)
              refine fz_top (show _ = nI (wk + n) from J9.e0) ?_
              refine lv_bipush (v := 39) hx hb dL_weeks_299 (by decide) ?_
              refine lv_icmp_lt (tgt := 313) hx hb dL_weeks_301 (by decide) (fun c2 => ?_) (fun c2 => ?_)
              · skip
                refine lv_iconst (v := 1) hx hb dL_weeks_313 (by decide) ?_
                refine lv_goto (tgt := 318) hx hb dL_weeks_314 (by decide) ?_
                refine W.widen (k := 200) (n := 1200) (by omega) (by omega) ?_
                obtain ⟨Wn, h9, hP, hD⟩ := hG
                exact W.zret (v := 1) hx hb hr (by decide) (fun t9 ht9 hW9 => ⟨⟨_, Wn, rfl, ⟨⟨rfl, cm, wk + n, fz_its V nt nc nl wk n, J9.mono (by omega), h9⟩, hD⟩, fz_to ht9 hP⟩, hS.F ht9⟩) hS.2.2 dL_weeks_318
              · skip
                refine lv_aload_n hx hb dL_weeks_304 rfl (lv_at hl 1 rfl) ?_
                refine pw_call (rest := []) (pw_endWeek_IS hst J9.wf J9.zo (cl_no (V := (fz_its V nt nc nl wk n)) (fun z => c2 (nI_lt (b := 39) z (by omega))))) ⟨hx, hb, hml, hown, hts⟩ (vx_cwSW 1 hts gL_weeks_L_endWeek rfl rfl rfl (by decide +kernel) ⟨Nat.le_of_ble_eq_true rfl, Nat.le_of_ble_eq_true rfl⟩) hK hG hS hE.1 rfl hl.1 rfl (Nat.le_of_ble_eq_true rfl) dL_weeks_305 ⟨by show _ + 1 ≤ 200; omega, by show _ + 6 ≤ 1200; omega⟩ (fun H locs hG hS => ?_)
                refine lv_bipush (v := (-11)) hx hb dL_weeks_308 (by decide) ?_
                refine lv_icmp_ne (tgt := 317) hx hb dL_weeks_310 (by decide) (fun z9 => absurd z9 (by decide)) (fun _ => ?_)
                refine lv_iconst (v := 1) hx hb dL_weeks_313 (by decide) ?_
                refine lv_goto (tgt := 318) hx hb dL_weeks_314 (by decide) ?_
                refine W.widen (k := 200) (n := 1200) (by omega) (by omega) ?_
                obtain ⟨Wn, h9, hP, hD⟩ := hG
                exact W.zret (v := 1) hx hb hr (by decide) (fun t9 ht9 hW9 => ⟨⟨_, Wn, rfl, ⟨⟨rfl, cm, wk + n, fz_its V nt nc nl wk n, J9.mono (by omega), h9⟩, hD⟩, fz_to ht9 hP⟩, hS.F ht9⟩) hS.2.2 dL_weeks_318
            · skip
              have e6 : u0 = n := (nI_eq (by omega) (by omega)).mp c3
              refine lv_aload_n hx hb dL_weeks_270 rfl (lv_at hl 0 rfl) ?_
              refine lv_iload_n hx hb dL_weeks_271 rfl (lv_at hl 1 rfl) ?_
              refine lv_iconst (v := 0) hx hb dL_weeks_272 (by decide) ?_
              refine pw_call (rest := []) (pt_team hst J9 ti 0 ht (by decide)) ⟨hx, hb, hml, hown, hts⟩ (vx_cwSW 3 hts gL_weeks_L_team rfl rfl rfl (by decide +kernel) ⟨Nat.le_of_ble_eq_true rfl, Nat.le_of_ble_eq_true rfl⟩) hK hG hS hE.1 rfl hl.1 rfl (Nat.le_of_ble_eq_true rfl) dL_weeks_273 ⟨by show _ + 2 ≤ 200; omega, by show _ + 12 ≤ 1200; omega⟩ (fun H locs hG hS => ?_)
              refine fz_top (show _ = (fz_its V nt nc nl wk n) 4 ti from rfl) ?_
              refine lv_iload hx hb dL_weeks_276 (lv_at hl 5 rfl) ?_
              refine lv_icmp_lt (tgt := 285) hx hb dL_weeks_278 (by decide) (fun z9 => absurd z9 (Int32.not_lt.mpr (by rw [← e6]; exact hge))) (fun _ => ?_)
              refine lv_iconst (v := 1) hx hb dL_weeks_281 (by decide) ?_
              refine lv_goto (tgt := 286) hx hb dL_weeks_282 (by decide) ?_
              refine lv_istore (lv' := [(8, .int 1), (0, .ref (f 0)), (1, .int (nI ti)), (3, .int (nI my)), (4, .int (nI wk)), (5, .int (nI u0)), (6, .int (nI ri * V 1 0)), (7, .int (-1)), (9, .int (nI n))]) hx hb dL_weeks_286 hl (by decide) rfl (fun ls hl => ?_)
              refine W.widen (k := (40 + 20 * n) + 4) (n := (240 + 120 * n) + 24) (by omega) (by omega) ?_
              refine lv_iload hx hb dL_weeks_288 (lv_at hl 0 rfl) ?_
              refine lv_if_eq (tgt := 317) hx hb dL_weeks_290 (by decide) (fun z9 => absurd z9 (by decide)) (fun _ => ?_)
              refine lv_aload_n hx hb dL_weeks_293 rfl (lv_at hl 1 rfl) ?_
              refine lv_bipush (v := 8) hx hb dL_weeks_294 (by decide) ?_
              refine pw_call (rest := []) (pt_whole hst J9 8 (by decide)) ⟨hx, hb, hml, hown, hts⟩ (vx_cwSW 2 hts gL_weeks_L_whole rfl rfl rfl (by decide +kernel) ⟨Nat.le_of_ble_eq_true rfl, Nat.le_of_ble_eq_true rfl⟩) hK hG hS hE.1 rfl hl.1 rfl (Nat.le_of_ble_eq_true rfl) dL_weeks_296 ⟨by show _ + 1 ≤ 200; omega, by show _ + 6 ≤ 1200; omega⟩ (fun H locs hG hS => ?_)
              refine fz_top (show _ = nI (wk + n) from J9.e0) ?_
              refine lv_bipush (v := 39) hx hb dL_weeks_299 (by decide) ?_
              refine lv_icmp_lt (tgt := 313) hx hb dL_weeks_301 (by decide) (fun c2 => ?_) (fun c2 => ?_)
              · skip
                refine lv_iconst (v := 1) hx hb dL_weeks_313 (by decide) ?_
                refine lv_goto (tgt := 318) hx hb dL_weeks_314 (by decide) ?_
                refine W.widen (k := 200) (n := 1200) (by omega) (by omega) ?_
                obtain ⟨Wn, h9, hP, hD⟩ := hG
                exact W.zret (v := 1) hx hb hr (by decide) (fun t9 ht9 hW9 => ⟨⟨_, Wn, rfl, ⟨⟨rfl, cm, wk + n, fz_its V nt nc nl wk n, J9.mono (by omega), h9⟩, hD⟩, fz_to ht9 hP⟩, hS.F ht9⟩) hS.2.2 dL_weeks_318
              · skip
                refine lv_aload_n hx hb dL_weeks_304 rfl (lv_at hl 1 rfl) ?_
                refine pw_call (rest := []) (pw_endWeek_IS hst J9.wf J9.zo (cl_no (V := (fz_its V nt nc nl wk n)) (fun z => c2 (nI_lt (b := 39) z (by omega))))) ⟨hx, hb, hml, hown, hts⟩ (vx_cwSW 1 hts gL_weeks_L_endWeek rfl rfl rfl (by decide +kernel) ⟨Nat.le_of_ble_eq_true rfl, Nat.le_of_ble_eq_true rfl⟩) hK hG hS hE.1 rfl hl.1 rfl (Nat.le_of_ble_eq_true rfl) dL_weeks_305 ⟨by show _ + 1 ≤ 200; omega, by show _ + 6 ≤ 1200; omega⟩ (fun H locs hG hS => ?_)
                refine lv_bipush (v := (-11)) hx hb dL_weeks_308 (by decide) ?_
                refine lv_icmp_ne (tgt := 317) hx hb dL_weeks_310 (by decide) (fun z9 => absurd z9 (by decide)) (fun _ => ?_)
                refine lv_iconst (v := 1) hx hb dL_weeks_313 (by decide) ?_
                refine lv_goto (tgt := 318) hx hb dL_weeks_314 (by decide) ?_
                refine W.widen (k := 200) (n := 1200) (by omega) (by omega) ?_
                obtain ⟨Wn, h9, hP, hD⟩ := hG
                exact W.zret (v := 1) hx hb hr (by decide) (fun t9 ht9 hW9 => ⟨⟨_, Wn, rfl, ⟨⟨rfl, cm, wk + n, fz_its V nt nc nl wk n, J9.mono (by omega), h9⟩, hD⟩, fz_to ht9 hP⟩, hS.F ht9⟩) hS.2.2 dL_weeks_318
          · skip
            have hw39 : wk + n < 39 := Nat.lt_of_not_le fun z => c8 ((nI_leI (a := 39) (by omega) (by omega)).mpr z)
            refine lv_iload hx hb dL_weeks_116 (lv_at hl 7 rfl) ?_
            refine lv_if_eq (tgt := 215) hx hb dL_weeks_118 (by decide) (fun z9 => absurd z9 (by decide)) (fun _ => ?_)
            rcases Nat.lt_trichotomy n u0 with e6 | e6 | e6
            · skip
              refine lv_iload hx hb dL_weeks_121 (lv_at hl 8 rfl) ?_
              refine lv_iload hx hb dL_weeks_123 (lv_at hl 4 rfl) ?_
              refine lv_icmp_ne (tgt := 132) hx hb dL_weeks_125 (by decide) (fun _ => ?_) (fun z9 => absurd z9 (fun z => absurd ((nI_eq (by omega) (by omega)).mp z) (by omega)))
              refine lv_iconst (v := 0) hx hb dL_weeks_132 (by decide) ?_
              refine lv_aload_n hx hb dL_weeks_133 rfl (lv_at hl 0 rfl) ?_
              refine lv_iload_n hx hb dL_weeks_134 rfl (lv_at hl 1 rfl) ?_
              refine lv_iconst (v := 0) hx hb dL_weeks_135 (by decide) ?_
              refine pw_call (rest := [.int 0]) (pt_team hst J9 ti 0 ht (by decide)) ⟨hx, hb, hml, hown, hts⟩ (vx_cwSW 3 hts gL_weeks_L_team rfl rfl rfl (by decide +kernel) ⟨Nat.le_of_ble_eq_true rfl, Nat.le_of_ble_eq_true rfl⟩) hK hG hS hE.1 rfl hl.1 rfl (Nat.le_of_ble_eq_true rfl) dL_weeks_136 ⟨by show _ + 2 ≤ 200; omega, by show _ + 12 ≤ 1200; omega⟩ (fun H locs hG hS => ?_)
              refine fz_top (show _ = (fz_its V nt nc nl wk n) 4 ti from rfl) ?_
              refine lv_iload hx hb dL_weeks_139 (lv_at hl 5 rfl) ?_
              refine lv_icmp_lt (tgt := 167) hx hb dL_weeks_141 (by decide) (fun _ => ?_) (fun z9 => absurd (Int32.not_le.mp (hlt n (by omega) (by omega))) z9)
              refine lv_iconst (v := 0) hx hb dL_weeks_167 (by decide) ?_
              refine lv_icmp_eq (tgt := 183) hx hb dL_weeks_168 (by decide) (fun _ => ?_) (fun z9 => absurd (by decide) z9)
              refine lv_iconst (v := 1) hx hb dL_weeks_183 (by decide) ?_
              refine lv_goto (tgt := 188) hx hb dL_weeks_184 (by decide) ?_
              refine lv_istore (lv' := [(8, .int 1), (0, .ref (f 0)), (1, .int (nI ti)), (3, .int (nI my)), (4, .int (nI wk)), (5, .int (nI u0)), (6, .int (nI ri * V 1 0)), (7, .int (-1)), (9, .int (nI n))]) hx hb dL_weeks_188 hl (by decide) rfl (fun ls hl => ?_)
              refine W.widen (k := (40 + 20 * n) + 3) (n := (240 + 120 * n) + 18) (by omega) (by omega) ?_
              refine lv_iload hx hb dL_weeks_190 (lv_at hl 0 rfl) ?_
              refine lv_if_eq (tgt := 206) hx hb dL_weeks_192 (by decide) (fun z9 => absurd z9 (by decide)) (fun _ => ?_)
              refine lv_aload_n hx hb dL_weeks_195 rfl (lv_at hl 1 rfl) ?_
              refine pw_call (rest := []) (pw_endWeek_t hst J9.wf J9.zo (cl_ok J9 (by omega) hw39).1) ⟨hx, hb, hml, hown, hts⟩ (vx_cwSW 1 hts gL_weeks_L_endWeek rfl rfl rfl (by decide +kernel) ⟨Nat.le_of_ble_eq_true rfl, Nat.le_of_ble_eq_true rfl⟩) hK hG hS hE.1 rfl hl.1 rfl (Nat.le_of_ble_eq_true rfl) dL_weeks_196 ⟨by show _ + 1 ≤ 200; omega, by show _ + 6 ≤ 1200; omega⟩ (fun H locs hG hS => ?_)
              refine fz_top (show _ = (fz_close (fz_its V nt nc nl wk n) nt nc nl (wk + n)).1 from rfl) ?_
              refine lv_if_lt (tgt := 206) hx hb dL_weeks_199 (by decide) (fun z9 => absurd z9 (Int32.not_lt.mpr (cl_ok J9 (by omega) hw39).2)) (fun _ => ?_)
              refine lv_iconst (v := 1) hx hb dL_weeks_202 (by decide) ?_
              refine lv_goto (tgt := 207) hx hb dL_weeks_203 (by decide) ?_
              refine lv_istore (lv' := [(8, .int 1), (0, .ref (f 0)), (1, .int (nI ti)), (3, .int (nI my)), (4, .int (nI wk)), (5, .int (nI u0)), (6, .int (nI ri * V 1 0)), (7, .int (-1)), (9, .int (nI n))]) hx hb dL_weeks_207 hl (by decide) rfl (fun ls hl => ?_)
              refine W.widen (k := (40 + 20 * n) + 4) (n := (240 + 120 * n) + 24) (by omega) (by omega) ?_
              have hG : pG D A (pS cy f a t h x ad (hs_n cm) (fz_its V nt nc nl wk (n + 1)) L) H := hG
              refine lv_iinc (v := nI (n + 1)) (lv' := [(9, .int (nI (n + 1))), (8, .int 1), (0, .ref (f 0)), (1, .int (nI ti)), (3, .int (nI my)), (4, .int (nI wk)), (5, .int (nI u0)), (6, .int (nI ri * V 1 0)), (7, .int (-1))]) hx hb dL_weeks_209 hl (k := 8) rfl (nI_add _ 1) (by decide) rfl (fun ls hl => ?_)
              refine lv_goto (tgt := 99) hx hb dL_weeks_212 (by decide) ?_
              have hl : lv_has ls 10 [(9, .int (nI (n + 1))), (8, .int 1), (0, .ref (f 0)), (1, .int (nI ti)), (3, .int (nI my)), (4, .int (nI wk)), (5, .int (nI u0)), (6, .int (nI ri * V 1 0)), (7, .int (-1))] := hl
              refine W.widen (k := 40 + 20 * (n + 1)) (n := 240 + 120 * (n + 1)) (by omega) (by omega) ?_
              exact ih99 (n + 1, hs_n cm) (show ((n + 1) ≤ my) ∧ (wk + (n + 1) ≤ 39) from ⟨hnm, (by omega)⟩) (by show my - (n + 1) < my - n; omega) _ _ ls hG hS (lv_sub hl [2, 3, 4, 5, 6, 7, 8, 1, 0] rfl)
            · skip
              refine lv_iload hx hb dL_weeks_121 (lv_at hl 8 rfl) ?_
              refine lv_iload hx hb dL_weeks_123 (lv_at hl 4 rfl) ?_
              refine lv_icmp_ne (tgt := 132) hx hb dL_weeks_125 (by decide) (fun z9 => absurd z9 (not_not_p (by rw [e6]))) (fun _ => ?_)
              refine lv_iconst (v := 1) hx hb dL_weeks_128 (by decide) ?_
              refine lv_goto (tgt := 133) hx hb dL_weeks_129 (by decide) ?_
              refine lv_aload_n hx hb dL_weeks_133 rfl (lv_at hl 0 rfl) ?_
              refine lv_iload_n hx hb dL_weeks_134 rfl (lv_at hl 1 rfl) ?_
              refine lv_iconst (v := 0) hx hb dL_weeks_135 (by decide) ?_
              refine pw_call (rest := [.int 1]) (pt_team hst J9 ti 0 ht (by decide)) ⟨hx, hb, hml, hown, hts⟩ (vx_cwSW 3 hts gL_weeks_L_team rfl rfl rfl (by decide +kernel) ⟨Nat.le_of_ble_eq_true rfl, Nat.le_of_ble_eq_true rfl⟩) hK hG hS hE.1 rfl hl.1 rfl (Nat.le_of_ble_eq_true rfl) dL_weeks_136 ⟨by show _ + 2 ≤ 200; omega, by show _ + 12 ≤ 1200; omega⟩ (fun H locs hG hS => ?_)
              refine fz_top (show _ = (fz_its V nt nc nl wk n) 4 ti from rfl) ?_
              refine lv_iload hx hb dL_weeks_139 (lv_at hl 5 rfl) ?_
              refine lv_icmp_lt (tgt := 167) hx hb dL_weeks_141 (by decide) (fun z9 => absurd z9 (Int32.not_lt.mpr (by rw [e6]; exact hge))) (fun _ => ?_)
              refine lv_iload hx hb dL_weeks_144 (lv_at hl 4 rfl) ?_
              refine lv_iload hx hb dL_weeks_146 (lv_at hl 8 rfl) ?_
              refine lv_icmp_eq (tgt := 163) hx hb dL_weeks_148 (by decide) (fun _ => ?_) (fun z9 => absurd (by rw [e6]) z9)
              refine lv_iconst (v := 1) hx hb dL_weeks_163 (by decide) ?_
              refine lv_goto (tgt := 168) hx hb dL_weeks_164 (by decide) ?_
              refine lv_icmp_eq (tgt := 183) hx hb dL_weeks_168 (by decide) (fun _ => ?_) (fun z9 => absurd (by decide) z9)
              refine lv_iconst (v := 1) hx hb dL_weeks_183 (by decide) ?_
              refine lv_goto (tgt := 188) hx hb dL_weeks_184 (by decide) ?_
              refine lv_istore (lv' := [(8, .int 1), (0, .ref (f 0)), (1, .int (nI ti)), (3, .int (nI my)), (4, .int (nI wk)), (5, .int (nI u0)), (6, .int (nI ri * V 1 0)), (7, .int (-1)), (9, .int (nI n))]) hx hb dL_weeks_188 hl (by decide) rfl (fun ls hl => ?_)
              refine W.widen (k := (40 + 20 * n) + 3) (n := (240 + 120 * n) + 18) (by omega) (by omega) ?_
              refine lv_iload hx hb dL_weeks_190 (lv_at hl 0 rfl) ?_
              refine lv_if_eq (tgt := 206) hx hb dL_weeks_192 (by decide) (fun z9 => absurd z9 (by decide)) (fun _ => ?_)
              refine lv_aload_n hx hb dL_weeks_195 rfl (lv_at hl 1 rfl) ?_
              refine pw_call (rest := []) (pw_endWeek_t hst J9.wf J9.zo (cl_ok J9 (by omega) hw39).1) ⟨hx, hb, hml, hown, hts⟩ (vx_cwSW 1 hts gL_weeks_L_endWeek rfl rfl rfl (by decide +kernel) ⟨Nat.le_of_ble_eq_true rfl, Nat.le_of_ble_eq_true rfl⟩) hK hG hS hE.1 rfl hl.1 rfl (Nat.le_of_ble_eq_true rfl) dL_weeks_196 ⟨by show _ + 1 ≤ 200; omega, by show _ + 6 ≤ 1200; omega⟩ (fun H locs hG hS => ?_)
              refine fz_top (show _ = (fz_close (fz_its V nt nc nl wk n) nt nc nl (wk + n)).1 from rfl) ?_
              refine lv_if_lt (tgt := 206) hx hb dL_weeks_199 (by decide) (fun z9 => absurd z9 (Int32.not_lt.mpr (cl_ok J9 (by omega) hw39).2)) (fun _ => ?_)
              refine lv_iconst (v := 1) hx hb dL_weeks_202 (by decide) ?_
              refine lv_goto (tgt := 207) hx hb dL_weeks_203 (by decide) ?_
              refine lv_istore (lv' := [(8, .int 1), (0, .ref (f 0)), (1, .int (nI ti)), (3, .int (nI my)), (4, .int (nI wk)), (5, .int (nI u0)), (6, .int (nI ri * V 1 0)), (7, .int (-1)), (9, .int (nI n))]) hx hb dL_weeks_207 hl (by decide) rfl (fun ls hl => ?_)
              refine W.widen (k := (40 + 20 * n) + 4) (n := (240 + 120 * n) + 24) (by omega) (by omega) ?_
              have hG : pG D A (pS cy f a t h x ad (hs_n cm) (fz_its V nt nc nl wk (n + 1)) L) H := hG
              refine lv_iinc (v := nI (n + 1)) (lv' := [(9, .int (nI (n + 1))), (8, .int 1), (0, .ref (f 0)), (1, .int (nI ti)), (3, .int (nI my)), (4, .int (nI wk)), (5, .int (nI u0)), (6, .int (nI ri * V 1 0)), (7, .int (-1))]) hx hb dL_weeks_209 hl (k := 8) rfl (nI_add _ 1) (by decide) rfl (fun ls hl => ?_)
              refine lv_goto (tgt := 99) hx hb dL_weeks_212 (by decide) ?_
              have hl : lv_has ls 10 [(9, .int (nI (n + 1))), (8, .int 1), (0, .ref (f 0)), (1, .int (nI ti)), (3, .int (nI my)), (4, .int (nI wk)), (5, .int (nI u0)), (6, .int (nI ri * V 1 0)), (7, .int (-1))] := hl
              refine W.widen (k := 40 + 20 * (n + 1)) (n := 240 + 120 * (n + 1)) (by omega) (by omega) ?_
              exact ih99 (n + 1, hs_n cm) (show ((n + 1) ≤ my) ∧ (wk + (n + 1) ≤ 39) from ⟨hnm, (by omega)⟩) (by show my - (n + 1) < my - n; omega) _ _ ls hG hS (lv_sub hl [2, 3, 4, 5, 6, 7, 8, 1, 0] rfl)
            · skip
              refine lv_iload hx hb dL_weeks_121 (lv_at hl 8 rfl) ?_
              refine lv_iload hx hb dL_weeks_123 (lv_at hl 4 rfl) ?_
              refine lv_icmp_ne (tgt := 132) hx hb dL_weeks_125 (by decide) (fun _ => ?_) (fun z9 => absurd z9 (fun z => absurd ((nI_eq (by omega) (by omega)).mp z) (by omega)))
              refine lv_iconst (v := 0) hx hb dL_weeks_132 (by decide) ?_
              refine lv_aload_n hx hb dL_weeks_133 rfl (lv_at hl 0 rfl) ?_
              refine lv_iload_n hx hb dL_weeks_134 rfl (lv_at hl 1 rfl) ?_
              refine lv_iconst (v := 0) hx hb dL_weeks_135 (by decide) ?_
              refine pw_call (rest := [.int 0]) (pt_team hst J9 ti 0 ht (by decide)) ⟨hx, hb, hml, hown, hts⟩ (vx_cwSW 3 hts gL_weeks_L_team rfl rfl rfl (by decide +kernel) ⟨Nat.le_of_ble_eq_true rfl, Nat.le_of_ble_eq_true rfl⟩) hK hG hS hE.1 rfl hl.1 rfl (Nat.le_of_ble_eq_true rfl) dL_weeks_136 ⟨by show _ + 2 ≤ 200; omega, by show _ + 12 ≤ 1200; omega⟩ (fun H locs hG hS => ?_)
              refine fz_top (show _ = (fz_its V nt nc nl wk n) 4 ti from rfl) ?_
              refine lv_iload hx hb dL_weeks_139 (lv_at hl 5 rfl) ?_
              refine lv_icmp_lt (tgt := 167) hx hb dL_weeks_141 (by decide) (fun c5 => ?_) (fun c5 => ?_)
              · skip
                refine lv_iconst (v := 0) hx hb dL_weeks_167 (by decide) ?_
                refine lv_icmp_eq (tgt := 183) hx hb dL_weeks_168 (by decide) (fun _ => ?_) (fun z9 => absurd (by decide) z9)
                refine lv_iconst (v := 1) hx hb dL_weeks_183 (by decide) ?_
                refine lv_goto (tgt := 188) hx hb dL_weeks_184 (by decide) ?_
                refine lv_istore (lv' := [(8, .int 1), (0, .ref (f 0)), (1, .int (nI ti)), (3, .int (nI my)), (4, .int (nI wk)), (5, .int (nI u0)), (6, .int (nI ri * V 1 0)), (7, .int (-1)), (9, .int (nI n))]) hx hb dL_weeks_188 hl (by decide) rfl (fun ls hl => ?_)
                refine W.widen (k := (40 + 20 * n) + 3) (n := (240 + 120 * n) + 18) (by omega) (by omega) ?_
                refine lv_iload hx hb dL_weeks_190 (lv_at hl 0 rfl) ?_
                refine lv_if_eq (tgt := 206) hx hb dL_weeks_192 (by decide) (fun z9 => absurd z9 (by decide)) (fun _ => ?_)
                refine lv_aload_n hx hb dL_weeks_195 rfl (lv_at hl 1 rfl) ?_
                refine pw_call (rest := []) (pw_endWeek_t hst J9.wf J9.zo (cl_ok J9 (by omega) hw39).1) ⟨hx, hb, hml, hown, hts⟩ (vx_cwSW 1 hts gL_weeks_L_endWeek rfl rfl rfl (by decide +kernel) ⟨Nat.le_of_ble_eq_true rfl, Nat.le_of_ble_eq_true rfl⟩) hK hG hS hE.1 rfl hl.1 rfl (Nat.le_of_ble_eq_true rfl) dL_weeks_196 ⟨by show _ + 1 ≤ 200; omega, by show _ + 6 ≤ 1200; omega⟩ (fun H locs hG hS => ?_)
                refine fz_top (show _ = (fz_close (fz_its V nt nc nl wk n) nt nc nl (wk + n)).1 from rfl) ?_
                refine lv_if_lt (tgt := 206) hx hb dL_weeks_199 (by decide) (fun z9 => absurd z9 (Int32.not_lt.mpr (cl_ok J9 (by omega) hw39).2)) (fun _ => ?_)
                refine lv_iconst (v := 1) hx hb dL_weeks_202 (by decide) ?_
                refine lv_goto (tgt := 207) hx hb dL_weeks_203 (by decide) ?_
                refine lv_istore (lv' := [(8, .int 1), (0, .ref (f 0)), (1, .int (nI ti)), (3, .int (nI my)), (4, .int (nI wk)), (5, .int (nI u0)), (6, .int (nI ri * V 1 0)), (7, .int (-1)), (9, .int (nI n))]) hx hb dL_weeks_207 hl (by decide) rfl (fun ls hl => ?_)
                refine W.widen (k := (40 + 20 * n) + 4) (n := (240 + 120 * n) + 24) (by omega) (by omega) ?_
                have hG : pG D A (pS cy f a t h x ad (hs_n cm) (fz_its V nt nc nl wk (n + 1)) L) H := hG
                refine lv_iinc (v := nI (n + 1)) (lv' := [(9, .int (nI (n + 1))), (8, .int 1), (0, .ref (f 0)), (1, .int (nI ti)), (3, .int (nI my)), (4, .int (nI wk)), (5, .int (nI u0)), (6, .int (nI ri * V 1 0)), (7, .int (-1))]) hx hb dL_weeks_209 hl (k := 8) rfl (nI_add _ 1) (by decide) rfl (fun ls hl => ?_)
                refine lv_goto (tgt := 99) hx hb dL_weeks_212 (by decide) ?_
                have hl : lv_has ls 10 [(9, .int (nI (n + 1))), (8, .int 1), (0, .ref (f 0)), (1, .int (nI ti)), (3, .int (nI my)), (4, .int (nI wk)), (5, .int (nI u0)), (6, .int (nI ri * V 1 0)), (7, .int (-1))] := hl
                refine W.widen (k := 40 + 20 * (n + 1)) (n := 240 + 120 * (n + 1)) (by omega) (by omega) ?_
                exact ih99 (n + 1, hs_n cm) (show ((n + 1) ≤ my) ∧ (wk + (n + 1) ≤ 39) from ⟨hnm, (by omega)⟩) (by show my - (n + 1) < my - n; omega) _ _ ls hG hS (lv_sub hl [2, 3, 4, 5, 6, 7, 8, 1, 0] rfl)
              · skip
                refine lv_iload hx hb dL_weeks_144 (lv_at hl 4 rfl) ?_
                refine lv_iload hx hb dL_weeks_146 (lv_at hl 8 rfl) ?_
                refine lv_icmp_eq (tgt := 163) hx hb dL_weeks_148 (by decide) (fun z9 => absurd z9 (fun z => absurd ((nI_eq (by omega) (by omega)).mp z) (by omega))) (fun _ => ?_)
                refine lv_iload hx hb dL_weeks_151 (lv_at hl 4 rfl) ?_
                refine lv_if_lt (tgt := 163) hx hb dL_weeks_153 (by decide) (fun z9 => absurd z9 (nI_pos (n := u0) (by omega))) (fun _ => ?_)
                refine lv_iload hx hb dL_weeks_156 (lv_at hl 4 rfl) ?_
                refine lv_iload hx hb dL_weeks_158 (lv_at hl 8 rfl) ?_
                refine lv_icmp_le (tgt := 167) hx hb dL_weeks_160 (by decide) (fun _ => ?_) (fun z9 => absurd ((nI_leI (by omega) (by omega)).mpr (by omega)) z9)
                refine lv_iconst (v := 0) hx hb dL_weeks_167 (by decide) ?_
                refine lv_icmp_eq (tgt := 183) hx hb dL_weeks_168 (by decide) (fun _ => ?_) (fun z9 => absurd (by decide) z9)
                refine lv_iconst (v := 1) hx hb dL_weeks_183 (by decide) ?_
                refine lv_goto (tgt := 188) hx hb dL_weeks_184 (by decide) ?_
                refine lv_istore (lv' := [(8, .int 1), (0, .ref (f 0)), (1, .int (nI ti)), (3, .int (nI my)), (4, .int (nI wk)), (5, .int (nI u0)), (6, .int (nI ri * V 1 0)), (7, .int (-1)), (9, .int (nI n))]) hx hb dL_weeks_188 hl (by decide) rfl (fun ls hl => ?_)
                refine W.widen (k := (40 + 20 * n) + 3) (n := (240 + 120 * n) + 18) (by omega) (by omega) ?_
                refine lv_iload hx hb dL_weeks_190 (lv_at hl 0 rfl) ?_
                refine lv_if_eq (tgt := 206) hx hb dL_weeks_192 (by decide) (fun z9 => absurd z9 (by decide)) (fun _ => ?_)
                refine lv_aload_n hx hb dL_weeks_195 rfl (lv_at hl 1 rfl) ?_
                refine pw_call (rest := []) (pw_endWeek_t hst J9.wf J9.zo (cl_ok J9 (by omega) hw39).1) ⟨hx, hb, hml, hown, hts⟩ (vx_cwSW 1 hts gL_weeks_L_endWeek rfl rfl rfl (by decide +kernel) ⟨Nat.le_of_ble_eq_true rfl, Nat.le_of_ble_eq_true rfl⟩) hK hG hS hE.1 rfl hl.1 rfl (Nat.le_of_ble_eq_true rfl) dL_weeks_196 ⟨by show _ + 1 ≤ 200; omega, by show _ + 6 ≤ 1200; omega⟩ (fun H locs hG hS => ?_)
                refine fz_top (show _ = (fz_close (fz_its V nt nc nl wk n) nt nc nl (wk + n)).1 from rfl) ?_
                refine lv_if_lt (tgt := 206) hx hb dL_weeks_199 (by decide) (fun z9 => absurd z9 (Int32.not_lt.mpr (cl_ok J9 (by omega) hw39).2)) (fun _ => ?_)
                refine lv_iconst (v := 1) hx hb dL_weeks_202 (by decide) ?_
                refine lv_goto (tgt := 207) hx hb dL_weeks_203 (by decide) ?_
                refine lv_istore (lv' := [(8, .int 1), (0, .ref (f 0)), (1, .int (nI ti)), (3, .int (nI my)), (4, .int (nI wk)), (5, .int (nI u0)), (6, .int (nI ri * V 1 0)), (7, .int (-1)), (9, .int (nI n))]) hx hb dL_weeks_207 hl (by decide) rfl (fun ls hl => ?_)
                refine W.widen (k := (40 + 20 * n) + 4) (n := (240 + 120 * n) + 24) (by omega) (by omega) ?_
                have hG : pG D A (pS cy f a t h x ad (hs_n cm) (fz_its V nt nc nl wk (n + 1)) L) H := hG
                refine lv_iinc (v := nI (n + 1)) (lv' := [(9, .int (nI (n + 1))), (8, .int 1), (0, .ref (f 0)), (1, .int (nI ti)), (3, .int (nI my)), (4, .int (nI wk)), (5, .int (nI u0)), (6, .int (nI ri * V 1 0)), (7, .int (-1))]) hx hb dL_weeks_209 hl (k := 8) rfl (nI_add _ 1) (by decide) rfl (fun ls hl => ?_)
                refine lv_goto (tgt := 99) hx hb dL_weeks_212 (by decide) ?_
                have hl : lv_has ls 10 [(9, .int (nI (n + 1))), (8, .int 1), (0, .ref (f 0)), (1, .int (nI ti)), (3, .int (nI my)), (4, .int (nI wk)), (5, .int (nI u0)), (6, .int (nI ri * V 1 0)), (7, .int (-1))] := hl
                refine W.widen (k := 40 + 20 * (n + 1)) (n := 240 + 120 * (n + 1)) (by omega) (by omega) ?_
                exact ih99 (n + 1, hs_n cm) (show ((n + 1) ≤ my) ∧ (wk + (n + 1) ≤ 39) from ⟨hnm, (by omega)⟩) (by show my - (n + 1) < my - n; omega) _ _ ls hG hS (lv_sub hl [2, 3, 4, 5, 6, 7, 8, 1, 0] rfl)
  · skip
    refine lv_aload_n hx hb dL_weeks_0 rfl (lv_at hl 0 rfl) ?_
    refine lv_bipush (v := 8) hx hb dL_weeks_1 (by decide) ?_
    refine pw_call (rest := []) (pt_whole hst J 8 (by decide)) ⟨hx, hb, hml, hown, hts⟩ (vx_cwSW 2 hts gL_weeks_L_whole rfl rfl rfl (by decide +kernel) ⟨Nat.le_of_ble_eq_true rfl, Nat.le_of_ble_eq_true rfl⟩) hK hG hS hE.1 rfl hl.1 rfl (Nat.le_of_ble_eq_true rfl) dL_weeks_3 ⟨by show _ + 1 ≤ 200; omega, by show _ + 6 ≤ 1200; omega⟩ (fun H locs hG hS => ?_)
    refine fz_top (show _ = nI wk from J.e0) ?_
    refine lv_istore (lv' := [(4, .int (nI wk)), (0, .ref (f 0)), (1, .int (nI ti)), (2, .int (nI ri)), (3, .int (nI my))]) hx hb dL_weeks_6 hl (by decide) rfl (fun ls hl => ?_)
    refine W.widen (k := 1) (n := 6) (by omega) (by omega) ?_
    refine lv_aload_n hx hb dL_weeks_8 rfl (lv_at hl 1 rfl) ?_
    refine lv_iload_n hx hb dL_weeks_9 rfl (lv_at hl 2 rfl) ?_
    refine lv_iload_n hx hb dL_weeks_10 rfl (lv_at hl 3 rfl) ?_
    refine pw_call (rest := []) (pt_until hst J ti ht (nI ri) (rk_ok h1 h9r)) ⟨hx, hb, hml, hown, hts⟩ (vx_cwSW 3 hts gL_weeks_L_weeksUntil rfl rfl rfl (by decide +kernel) ⟨Nat.le_of_ble_eq_true rfl, Nat.le_of_ble_eq_true rfl⟩) hK hG hS hE.1 rfl hl.1 rfl (Nat.le_of_ble_eq_true rfl) dL_weeks_11 ⟨by show _ + 2 ≤ 200; omega, by show _ + 12 ≤ 1200; omega⟩ (fun H locs hG hS => ?_)
    refine fz_top (show _ = (-1) from eu) ?_
    refine lv_istore (lv' := [(5, .int (-1)), (4, .int (nI wk)), (0, .ref (f 0)), (1, .int (nI ti)), (2, .int (nI ri)), (3, .int (nI my))]) hx hb dL_weeks_14 hl (by decide) rfl (fun ls hl => ?_)
    refine W.widen (k := 3) (n := 18) (by omega) (by omega) ?_
    refine lv_iload_n hx hb dL_weeks_16 rfl (lv_at hl 4 rfl) ?_
    refine lv_aload_n hx hb dL_weeks_17 rfl (lv_at hl 2 rfl) ?_
    refine lv_iconst (v := 4) hx hb dL_weeks_18 (by decide) ?_
    refine pw_call (rest := [.int (nI ri)]) (pt_whole hst J 4 (by decide)) ⟨hx, hb, hml, hown, hts⟩ (vx_cwSW 2 hts gL_weeks_L_whole rfl rfl rfl (by decide +kernel) ⟨Nat.le_of_ble_eq_true rfl, Nat.le_of_ble_eq_true rfl⟩) hK hG hS hE.1 rfl hl.1 rfl (Nat.le_of_ble_eq_true rfl) dL_weeks_19 ⟨by show _ + 1 ≤ 200; omega, by show _ + 6 ≤ 1200; omega⟩ (fun H locs hG hS => ?_)
    refine fz_top (show _ = V 1 0 from rfl) ?_
    refine lv_imul hx hb dL_weeks_22 ?_
    refine lv_istore (lv' := [(6, .int ((nI ri) * (V 1 0))), (5, .int (-1)), (4, .int (nI wk)), (0, .ref (f 0)), (1, .int (nI ti)), (2, .int (nI ri)), (3, .int (nI my))]) hx hb dL_weeks_23 hl (by decide) rfl (fun ls hl => ?_)
    refine W.widen (k := 4) (n := 24) (by omega) (by omega) ?_
    by_cases hm : wk + my ≤ 39
    · skip
      obtain ⟨b9, hb9, eb⟩ := being_n (its_J J (by omega) my hm) (by omega)
      refine lv_aload_n hx hb dL_weeks_25 rfl (lv_at hl 3 rfl) ?_
      refine lv_iload_n hx hb dL_weeks_26 rfl (lv_at hl 6 rfl) ?_
      refine pw_call (rest := []) (pt_being hst J my (by omega)) ⟨hx, hb, hml, hown, hts⟩ (vx_cwSW 2 hts gL_weeks_L_inBeing rfl rfl rfl (by decide +kernel) ⟨Nat.le_of_ble_eq_true rfl, Nat.le_of_ble_eq_true rfl⟩) hK hG hS hE.1 rfl hl.1 rfl (Nat.le_of_ble_eq_true rfl) dL_weeks_27 ⟨by show _ + 1 ≤ 200; omega, by show _ + 6 ≤ 1200; omega⟩ (fun H locs hG hS => ?_)
      refine fz_top (show _ = fz_sum ((fz_its V nt nc nl wk my) 4) nt + fz_sum ((fz_its V nt nc nl wk my) 12) nc from if_pos hm) ?_
      refine lv_istore (lv' := [(7, .int (fz_sum ((fz_its V nt nc nl wk my) 4) nt + fz_sum ((fz_its V nt nc nl wk my) 12) nc)), (6, .int ((nI ri) * (V 1 0))), (5, .int (-1)), (4, .int (nI wk)), (0, .ref (f 0)), (1, .int (nI ti)), (2, .int (nI ri)), (3, .int (nI my))]) hx hb dL_weeks_30 hl (by decide) rfl (fun ls hl => ?_)
      refine W.widen (k := 5) (n := 30) (by omega) (by omega) ?_
      refine lv_iload hx hb dL_weeks_32 (lv_at hl 2 rfl) ?_
      refine lv_if_ne (tgt := 41) hx hb dL_weeks_34 (by decide) (fun _ => ?_) (fun z9 => absurd z9 (by decide))
      refine lv_iconst (v := 0) hx hb dL_weeks_41 (by decide) ?_
      refine lv_aload_n hx hb dL_weeks_42 rfl (lv_at hl 4 rfl) ?_
      refine lv_iload_n hx hb dL_weeks_43 rfl (lv_at hl 5 rfl) ?_
      refine lv_iconst (v := 0) hx hb dL_weeks_44 (by decide) ?_
      refine pw_call (rest := [.int 0]) (pt_team hst J ti 0 ht (by decide)) ⟨hx, hb, hml, hown, hts⟩ (vx_cwSW 3 hts gL_weeks_L_team rfl rfl rfl (by decide +kernel) ⟨Nat.le_of_ble_eq_true rfl, Nat.le_of_ble_eq_true rfl⟩) hK hG hS hE.1 rfl hl.1 rfl (Nat.le_of_ble_eq_true rfl) dL_weeks_45 ⟨by show _ + 2 ≤ 200; omega, by show _ + 12 ≤ 1200; omega⟩ (fun H locs hG hS => ?_)
      refine fz_top (show _ = V 4 ti from rfl) ?_
      refine lv_iload hx hb dL_weeks_48 (lv_at hl 1 rfl) ?_
      refine lv_icmp_lt (tgt := 57) hx hb dL_weeks_50 (by decide) (fun _ => ?_) (fun z9 => absurd (Int32.not_le.mp (hlt 0 (by omega) (by omega))) z9)
      refine lv_iconst (v := 0) hx hb dL_weeks_57 (by decide) ?_
      refine lv_icmp_ne (tgt := 93) hx hb dL_weeks_58 (by decide) (fun z9 => absurd z9 (by decide)) (fun _ => ?_)
      refine lv_iload hx hb dL_weeks_61 (lv_at hl 3 rfl) ?_
      refine lv_iload_n hx hb dL_weeks_63 rfl (lv_at hl 7 rfl) ?_
      refine lv_iadd hx hb dL_weeks_64 ?_
      refine lv_bipush (v := 39) hx hb dL_weeks_65 (by decide) ?_
      refine lv_icmp_le (tgt := 74) hx hb dL_weeks_67 (by decide) (fun _ => ?_) (fun z9 => absurd (by rw [nI_add]; exact (nI_leI (b := 39) (by omega) (by omega)).mpr hm) z9)
      refine lv_iconst (v := 0) hx hb dL_weeks_74 (by decide) ?_
      refine lv_iload hx hb dL_weeks_75 (lv_at hl 0 rfl) ?_
      refine lv_iconst (v := (-1)) hx hb dL_weeks_77 (by decide) ?_
      refine lv_icmp_ne (tgt := 85) hx hb dL_weeks_78 (by decide) (fun _ => ?_) (fun z9 => absurd z9 (by rw [eb]; exact sd_m1 (by omega)))
      refine lv_iconst (v := 0) hx hb dL_weeks_85 (by decide) ?_
      refine lv_icmp_ne (tgt := 93) hx hb dL_weeks_86 (by decide) (fun z9 => absurd z9 (by decide)) (fun _ => ?_)
      refine lv_iconst (v := 1) hx hb dL_weeks_89 (by decide) ?_
      refine lv_goto (tgt := 94) hx hb dL_weeks_90 (by decide) ?_
      refine lv_istore (lv' := [(8, .int 1), (7, .int (fz_sum ((fz_its V nt nc nl wk my) 4) nt + fz_sum ((fz_its V nt nc nl wk my) 12) nc)), (6, .int ((nI ri) * (V 1 0))), (5, .int (-1)), (4, .int (nI wk)), (0, .ref (f 0)), (1, .int (nI ti)), (2, .int (nI ri)), (3, .int (nI my))]) hx hb dL_weeks_94 hl (by decide) rfl (fun ls hl => ?_)
      refine W.widen (k := 7) (n := 42) (by omega) (by omega) ?_
      refine lv_iconst (v := 0) hx hb dL_weeks_96 (by decide) ?_
      refine lv_istore (lv' := [(9, .int 0), (8, .int 1), (7, .int (fz_sum ((fz_its V nt nc nl wk my) 4) nt + fz_sum ((fz_its V nt nc nl wk my) 12) nc)), (6, .int ((nI ri) * (V 1 0))), (5, .int (-1)), (4, .int (nI wk)), (0, .ref (f 0)), (1, .int (nI ti)), (2, .int (nI ri)), (3, .int (nI my))]) hx hb dL_weeks_97 hl (by decide) rfl (fun ls hl => ?_)
      have hl : lv_has ls 10 [(9, .int (nI 0)), (8, .int 1), (7, .int (fz_sum ((fz_its V nt nc nl wk my) 4) nt + fz_sum ((fz_its V nt nc nl wk my) 12) nc)), (6, .int (nI ri * V 1 0)), (5, .int (-1)), (4, .int (nI wk)), (0, .ref (f 0)), (1, .int (nI ti)), (2, .int (nI ri)), (3, .int (nI my))] := hl
      refine W.widen (k := 40 + 20 * 0) (n := 240 + 120 * 0) (by omega) (by omega) ?_
      refine pw_loop (σ := Nat × Nat) (pc := 99) (nL := 10) (rest := []) (fun x9 => match x9 with | (n, cm) => [(0, .ref (f 0)), (1, .int (nI ti)), (3, .int (nI my)), (4, .int (nI wk)), (5, .int (-1)), (6, .int (nI ri * V 1 0)), (7, .int (fz_sum ((fz_its V nt nc nl wk my) 4) nt + fz_sum ((fz_its V nt nc nl wk my) 12) nc)), (8, .int 1), (9, .int (nI n))]) (fun x9 => match x9 with | (n, cm) => pS cy f a t h x ad cm (fz_its V nt nc nl wk n) L) (fun x9 => match x9 with | (n, cm) => (n ≤ my) ∧ (wk + n ≤ 39)) (fun x9 => match x9 with | (n, cm) => my - n) (fun x9 => match x9 with | (n, cm) => 40 + 20 * n) (fun x9 => match x9 with | (n, cm) => 240 + 120 * n) ?_ (0, cn) (show (0 ≤ my) ∧ (wk + 0 ≤ 39) from ⟨(Nat.zero_le _), (by omega)⟩) _ _ ls hG hS (lv_sub hl [6, 7, 9, 5, 4, 3, 2, 1, 0] rfl)
      rintro ⟨n, cm⟩ ⟨hn, hwn⟩ ih99 H locs ls hG hS hl
      have hn : n ≤ my := hn
      have hwn : wk + n ≤ 39 := hwn
      have hG : pG D A (pS cy f a t h x ad cm (fz_its V nt nc nl wk n) L) H := hG
      have hl : lv_has ls 10 [(0, .ref (f 0)), (1, .int (nI ti)), (3, .int (nI my)), (4, .int (nI wk)), (5, .int (-1)), (6, .int (nI ri * V 1 0)), (7, .int (fz_sum ((fz_its V nt nc nl wk my) 4) nt + fz_sum ((fz_its V nt nc nl wk my) 12) nc)), (8, .int 1), (9, .int (nI n))] := hl
      show W _ _ _ _ _ _ _ _ _ _ _ _ (40 + 20 * n) (240 + 120 * n) _ _
      have J9 := its_J J (by omega) n hwn
      refine lv_iload hx hb dL_weeks_99 (lv_at hl 8 rfl) ?_
      refine lv_iload_n hx hb dL_weeks_101 rfl (lv_at hl 2 rfl) ?_
      refine lv_icmp_ge (tgt := 215) hx hb dL_weeks_102 (by decide) (fun c9 => ?_) (fun c9 => ?_)
      · skip
        have e9 : n = my := by have := (nI_leI (by omega) (by omega)).mp c9; omega
        refine lv_iload hx hb dL_weeks_215 (lv_at hl 7 rfl) ?_
        refine lv_if_eq (tgt := 285) hx hb dL_weeks_217 (by decide) (fun z9 => absurd z9 (by decide)) (fun _ => ?_)
        refine lv_aload_n hx hb dL_weeks_220 rfl (lv_at hl 0 rfl) ?_
        refine lv_bipush (v := 8) hx hb dL_weeks_221 (by decide) ?_
        refine pw_call (rest := []) (pt_whole hst J9 8 (by decide)) ⟨hx, hb, hml, hown, hts⟩ (vx_cwSW 2 hts gL_weeks_L_whole rfl rfl rfl (by decide +kernel) ⟨Nat.le_of_ble_eq_true rfl, Nat.le_of_ble_eq_true rfl⟩) hK hG hS hE.1 rfl hl.1 rfl (Nat.le_of_ble_eq_true rfl) dL_weeks_223 ⟨by show _ + 1 ≤ 200; omega, by show _ + 6 ≤ 1200; omega⟩ (fun H locs hG hS => ?_)
        refine fz_top (show _ = nI (wk + n) from J9.e0) ?_
        refine lv_iload hx hb dL_weeks_226 (lv_at hl 3 rfl) ?_
        refine lv_iload hx hb dL_weeks_228 (lv_at hl 8 rfl) ?_
        refine lv_iadd hx hb dL_weeks_230 ?_
        refine lv_icmp_ne (tgt := 285) hx hb dL_weeks_231 (by decide) (fun z9 => absurd z9 (not_not_p (nI_add wk n).symm)) (fun _ => ?_)
        refine lv_iload hx hb dL_weeks_234 (lv_at hl 8 rfl) ?_
        refine lv_iload_n hx hb dL_weeks_236 rfl (lv_at hl 2 rfl) ?_
        refine lv_icmp_lt (tgt := 258) hx hb dL_weeks_237 (by decide) (fun z9 => absurd z9 (by rw [e9]; exact Int32.lt_irrefl)) (fun _ => ?_)
        refine lv_iload hx hb dL_weeks_240 (lv_at hl 6 rfl) ?_
        refine lv_aload_n hx hb dL_weeks_242 rfl (lv_at hl 0 rfl) ?_
        refine lv_bipush (v := 10) hx hb dL_weeks_243 (by decide) ?_
        refine pw_call (rest := [.int (fz_sum ((fz_its V nt nc nl wk my) 4) nt + fz_sum ((fz_its V nt nc nl wk my) 12) nc)]) (pt_whole hst J9 10 (by decide)) ⟨hx, hb, hml, hown, hts⟩ (vx_cwSW 2 hts gL_weeks_L_whole rfl rfl rfl (by decide +kernel) ⟨Nat.le_of_ble_eq_true rfl, Nat.le_of_ble_eq_true rfl⟩) hK hG hS hE.1 rfl hl.1 rfl (Nat.le_of_ble_eq_true rfl) dL_weeks_245 ⟨by show _ + 1 ≤ 200; omega, by show _ + 6 ≤ 1200; omega⟩ (fun H locs hG hS => ?_)
        refine fz_top (show _ = fz_sum ((fz_its V nt nc nl wk n) 4) nt from rfl) ?_
        refine lv_aload_n hx hb dL_weeks_248 rfl (lv_at hl 0 rfl) ?_
        refine lv_bipush (v := 11) hx hb dL_weeks_249 (by decide) ?_
        refine pw_call (rest := [.int (fz_sum ((fz_its V nt nc nl wk n) 4) nt), .int (fz_sum ((fz_its V nt nc nl wk my) 4) nt + fz_sum ((fz_its V nt nc nl wk my) 12) nc)]) (pt_whole hst J9 11 (by decide)) ⟨hx, hb, hml, hown, hts⟩ (vx_cwSW 2 hts gL_weeks_L_whole rfl rfl rfl (by decide +kernel) ⟨Nat.le_of_ble_eq_true rfl, Nat.le_of_ble_eq_true rfl⟩) hK hG hS hE.1 rfl hl.1 rfl (Nat.le_of_ble_eq_true rfl) dL_weeks_251 ⟨by show _ + 1 ≤ 200; omega, by show _ + 6 ≤ 1200; omega⟩ (fun H locs hG hS => ?_)
        refine fz_top (show _ = fz_sum ((fz_its V nt nc nl wk n) 12) nc from rfl) ?_
        refine lv_iadd hx hb dL_weeks_254 ?_
        refine lv_icmp_ne (tgt := 285) hx hb dL_weeks_255 (by decide) (fun z9 => absurd z9 (not_not_p (by rw [e9]))) (fun _ => ?_)
        refine lv_iload hx hb dL_weeks_258 (lv_at hl 4 rfl) ?_
        refine lv_if_lt (tgt := 281) hx hb dL_weeks_260 (by decide) (fun _ => ?_) (fun z9 => absurd (by decide) z9)
        refine lv_iconst (v := 1) hx hb dL_weeks_281 (by decide) ?_
        refine lv_goto (tgt := 286) hx hb dL_weeks_282 (by decide) ?_
        refine lv_istore (lv' := [(8, .int 1), (0, .ref (f 0)), (1, .int (nI ti)), (3, .int (nI my)), (4, .int (nI wk)), (5, .int (-1)), (6, .int (nI ri * V 1 0)), (7, .int (fz_sum ((fz_its V nt nc nl wk my) 4) nt + fz_sum ((fz_its V nt nc nl wk my) 12) nc)), (9, .int (nI n))]) hx hb dL_weeks_286 hl (by decide) rfl (fun ls hl => ?_)
        refine W.widen (k := (40 + 20 * n) + 3) (n := (240 + 120 * n) + 18) (by omega) (by omega) ?_
        refine lv_iload hx hb dL_weeks_288 (lv_at hl 0 rfl) ?_
        refine lv_if_eq (tgt := 317) hx hb dL_weeks_290 (by decide) (fun z9 => absurd z9 (by decide)) (fun _ => ?_)
        refine lv_aload_n hx hb dL_weeks_293 rfl (lv_at hl 1 rfl) ?_
        refine lv_bipush (v := 8) hx hb dL_weeks_294 (by decide) ?_
        refine pw_call (rest := []) (pt_whole hst J9 8 (by decide)) ⟨hx, hb, hml, hown, hts⟩ (vx_cwSW 2 hts gL_weeks_L_whole rfl rfl rfl (by decide +kernel) ⟨Nat.le_of_ble_eq_true rfl, Nat.le_of_ble_eq_true rfl⟩) hK hG hS hE.1 rfl hl.1 rfl (Nat.le_of_ble_eq_true rfl) dL_weeks_296 ⟨by show _ + 1 ≤ 200; omega, by show _ + 6 ≤ 1200; omega⟩ (fun H locs hG hS => ?_)
        refine fz_top (show _ = nI (wk + n) from J9.e0) ?_
        refine lv_bipush (v := 39) hx hb dL_weeks_299 (by decide) ?_
        refine lv_icmp_lt (tgt := 313) hx hb dL_weeks_301 (by decide) (fun c2 => ?_) (fun c2 => ?_)
        · skip
          refine lv_iconst (v := 1) hx hb dL_weeks_313 (by decide) ?_
          refine lv_goto (tgt := 318) hx hb dL_weeks_314 (by decide) ?_
          refine W.widen (k := 200) (n := 1200) (by omega) (by omega) ?_
          obtain ⟨Wn, h9, hP, hD⟩ := hG
          exact W.zret (v := 1) hx hb hr (by decide) (fun t9 ht9 hW9 => ⟨⟨_, Wn, rfl, ⟨⟨rfl, cm, wk + n, fz_its V nt nc nl wk n, J9.mono (by omega), h9⟩, hD⟩, fz_to ht9 hP⟩, hS.F ht9⟩) hS.2.2 dL_weeks_318
        · skip
          refine lv_aload_n hx hb dL_weeks_304 rfl (lv_at hl 1 rfl) ?_
          refine pw_call (rest := []) (pw_endWeek_IS hst J9.wf J9.zo (cl_no (V := (fz_its V nt nc nl wk n)) (fun z => c2 (nI_lt (b := 39) z (by omega))))) ⟨hx, hb, hml, hown, hts⟩ (vx_cwSW 1 hts gL_weeks_L_endWeek rfl rfl rfl (by decide +kernel) ⟨Nat.le_of_ble_eq_true rfl, Nat.le_of_ble_eq_true rfl⟩) hK hG hS hE.1 rfl hl.1 rfl (Nat.le_of_ble_eq_true rfl) dL_weeks_305 ⟨by show _ + 1 ≤ 200; omega, by show _ + 6 ≤ 1200; omega⟩ (fun H locs hG hS => ?_)
          refine lv_bipush (v := (-11)) hx hb dL_weeks_308 (by decide) ?_
          refine lv_icmp_ne (tgt := 317) hx hb dL_weeks_310 (by decide) (fun z9 => absurd z9 (by decide)) (fun _ => ?_)
          refine lv_iconst (v := 1) hx hb dL_weeks_313 (by decide) ?_
          refine lv_goto (tgt := 318) hx hb dL_weeks_314 (by decide) ?_
          refine W.widen (k := 200) (n := 1200) (by omega) (by omega) ?_
          obtain ⟨Wn, h9, hP, hD⟩ := hG
          exact W.zret (v := 1) hx hb hr (by decide) (fun t9 ht9 hW9 => ⟨⟨_, Wn, rfl, ⟨⟨rfl, cm, wk + n, fz_its V nt nc nl wk n, J9.mono (by omega), h9⟩, hD⟩, fz_to ht9 hP⟩, hS.F ht9⟩) hS.2.2 dL_weeks_318
      · skip
        have hnm : n < my := Nat.lt_of_not_le fun z => c9 ((nI_leI (by omega) (by omega)).mpr z)
        refine lv_aload_n hx hb dL_weeks_105 rfl (lv_at hl 0 rfl) ?_
        refine lv_bipush (v := 8) hx hb dL_weeks_106 (by decide) ?_
        refine pw_call (rest := []) (pt_whole hst J9 8 (by decide)) ⟨hx, hb, hml, hown, hts⟩ (vx_cwSW 2 hts gL_weeks_L_whole rfl rfl rfl (by decide +kernel) ⟨Nat.le_of_ble_eq_true rfl, Nat.le_of_ble_eq_true rfl⟩) hK hG hS hE.1 rfl hl.1 rfl (Nat.le_of_ble_eq_true rfl) dL_weeks_108 ⟨by show _ + 1 ≤ 200; omega, by show _ + 6 ≤ 1200; omega⟩ (fun H locs hG hS => ?_)
        refine fz_top (show _ = nI (wk + n) from J9.e0) ?_
        refine lv_bipush (v := 39) hx hb dL_weeks_111 (by decide) ?_
        refine lv_icmp_ge (tgt := 215) hx hb dL_weeks_113 (by decide) (fun c8 => ?_) (fun c8 => ?_)
        · skip
          have e8 : wk + n = 39 := by have := (nI_leI (a := 39) (by omega) (by omega)).mp c8; omega
          refine lv_iload hx hb dL_weeks_215 (lv_at hl 7 rfl) ?_
          refine lv_if_eq (tgt := 285) hx hb dL_weeks_217 (by decide) (fun z9 => absurd z9 (by decide)) (fun _ => ?_)
          refine lv_aload_n hx hb dL_weeks_220 rfl (lv_at hl 0 rfl) ?_
          refine lv_bipush (v := 8) hx hb dL_weeks_221 (by decide) ?_
          refine pw_call (rest := []) (pt_whole hst J9 8 (by decide)) ⟨hx, hb, hml, hown, hts⟩ (vx_cwSW 2 hts gL_weeks_L_whole rfl rfl rfl (by decide +kernel) ⟨Nat.le_of_ble_eq_true rfl, Nat.le_of_ble_eq_true rfl⟩) hK hG hS hE.1 rfl hl.1 rfl (Nat.le_of_ble_eq_true rfl) dL_weeks_223 ⟨by show _ + 1 ≤ 200; omega, by show _ + 6 ≤ 1200; omega⟩ (fun H locs hG hS => ?_)
          refine fz_top (show _ = nI (wk + n) from J9.e0) ?_
          refine lv_iload hx hb dL_weeks_226 (lv_at hl 3 rfl) ?_
          refine lv_iload hx hb dL_weeks_228 (lv_at hl 8 rfl) ?_
          refine lv_iadd hx hb dL_weeks_230 ?_
          refine lv_icmp_ne (tgt := 285) hx hb dL_weeks_231 (by decide) (fun z9 => absurd z9 (not_not_p (nI_add wk n).symm)) (fun _ => ?_)
          refine lv_iload hx hb dL_weeks_234 (lv_at hl 8 rfl) ?_
          refine lv_iload_n hx hb dL_weeks_236 rfl (lv_at hl 2 rfl) ?_
          refine lv_icmp_lt (tgt := 258) hx hb dL_weeks_237 (by decide) (fun _ => ?_) (fun z9 => absurd (nI_lt hnm (by omega)) z9)
          refine lv_iload hx hb dL_weeks_258 (lv_at hl 4 rfl) ?_
          refine lv_if_lt (tgt := 281) hx hb dL_weeks_260 (by decide) (fun _ => ?_) (fun z9 => absurd (by decide) z9)
          refine lv_iconst (v := 1) hx hb dL_weeks_281 (by decide) ?_
          refine lv_goto (tgt := 286) hx hb dL_weeks_282 (by decide) ?_
          refine lv_istore (lv' := [(8, .int 1), (0, .ref (f 0)), (1, .int (nI ti)), (3, .int (nI my)), (4, .int (nI wk)), (5, .int (-1)), (6, .int (nI ri * V 1 0)), (7, .int (fz_sum ((fz_its V nt nc nl wk my) 4) nt + fz_sum ((fz_its V nt nc nl wk my) 12) nc)), (9, .int (nI n))]) hx hb dL_weeks_286 hl (by decide) rfl (fun ls hl => ?_)
          refine W.widen (k := (40 + 20 * n) + 2) (n := (240 + 120 * n) + 12) (by omega) (by omega) ?_
          refine lv_iload hx hb dL_weeks_288 (lv_at hl 0 rfl) ?_
          refine lv_if_eq (tgt := 317) hx hb dL_weeks_290 (by decide) (fun z9 => absurd z9 (by decide)) (fun _ => ?_)
          refine lv_aload_n hx hb dL_weeks_293 rfl (lv_at hl 1 rfl) ?_
          refine lv_bipush (v := 8) hx hb dL_weeks_294 (by decide) ?_
          refine pw_call (rest := []) (pt_whole hst J9 8 (by decide)) ⟨hx, hb, hml, hown, hts⟩ (vx_cwSW 2 hts gL_weeks_L_whole rfl rfl rfl (by decide +kernel) ⟨Nat.le_of_ble_eq_true rfl, Nat.le_of_ble_eq_true rfl⟩) hK hG hS hE.1 rfl hl.1 rfl (Nat.le_of_ble_eq_true rfl) dL_weeks_296 ⟨by show _ + 1 ≤ 200; omega, by show _ + 6 ≤ 1200; omega⟩ (fun H locs hG hS => ?_)
          refine fz_top (show _ = nI (wk + n) from J9.e0) ?_
          refine lv_bipush (v := 39) hx hb dL_weeks_299 (by decide) ?_
          refine lv_icmp_lt (tgt := 313) hx hb dL_weeks_301 (by decide) (fun c2 => ?_) (fun c2 => ?_)
          · skip
            refine lv_iconst (v := 1) hx hb dL_weeks_313 (by decide) ?_
            refine lv_goto (tgt := 318) hx hb dL_weeks_314 (by decide) ?_
            refine W.widen (k := 200) (n := 1200) (by omega) (by omega) ?_
            obtain ⟨Wn, h9, hP, hD⟩ := hG
            exact W.zret (v := 1) hx hb hr (by decide) (fun t9 ht9 hW9 => ⟨⟨_, Wn, rfl, ⟨⟨rfl, cm, wk + n, fz_its V nt nc nl wk n, J9.mono (by omega), h9⟩, hD⟩, fz_to ht9 hP⟩, hS.F ht9⟩) hS.2.2 dL_weeks_318
          · skip
            refine lv_aload_n hx hb dL_weeks_304 rfl (lv_at hl 1 rfl) ?_
            refine pw_call (rest := []) (pw_endWeek_IS hst J9.wf J9.zo (cl_no (V := (fz_its V nt nc nl wk n)) (fun z => c2 (nI_lt (b := 39) z (by omega))))) ⟨hx, hb, hml, hown, hts⟩ (vx_cwSW 1 hts gL_weeks_L_endWeek rfl rfl rfl (by decide +kernel) ⟨Nat.le_of_ble_eq_true rfl, Nat.le_of_ble_eq_true rfl⟩) hK hG hS hE.1 rfl hl.1 rfl (Nat.le_of_ble_eq_true rfl) dL_weeks_305 ⟨by show _ + 1 ≤ 200; omega, by show _ + 6 ≤ 1200; omega⟩ (fun H locs hG hS => ?_)
            refine lv_bipush (v := (-11)) hx hb dL_weeks_308 (by decide) ?_
            refine lv_icmp_ne (tgt := 317) hx hb dL_weeks_310 (by decide) (fun z9 => absurd z9 (by decide)) (fun _ => ?_)
            refine lv_iconst (v := 1) hx hb dL_weeks_313 (by decide) ?_
            refine lv_goto (tgt := 318) hx hb dL_weeks_314 (by decide) ?_
            refine W.widen (k := 200) (n := 1200) (by omega) (by omega) ?_
            obtain ⟨Wn, h9, hP, hD⟩ := hG
            exact W.zret (v := 1) hx hb hr (by decide) (fun t9 ht9 hW9 => ⟨⟨_, Wn, rfl, ⟨⟨rfl, cm, wk + n, fz_its V nt nc nl wk n, J9.mono (by omega), h9⟩, hD⟩, fz_to ht9 hP⟩, hS.F ht9⟩) hS.2.2 dL_weeks_318
        · skip
          have hw39 : wk + n < 39 := Nat.lt_of_not_le fun z => c8 ((nI_leI (a := 39) (by omega) (by omega)).mpr z)
          refine lv_iload hx hb dL_weeks_116 (lv_at hl 7 rfl) ?_
          refine lv_if_eq (tgt := 215) hx hb dL_weeks_118 (by decide) (fun z9 => absurd z9 (by decide)) (fun _ => ?_)
          skip
          · skip
            refine lv_iload hx hb dL_weeks_121 (lv_at hl 8 rfl) ?_
            refine lv_iload hx hb dL_weeks_123 (lv_at hl 4 rfl) ?_
            refine lv_icmp_ne (tgt := 132) hx hb dL_weeks_125 (by decide) (fun _ => ?_) (fun z9 => absurd z9 (sd_m1 (by omega)))
            refine lv_iconst (v := 0) hx hb dL_weeks_132 (by decide) ?_
            refine lv_aload_n hx hb dL_weeks_133 rfl (lv_at hl 0 rfl) ?_
            refine lv_iload_n hx hb dL_weeks_134 rfl (lv_at hl 1 rfl) ?_
            refine lv_iconst (v := 0) hx hb dL_weeks_135 (by decide) ?_
            refine pw_call (rest := [.int 0]) (pt_team hst J9 ti 0 ht (by decide)) ⟨hx, hb, hml, hown, hts⟩ (vx_cwSW 3 hts gL_weeks_L_team rfl rfl rfl (by decide +kernel) ⟨Nat.le_of_ble_eq_true rfl, Nat.le_of_ble_eq_true rfl⟩) hK hG hS hE.1 rfl hl.1 rfl (Nat.le_of_ble_eq_true rfl) dL_weeks_136 ⟨by show _ + 2 ≤ 200; omega, by show _ + 12 ≤ 1200; omega⟩ (fun H locs hG hS => ?_)
            refine fz_top (show _ = (fz_its V nt nc nl wk n) 4 ti from rfl) ?_
            refine lv_iload hx hb dL_weeks_139 (lv_at hl 5 rfl) ?_
            refine lv_icmp_lt (tgt := 167) hx hb dL_weeks_141 (by decide) (fun _ => ?_) (fun z9 => absurd (Int32.not_le.mp (hlt n (by omega) (by omega))) z9)
            refine lv_iconst (v := 0) hx hb dL_weeks_167 (by decide) ?_
            refine lv_icmp_eq (tgt := 183) hx hb dL_weeks_168 (by decide) (fun _ => ?_) (fun z9 => absurd (by decide) z9)
            refine lv_iconst (v := 1) hx hb dL_weeks_183 (by decide) ?_
            refine lv_goto (tgt := 188) hx hb dL_weeks_184 (by decide) ?_
            refine lv_istore (lv' := [(8, .int 1), (0, .ref (f 0)), (1, .int (nI ti)), (3, .int (nI my)), (4, .int (nI wk)), (5, .int (-1)), (6, .int (nI ri * V 1 0)), (7, .int (fz_sum ((fz_its V nt nc nl wk my) 4) nt + fz_sum ((fz_its V nt nc nl wk my) 12) nc)), (9, .int (nI n))]) hx hb dL_weeks_188 hl (by decide) rfl (fun ls hl => ?_)
            refine W.widen (k := (40 + 20 * n) + 3) (n := (240 + 120 * n) + 18) (by omega) (by omega) ?_
            refine lv_iload hx hb dL_weeks_190 (lv_at hl 0 rfl) ?_
            refine lv_if_eq (tgt := 206) hx hb dL_weeks_192 (by decide) (fun z9 => absurd z9 (by decide)) (fun _ => ?_)
            refine lv_aload_n hx hb dL_weeks_195 rfl (lv_at hl 1 rfl) ?_
            refine pw_call (rest := []) (pw_endWeek_t hst J9.wf J9.zo (cl_ok J9 (by omega) hw39).1) ⟨hx, hb, hml, hown, hts⟩ (vx_cwSW 1 hts gL_weeks_L_endWeek rfl rfl rfl (by decide +kernel) ⟨Nat.le_of_ble_eq_true rfl, Nat.le_of_ble_eq_true rfl⟩) hK hG hS hE.1 rfl hl.1 rfl (Nat.le_of_ble_eq_true rfl) dL_weeks_196 ⟨by show _ + 1 ≤ 200; omega, by show _ + 6 ≤ 1200; omega⟩ (fun H locs hG hS => ?_)
            refine fz_top (show _ = (fz_close (fz_its V nt nc nl wk n) nt nc nl (wk + n)).1 from rfl) ?_
            refine lv_if_lt (tgt := 206) hx hb dL_weeks_199 (by decide) (fun z9 => absurd z9 (Int32.not_lt.mpr (cl_ok J9 (by omega) hw39).2)) (fun _ => ?_)
            refine lv_iconst (v := 1) hx hb dL_weeks_202 (by decide) ?_
            refine lv_goto (tgt := 207) hx hb dL_weeks_203 (by decide) ?_
            refine lv_istore (lv' := [(8, .int 1), (0, .ref (f 0)), (1, .int (nI ti)), (3, .int (nI my)), (4, .int (nI wk)), (5, .int (-1)), (6, .int (nI ri * V 1 0)), (7, .int (fz_sum ((fz_its V nt nc nl wk my) 4) nt + fz_sum ((fz_its V nt nc nl wk my) 12) nc)), (9, .int (nI n))]) hx hb dL_weeks_207 hl (by decide) rfl (fun ls hl => ?_)
            refine W.widen (k := (40 + 20 * n) + 4) (n := (240 + 120 * n) + 24) (by omega) (by omega) ?_
            have hG : pG D A (pS cy f a t h x ad (hs_n cm) (fz_its V nt nc nl wk (n + 1)) L) H := hG
            refine lv_iinc (v := nI (n + 1)) (lv' := [(9, .int (nI (n + 1))), (8, .int 1), (0, .ref (f 0)), (1, .int (nI ti)), (3, .int (nI my)), (4, .int (nI wk)), (5, .int (-1)), (6, .int (nI ri * V 1 0)), (7, .int (fz_sum ((fz_its V nt nc nl wk my) 4) nt + fz_sum ((fz_its V nt nc nl wk my) 12) nc))]) hx hb dL_weeks_209 hl (k := 8) rfl (nI_add _ 1) (by decide) rfl (fun ls hl => ?_)
            refine lv_goto (tgt := 99) hx hb dL_weeks_212 (by decide) ?_
            have hl : lv_has ls 10 [(9, .int (nI (n + 1))), (8, .int 1), (0, .ref (f 0)), (1, .int (nI ti)), (3, .int (nI my)), (4, .int (nI wk)), (5, .int (-1)), (6, .int (nI ri * V 1 0)), (7, .int (fz_sum ((fz_its V nt nc nl wk my) 4) nt + fz_sum ((fz_its V nt nc nl wk my) 12) nc))] := hl
            refine W.widen (k := 40 + 20 * (n + 1)) (n := 240 + 120 * (n + 1)) (by omega) (by omega) ?_
            exact ih99 (n + 1, hs_n cm) (show ((n + 1) ≤ my) ∧ (wk + (n + 1) ≤ 39) from ⟨hnm, (by omega)⟩) (by show my - (n + 1) < my - n; omega) _ _ ls hG hS (lv_sub hl [2, 3, 4, 5, 6, 7, 8, 1, 0] rfl)
    · skip
      refine lv_aload_n hx hb dL_weeks_25 rfl (lv_at hl 3 rfl) ?_
      refine lv_iload_n hx hb dL_weeks_26 rfl (lv_at hl 6 rfl) ?_
      refine pw_call (rest := []) (pt_being hst J my (by omega)) ⟨hx, hb, hml, hown, hts⟩ (vx_cwSW 2 hts gL_weeks_L_inBeing rfl rfl rfl (by decide +kernel) ⟨Nat.le_of_ble_eq_true rfl, Nat.le_of_ble_eq_true rfl⟩) hK hG hS hE.1 rfl hl.1 rfl (Nat.le_of_ble_eq_true rfl) dL_weeks_27 ⟨by show _ + 1 ≤ 200; omega, by show _ + 6 ≤ 1200; omega⟩ (fun H locs hG hS => ?_)
      refine fz_top (show _ = (-1) from if_neg hm) ?_
      refine lv_istore (lv' := [(7, .int (-1)), (6, .int ((nI ri) * (V 1 0))), (5, .int (-1)), (4, .int (nI wk)), (0, .ref (f 0)), (1, .int (nI ti)), (2, .int (nI ri)), (3, .int (nI my))]) hx hb dL_weeks_30 hl (by decide) rfl (fun ls hl => ?_)
      refine W.widen (k := 5) (n := 30) (by omega) (by omega) ?_
      refine lv_iload hx hb dL_weeks_32 (lv_at hl 2 rfl) ?_
      refine lv_if_ne (tgt := 41) hx hb dL_weeks_34 (by decide) (fun _ => ?_) (fun z9 => absurd z9 (by decide))
      refine lv_iconst (v := 0) hx hb dL_weeks_41 (by decide) ?_
      refine lv_aload_n hx hb dL_weeks_42 rfl (lv_at hl 4 rfl) ?_
      refine lv_iload_n hx hb dL_weeks_43 rfl (lv_at hl 5 rfl) ?_
      refine lv_iconst (v := 0) hx hb dL_weeks_44 (by decide) ?_
      refine pw_call (rest := [.int 0]) (pt_team hst J ti 0 ht (by decide)) ⟨hx, hb, hml, hown, hts⟩ (vx_cwSW 3 hts gL_weeks_L_team rfl rfl rfl (by decide +kernel) ⟨Nat.le_of_ble_eq_true rfl, Nat.le_of_ble_eq_true rfl⟩) hK hG hS hE.1 rfl hl.1 rfl (Nat.le_of_ble_eq_true rfl) dL_weeks_45 ⟨by show _ + 2 ≤ 200; omega, by show _ + 12 ≤ 1200; omega⟩ (fun H locs hG hS => ?_)
      refine fz_top (show _ = V 4 ti from rfl) ?_
      refine lv_iload hx hb dL_weeks_48 (lv_at hl 1 rfl) ?_
      refine lv_icmp_lt (tgt := 57) hx hb dL_weeks_50 (by decide) (fun _ => ?_) (fun z9 => absurd (Int32.not_le.mp (hlt 0 (by omega) (by omega))) z9)
      refine lv_iconst (v := 0) hx hb dL_weeks_57 (by decide) ?_
      refine lv_icmp_ne (tgt := 93) hx hb dL_weeks_58 (by decide) (fun z9 => absurd z9 (by decide)) (fun _ => ?_)
      refine lv_iload hx hb dL_weeks_61 (lv_at hl 3 rfl) ?_
      refine lv_iload_n hx hb dL_weeks_63 rfl (lv_at hl 7 rfl) ?_
      refine lv_iadd hx hb dL_weeks_64 ?_
      refine lv_bipush (v := 39) hx hb dL_weeks_65 (by decide) ?_
      refine lv_icmp_le (tgt := 74) hx hb dL_weeks_67 (by decide) (fun z9 => absurd z9 (by rw [nI_add]; exact fun z => hm ((nI_leI (b := 39) (by omega) (by omega)).mp z))) (fun _ => ?_)
      refine lv_iconst (v := 1) hx hb dL_weeks_70 (by decide) ?_
      refine lv_goto (tgt := 75) hx hb dL_weeks_71 (by decide) ?_
      refine lv_iload hx hb dL_weeks_75 (lv_at hl 0 rfl) ?_
      refine lv_iconst (v := (-1)) hx hb dL_weeks_77 (by decide) ?_
      refine lv_icmp_ne (tgt := 85) hx hb dL_weeks_78 (by decide) (fun z9 => absurd z9 (by decide)) (fun _ => ?_)
      refine lv_iconst (v := 1) hx hb dL_weeks_81 (by decide) ?_
      refine lv_goto (tgt := 86) hx hb dL_weeks_82 (by decide) ?_
      refine lv_icmp_ne (tgt := 93) hx hb dL_weeks_86 (by decide) (fun z9 => absurd z9 (by decide)) (fun _ => ?_)
      refine lv_iconst (v := 1) hx hb dL_weeks_89 (by decide) ?_
      refine lv_goto (tgt := 94) hx hb dL_weeks_90 (by decide) ?_
      refine lv_istore (lv' := [(8, .int 1), (7, .int (-1)), (6, .int ((nI ri) * (V 1 0))), (5, .int (-1)), (4, .int (nI wk)), (0, .ref (f 0)), (1, .int (nI ti)), (2, .int (nI ri)), (3, .int (nI my))]) hx hb dL_weeks_94 hl (by decide) rfl (fun ls hl => ?_)
      refine W.widen (k := 7) (n := 42) (by omega) (by omega) ?_
      refine lv_iconst (v := 0) hx hb dL_weeks_96 (by decide) ?_
      refine lv_istore (lv' := [(9, .int 0), (8, .int 1), (7, .int (-1)), (6, .int ((nI ri) * (V 1 0))), (5, .int (-1)), (4, .int (nI wk)), (0, .ref (f 0)), (1, .int (nI ti)), (2, .int (nI ri)), (3, .int (nI my))]) hx hb dL_weeks_97 hl (by decide) rfl (fun ls hl => ?_)
      have hl : lv_has ls 10 [(9, .int (nI 0)), (8, .int 1), (7, .int (-1)), (6, .int (nI ri * V 1 0)), (5, .int (-1)), (4, .int (nI wk)), (0, .ref (f 0)), (1, .int (nI ti)), (2, .int (nI ri)), (3, .int (nI my))] := hl
      refine W.widen (k := 40 + 20 * 0) (n := 240 + 120 * 0) (by omega) (by omega) ?_
      refine pw_loop (σ := Nat × Nat) (pc := 99) (nL := 10) (rest := []) (fun x9 => match x9 with | (n, cm) => [(0, .ref (f 0)), (1, .int (nI ti)), (3, .int (nI my)), (4, .int (nI wk)), (5, .int (-1)), (6, .int (nI ri * V 1 0)), (7, .int (-1)), (8, .int 1), (9, .int (nI n))]) (fun x9 => match x9 with | (n, cm) => pS cy f a t h x ad cm (fz_its V nt nc nl wk n) L) (fun x9 => match x9 with | (n, cm) => (n ≤ my) ∧ (wk + n ≤ 39)) (fun x9 => match x9 with | (n, cm) => my - n) (fun x9 => match x9 with | (n, cm) => 40 + 20 * n) (fun x9 => match x9 with | (n, cm) => 240 + 120 * n) ?_ (0, cn) (show (0 ≤ my) ∧ (wk + 0 ≤ 39) from ⟨(Nat.zero_le _), (by omega)⟩) _ _ ls hG hS (lv_sub hl [6, 7, 9, 5, 4, 3, 2, 1, 0] rfl)
      rintro ⟨n, cm⟩ ⟨hn, hwn⟩ ih99 H locs ls hG hS hl
      have hn : n ≤ my := hn
      have hwn : wk + n ≤ 39 := hwn
      have hG : pG D A (pS cy f a t h x ad cm (fz_its V nt nc nl wk n) L) H := hG
      have hl : lv_has ls 10 [(0, .ref (f 0)), (1, .int (nI ti)), (3, .int (nI my)), (4, .int (nI wk)), (5, .int (-1)), (6, .int (nI ri * V 1 0)), (7, .int (-1)), (8, .int 1), (9, .int (nI n))] := hl
      show W _ _ _ _ _ _ _ _ _ _ _ _ (40 + 20 * n) (240 + 120 * n) _ _
      have J9 := its_J J (by omega) n hwn
      refine lv_iload hx hb dL_weeks_99 (lv_at hl 8 rfl) ?_
      refine lv_iload_n hx hb dL_weeks_101 rfl (lv_at hl 2 rfl) ?_
      refine lv_icmp_ge (tgt := 215) hx hb dL_weeks_102 (by decide) (fun c9 => ?_) (fun c9 => ?_)
      · skip
        have e9 : n = my := by have := (nI_leI (by omega) (by omega)).mp c9; omega
        exact absurd (by omega : wk + my ≤ 39) hm
      · skip
        have hnm : n < my := Nat.lt_of_not_le fun z => c9 ((nI_leI (by omega) (by omega)).mpr z)
        refine lv_aload_n hx hb dL_weeks_105 rfl (lv_at hl 0 rfl) ?_
        refine lv_bipush (v := 8) hx hb dL_weeks_106 (by decide) ?_
        refine pw_call (rest := []) (pt_whole hst J9 8 (by decide)) ⟨hx, hb, hml, hown, hts⟩ (vx_cwSW 2 hts gL_weeks_L_whole rfl rfl rfl (by decide +kernel) ⟨Nat.le_of_ble_eq_true rfl, Nat.le_of_ble_eq_true rfl⟩) hK hG hS hE.1 rfl hl.1 rfl (Nat.le_of_ble_eq_true rfl) dL_weeks_108 ⟨by show _ + 1 ≤ 200; omega, by show _ + 6 ≤ 1200; omega⟩ (fun H locs hG hS => ?_)
        refine fz_top (show _ = nI (wk + n) from J9.e0) ?_
        refine lv_bipush (v := 39) hx hb dL_weeks_111 (by decide) ?_
        refine lv_icmp_ge (tgt := 215) hx hb dL_weeks_113 (by decide) (fun c8 => ?_) (fun c8 => ?_)
        · skip
          have e8 : wk + n = 39 := by have := (nI_leI (a := 39) (by omega) (by omega)).mp c8; omega
          refine lv_iload hx hb dL_weeks_215 (lv_at hl 7 rfl) ?_
          refine lv_if_eq (tgt := 285) hx hb dL_weeks_217 (by decide) (fun z9 => absurd z9 (by decide)) (fun _ => ?_)
          refine lv_aload_n hx hb dL_weeks_220 rfl (lv_at hl 0 rfl) ?_
          refine lv_bipush (v := 8) hx hb dL_weeks_221 (by decide) ?_
          refine pw_call (rest := []) (pt_whole hst J9 8 (by decide)) ⟨hx, hb, hml, hown, hts⟩ (vx_cwSW 2 hts gL_weeks_L_whole rfl rfl rfl (by decide +kernel) ⟨Nat.le_of_ble_eq_true rfl, Nat.le_of_ble_eq_true rfl⟩) hK hG hS hE.1 rfl hl.1 rfl (Nat.le_of_ble_eq_true rfl) dL_weeks_223 ⟨by show _ + 1 ≤ 200; omega, by show _ + 6 ≤ 1200; omega⟩ (fun H locs hG hS => ?_)
          refine fz_top (show _ = nI (wk + n) from J9.e0) ?_
          refine lv_iload hx hb dL_weeks_226 (lv_at hl 3 rfl) ?_
          refine lv_iload hx hb dL_weeks_228 (lv_at hl 8 rfl) ?_
          refine lv_iadd hx hb dL_weeks_230 ?_
          refine lv_icmp_ne (tgt := 285) hx hb dL_weeks_231 (by decide) (fun z9 => absurd z9 (not_not_p (nI_add wk n).symm)) (fun _ => ?_)
          refine lv_iload hx hb dL_weeks_234 (lv_at hl 8 rfl) ?_
          refine lv_iload_n hx hb dL_weeks_236 rfl (lv_at hl 2 rfl) ?_
          refine lv_icmp_lt (tgt := 258) hx hb dL_weeks_237 (by decide) (fun _ => ?_) (fun z9 => absurd (nI_lt hnm (by omega)) z9)
          refine lv_iload hx hb dL_weeks_258 (lv_at hl 4 rfl) ?_
          refine lv_if_lt (tgt := 281) hx hb dL_weeks_260 (by decide) (fun _ => ?_) (fun z9 => absurd (by decide) z9)
          refine lv_iconst (v := 1) hx hb dL_weeks_281 (by decide) ?_
          refine lv_goto (tgt := 286) hx hb dL_weeks_282 (by decide) ?_
          refine lv_istore (lv' := [(8, .int 1), (0, .ref (f 0)), (1, .int (nI ti)), (3, .int (nI my)), (4, .int (nI wk)), (5, .int (-1)), (6, .int (nI ri * V 1 0)), (7, .int (-1)), (9, .int (nI n))]) hx hb dL_weeks_286 hl (by decide) rfl (fun ls hl => ?_)
          refine W.widen (k := (40 + 20 * n) + 2) (n := (240 + 120 * n) + 12) (by omega) (by omega) ?_
          refine lv_iload hx hb dL_weeks_288 (lv_at hl 0 rfl) ?_
          refine lv_if_eq (tgt := 317) hx hb dL_weeks_290 (by decide) (fun z9 => absurd z9 (by decide)) (fun _ => ?_)
          refine lv_aload_n hx hb dL_weeks_293 rfl (lv_at hl 1 rfl) ?_
          refine lv_bipush (v := 8) hx hb dL_weeks_294 (by decide) ?_
          refine pw_call (rest := []) (pt_whole hst J9 8 (by decide)) ⟨hx, hb, hml, hown, hts⟩ (vx_cwSW 2 hts gL_weeks_L_whole rfl rfl rfl (by decide +kernel) ⟨Nat.le_of_ble_eq_true rfl, Nat.le_of_ble_eq_true rfl⟩) hK hG hS hE.1 rfl hl.1 rfl (Nat.le_of_ble_eq_true rfl) dL_weeks_296 ⟨by show _ + 1 ≤ 200; omega, by show _ + 6 ≤ 1200; omega⟩ (fun H locs hG hS => ?_)
          refine fz_top (show _ = nI (wk + n) from J9.e0) ?_
          refine lv_bipush (v := 39) hx hb dL_weeks_299 (by decide) ?_
          refine lv_icmp_lt (tgt := 313) hx hb dL_weeks_301 (by decide) (fun c2 => ?_) (fun c2 => ?_)
          · skip
            refine lv_iconst (v := 1) hx hb dL_weeks_313 (by decide) ?_
            refine lv_goto (tgt := 318) hx hb dL_weeks_314 (by decide) ?_
            refine W.widen (k := 200) (n := 1200) (by omega) (by omega) ?_
            obtain ⟨Wn, h9, hP, hD⟩ := hG
            exact W.zret (v := 1) hx hb hr (by decide) (fun t9 ht9 hW9 => ⟨⟨_, Wn, rfl, ⟨⟨rfl, cm, wk + n, fz_its V nt nc nl wk n, J9.mono (by omega), h9⟩, hD⟩, fz_to ht9 hP⟩, hS.F ht9⟩) hS.2.2 dL_weeks_318
          · skip
            refine lv_aload_n hx hb dL_weeks_304 rfl (lv_at hl 1 rfl) ?_
            refine pw_call (rest := []) (pw_endWeek_IS hst J9.wf J9.zo (cl_no (V := (fz_its V nt nc nl wk n)) (fun z => c2 (nI_lt (b := 39) z (by omega))))) ⟨hx, hb, hml, hown, hts⟩ (vx_cwSW 1 hts gL_weeks_L_endWeek rfl rfl rfl (by decide +kernel) ⟨Nat.le_of_ble_eq_true rfl, Nat.le_of_ble_eq_true rfl⟩) hK hG hS hE.1 rfl hl.1 rfl (Nat.le_of_ble_eq_true rfl) dL_weeks_305 ⟨by show _ + 1 ≤ 200; omega, by show _ + 6 ≤ 1200; omega⟩ (fun H locs hG hS => ?_)
            refine lv_bipush (v := (-11)) hx hb dL_weeks_308 (by decide) ?_
            refine lv_icmp_ne (tgt := 317) hx hb dL_weeks_310 (by decide) (fun z9 => absurd z9 (by decide)) (fun _ => ?_)
            refine lv_iconst (v := 1) hx hb dL_weeks_313 (by decide) ?_
            refine lv_goto (tgt := 318) hx hb dL_weeks_314 (by decide) ?_
            refine W.widen (k := 200) (n := 1200) (by omega) (by omega) ?_
            obtain ⟨Wn, h9, hP, hD⟩ := hG
            exact W.zret (v := 1) hx hb hr (by decide) (fun t9 ht9 hW9 => ⟨⟨_, Wn, rfl, ⟨⟨rfl, cm, wk + n, fz_its V nt nc nl wk n, J9.mono (by omega), h9⟩, hD⟩, fz_to ht9 hP⟩, hS.F ht9⟩) hS.2.2 dL_weeks_318
        · skip
          have hw39 : wk + n < 39 := Nat.lt_of_not_le fun z => c8 ((nI_leI (a := 39) (by omega) (by omega)).mpr z)
          refine lv_iload hx hb dL_weeks_116 (lv_at hl 7 rfl) ?_
          refine lv_if_eq (tgt := 215) hx hb dL_weeks_118 (by decide) (fun z9 => absurd z9 (by decide)) (fun _ => ?_)
          skip
          · skip
            refine lv_iload hx hb dL_weeks_121 (lv_at hl 8 rfl) ?_
            refine lv_iload hx hb dL_weeks_123 (lv_at hl 4 rfl) ?_
            refine lv_icmp_ne (tgt := 132) hx hb dL_weeks_125 (by decide) (fun _ => ?_) (fun z9 => absurd z9 (sd_m1 (by omega)))
            refine lv_iconst (v := 0) hx hb dL_weeks_132 (by decide) ?_
            refine lv_aload_n hx hb dL_weeks_133 rfl (lv_at hl 0 rfl) ?_
            refine lv_iload_n hx hb dL_weeks_134 rfl (lv_at hl 1 rfl) ?_
            refine lv_iconst (v := 0) hx hb dL_weeks_135 (by decide) ?_
            refine pw_call (rest := [.int 0]) (pt_team hst J9 ti 0 ht (by decide)) ⟨hx, hb, hml, hown, hts⟩ (vx_cwSW 3 hts gL_weeks_L_team rfl rfl rfl (by decide +kernel) ⟨Nat.le_of_ble_eq_true rfl, Nat.le_of_ble_eq_true rfl⟩) hK hG hS hE.1 rfl hl.1 rfl (Nat.le_of_ble_eq_true rfl) dL_weeks_136 ⟨by show _ + 2 ≤ 200; omega, by show _ + 12 ≤ 1200; omega⟩ (fun H locs hG hS => ?_)
            refine fz_top (show _ = (fz_its V nt nc nl wk n) 4 ti from rfl) ?_
            refine lv_iload hx hb dL_weeks_139 (lv_at hl 5 rfl) ?_
            refine lv_icmp_lt (tgt := 167) hx hb dL_weeks_141 (by decide) (fun _ => ?_) (fun z9 => absurd (Int32.not_le.mp (hlt n (by omega) (by omega))) z9)
            refine lv_iconst (v := 0) hx hb dL_weeks_167 (by decide) ?_
            refine lv_icmp_eq (tgt := 183) hx hb dL_weeks_168 (by decide) (fun _ => ?_) (fun z9 => absurd (by decide) z9)
            refine lv_iconst (v := 1) hx hb dL_weeks_183 (by decide) ?_
            refine lv_goto (tgt := 188) hx hb dL_weeks_184 (by decide) ?_
            refine lv_istore (lv' := [(8, .int 1), (0, .ref (f 0)), (1, .int (nI ti)), (3, .int (nI my)), (4, .int (nI wk)), (5, .int (-1)), (6, .int (nI ri * V 1 0)), (7, .int (-1)), (9, .int (nI n))]) hx hb dL_weeks_188 hl (by decide) rfl (fun ls hl => ?_)
            refine W.widen (k := (40 + 20 * n) + 3) (n := (240 + 120 * n) + 18) (by omega) (by omega) ?_
            refine lv_iload hx hb dL_weeks_190 (lv_at hl 0 rfl) ?_
            refine lv_if_eq (tgt := 206) hx hb dL_weeks_192 (by decide) (fun z9 => absurd z9 (by decide)) (fun _ => ?_)
            refine lv_aload_n hx hb dL_weeks_195 rfl (lv_at hl 1 rfl) ?_
            refine pw_call (rest := []) (pw_endWeek_t hst J9.wf J9.zo (cl_ok J9 (by omega) hw39).1) ⟨hx, hb, hml, hown, hts⟩ (vx_cwSW 1 hts gL_weeks_L_endWeek rfl rfl rfl (by decide +kernel) ⟨Nat.le_of_ble_eq_true rfl, Nat.le_of_ble_eq_true rfl⟩) hK hG hS hE.1 rfl hl.1 rfl (Nat.le_of_ble_eq_true rfl) dL_weeks_196 ⟨by show _ + 1 ≤ 200; omega, by show _ + 6 ≤ 1200; omega⟩ (fun H locs hG hS => ?_)
            refine fz_top (show _ = (fz_close (fz_its V nt nc nl wk n) nt nc nl (wk + n)).1 from rfl) ?_
            refine lv_if_lt (tgt := 206) hx hb dL_weeks_199 (by decide) (fun z9 => absurd z9 (Int32.not_lt.mpr (cl_ok J9 (by omega) hw39).2)) (fun _ => ?_)
            refine lv_iconst (v := 1) hx hb dL_weeks_202 (by decide) ?_
            refine lv_goto (tgt := 207) hx hb dL_weeks_203 (by decide) ?_
            refine lv_istore (lv' := [(8, .int 1), (0, .ref (f 0)), (1, .int (nI ti)), (3, .int (nI my)), (4, .int (nI wk)), (5, .int (-1)), (6, .int (nI ri * V 1 0)), (7, .int (-1)), (9, .int (nI n))]) hx hb dL_weeks_207 hl (by decide) rfl (fun ls hl => ?_)
            refine W.widen (k := (40 + 20 * n) + 4) (n := (240 + 120 * n) + 24) (by omega) (by omega) ?_
            have hG : pG D A (pS cy f a t h x ad (hs_n cm) (fz_its V nt nc nl wk (n + 1)) L) H := hG
            refine lv_iinc (v := nI (n + 1)) (lv' := [(9, .int (nI (n + 1))), (8, .int 1), (0, .ref (f 0)), (1, .int (nI ti)), (3, .int (nI my)), (4, .int (nI wk)), (5, .int (-1)), (6, .int (nI ri * V 1 0)), (7, .int (-1))]) hx hb dL_weeks_209 hl (k := 8) rfl (nI_add _ 1) (by decide) rfl (fun ls hl => ?_)
            refine lv_goto (tgt := 99) hx hb dL_weeks_212 (by decide) ?_
            have hl : lv_has ls 10 [(9, .int (nI (n + 1))), (8, .int 1), (0, .ref (f 0)), (1, .int (nI ti)), (3, .int (nI my)), (4, .int (nI wk)), (5, .int (-1)), (6, .int (nI ri * V 1 0)), (7, .int (-1))] := hl
            refine W.widen (k := 40 + 20 * (n + 1)) (n := 240 + 120 * (n + 1)) (by omega) (by omega) ?_
            exact ih99 (n + 1, hs_n cm) (show ((n + 1) ≤ my) ∧ (wk + (n + 1) ≤ 39) from ⟨hnm, (by omega)⟩) (by show my - (n + 1) < my - n; omega) _ _ ls hG hS (lv_sub hl [2, 3, 4, 5, 6, 7, 8, 1, 0] rfl)
