set_option maxHeartbeats 4000000 in
set_option maxRecDepth 100000 in
theorem m_exempts {l : Launch} {D : va_G} {cy : Nat → ClassId} {A : Nat → Prop} {f a t h x ad adK adV : Nat → Nat} {cn : Nat} {V : Nat → Nat → Int32} {L : List Int32} {nt nc nq nl wk B : Nat} (hst : l.stackTraces = false) (J : pJ V nt nc nq nl wk B) (hB : B < 1000000000) {ti : Nat} (ht : ti < nt) : pm_M l yL_exempts wsL_exempts 9 151 1300 7800 D cy A (pE ad adK adV A) [.ref (f 0), .int (nI ti)] (pS cy f a t h x ad cn V L) (fun r W9 => r = 1 ∧ ∃ (cm : Nat) (U : Nat → Nat → Int32), pJ U nt nc nq nl wk (B + 400000) ∧ pS cy f a t h x ad cm U L W9) := by
  refine Met.ofW (cc := cL_exempts) (maxL := 12) (ret := (some .boolean)) (by decide) rfl ?_
  intro p e s m args below meth c s₁ B9 hml hv
  obtain ⟨rfl, hG, hK, hE⟩ := hv
  have hx := B9.exec
  have hb := B9.bytes
  have hr := B9.returns
  have hts := atoms_spec (ws := wsL_exempts) B9.pre
  have hown : s.vm.findClass RL = some m.cls := findClass_of_methodNamed B9.named
  have hlocks := B9.notSynchronized
  have hS : va_S A s.heap s.heap [] := va_S.rf
  have hl := lv_entry ([.ref (f 0), .int (nI ti)]) (n := 12) (Nat.le_of_ble_eq_true rfl)
  rw [lg_entry_eq]
  generalize (lg_sl ([.ref (f 0), .int (nI ti)]) ++ List.replicate (12 - (lg_sl ([.ref (f 0), .int (nI ti)])).length) Slot.unset).toArray = ls at hl ⊢
  have hl : lv_has ls 12 [(0, .ref (f 0)), (1, .int (nI ti))] := hl
  have h6 := J.nt6
  have h30 := J.nc30
  have hqc := J.nqc
  have h12 := J.nl12
  have h39 := J.wk39
  refine lv_aload_n hx hb dL_exempts_0 rfl (lv_at hl 0 rfl) ?_
  refine lv_iload_n hx hb dL_exempts_1 rfl (lv_at hl 1 rfl) ?_
  refine pw_call (rest := []) (pt_xc hst J ti ht) ⟨hx, hb, hml, hown, hts⟩ (vx_cwSW 2 hts gL_exempts_L_exemptible rfl rfl rfl (by decide +kernel) ⟨Nat.le_of_ble_eq_true rfl, Nat.le_of_ble_eq_true rfl⟩) hK hG hS hE.1 rfl hl.1 rfl (Nat.le_of_ble_eq_true rfl) dL_exempts_2 ⟨by show _ + 1 ≤ 1300; omega, by show _ + 6 ≤ 7800; omega⟩ (fun H locs hG hS => ?_)
  refine fz_top (show _ = fz_xc V nl nq ti from rfl) ?_
  refine lv_istore_n (lv' := [(2, .int (fz_xc V nl nq ti)), (0, .ref (f 0)), (1, .int (nI ti))]) hx hb dL_exempts_5 rfl hl (by decide) rfl (fun ls hl => ?_)
  refine W.widen (k := 1) (n := 6) (by omega) (by omega) ?_
  refine lv_iconst (v := 0) hx hb dL_exempts_6 (by decide) ?_
  refine lv_istore_n (lv' := [(3, .int 0), (2, .int (fz_xc V nl nq ti)), (0, .ref (f 0)), (1, .int (nI ti))]) hx hb dL_exempts_7 rfl hl (by decide) rfl (fun ls hl => ?_)
  refine lv_iconst (v := 1) hx hb dL_exempts_8 (by decide) ?_
  refine lv_istore (lv' := [(4, .int 1), (3, .int 0), (2, .int (fz_xc V nl nq ti)), (0, .ref (f 0)), (1, .int (nI ti))]) hx hb dL_exempts_9 hl (by decide) rfl (fun ls hl => ?_)
  refine lv_iconst (v := 0) hx hb dL_exempts_11 (by decide) ?_
  refine lv_istore (lv' := [(5, .int 0), (4, .int 1), (3, .int 0), (2, .int (fz_xc V nl nq ti)), (0, .ref (f 0)), (1, .int (nI ti))]) hx hb dL_exempts_12 hl (by decide) rfl (fun ls hl => ?_)
  refine lv_iconst (v := 0) hx hb dL_exempts_14 (by decide) ?_
  refine lv_istore (lv' := [(6, .int 0), (5, .int 0), (4, .int 1), (3, .int 0), (2, .int (fz_xc V nl nq ti)), (0, .ref (f 0)), (1, .int (nI ti))]) hx hb dL_exempts_15 hl (by decide) rfl (fun ls hl => ?_)
  have hl : lv_has ls 12 [(6, .int (nI 0)), (5, .int (fz_b false)), (4, .int 1), (3, .int (nI 0)), (2, .int (fz_xc V nl nq ti)), (0, .ref (f 0)), (1, .int (nI ti))] := hl
  refine W.widen (k := 10 + 40 * 0) (n := 60 + 240 * 0) (by omega) (by omega) ?_
  refine pw_loop (σ := Nat × Nat × Bool × Nat × (Nat → Nat → Int32)) (pc := 17) (nL := 12) (rest := []) (fun x9 => match x9 with | (k, n, sb, cm, U) => [(0, .ref (f 0)), (1, .int (nI ti)), (2, .int (fz_xc V nl nq ti)), (3, .int (nI n)), (4, .int 1), (5, .int (fz_b sb)), (6, .int (nI k))]) (fun x9 => match x9 with | (k, n, sb, cm, U) => pS cy f a t h x ad cm U L) (fun x9 => match x9 with | (k, n, sb, cm, U) => (k ≤ 30) ∧ (pJ U nt nc nq nl wk (B + 6600 * k)) ∧ (fz_xc V nl nq ti = bif sb then nI n else xg U nl nq ti k n)) (fun x9 => match x9 with | (k, n, sb, cm, U) => 30 - k) (fun x9 => match x9 with | (k, n, sb, cm, U) => 10 + 40 * k) (fun x9 => match x9 with | (k, n, sb, cm, U) => 60 + 240 * k) ?_ (0, 0, false, cn, V) (show (0 ≤ 30) ∧ (pJ V nt nc nq nl wk (B + 6600 * 0)) ∧ (fz_xc V nl nq ti = bif false then nI 0 else xg V nl nq ti 0 0) from ⟨(Nat.zero_le _), (J.mono (by omega)), (xg_0 ti)⟩) _ _ ls hG hS (lv_sub hl [5, 6, 4, 3, 2, 1, 0] rfl)
  rintro ⟨k, n, sb, cm, U⟩ ⟨hk, J9, hn⟩ ih17 H locs ls hG hS hl
  have hk : k ≤ 30 := hk
  have J9 : pJ U nt nc nq nl wk (B + 6600 * k) := J9
  have hn : fz_xc V nl nq ti = bif sb then nI n else xg U nl nq ti k n := hn
  have hG : pG D A (pS cy f a t h x ad cm U L) H := hG
  have hl : lv_has ls 12 [(0, .ref (f 0)), (1, .int (nI ti)), (2, .int (fz_xc V nl nq ti)), (3, .int (nI n)), (4, .int 1), (5, .int (fz_b sb)), (6, .int (nI k))] := hl
  show W _ _ _ _ _ _ _ _ _ _ _ _ (10 + 40 * k) (60 + 240 * k) _ _
  refine lv_iload hx hb dL_exempts_17 (lv_at hl 6 rfl) ?_
  refine lv_bipush (v := 30) hx hb dL_exempts_19 (by decide) ?_
  refine lv_icmp_ge (tgt := 235) hx hb dL_exempts_21 (by decide) (fun c9 => ?_) (fun c9 => ?_)
  · skip
    have hend : nI n = fz_xc V nl nq ti := by
      rw [hn]
      cases sb with
      | true => rfl
      | false => exact (xg_end (by have := (nI_leI (a := 30) (b := k) (by omega) (by omega)).mp c9; omega)).symm
    refine lv_iload hx hb dL_exempts_235 (lv_at hl 4 rfl) ?_
    refine lv_if_eq (tgt := 249) hx hb dL_exempts_237 (by decide) (fun z9 => absurd z9 (by decide)) (fun _ => ?_)
    refine lv_iload_n hx hb dL_exempts_240 rfl (lv_at hl 3 rfl) ?_
    refine lv_iload_n hx hb dL_exempts_241 rfl (lv_at hl 2 rfl) ?_
    refine lv_icmp_ne (tgt := 249) hx hb dL_exempts_242 (by decide) (fun z9 => absurd z9 (not_not_p hend)) (fun _ => ?_)
    refine lv_iconst (v := 1) hx hb dL_exempts_245 (by decide) ?_
    refine lv_goto (tgt := 250) hx hb dL_exempts_246 (by decide) ?_
    refine W.widen (k := 1300) (n := 7800) (by omega) (by omega) ?_
    obtain ⟨Wn, h9, hP, hD⟩ := hG
    exact W.zret (v := 1) hx hb hr (by decide) (fun t9 ht9 hW9 => ⟨⟨_, Wn, rfl, ⟨⟨rfl, cm, U, J9.mono (by omega), h9⟩, hD⟩, fz_to ht9 hP⟩, hS.F ht9⟩) hS.2.2 dL_exempts_250
  · skip
    have hk30 : k < 30 := Nat.lt_of_not_le fun z => c9 ((nI_leI (a := 30) (by omega) (by omega)).mpr z)
    refine lv_iload hx hb dL_exempts_24 (lv_at hl 4 rfl) ?_
    refine lv_if_eq (tgt := 235) hx hb dL_exempts_26 (by decide) (fun z9 => absurd z9 (by decide)) (fun _ => ?_)
    refine lv_iload hx hb dL_exempts_29 (lv_at hl 5 rfl) ?_
    refine lv_if_ne (tgt := 235) hx hb dL_exempts_31 (by decide) (fun c8 => ?_) (fun c8 => ?_)
    · skip
      have hsb : sb = true := by cases sb with | true => rfl | false => exact absurd rfl c8
      have hend : nI n = fz_xc V nl nq ti := by
        rw [hn, hsb]
        rfl
      refine lv_iload hx hb dL_exempts_235 (lv_at hl 4 rfl) ?_
      refine lv_if_eq (tgt := 249) hx hb dL_exempts_237 (by decide) (fun z9 => absurd z9 (by decide)) (fun _ => ?_)
      refine lv_iload_n hx hb dL_exempts_240 rfl (lv_at hl 3 rfl) ?_
      refine lv_iload_n hx hb dL_exempts_241 rfl (lv_at hl 2 rfl) ?_
      refine lv_icmp_ne (tgt := 249) hx hb dL_exempts_242 (by decide) (fun z9 => absurd z9 (not_not_p hend)) (fun _ => ?_)
      refine lv_iconst (v := 1) hx hb dL_exempts_245 (by decide) ?_
      refine lv_goto (tgt := 250) hx hb dL_exempts_246 (by decide) ?_
      refine W.widen (k := 1300) (n := 7800) (by omega) (by omega) ?_
      obtain ⟨Wn, h9, hP, hD⟩ := hG
      exact W.zret (v := 1) hx hb hr (by decide) (fun t9 ht9 hW9 => ⟨⟨_, Wn, rfl, ⟨⟨rfl, cm, U, J9.mono (by omega), h9⟩, hD⟩, fz_to ht9 hP⟩, hS.F ht9⟩) hS.2.2 dL_exempts_250
    · skip
      have hsb : sb = false := fz_b_0 c8
      subst hsb
      have hl : lv_has ls 12 [(0, .ref (f 0)), (1, .int (nI ti)), (2, .int (fz_xc V nl nq ti)), (3, .int (nI n)), (4, .int 1), (5, .int (fz_b false)), (6, .int (nI k))] := hl
      by_cases hq : k < nq
      · skip
        obtain ⟨i9, hi9, ei9, -⟩ := sd_at J9 hq
        refine lv_aload_n hx hb dL_exempts_34 rfl (lv_at hl 0 rfl) ?_
        refine lv_iload hx hb dL_exempts_35 (lv_at hl 6 rfl) ?_
        refine pw_call (rest := []) (pt_waiting hst J9 k (by omega)) ⟨hx, hb, hml, hown, hts⟩ (vx_cwSW 2 hts gL_exempts_L_waiting rfl rfl rfl (by decide +kernel) ⟨Nat.le_of_ble_eq_true rfl, Nat.le_of_ble_eq_true rfl⟩) hK hG hS hE.1 rfl hl.1 rfl (Nat.le_of_ble_eq_true rfl) dL_exempts_37 ⟨by show _ + 1 ≤ 1300; omega, by show _ + 6 ≤ 7800; omega⟩ (fun H locs hG hS => ?_)
        refine fz_top (show _ = nI i9 from (if_pos hq).trans ei9) ?_
        refine lv_istore (lv' := [(7, .int (nI i9)), (0, .ref (f 0)), (1, .int (nI ti)), (2, .int (fz_xc V nl nq ti)), (3, .int (nI n)), (4, .int 1), (5, .int (fz_b false)), (6, .int (nI k))]) hx hb dL_exempts_40 hl (by decide) rfl (fun ls hl => ?_)
        refine W.widen (k := (10 + 40 * k) + 1) (n := (60 + 240 * k) + 6) (by omega) (by omega) ?_
        refine lv_iload hx hb dL_exempts_42 (lv_at hl 0 rfl) ?_
        refine lv_if_ge (tgt := 53) hx hb dL_exempts_44 (by decide) (fun _ => ?_) (fun z9 => absurd (nI_pos' (n := i9) (by omega)) z9)
        refine lv_aload_n hx hb dL_exempts_53 rfl (lv_at hl 1 rfl) ?_
        refine lv_iload hx hb dL_exempts_54 (lv_at hl 0 rfl) ?_
        refine lv_iconst (v := 0) hx hb dL_exempts_56 (by decide) ?_
        refine pw_call (rest := []) (pt_change hst J9 i9 0 hi9 (by decide)) ⟨hx, hb, hml, hown, hts⟩ (vx_cwSW 3 hts gL_exempts_L_change rfl rfl rfl (by decide +kernel) ⟨Nat.le_of_ble_eq_true rfl, Nat.le_of_ble_eq_true rfl⟩) hK hG hS hE.1 rfl hl.1 rfl (Nat.le_of_ble_eq_true rfl) dL_exempts_57 ⟨by show _ + 2 ≤ 1300; omega, by show _ + 12 ≤ 7800; omega⟩ (fun H locs hG hS => ?_)
        refine fz_top (show _ = U 9 i9 from rfl) ?_
        refine lv_iload_n hx hb dL_exempts_60 rfl (lv_at hl 2 rfl) ?_
        refine lv_icmp_ne (tgt := 229) hx hb dL_exempts_61 (by decide) (fun c7 => ?_) (fun c7 => ?_)
        · skip
          refine lv_iinc (v := nI (k + 1)) (lv' := [(6, .int (nI (k + 1))), (7, .int (nI i9)), (0, .ref (f 0)), (1, .int (nI ti)), (2, .int (fz_xc V nl nq ti)), (3, .int (nI n)), (4, .int 1), (5, .int (fz_b false))]) hx hb dL_exempts_229 hl (k := 7) rfl (nI_add _ 1) (by decide) rfl (fun ls hl => ?_)
          refine lv_goto (tgt := 17) hx hb dL_exempts_232 (by decide) ?_
          have hl : lv_has ls 12 [(6, .int (nI (k + 1))), (7, .int (nI i9)), (0, .ref (f 0)), (1, .int (nI ti)), (2, .int (fz_xc V nl nq ti)), (3, .int (nI n)), (4, .int 1), (5, .int (fz_b false))] := hl
          refine W.widen (k := 10 + 40 * (k + 1)) (n := 60 + 240 * (k + 1)) (by omega) (by omega) ?_
          exact ih17 (k + 1, n, false, cm, U) (show ((k + 1) ≤ 30) ∧ (pJ U nt nc nq nl wk (B + 6600 * (k + 1))) ∧ (fz_xc V nl nq ti = bif false then nI n else xg U nl nq ti (k + 1) n) from ⟨hk30, (J9.mono (by omega)), (hn.trans (xg_skip hq ei9 (by omega) (Or.inl c7)))⟩) (by show 30 - (k + 1) < 30 - k; omega) _ _ ls hG hS (lv_sub hl [2, 3, 4, 5, 6, 7, 0] rfl)
        · skip
          refine lv_aload_n hx hb dL_exempts_64 rfl (lv_at hl 1 rfl) ?_
          refine lv_iload hx hb dL_exempts_65 (lv_at hl 0 rfl) ?_
          refine lv_iconst (v := 2) hx hb dL_exempts_67 (by decide) ?_
          refine pw_call (rest := []) (pt_change hst J9 i9 2 hi9 (by decide)) ⟨hx, hb, hml, hown, hts⟩ (vx_cwSW 3 hts gL_exempts_L_change rfl rfl rfl (by decide +kernel) ⟨Nat.le_of_ble_eq_true rfl, Nat.le_of_ble_eq_true rfl⟩) hK hG hS hE.1 rfl hl.1 rfl (Nat.le_of_ble_eq_true rfl) dL_exempts_68 ⟨by show _ + 2 ≤ 1300; omega, by show _ + 12 ≤ 7800; omega⟩ (fun H locs hG hS => ?_)
          refine fz_top (show _ = U 11 i9 from rfl) ?_
          refine lv_if_ne (tgt := 229) hx hb dL_exempts_71 (by decide) (fun c6 => ?_) (fun c6 => ?_)
          · skip
            refine lv_iinc (v := nI (k + 1)) (lv' := [(6, .int (nI (k + 1))), (7, .int (nI i9)), (0, .ref (f 0)), (1, .int (nI ti)), (2, .int (fz_xc V nl nq ti)), (3, .int (nI n)), (4, .int 1), (5, .int (fz_b false))]) hx hb dL_exempts_229 hl (k := 7) rfl (nI_add _ 1) (by decide) rfl (fun ls hl => ?_)
            refine lv_goto (tgt := 17) hx hb dL_exempts_232 (by decide) ?_
            have hl : lv_has ls 12 [(6, .int (nI (k + 1))), (7, .int (nI i9)), (0, .ref (f 0)), (1, .int (nI ti)), (2, .int (fz_xc V nl nq ti)), (3, .int (nI n)), (4, .int 1), (5, .int (fz_b false))] := hl
            refine W.widen (k := 10 + 40 * (k + 1)) (n := 60 + 240 * (k + 1)) (by omega) (by omega) ?_
            exact ih17 (k + 1, n, false, cm, U) (show ((k + 1) ≤ 30) ∧ (pJ U nt nc nq nl wk (B + 6600 * (k + 1))) ∧ (fz_xc V nl nq ti = bif false then nI n else xg U nl nq ti (k + 1) n) from ⟨hk30, (J9.mono (by omega)), (hn.trans (xg_skip hq ei9 (by omega) (Or.inr c6)))⟩) (by show 30 - (k + 1) < 30 - k; omega) _ _ ls hG hS (lv_sub hl [2, 3, 4, 5, 6, 7, 0] rfl)
          · skip
            refine lv_aload_n hx hb dL_exempts_74 rfl (lv_at hl 1 rfl) ?_
            refine lv_iload hx hb dL_exempts_75 (lv_at hl 0 rfl) ?_
            refine pw_call (rest := []) (pt_reason hst J9 i9 hi9) ⟨hx, hb, hml, hown, hts⟩ (vx_cwSW 2 hts gL_exempts_L_reason rfl rfl rfl (by decide +kernel) ⟨Nat.le_of_ble_eq_true rfl, Nat.le_of_ble_eq_true rfl⟩) hK hG hS hE.1 rfl hl.1 rfl (Nat.le_of_ble_eq_true rfl) dL_exempts_77 ⟨by show _ + 1 ≤ 1300; omega, by show _ + 6 ≤ 7800; omega⟩ (fun H locs hG hS => ?_)
            refine fz_top (show _ = fz_reason U nl i9 from rfl) ?_
            refine lv_istore (lv' := [(8, .int (fz_reason U nl i9)), (7, .int (nI i9)), (0, .ref (f 0)), (1, .int (nI ti)), (2, .int (fz_xc V nl nq ti)), (3, .int (nI n)), (4, .int 1), (5, .int (fz_b false)), (6, .int (nI k))]) hx hb dL_exempts_80 hl (by decide) rfl (fun ls hl => ?_)
            refine W.widen (k := (10 + 40 * k) + 6) (n := (60 + 240 * k) + 36) (by omega) (by omega) ?_
            refine lv_aload_n hx hb dL_exempts_82 rfl (lv_at hl 2 rfl) ?_
            refine lv_iload hx hb dL_exempts_83 (lv_at hl 1 rfl) ?_
            refine lv_iconst (v := 1) hx hb dL_exempts_85 (by decide) ?_
            refine pw_call (rest := []) (pt_change hst J9 i9 1 hi9 (by decide)) ⟨hx, hb, hml, hown, hts⟩ (vx_cwSW 3 hts gL_exempts_L_change rfl rfl rfl (by decide +kernel) ⟨Nat.le_of_ble_eq_true rfl, Nat.le_of_ble_eq_true rfl⟩) hK hG hS hE.1 rfl hl.1 rfl (Nat.le_of_ble_eq_true rfl) dL_exempts_86 ⟨by show _ + 2 ≤ 1300; omega, by show _ + 12 ≤ 7800; omega⟩ (fun H locs hG hS => ?_)
            refine fz_top (show _ = U 10 i9 from rfl) ?_
            refine lv_aload_n hx hb dL_exempts_89 rfl (lv_at hl 2 rfl) ?_
            refine lv_iconst (v := 4) hx hb dL_exempts_90 (by decide) ?_
            refine pw_call (rest := [.int (U 10 i9)]) (pt_whole hst J9 4 (by decide)) ⟨hx, hb, hml, hown, hts⟩ (vx_cwSW 2 hts gL_exempts_L_whole rfl rfl rfl (by decide +kernel) ⟨Nat.le_of_ble_eq_true rfl, Nat.le_of_ble_eq_true rfl⟩) hK hG hS hE.1 rfl hl.1 rfl (Nat.le_of_ble_eq_true rfl) dL_exempts_91 ⟨by show _ + 1 ≤ 1300; omega, by show _ + 6 ≤ 7800; omega⟩ (fun H locs hG hS => ?_)
            refine fz_top (show _ = U 1 0 from rfl) ?_
            refine lv_imul hx hb dL_exempts_94 ?_
            refine lv_istore (lv' := [(9, .int ((U 10 i9) * (U 1 0))), (8, .int (fz_reason U nl i9)), (7, .int (nI i9)), (0, .ref (f 0)), (1, .int (nI ti)), (2, .int (fz_xc V nl nq ti)), (3, .int (nI n)), (4, .int 1), (5, .int (fz_b false)), (6, .int (nI k))]) hx hb dL_exempts_95 hl (by decide) rfl (fun ls hl => ?_)
            refine W.widen (k := (10 + 40 * k) + 9) (n := (60 + 240 * k) + 54) (by omega) (by omega) ?_
            refine lv_aload_n hx hb dL_exempts_97 rfl (lv_at hl 3 rfl) ?_
            refine lv_iload_n hx hb dL_exempts_98 rfl (lv_at hl 4 rfl) ?_
            refine lv_iconst (v := 0) hx hb dL_exempts_99 (by decide) ?_
            refine pw_call (rest := []) (pt_team hst J9 ti 0 ht (by decide)) ⟨hx, hb, hml, hown, hts⟩ (vx_cwSW 3 hts gL_exempts_L_team rfl rfl rfl (by decide +kernel) ⟨Nat.le_of_ble_eq_true rfl, Nat.le_of_ble_eq_true rfl⟩) hK hG hS hE.1 rfl hl.1 rfl (Nat.le_of_ble_eq_true rfl) dL_exempts_100 ⟨by show _ + 2 ≤ 1300; omega, by show _ + 12 ≤ 7800; omega⟩ (fun H locs hG hS => ?_)
            refine fz_top (show _ = U 4 ti from rfl) ?_
            refine lv_istore (lv' := [(10, .int (U 4 ti)), (9, .int ((U 10 i9) * (U 1 0))), (8, .int (fz_reason U nl i9)), (7, .int (nI i9)), (0, .ref (f 0)), (1, .int (nI ti)), (2, .int (fz_xc V nl nq ti)), (3, .int (nI n)), (4, .int 1), (5, .int (fz_b false)), (6, .int (nI k))]) hx hb dL_exempts_103 hl (by decide) rfl (fun ls hl => ?_)
            refine W.widen (k := (10 + 40 * k) + 11) (n := (60 + 240 * k) + 66) (by omega) (by omega) ?_
            by_cases hw : fz_reason U nl i9 = 0
            · skip
              refine lv_aload_n hx hb dL_exempts_105 rfl (lv_at hl 4 rfl) ?_
              refine lv_iload hx hb dL_exempts_106 (lv_at hl 3 rfl) ?_
              refine pw_call (rest := []) (pw_exempt_t hst J9.wf J9.zo (nI i9) (ex_ok J9 ht hi9 c7 hw)) ⟨hx, hb, hml, hown, hts⟩ (vx_cwSW 2 hts gL_exempts_L_exempt rfl rfl rfl (by decide +kernel) ⟨Nat.le_of_ble_eq_true rfl, Nat.le_of_ble_eq_true rfl⟩) hK hG hS hE.1 rfl hl.1 rfl (Nat.le_of_ble_eq_true rfl) dL_exempts_108 ⟨by show _ + 1 ≤ 1300; omega, by show _ + 6 ≤ 7800; omega⟩ (fun H locs hG hS => ?_)
              refine fz_top (show _ = U 10 i9 * U 1 0 from (congrArg Prod.fst (ex_eq J9 ht hi9 c7 hw))) ?_
              rw [ex_eq J9 ht hi9 c7 hw] at hG
              have J2 := ex_J J9 (by omega) ht hi9 c7 hw
              refine lv_istore (lv' := [(11, .int (U 10 i9 * U 1 0)), (10, .int (U 4 ti)), (9, .int ((U 10 i9) * (U 1 0))), (8, .int (fz_reason U nl i9)), (7, .int (nI i9)), (0, .ref (f 0)), (1, .int (nI ti)), (2, .int (fz_xc V nl nq ti)), (3, .int (nI n)), (4, .int 1), (5, .int (fz_b false)), (6, .int (nI k))]) hx hb dL_exempts_111 hl (by decide) rfl (fun ls hl => ?_)
              refine W.widen (k := (10 + 40 * k) + 12) (n := (60 + 240 * k) + 72) (by omega) (by omega) ?_
              refine lv_iload hx hb dL_exempts_113 (lv_at hl 3 rfl) ?_
              refine lv_if_ne (tgt := 180) hx hb dL_exempts_115 (by decide) (fun z9 => absurd z9 (not_not_p hw)) (fun _ => ?_)
              refine lv_iload hx hb dL_exempts_118 (lv_at hl 0 rfl) ?_
              refine lv_iload hx hb dL_exempts_120 (lv_at hl 2 rfl) ?_
              refine lv_icmp_ne (tgt := 176) hx hb dL_exempts_122 (by decide) (fun z9 => absurd z9 (not_not_p rfl)) (fun _ => ?_)
              refine lv_aload_n hx hb dL_exempts_125 rfl (lv_at hl 5 rfl) ?_
              refine lv_iload_n hx hb dL_exempts_126 rfl (lv_at hl 6 rfl) ?_
              refine lv_iconst (v := 0) hx hb dL_exempts_127 (by decide) ?_
              refine pw_call (rest := []) (pt_team hst J2 ti 0 ht (by decide)) ⟨hx, hb, hml, hown, hts⟩ (vx_cwSW 3 hts gL_exempts_L_team rfl rfl rfl (by decide +kernel) ⟨Nat.le_of_ble_eq_true rfl, Nat.le_of_ble_eq_true rfl⟩) hK hG hS hE.1 rfl hl.1 rfl (Nat.le_of_ble_eq_true rfl) dL_exempts_128 ⟨by show _ + 2 ≤ 1300; omega, by show _ + 12 ≤ 7800; omega⟩ (fun H locs hG hS => ?_)
              refine fz_top (show _ = (fz_exempt2 U i9 ti).2 4 ti from rfl) ?_
              refine lv_iload hx hb dL_exempts_131 (lv_at hl 1 rfl) ?_
              refine lv_iload hx hb dL_exempts_133 (lv_at hl 2 rfl) ?_
              refine lv_isub hx hb dL_exempts_135 ?_
              refine lv_icmp_ne (tgt := 176) hx hb dL_exempts_136 (by decide) (fun z9 => absurd z9 (not_not_p pk_us)) (fun _ => ?_)
              refine lv_aload_n hx hb dL_exempts_139 rfl (lv_at hl 5 rfl) ?_
              refine lv_iload hx hb dL_exempts_140 (lv_at hl 4 rfl) ?_
              refine lv_iconst (v := 3) hx hb dL_exempts_142 (by decide) ?_
              refine pw_call (rest := []) (pt_change hst J2 i9 3 hi9 (by decide)) ⟨hx, hb, hml, hown, hts⟩ (vx_cwSW 3 hts gL_exempts_L_change rfl rfl rfl (by decide +kernel) ⟨Nat.le_of_ble_eq_true rfl, Nat.le_of_ble_eq_true rfl⟩) hK hG hS hE.1 rfl hl.1 rfl (Nat.le_of_ble_eq_true rfl) dL_exempts_143 ⟨by show _ + 2 ≤ 1300; omega, by show _ + 12 ≤ 7800; omega⟩ (fun H locs hG hS => ?_)
              refine fz_top (show _ = (fz_exempt2 U i9 ti).2 12 i9 from rfl) ?_
              refine lv_iload hx hb dL_exempts_146 (lv_at hl 2 rfl) ?_
              refine lv_icmp_ne (tgt := 176) hx hb dL_exempts_148 (by decide) (fun z9 => absurd z9 (not_not_p pk_us)) (fun _ => ?_)
              refine lv_aload_n hx hb dL_exempts_151 rfl (lv_at hl 5 rfl) ?_
              refine lv_iload hx hb dL_exempts_152 (lv_at hl 4 rfl) ?_
              refine pw_call (rest := []) (pt_reason hst J2 i9 hi9) ⟨hx, hb, hml, hown, hts⟩ (vx_cwSW 2 hts gL_exempts_L_reason rfl rfl rfl (by decide +kernel) ⟨Nat.le_of_ble_eq_true rfl, Nat.le_of_ble_eq_true rfl⟩) hK hG hS hE.1 rfl hl.1 rfl (Nat.le_of_ble_eq_true rfl) dL_exempts_154 ⟨by show _ + 1 ≤ 1300; omega, by show _ + 6 ≤ 7800; omega⟩ (fun H locs hG hS => ?_)
              refine fz_top (show _ = fz_reason (fz_exempt2 U i9 ti).2 nl i9 from rfl) ?_
              refine lv_iconst (v := 1) hx hb dL_exempts_157 (by decide) ?_
              refine lv_icmp_ne (tgt := 176) hx hb dL_exempts_158 (by decide) (fun z9 => absurd z9 (not_not_p ex_why2)) (fun _ => ?_)
              refine lv_aload_n hx hb dL_exempts_161 rfl (lv_at hl 5 rfl) ?_
              refine lv_iload hx hb dL_exempts_162 (lv_at hl 4 rfl) ?_
              refine pw_call (rest := []) (pw_exempt_IS hst J2.wf J2.zo (nI i9) (ex_no J2 hi9 (by rw [ex_why2]; decide))) ⟨hx, hb, hml, hown, hts⟩ (vx_cwSW 2 hts gL_exempts_L_exempt rfl rfl rfl (by decide +kernel) ⟨Nat.le_of_ble_eq_true rfl, Nat.le_of_ble_eq_true rfl⟩) hK hG hS hE.1 rfl hl.1 rfl (Nat.le_of_ble_eq_true rfl) dL_exempts_164 ⟨by show _ + 1 ≤ 1300; omega, by show _ + 6 ≤ 7800; omega⟩ (fun H locs hG hS => ?_)
              refine lv_bipush (v := (-12)) hx hb dL_exempts_167 (by decide) ?_
              refine lv_icmp_ne (tgt := 176) hx hb dL_exempts_169 (by decide) (fun z9 => absurd z9 (by decide)) (fun _ => ?_)
              refine lv_iconst (v := 1) hx hb dL_exempts_172 (by decide) ?_
              refine lv_goto (tgt := 202) hx hb dL_exempts_173 (by decide) ?_
              refine lv_istore (lv' := [(4, .int 1), (11, .int (U 10 i9 * U 1 0)), (10, .int (U 4 ti)), (9, .int ((U 10 i9) * (U 1 0))), (8, .int (fz_reason U nl i9)), (7, .int (nI i9)), (0, .ref (f 0)), (1, .int (nI ti)), (2, .int (fz_xc V nl nq ti)), (3, .int (nI n)), (5, .int (fz_b false)), (6, .int (nI k))]) hx hb dL_exempts_202 hl (by decide) rfl (fun ls hl => ?_)
              refine W.widen (k := (10 + 40 * k) + 18) (n := (60 + 240 * k) + 108) (by omega) (by omega) ?_
              refine lv_iload hx hb dL_exempts_204 (lv_at hl 4 rfl) ?_
              refine lv_if_le (tgt := 213) hx hb dL_exempts_206 (by decide) (fun _ => ?_) (fun z9 => absurd (by rw [hw]; decide) z9)
              refine lv_iconst (v := 0) hx hb dL_exempts_213 (by decide) ?_
              refine lv_istore (lv' := [(5, .int 0), (4, .int 1), (11, .int (U 10 i9 * U 1 0)), (10, .int (U 4 ti)), (9, .int ((U 10 i9) * (U 1 0))), (8, .int (fz_reason U nl i9)), (7, .int (nI i9)), (0, .ref (f 0)), (1, .int (nI ti)), (2, .int (fz_xc V nl nq ti)), (3, .int (nI n)), (6, .int (nI k))]) hx hb dL_exempts_214 hl (by decide) rfl (fun ls hl => ?_)
              refine lv_iload_n hx hb dL_exempts_216 rfl (lv_at hl 10 rfl) ?_
              refine lv_iload hx hb dL_exempts_217 (lv_at hl 5 rfl) ?_
              refine lv_if_ne (tgt := 226) hx hb dL_exempts_219 (by decide) (fun z9 => absurd z9 (not_not_p hw)) (fun _ => ?_)
              refine lv_iconst (v := 1) hx hb dL_exempts_222 (by decide) ?_
              refine lv_goto (tgt := 227) hx hb dL_exempts_223 (by decide) ?_
              refine lv_iadd hx hb dL_exempts_227 ?_
              refine fz_top (show _ = nI (n + 1) from nI_1 n) ?_
              refine lv_istore_n (lv' := [(3, .int (nI (n + 1))), (5, .int 0), (4, .int 1), (11, .int (U 10 i9 * U 1 0)), (10, .int (U 4 ti)), (9, .int ((U 10 i9) * (U 1 0))), (8, .int (fz_reason U nl i9)), (7, .int (nI i9)), (0, .ref (f 0)), (1, .int (nI ti)), (2, .int (fz_xc V nl nq ti)), (6, .int (nI k))]) hx hb dL_exempts_228 rfl hl (by decide) rfl (fun ls hl => ?_)
              refine lv_iinc (v := nI (k + 1)) (lv' := [(6, .int (nI (k + 1))), (3, .int (nI (n + 1))), (5, .int 0), (4, .int 1), (11, .int (U 10 i9 * U 1 0)), (10, .int (U 4 ti)), (9, .int ((U 10 i9) * (U 1 0))), (8, .int (fz_reason U nl i9)), (7, .int (nI i9)), (0, .ref (f 0)), (1, .int (nI ti)), (2, .int (fz_xc V nl nq ti))]) hx hb dL_exempts_229 hl (k := 11) rfl (nI_add _ 1) (by decide) rfl (fun ls hl => ?_)
              refine lv_goto (tgt := 17) hx hb dL_exempts_232 (by decide) ?_
              have hl : lv_has ls 12 [(6, .int (nI (k + 1))), (3, .int (nI (n + 1))), (5, .int (fz_b false)), (4, .int 1), (11, .int (U 10 i9 * U 1 0)), (10, .int (U 4 ti)), (9, .int ((U 10 i9) * (U 1 0))), (8, .int (fz_reason U nl i9)), (7, .int (nI i9)), (0, .ref (f 0)), (1, .int (nI ti)), (2, .int (fz_xc V nl nq ti))] := hl
              refine W.widen (k := 10 + 40 * (k + 1)) (n := 60 + 240 * (k + 1)) (by omega) (by omega) ?_
              exact ih17 (k + 1, n + 1, false, hs_n cm, (fz_exempt2 U i9 ti).2) (show ((k + 1) ≤ 30) ∧ (pJ ((fz_exempt2 U i9 ti).2) nt nc nq nl wk (B + 6600 * (k + 1))) ∧ (fz_xc V nl nq ti = bif false then nI (n + 1) else xg ((fz_exempt2 U i9 ti).2) nl nq ti (k + 1) (n + 1)) from ⟨hk30, (J2.mono (by omega)), (hn.trans (xg_done J9 (by omega) ht hq hi9 ei9 c7 hw))⟩) (by show 30 - (k + 1) < 30 - k; omega) _ _ ls hG hS (lv_sub hl [9, 10, 11, 1, 3, 2, 0] rfl)
            · skip
              refine lv_aload_n hx hb dL_exempts_105 rfl (lv_at hl 4 rfl) ?_
              refine lv_iload hx hb dL_exempts_106 (lv_at hl 3 rfl) ?_
              refine pw_call (rest := []) (pw_exempt_IS hst J9.wf J9.zo (nI i9) (ex_no J9 hi9 hw)) ⟨hx, hb, hml, hown, hts⟩ (vx_cwSW 2 hts gL_exempts_L_exempt rfl rfl rfl (by decide +kernel) ⟨Nat.le_of_ble_eq_true rfl, Nat.le_of_ble_eq_true rfl⟩) hK hG hS hE.1 rfl hl.1 rfl (Nat.le_of_ble_eq_true rfl) dL_exempts_108 ⟨by show _ + 1 ≤ 1300; omega, by show _ + 6 ≤ 7800; omega⟩ (fun H locs hG hS => ?_)
              refine lv_istore (lv' := [(11, .int (-12)), (10, .int (U 4 ti)), (9, .int ((U 10 i9) * (U 1 0))), (8, .int (fz_reason U nl i9)), (7, .int (nI i9)), (0, .ref (f 0)), (1, .int (nI ti)), (2, .int (fz_xc V nl nq ti)), (3, .int (nI n)), (4, .int 1), (5, .int (fz_b false)), (6, .int (nI k))]) hx hb dL_exempts_111 hl (by decide) rfl (fun ls hl => ?_)
              refine W.widen (k := (10 + 40 * k) + 12) (n := (60 + 240 * k) + 72) (by omega) (by omega) ?_
              refine lv_iload hx hb dL_exempts_113 (lv_at hl 3 rfl) ?_
              refine lv_if_ne (tgt := 180) hx hb dL_exempts_115 (by decide) (fun _ => ?_) (fun z9 => absurd z9 hw)
              refine lv_iload hx hb dL_exempts_180 (lv_at hl 0 rfl) ?_
              refine lv_bipush (v := (-12)) hx hb dL_exempts_182 (by decide) ?_
              refine lv_icmp_ne (tgt := 201) hx hb dL_exempts_184 (by decide) (fun z9 => absurd z9 (by decide)) (fun _ => ?_)
              refine lv_aload_n hx hb dL_exempts_187 rfl (lv_at hl 5 rfl) ?_
              refine lv_iload hx hb dL_exempts_188 (lv_at hl 4 rfl) ?_
              refine lv_iconst (v := 2) hx hb dL_exempts_190 (by decide) ?_
              refine pw_call (rest := []) (pt_change hst J9 i9 2 hi9 (by decide)) ⟨hx, hb, hml, hown, hts⟩ (vx_cwSW 3 hts gL_exempts_L_change rfl rfl rfl (by decide +kernel) ⟨Nat.le_of_ble_eq_true rfl, Nat.le_of_ble_eq_true rfl⟩) hK hG hS hE.1 rfl hl.1 rfl (Nat.le_of_ble_eq_true rfl) dL_exempts_191 ⟨by show _ + 2 ≤ 1300; omega, by show _ + 12 ≤ 7800; omega⟩ (fun H locs hG hS => ?_)
              refine fz_top (show _ = U 11 i9 from rfl) ?_
              refine lv_if_ne (tgt := 201) hx hb dL_exempts_194 (by decide) (fun z9 => absurd z9 (not_not_p c6)) (fun _ => ?_)
              refine lv_iconst (v := 1) hx hb dL_exempts_197 (by decide) ?_
              refine lv_goto (tgt := 202) hx hb dL_exempts_198 (by decide) ?_
              refine lv_istore (lv' := [(4, .int 1), (11, .int (-12)), (10, .int (U 4 ti)), (9, .int ((U 10 i9) * (U 1 0))), (8, .int (fz_reason U nl i9)), (7, .int (nI i9)), (0, .ref (f 0)), (1, .int (nI ti)), (2, .int (fz_xc V nl nq ti)), (3, .int (nI n)), (5, .int (fz_b false)), (6, .int (nI k))]) hx hb dL_exempts_202 hl (by decide) rfl (fun ls hl => ?_)
              refine W.widen (k := (10 + 40 * k) + 14) (n := (60 + 240 * k) + 84) (by omega) (by omega) ?_
              refine lv_iload hx hb dL_exempts_204 (lv_at hl 4 rfl) ?_
              refine lv_if_le (tgt := 213) hx hb dL_exempts_206 (by decide) (fun z9 => absurd z9 (by rcases (why_n (by omega) c7 c6 hw).1 with q9 | q9 <;> rw [q9] <;> decide)) (fun _ => ?_)
              refine lv_iconst (v := 1) hx hb dL_exempts_209 (by decide) ?_
              refine lv_goto (tgt := 214) hx hb dL_exempts_210 (by decide) ?_
              refine lv_istore (lv' := [(5, .int 1), (4, .int 1), (11, .int (-12)), (10, .int (U 4 ti)), (9, .int ((U 10 i9) * (U 1 0))), (8, .int (fz_reason U nl i9)), (7, .int (nI i9)), (0, .ref (f 0)), (1, .int (nI ti)), (2, .int (fz_xc V nl nq ti)), (3, .int (nI n)), (6, .int (nI k))]) hx hb dL_exempts_214 hl (by decide) rfl (fun ls hl => ?_)
              refine lv_iload_n hx hb dL_exempts_216 rfl (lv_at hl 10 rfl) ?_
              refine lv_iload hx hb dL_exempts_217 (lv_at hl 5 rfl) ?_
              refine lv_if_ne (tgt := 226) hx hb dL_exempts_219 (by decide) (fun _ => ?_) (fun z9 => absurd z9 hw)
              refine lv_iconst (v := 0) hx hb dL_exempts_226 (by decide) ?_
              refine lv_iadd hx hb dL_exempts_227 ?_
              refine fz_top (show _ = nI n from Int32.add_zero (nI n)) ?_
              refine lv_istore_n (lv' := [(3, .int (nI n)), (5, .int 1), (4, .int 1), (11, .int (-12)), (10, .int (U 4 ti)), (9, .int ((U 10 i9) * (U 1 0))), (8, .int (fz_reason U nl i9)), (7, .int (nI i9)), (0, .ref (f 0)), (1, .int (nI ti)), (2, .int (fz_xc V nl nq ti)), (6, .int (nI k))]) hx hb dL_exempts_228 rfl hl (by decide) rfl (fun ls hl => ?_)
              refine lv_iinc (v := nI (k + 1)) (lv' := [(6, .int (nI (k + 1))), (3, .int (nI n)), (5, .int 1), (4, .int 1), (11, .int (-12)), (10, .int (U 4 ti)), (9, .int ((U 10 i9) * (U 1 0))), (8, .int (fz_reason U nl i9)), (7, .int (nI i9)), (0, .ref (f 0)), (1, .int (nI ti)), (2, .int (fz_xc V nl nq ti))]) hx hb dL_exempts_229 hl (k := 11) rfl (nI_add _ 1) (by decide) rfl (fun ls hl => ?_)
              refine lv_goto (tgt := 17) hx hb dL_exempts_232 (by decide) ?_
              have hl : lv_has ls 12 [(6, .int (nI (k + 1))), (3, .int (nI n)), (5, .int (fz_b true)), (4, .int 1), (11, .int (-12)), (10, .int (U 4 ti)), (9, .int ((U 10 i9) * (U 1 0))), (8, .int (fz_reason U nl i9)), (7, .int (nI i9)), (0, .ref (f 0)), (1, .int (nI ti)), (2, .int (fz_xc V nl nq ti))] := hl
              refine W.widen (k := 10 + 40 * (k + 1)) (n := 60 + 240 * (k + 1)) (by omega) (by omega) ?_
              exact ih17 (k + 1, n, true, cm, U) (show ((k + 1) ≤ 30) ∧ (pJ U nt nc nq nl wk (B + 6600 * (k + 1))) ∧ (fz_xc V nl nq ti = bif true then nI n else xg U nl nq ti (k + 1) n) from ⟨hk30, (J9.mono (by omega)), (hn.trans (xg_stop J9 (by omega) ht hq hi9 ei9 c7 c6 hw))⟩) (by show 30 - (k + 1) < 30 - k; omega) _ _ ls hG hS (lv_sub hl [9, 10, 11, 1, 3, 2, 0] rfl)
      · skip
        refine lv_aload_n hx hb dL_exempts_34 rfl (lv_at hl 0 rfl) ?_
        refine lv_iload hx hb dL_exempts_35 (lv_at hl 6 rfl) ?_
        refine pw_call (rest := []) (pt_waiting hst J9 k (by omega)) ⟨hx, hb, hml, hown, hts⟩ (vx_cwSW 2 hts gL_exempts_L_waiting rfl rfl rfl (by decide +kernel) ⟨Nat.le_of_ble_eq_true rfl, Nat.le_of_ble_eq_true rfl⟩) hK hG hS hE.1 rfl hl.1 rfl (Nat.le_of_ble_eq_true rfl) dL_exempts_37 ⟨by show _ + 1 ≤ 1300; omega, by show _ + 6 ≤ 7800; omega⟩ (fun H locs hG hS => ?_)
        refine fz_top (show _ = (-1) from if_neg hq) ?_
        refine lv_istore (lv' := [(7, .int (-1)), (0, .ref (f 0)), (1, .int (nI ti)), (2, .int (fz_xc V nl nq ti)), (3, .int (nI n)), (4, .int 1), (5, .int (fz_b false)), (6, .int (nI k))]) hx hb dL_exempts_40 hl (by decide) rfl (fun ls hl => ?_)
        refine W.widen (k := (10 + 40 * k) + 1) (n := (60 + 240 * k) + 6) (by omega) (by omega) ?_
        refine lv_iload hx hb dL_exempts_42 (lv_at hl 0 rfl) ?_
        refine lv_if_ge (tgt := 53) hx hb dL_exempts_44 (by decide) (fun z9 => absurd z9 (by decide)) (fun _ => ?_)
        refine lv_iconst (v := 1) hx hb dL_exempts_47 (by decide) ?_
        refine lv_istore (lv' := [(5, .int 1), (7, .int (-1)), (0, .ref (f 0)), (1, .int (nI ti)), (2, .int (fz_xc V nl nq ti)), (3, .int (nI n)), (4, .int 1), (6, .int (nI k))]) hx hb dL_exempts_48 hl (by decide) rfl (fun ls hl => ?_)
        refine lv_goto (tgt := 229) hx hb dL_exempts_50 (by decide) ?_
        refine lv_iinc (v := nI (k + 1)) (lv' := [(6, .int (nI (k + 1))), (5, .int 1), (7, .int (-1)), (0, .ref (f 0)), (1, .int (nI ti)), (2, .int (fz_xc V nl nq ti)), (3, .int (nI n)), (4, .int 1)]) hx hb dL_exempts_229 hl (k := 7) rfl (nI_add _ 1) (by decide) rfl (fun ls hl => ?_)
        refine lv_goto (tgt := 17) hx hb dL_exempts_232 (by decide) ?_
        have hl : lv_has ls 12 [(6, .int (nI (k + 1))), (5, .int (fz_b true)), (7, .int (-1)), (0, .ref (f 0)), (1, .int (nI ti)), (2, .int (fz_xc V nl nq ti)), (3, .int (nI n)), (4, .int 1)] := hl
        refine W.widen (k := 10 + 40 * (k + 1)) (n := 60 + 240 * (k + 1)) (by omega) (by omega) ?_
        exact ih17 (k + 1, n, true, cm, U) (show ((k + 1) ≤ 30) ∧ (pJ U nt nc nq nl wk (B + 6600 * (k + 1))) ∧ (fz_xc V nl nq ti = bif true then nI n else xg U nl nq ti (k + 1) n) from ⟨hk30, (J9.mono (by omega)), (hn.trans (xg_end (by omega)))⟩) (by show 30 - (k + 1) < 30 - k; omega) _ _ ls hG hS (lv_sub hl [3, 4, 5, 6, 7, 1, 0] rfl)
