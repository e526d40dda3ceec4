set_option maxHeartbeats 4000000 in
set_option maxRecDepth 100000 in
theorem m_runs {l : Launch} {D : va_G} {cy : Nat → ClassId} {A : Nat → Prop} {f a t h x ad adK adV : Nat → Nat} {cn : Nat} {V : Nat → Nat → Int32} {L : List Int32} {nt nc nq nl wk B : Nat} (hst : l.stackTraces = false) (J : pJ V nt nc nq nl wk B) (hB : B < 50000000) {ti ri : Nat} (ht : ti < nt) (h1 : 1 ≤ ri) (h9r : ri ≤ 9) : pm_M l yL_runs wsL_runs 9 198 200 1200 D cy A (pE ad adK adV A) [.ref (f 0), .int (nI ti), .int (nI ri)] (pS cy f a t h x ad cn V L) (fun r W9 => r = 1 ∧ ∃ (cm : Nat) (U : Nat → Nat → Int32) (nc9 nq9 wk9 : Nat), pJ U nt nc9 nq9 nl wk9 (B + 400000) ∧ pS cy f a t h x ad cm U [] W9) := by
  refine Met.ofW (cc := cL_runs) (maxL := 13) (ret := (some .boolean)) (by decide) rfl ?_
  intro p e s m args below meth c s₁ B9 hml hv
  obtain ⟨rfl, hG, hK, hE⟩ := hv
  have hx := B9.exec
  have hb := B9.bytes
  have hr := B9.returns
  have hts := atoms_spec (ws := wsL_runs) B9.pre
  have hown : s.vm.findClass RL = some m.cls := findClass_of_methodNamed B9.named
  have hlocks := B9.notSynchronized
  have hS : va_S A s.heap s.heap [] := va_S.rf
  have hl := lv_entry ([.ref (f 0), .int (nI ti), .int (nI ri)]) (n := 13) (Nat.le_of_ble_eq_true rfl)
  rw [lg_entry_eq]
  generalize (lg_sl ([.ref (f 0), .int (nI ti), .int (nI ri)]) ++ List.replicate (13 - (lg_sl ([.ref (f 0), .int (nI ti), .int (nI ri)])).length) Slot.unset).toArray = ls at hl ⊢
  have hl : lv_has ls 13 [(0, .ref (f 0)), (1, .int (nI ti)), (2, .int (nI ri))] := hl
  have h6 := J.nt6
  have h30 := J.nc30
  have hqc := J.nqc
  have h12 := J.nl12
  have h39 := J.wk39
  refine lv_aload_n hx hb dL_runs_0 rfl (lv_at hl 0 rfl) ?_
  refine pv_call (E := fun _ => fz_T) (rest := []) (pv_clear (cn := cn) (V := V) (L := L) (K := kT)) ⟨hx, hb, hml, hown, hts⟩ (cwV 0 hts gL_runs_X8_clearCommands rfl rfl rfl (by decide +kernel) ⟨Nat.le_of_ble_eq_true rfl, Nat.le_of_ble_eq_true rfl⟩) rfl rfl hK hG hS (fun _ => fz_T_bl) (fun _ _ _ _ _ => trivial) rfl hl.1 rfl (Nat.le_of_ble_eq_true rfl) dL_runs_1 ⟨by show _ + 0 ≤ 200; omega, by show _ + 0 ≤ 1200; omega⟩ (fun H locs hG hS => ?_)
  refine lv_pop hx hb dL_runs_4 rfl ?_
  refine lv_aload_n hx hb dL_runs_5 rfl (lv_at hl 0 rfl) ?_
  refine pv_call (E := fz_Er ad adK adV) (rest := []) (pv_run_n (cn := cn) (V := V) (L := ([] : List Int32)) (K := kT) (cnt := 0) (V' := V) (tx0_F) (tx0_C) J.wf J.zo) ⟨hx, hb, hml, hown, hts⟩ (cwV 0 hts gL_runs_X8_runCommands rfl rfl rfl (by decide +kernel) ⟨Nat.le_of_ble_eq_true rfl, Nat.le_of_ble_eq_true rfl⟩) rfl rfl hK hG hS (fun _ => fz_Er_bl) (fun B9 hB9 U hU hW => hE.2.1.up hU hS hW hB9) rfl hl.1 rfl (Nat.le_of_ble_eq_true rfl) dL_runs_6 ⟨by show _ + 0 ≤ 200; omega, by show _ + 0 ≤ 1200; omega⟩ (fun H locs hG hS => ?_)
  refine fz_top (show _ = 0 from rfl) ?_
  obtain ⟨c1, hc1, hG⟩ := run_top hG
  refine lv_if_ne (tgt := 47) hx hb dL_runs_9 (by decide) (fun z9 => absurd z9 (by decide)) (fun _ => ?_)
  refine lv_aload_n hx hb dL_runs_12 rfl (lv_at hl 0 rfl) ?_
  refine pw_call (rest := []) (pw_undo_t (cn := c1) (V := V) (L := ([] : List Int32)) (U := V) hst J.zo) ⟨hx, hb, hml, hown, hts⟩ (vx_cwSW 1 hts gL_runs_L_undo rfl rfl rfl (by decide +kernel) ⟨Nat.le_of_ble_eq_true rfl, Nat.le_of_ble_eq_true rfl⟩) hK hG hS hE.1 rfl hl.1 rfl (Nat.le_of_ble_eq_true rfl) dL_runs_13 ⟨by show _ + 1 ≤ 200; omega, by show _ + 6 ≤ 1200; omega⟩ (fun H locs hG hS => ?_)
  refine fz_top (show _ = nI c1 from rfl) ?_
  refine lv_if_lt (tgt := 47) hx hb dL_runs_16 (by decide) (fun z9 => absurd z9 (nI_pos (n := c1) (by omega))) (fun _ => ?_)
  refine lv_aload_n hx hb dL_runs_19 rfl (lv_at hl 0 rfl) ?_
  refine lv_bipush (v := 32) hx hb dL_runs_20 (by decide) ?_
  refine pw_call (rest := []) (pw_type_t (L := ([] : List Int32)) (K := kT) hst 32 (by decide) (Nat.le_of_ble_eq_true rfl)) ⟨hx, hb, hml, hown, hts⟩ (vx_cwSW 2 hts gL_runs_L_type rfl rfl rfl (by decide +kernel) ⟨Nat.le_of_ble_eq_true rfl, Nat.le_of_ble_eq_true rfl⟩) hK hG hS hE.1 rfl hl.1 rfl (Nat.le_of_ble_eq_true rfl) dL_runs_22 ⟨by show _ + 1 ≤ 200; omega, by show _ + 6 ≤ 1200; omega⟩ (fun H locs hG hS => ?_)
  refine fz_top (show _ = 1 from rfl) ?_
  refine lv_iconst (v := 1) hx hb dL_runs_25 (by decide) ?_
  refine lv_icmp_ne (tgt := 47) hx hb dL_runs_26 (by decide) (fun z9 => absurd z9 (by decide)) (fun _ => ?_)
  refine lv_aload_n hx hb dL_runs_29 rfl (lv_at hl 0 rfl) ?_
  refine pv_call (E := fz_Er ad adK adV) (rest := []) (pv_run_n (cn := c1) (V := V) (L := (([] : List Int32) ++ [32])) (K := kT) (cnt := 0) (V' := V) (tx1_F) (tx1_C) J.wf J.zo) ⟨hx, hb, hml, hown, hts⟩ (cwV 0 hts gL_runs_X8_runCommands rfl rfl rfl (by decide +kernel) ⟨Nat.le_of_ble_eq_true rfl, Nat.le_of_ble_eq_true rfl⟩) rfl rfl hK hG hS (fun _ => fz_Er_bl) (fun B9 hB9 U hU hW => hE.2.1.up hU hS hW hB9) rfl hl.1 rfl (Nat.le_of_ble_eq_true rfl) dL_runs_30 ⟨by show _ + 0 ≤ 200; omega, by show _ + 0 ≤ 1200; omega⟩ (fun H locs hG hS => ?_)
  refine fz_top (show _ = 0 from rfl) ?_
  obtain ⟨c2, hc2, hG⟩ := run_top hG
  refine lv_if_ne (tgt := 47) hx hb dL_runs_33 (by decide) (fun z9 => absurd z9 (by decide)) (fun _ => ?_)
  refine lv_aload_n hx hb dL_runs_36 rfl (lv_at hl 0 rfl) ?_
  refine pw_call (rest := []) (pw_undo_t (cn := c2) (V := V) (L := (([] : List Int32) ++ [32])) (U := V) hst J.zo) ⟨hx, hb, hml, hown, hts⟩ (vx_cwSW 1 hts gL_runs_L_undo rfl rfl rfl (by decide +kernel) ⟨Nat.le_of_ble_eq_true rfl, Nat.le_of_ble_eq_true rfl⟩) hK hG hS hE.1 rfl hl.1 rfl (Nat.le_of_ble_eq_true rfl) dL_runs_37 ⟨by show _ + 1 ≤ 200; omega, by show _ + 6 ≤ 1200; omega⟩ (fun H locs hG hS => ?_)
  refine fz_top (show _ = nI c2 from rfl) ?_
  refine lv_if_lt (tgt := 47) hx hb dL_runs_40 (by decide) (fun z9 => absurd z9 (nI_pos (n := c2) (by omega))) (fun _ => ?_)
  refine lv_iconst (v := 1) hx hb dL_runs_43 (by decide) ?_
  refine lv_goto (tgt := 48) hx hb dL_runs_44 (by decide) ?_
  refine lv_istore_n (lv' := [(3, .int 1), (0, .ref (f 0)), (1, .int (nI ti)), (2, .int (nI ri))]) hx hb dL_runs_48 rfl hl (by decide) rfl (fun ls hl => ?_)
  refine W.widen (k := 3) (n := 18) (by omega) (by omega) ?_
  refine lv_aload_n hx hb dL_runs_49 rfl (lv_at hl 1 rfl) ?_
  refine lv_bipush (v := 97) hx hb dL_runs_50 (by decide) ?_
  refine pw_call (rest := []) (pw_type_t (L := (([] : List Int32) ++ [32])) (K := kT) hst 97 (by decide) (Nat.le_of_ble_eq_true rfl)) ⟨hx, hb, hml, hown, hts⟩ (vx_cwSW 2 hts gL_runs_L_type rfl rfl rfl (by decide +kernel) ⟨Nat.le_of_ble_eq_true rfl, Nat.le_of_ble_eq_true rfl⟩) hK hG hS hE.1 rfl hl.1 rfl (Nat.le_of_ble_eq_true rfl) dL_runs_52 ⟨by show _ + 1 ≤ 200; omega, by show _ + 6 ≤ 1200; omega⟩ (fun H locs hG hS => ?_)
  refine lv_pop hx hb dL_runs_55 rfl ?_
  refine lv_aload_n hx hb dL_runs_56 rfl (lv_at hl 1 rfl) ?_
  refine lv_bipush (v := 115) hx hb dL_runs_57 (by decide) ?_
  refine pw_call (rest := []) (pw_type_t (L := ((([] : List Int32) ++ [32]) ++ [97])) (K := kT) hst 115 (by decide) (Nat.le_of_ble_eq_true rfl)) ⟨hx, hb, hml, hown, hts⟩ (vx_cwSW 2 hts gL_runs_L_type rfl rfl rfl (by decide +kernel) ⟨Nat.le_of_ble_eq_true rfl, Nat.le_of_ble_eq_true rfl⟩) hK hG hS hE.1 rfl hl.1 rfl (Nat.le_of_ble_eq_true rfl) dL_runs_59 ⟨by show _ + 1 ≤ 200; omega, by show _ + 6 ≤ 1200; omega⟩ (fun H locs hG hS => ?_)
  refine lv_pop hx hb dL_runs_62 rfl ?_
  refine lv_aload_n hx hb dL_runs_63 rfl (lv_at hl 1 rfl) ?_
  refine lv_bipush (v := 107) hx hb dL_runs_64 (by decide) ?_
  refine pw_call (rest := []) (pw_type_t (L := (((([] : List Int32) ++ [32]) ++ [97]) ++ [115])) (K := kT) hst 107 (by decide) (Nat.le_of_ble_eq_true rfl)) ⟨hx, hb, hml, hown, hts⟩ (vx_cwSW 2 hts gL_runs_L_type rfl rfl rfl (by decide +kernel) ⟨Nat.le_of_ble_eq_true rfl, Nat.le_of_ble_eq_true rfl⟩) hK hG hS hE.1 rfl hl.1 rfl (Nat.le_of_ble_eq_true rfl) dL_runs_66 ⟨by show _ + 1 ≤ 200; omega, by show _ + 6 ≤ 1200; omega⟩ (fun H locs hG hS => ?_)
  refine lv_pop hx hb dL_runs_69 rfl ?_
  refine lv_aload_n hx hb dL_runs_70 rfl (lv_at hl 1 rfl) ?_
  refine lv_iload_n hx hb dL_runs_71 rfl (lv_at hl 2 rfl) ?_
  refine pm_call (rest := []) (m_digits (cn := c2) (V := V) (L := ((((([] : List Int32) ++ [32]) ++ [97]) ++ [115]) ++ [107])) hst (j := ti) (by omega) (Nat.le_of_ble_eq_true rfl)) ⟨hx, hb, hml, hown, hts⟩ (va_cwS 2 hts gL_runs_L_digits rfl rfl rfl (by decide +kernel) ⟨Nat.le_of_ble_eq_true rfl, Nat.le_of_ble_eq_true rfl⟩) hK hG hS hE rfl hl.1 rfl (Nat.le_of_ble_eq_true rfl) dL_runs_72 ⟨by show _ + 10 ≤ 200; omega, by show _ + 60 ≤ 1200; omega⟩ (fun r H locs hG hS => ?_)
  obtain ⟨Wn9, ⟨hr9, hw9⟩, hP9, hD9⟩ := hG
  have hG : pG D A (pS cy f a t h x ad c2 V (((((([] : List Int32) ++ [32]) ++ [97]) ++ [115]) ++ [107]) ++ [32] ++ [48] ++ [48] ++ [nI (48 + ti)])) H := ⟨Wn9, hw9, hP9, hD9⟩
  refine lv_pop hx hb dL_runs_75 rfl ?_
  refine lv_aload_n hx hb dL_runs_76 rfl (lv_at hl 1 rfl) ?_
  refine lv_iload_n hx hb dL_runs_77 rfl (lv_at hl 3 rfl) ?_
  refine pm_call (rest := []) (m_digits (cn := c2) (V := V) (L := (((((([] : List Int32) ++ [32]) ++ [97]) ++ [115]) ++ [107]) ++ [32] ++ [48] ++ [48] ++ [nI (48 + ti)])) hst (j := ri) (by omega) (Nat.le_of_ble_eq_true rfl)) ⟨hx, hb, hml, hown, hts⟩ (va_cwS 2 hts gL_runs_L_digits rfl rfl rfl (by decide +kernel) ⟨Nat.le_of_ble_eq_true rfl, Nat.le_of_ble_eq_true rfl⟩) hK hG hS hE rfl hl.1 rfl (Nat.le_of_ble_eq_true rfl) dL_runs_78 ⟨by show _ + 10 ≤ 200; omega, by show _ + 60 ≤ 1200; omega⟩ (fun r H locs hG hS => ?_)
  obtain ⟨Wn9, ⟨hr9, hw9⟩, hP9, hD9⟩ := hG
  have hG : pG D A (pS cy f a t h x ad c2 V ((((((([] : List Int32) ++ [32]) ++ [97]) ++ [115]) ++ [107]) ++ [32] ++ [48] ++ [48] ++ [nI (48 + ti)]) ++ [32] ++ [48] ++ [48] ++ [nI (48 + ri)])) H := ⟨Wn9, hw9, hP9, hD9⟩
  refine lv_pop hx hb dL_runs_81 rfl ?_
  refine lv_aload_n hx hb dL_runs_82 rfl (lv_at hl 1 rfl) ?_
  refine lv_bipush (v := 59) hx hb dL_runs_83 (by decide) ?_
  refine pw_call (rest := []) (pw_type_t (L := ((((((([] : List Int32) ++ [32]) ++ [97]) ++ [115]) ++ [107]) ++ [32] ++ [48] ++ [48] ++ [nI (48 + ti)]) ++ [32] ++ [48] ++ [48] ++ [nI (48 + ri)])) (K := kT) hst 59 (by decide) (Nat.le_of_ble_eq_true rfl)) ⟨hx, hb, hml, hown, hts⟩ (vx_cwSW 2 hts gL_runs_L_type rfl rfl rfl (by decide +kernel) ⟨Nat.le_of_ble_eq_true rfl, Nat.le_of_ble_eq_true rfl⟩) hK hG hS hE.1 rfl hl.1 rfl (Nat.le_of_ble_eq_true rfl) dL_runs_85 ⟨by show _ + 1 ≤ 200; omega, by show _ + 6 ≤ 1200; omega⟩ (fun H locs hG hS => ?_)
  refine W.widen (k := 27) (n := 162) (by omega) (by omega) ?_
  refine lv_pop hx hb dL_runs_88 rfl ?_
  refine lv_aload_n hx hb dL_runs_89 rfl (lv_at hl 1 rfl) ?_
  refine lv_bipush (v := 119) hx hb dL_runs_90 (by decide) ?_
  refine pw_call (rest := []) (pw_type_t (L := (((((((([] : List Int32) ++ [32]) ++ [97]) ++ [115]) ++ [107]) ++ [32] ++ [48] ++ [48] ++ [nI (48 + ti)]) ++ [32] ++ [48] ++ [48] ++ [nI (48 + ri)]) ++ [59])) (K := kT) hst 119 (by decide) (Nat.le_of_ble_eq_true rfl)) ⟨hx, hb, hml, hown, hts⟩ (vx_cwSW 2 hts gL_runs_L_type rfl rfl rfl (by decide +kernel) ⟨Nat.le_of_ble_eq_true rfl, Nat.le_of_ble_eq_true rfl⟩) hK hG hS hE.1 rfl hl.1 rfl (Nat.le_of_ble_eq_true rfl) dL_runs_92 ⟨by show _ + 1 ≤ 200; omega, by show _ + 6 ≤ 1200; omega⟩ (fun H locs hG hS => ?_)
  refine lv_pop hx hb dL_runs_95 rfl ?_
  refine lv_aload_n hx hb dL_runs_96 rfl (lv_at hl 1 rfl) ?_
  refine lv_bipush (v := 101) hx hb dL_runs_97 (by decide) ?_
  refine pw_call (rest := []) (pw_type_t (L := ((((((((([] : List Int32) ++ [32]) ++ [97]) ++ [115]) ++ [107]) ++ [32] ++ [48] ++ [48] ++ [nI (48 + ti)]) ++ [32] ++ [48] ++ [48] ++ [nI (48 + ri)]) ++ [59]) ++ [119])) (K := kT) hst 101 (by decide) (Nat.le_of_ble_eq_true rfl)) ⟨hx, hb, hml, hown, hts⟩ (vx_cwSW 2 hts gL_runs_L_type rfl rfl rfl (by decide +kernel) ⟨Nat.le_of_ble_eq_true rfl, Nat.le_of_ble_eq_true rfl⟩) hK hG hS hE.1 rfl hl.1 rfl (Nat.le_of_ble_eq_true rfl) dL_runs_99 ⟨by show _ + 1 ≤ 200; omega, by show _ + 6 ≤ 1200; omega⟩ (fun H locs hG hS => ?_)
  refine lv_pop hx hb dL_runs_102 rfl ?_
  refine lv_aload_n hx hb dL_runs_103 rfl (lv_at hl 1 rfl) ?_
  refine lv_bipush (v := 101) hx hb dL_runs_104 (by decide) ?_
  refine pw_call (rest := []) (pw_type_t (L := (((((((((([] : List Int32) ++ [32]) ++ [97]) ++ [115]) ++ [107]) ++ [32] ++ [48] ++ [48] ++ [nI (48 + ti)]) ++ [32] ++ [48] ++ [48] ++ [nI (48 + ri)]) ++ [59]) ++ [119]) ++ [101])) (K := kT) hst 101 (by decide) (Nat.le_of_ble_eq_true rfl)) ⟨hx, hb, hml, hown, hts⟩ (vx_cwSW 2 hts gL_runs_L_type rfl rfl rfl (by decide +kernel) ⟨Nat.le_of_ble_eq_true rfl, Nat.le_of_ble_eq_true rfl⟩) hK hG hS hE.1 rfl hl.1 rfl (Nat.le_of_ble_eq_true rfl) dL_runs_106 ⟨by show _ + 1 ≤ 200; omega, by show _ + 6 ≤ 1200; omega⟩ (fun H locs hG hS => ?_)
  refine lv_pop hx hb dL_runs_109 rfl ?_
  refine lv_aload_n hx hb dL_runs_110 rfl (lv_at hl 1 rfl) ?_
  refine lv_bipush (v := 107) hx hb dL_runs_111 (by decide) ?_
  refine pw_call (rest := []) (pw_type_t (L := ((((((((((([] : List Int32) ++ [32]) ++ [97]) ++ [115]) ++ [107]) ++ [32] ++ [48] ++ [48] ++ [nI (48 + ti)]) ++ [32] ++ [48] ++ [48] ++ [nI (48 + ri)]) ++ [59]) ++ [119]) ++ [101]) ++ [101])) (K := kT) hst 107 (by decide) (Nat.le_of_ble_eq_true rfl)) ⟨hx, hb, hml, hown, hts⟩ (vx_cwSW 2 hts gL_runs_L_type rfl rfl rfl (by decide +kernel) ⟨Nat.le_of_ble_eq_true rfl, Nat.le_of_ble_eq_true rfl⟩) hK hG hS hE.1 rfl hl.1 rfl (Nat.le_of_ble_eq_true rfl) dL_runs_113 ⟨by show _ + 1 ≤ 200; omega, by show _ + 6 ≤ 1200; omega⟩ (fun H locs hG hS => ?_)
  refine lv_pop hx hb dL_runs_116 rfl ?_
  refine lv_aload_n hx hb dL_runs_117 rfl (lv_at hl 1 rfl) ?_
  refine lv_bipush (v := 59) hx hb dL_runs_118 (by decide) ?_
  refine pw_call (rest := []) (pw_type_t (L := (((((((((((([] : List Int32) ++ [32]) ++ [97]) ++ [115]) ++ [107]) ++ [32] ++ [48] ++ [48] ++ [nI (48 + ti)]) ++ [32] ++ [48] ++ [48] ++ [nI (48 + ri)]) ++ [59]) ++ [119]) ++ [101]) ++ [101]) ++ [107])) (K := kT) hst 59 (by decide) (Nat.le_of_ble_eq_true rfl)) ⟨hx, hb, hml, hown, hts⟩ (vx_cwSW 2 hts gL_runs_L_type rfl rfl rfl (by decide +kernel) ⟨Nat.le_of_ble_eq_true rfl, Nat.le_of_ble_eq_true rfl⟩) hK hG hS hE.1 rfl hl.1 rfl (Nat.le_of_ble_eq_true rfl) dL_runs_120 ⟨by show _ + 1 ≤ 200; omega, by show _ + 6 ≤ 1200; omega⟩ (fun H locs hG hS => ?_)
  refine fz_top (show _ = 18 from rfl) ?_
  refine lv_istore (lv' := [(4, .int 18), (3, .int 1), (0, .ref (f 0)), (1, .int (nI ti)), (2, .int (nI ri))]) hx hb dL_runs_123 hl (by decide) rfl (fun ls hl => ?_)
  refine W.widen (k := 32) (n := 192) (by omega) (by omega) ?_
  have hG : pG D A (pS cy f a t h x ad c2 V (txA ti ri)) H := hG
  by_cases ha : nc < 30
  · skip
    obtain ⟨V1, e1⟩ : ∃ V1, V1 = fz_app V (nI ti) (nI ri) (V 0 0) nc nq := ⟨_, rfl⟩
    have J1 : pJ V1 nt (nc + 1) (nq + 1) nl wk (B + 6600) := by rw [e1]; exact en_J J ht h1 h9r ha
    have en : fz_enter V nc nq (nI ti) (nI ri) = (nI nc, V1) := by rw [e1]; exact en_eq J ht h1 h9r ha
    refine lv_aload_n hx hb dL_runs_125 rfl (lv_at hl 2 rfl) ?_
    by_cases hw : wk < 39
    · skip
      obtain ⟨V2, e2⟩ : ∃ V2, V2 = (fz_close V1 nt (nc + 1) nl wk).2 := ⟨_, rfl⟩
      have J2 : pJ V2 nt (nc + 1) (nq + 1) nl (wk + 1) (B + 13200) := by rw [e2]; exact ((pJ_close J1 (by omega) hw).2).mono (by omega)
      have hC := run_C2 J (by omega) ht h1 h9r ha hw
      rw [← e1, ← e2] at hC
      refine lv_iconst (v := 1) hx hb dL_runs_126 (by decide) ?_
      refine pw_call (rest := []) (pt_whole hst J 1 (by decide)) ⟨hx, hb, hml, hown, hts⟩ (vx_cwSW 2 hts gL_runs_L_whole rfl rfl rfl (by decide +kernel) ⟨Nat.le_of_ble_eq_true rfl, Nat.le_of_ble_eq_true rfl⟩) hK hG hS hE.1 rfl hl.1 rfl (Nat.le_of_ble_eq_true rfl) dL_runs_127 ⟨by show _ + 1 ≤ 200; omega, by show _ + 6 ≤ 1200; omega⟩ (fun H locs hG hS => ?_)
      refine fz_top (show _ = nI nc from J.e8) ?_
      refine lv_istore (lv' := [(5, .int (nI nc)), (4, .int 18), (3, .int 1), (0, .ref (f 0)), (1, .int (nI ti)), (2, .int (nI ri))]) hx hb dL_runs_130 hl (by decide) rfl (fun ls hl => ?_)
      refine W.widen (k := 33) (n := 198) (by omega) (by omega) ?_
      refine lv_aload_n hx hb dL_runs_132 rfl (lv_at hl 3 rfl) ?_
      refine lv_bipush (v := 8) hx hb dL_runs_133 (by decide) ?_
      refine pw_call (rest := []) (pt_whole hst J 8 (by decide)) ⟨hx, hb, hml, hown, hts⟩ (vx_cwSW 2 hts gL_runs_L_whole rfl rfl rfl (by decide +kernel) ⟨Nat.le_of_ble_eq_true rfl, Nat.le_of_ble_eq_true rfl⟩) hK hG hS hE.1 rfl hl.1 rfl (Nat.le_of_ble_eq_true rfl) dL_runs_135 ⟨by show _ + 1 ≤ 200; omega, by show _ + 6 ≤ 1200; omega⟩ (fun H locs hG hS => ?_)
      refine fz_top (show _ = nI wk from J.e0) ?_
      refine lv_istore (lv' := [(6, .int (nI wk)), (5, .int (nI nc)), (4, .int 18), (3, .int 1), (0, .ref (f 0)), (1, .int (nI ti)), (2, .int (nI ri))]) hx hb dL_runs_138 hl (by decide) rfl (fun ls hl => ?_)
      refine W.widen (k := 34) (n := 204) (by omega) (by omega) ?_
      refine lv_aload_n hx hb dL_runs_140 rfl (lv_at hl 4 rfl) ?_
      refine lv_bipush (v := 13) hx hb dL_runs_141 (by decide) ?_
      refine pw_call (rest := []) (pt_whole hst J 13 (by decide)) ⟨hx, hb, hml, hown, hts⟩ (vx_cwSW 2 hts gL_runs_L_whole rfl rfl rfl (by decide +kernel) ⟨Nat.le_of_ble_eq_true rfl, Nat.le_of_ble_eq_true rfl⟩) hK hG hS hE.1 rfl hl.1 rfl (Nat.le_of_ble_eq_true rfl) dL_runs_143 ⟨by show _ + 1 ≤ 200; omega, by show _ + 6 ≤ 1200; omega⟩ (fun H locs hG hS => ?_)
      refine fz_top (show _ = fz_sum (V 6) nt from rfl) ?_
      refine lv_istore (lv' := [(7, .int (fz_sum (V 6) nt)), (6, .int (nI wk)), (5, .int (nI nc)), (4, .int 18), (3, .int 1), (0, .ref (f 0)), (1, .int (nI ti)), (2, .int (nI ri))]) hx hb dL_runs_146 hl (by decide) rfl (fun ls hl => ?_)
      refine W.widen (k := 35) (n := 210) (by omega) (by omega) ?_
      refine lv_aload_n hx hb dL_runs_148 rfl (lv_at hl 5 rfl) ?_
      refine pv_call (E := fz_Er ad adK adV) (rest := []) (pv_run_n (cn := c2) (V := V) (L := (txA ti ri)) (K := kT) (cnt := 2) (V' := V2) (txA_F (by omega) (by omega)) (hC) J.wf J.zo) ⟨hx, hb, hml, hown, hts⟩ (cwV 0 hts gL_runs_X8_runCommands rfl rfl rfl (by decide +kernel) ⟨Nat.le_of_ble_eq_true rfl, Nat.le_of_ble_eq_true rfl⟩) rfl rfl hK hG hS (fun _ => fz_Er_bl) (fun B9 hB9 U hU hW => hE.2.1.up hU hS hW hB9) rfl hl.1 rfl (Nat.le_of_ble_eq_true rfl) dL_runs_149 ⟨by show _ + 0 ≤ 200; omega, by show _ + 0 ≤ 1200; omega⟩ (fun H locs hG hS => ?_)
      refine fz_top (show _ = 2 from rfl) ?_
      obtain ⟨c3, hc3, hG⟩ := run_top hG
      refine lv_istore (lv' := [(8, .int 2), (7, .int (fz_sum (V 6) nt)), (6, .int (nI wk)), (5, .int (nI nc)), (4, .int 18), (3, .int 1), (0, .ref (f 0)), (1, .int (nI ti)), (2, .int (nI ri))]) hx hb dL_runs_152 hl (by decide) rfl (fun ls hl => ?_)
      refine lv_iload hx hb dL_runs_154 (lv_at hl 3 rfl) ?_
      refine lv_bipush (v := 30) hx hb dL_runs_156 (by decide) ?_
      refine lv_icmp_ge (tgt := 165) hx hb dL_runs_158 (by decide) (fun z9 => absurd z9 (fun z => absurd ((nI_leI (a := 30) (by omega) (by omega)).mp z) (by omega))) (fun _ => ?_)
      refine lv_iconst (v := 1) hx hb dL_runs_161 (by decide) ?_
      refine lv_goto (tgt := 166) hx hb dL_runs_162 (by decide) ?_
      refine lv_istore (lv' := [(9, .int 1), (8, .int 2), (7, .int (fz_sum (V 6) nt)), (6, .int (nI wk)), (5, .int (nI nc)), (4, .int 18), (3, .int 1), (0, .ref (f 0)), (1, .int (nI ti)), (2, .int (nI ri))]) hx hb dL_runs_166 hl (by decide) rfl (fun ls hl => ?_)
      refine lv_iload hx hb dL_runs_168 (lv_at hl 0 rfl) ?_
      refine lv_if_eq (tgt := 184) hx hb dL_runs_170 (by decide) (fun z9 => absurd z9 (by decide)) (fun _ => ?_)
      refine lv_iload hx hb dL_runs_173 (lv_at hl 3 rfl) ?_
      refine lv_bipush (v := 39) hx hb dL_runs_175 (by decide) ?_
      refine lv_icmp_ge (tgt := 184) hx hb dL_runs_177 (by decide) (fun z9 => absurd z9 (fun z => absurd ((nI_leI (a := 39) (by omega) (by omega)).mp z) (by omega))) (fun _ => ?_)
      refine lv_iconst (v := 1) hx hb dL_runs_180 (by decide) ?_
      refine lv_goto (tgt := 185) hx hb dL_runs_181 (by decide) ?_
      refine lv_istore (lv' := [(10, .int 1), (9, .int 1), (8, .int 2), (7, .int (fz_sum (V 6) nt)), (6, .int (nI wk)), (5, .int (nI nc)), (4, .int 18), (3, .int 1), (0, .ref (f 0)), (1, .int (nI ti)), (2, .int (nI ri))]) hx hb dL_runs_185 hl (by decide) rfl (fun ls hl => ?_)
      refine lv_iload_n hx hb dL_runs_187 rfl (lv_at hl 7 rfl) ?_
      refine lv_if_eq (tgt := 269) hx hb dL_runs_188 (by decide) (fun z9 => absurd z9 (by decide)) (fun _ => ?_)
      refine lv_iload hx hb dL_runs_191 (lv_at hl 6 rfl) ?_
      refine lv_bipush (v := 18) hx hb dL_runs_193 (by decide) ?_
      refine lv_icmp_ne (tgt := 269) hx hb dL_runs_195 (by decide) (fun z9 => absurd z9 (by decide)) (fun _ => ?_)
      refine lv_iload hx hb dL_runs_198 (lv_at hl 2 rfl) ?_
      refine lv_iload hx hb dL_runs_200 (lv_at hl 1 rfl) ?_
      refine lv_if_eq (tgt := 218) hx hb dL_runs_202 (by decide) (fun z9 => absurd z9 (by decide)) (fun _ => ?_)
      refine lv_iload hx hb dL_runs_205 (lv_at hl 0 rfl) ?_
      refine lv_if_eq (tgt := 214) hx hb dL_runs_207 (by decide) (fun z9 => absurd z9 (by decide)) (fun _ => ?_)
      refine lv_iconst (v := 2) hx hb dL_runs_210 (by decide) ?_
      refine lv_goto (tgt := 219) hx hb dL_runs_211 (by decide) ?_
      refine lv_icmp_ne (tgt := 269) hx hb dL_runs_219 (by decide) (fun z9 => absurd z9 (by decide)) (fun _ => ?_)
      refine lv_aload_n hx hb dL_runs_222 rfl (lv_at hl 8 rfl) ?_
      refine lv_iconst (v := 1) hx hb dL_runs_223 (by decide) ?_
      refine pw_call (rest := []) (pt_whole hst J2 1 (by decide)) ⟨hx, hb, hml, hown, hts⟩ (vx_cwSW 2 hts gL_runs_L_whole rfl rfl rfl (by decide +kernel) ⟨Nat.le_of_ble_eq_true rfl, Nat.le_of_ble_eq_true rfl⟩) hK hG hS hE.1 rfl hl.1 rfl (Nat.le_of_ble_eq_true rfl) dL_runs_224 ⟨by show _ + 1 ≤ 200; omega, by show _ + 6 ≤ 1200; omega⟩ (fun H locs hG hS => ?_)
      refine fz_top (show _ = nI (nc + 1) from J2.e8) ?_
      refine lv_iload hx hb dL_runs_227 (lv_at hl 5 rfl) ?_
      refine lv_iload hx hb dL_runs_229 (lv_at hl 1 rfl) ?_
      refine lv_if_eq (tgt := 238) hx hb dL_runs_231 (by decide) (fun z9 => absurd z9 (by decide)) (fun _ => ?_)
      refine lv_iconst (v := 1) hx hb dL_runs_234 (by decide) ?_
      refine lv_goto (tgt := 239) hx hb dL_runs_235 (by decide) ?_
      refine lv_iadd hx hb dL_runs_239 ?_
      refine fz_top (show _ = nI (nc + 1) from nI_1 nc) ?_
      refine lv_icmp_ne (tgt := 269) hx hb dL_runs_240 (by decide) (fun z9 => absurd z9 (not_not_p rfl)) (fun _ => ?_)
      refine lv_aload_n hx hb dL_runs_243 rfl (lv_at hl 8 rfl) ?_
      refine lv_bipush (v := 8) hx hb dL_runs_244 (by decide) ?_
      refine pw_call (rest := []) (pt_whole hst J2 8 (by decide)) ⟨hx, hb, hml, hown, hts⟩ (vx_cwSW 2 hts gL_runs_L_whole rfl rfl rfl (by decide +kernel) ⟨Nat.le_of_ble_eq_true rfl, Nat.le_of_ble_eq_true rfl⟩) hK hG hS hE.1 rfl hl.1 rfl (Nat.le_of_ble_eq_true rfl) dL_runs_246 ⟨by show _ + 1 ≤ 200; omega, by show _ + 6 ≤ 1200; omega⟩ (fun H locs hG hS => ?_)
      refine fz_top (show _ = nI (wk + 1) from J2.e0) ?_
      refine lv_iload hx hb dL_runs_249 (lv_at hl 4 rfl) ?_
      refine lv_iload hx hb dL_runs_251 (lv_at hl 0 rfl) ?_
      refine lv_if_eq (tgt := 260) hx hb dL_runs_253 (by decide) (fun z9 => absurd z9 (by decide)) (fun _ => ?_)
      refine lv_iconst (v := 1) hx hb dL_runs_256 (by decide) ?_
      refine lv_goto (tgt := 261) hx hb dL_runs_257 (by decide) ?_
      refine lv_iadd hx hb dL_runs_261 ?_
      refine fz_top (show _ = nI (wk + 1) from nI_1 wk) ?_
      refine lv_icmp_ne (tgt := 269) hx hb dL_runs_262 (by decide) (fun z9 => absurd z9 (not_not_p rfl)) (fun _ => ?_)
      refine lv_iconst (v := 1) hx hb dL_runs_265 (by decide) ?_
      refine lv_goto (tgt := 270) hx hb dL_runs_266 (by decide) ?_
      refine lv_istore_n (lv' := [(3, .int 1), (10, .int 1), (9, .int 1), (8, .int 2), (7, .int (fz_sum (V 6) nt)), (6, .int (nI wk)), (5, .int (nI nc)), (4, .int 18), (0, .ref (f 0)), (1, .int (nI ti)), (2, .int (nI ri))]) hx hb dL_runs_270 rfl hl (by decide) rfl (fun ls hl => ?_)
      refine W.widen (k := 37) (n := 222) (by omega) (by omega) ?_
      refine lv_aload_n hx hb dL_runs_271 rfl (lv_at hl 8 rfl) ?_
      refine lv_bipush (v := 13) hx hb dL_runs_272 (by decide) ?_
      refine pw_call (rest := []) (pt_whole hst J2 13 (by decide)) ⟨hx, hb, hml, hown, hts⟩ (vx_cwSW 2 hts gL_runs_L_whole rfl rfl rfl (by decide +kernel) ⟨Nat.le_of_ble_eq_true rfl, Nat.le_of_ble_eq_true rfl⟩) hK hG hS hE.1 rfl hl.1 rfl (Nat.le_of_ble_eq_true rfl) dL_runs_274 ⟨by show _ + 1 ≤ 200; omega, by show _ + 6 ≤ 1200; omega⟩ (fun H locs hG hS => ?_)
      refine fz_top (show _ = fz_sum (V2 6) nt from rfl) ?_
      refine lv_istore (lv' := [(11, .int (fz_sum (V2 6) nt)), (3, .int 1), (10, .int 1), (9, .int 1), (8, .int 2), (7, .int (fz_sum (V 6) nt)), (6, .int (nI wk)), (5, .int (nI nc)), (4, .int 18), (0, .ref (f 0)), (1, .int (nI ti)), (2, .int (nI ri))]) hx hb dL_runs_277 hl (by decide) rfl (fun ls hl => ?_)
      refine W.widen (k := 38) (n := 228) (by omega) (by omega) ?_
      refine lv_iload_n hx hb dL_runs_279 rfl (lv_at hl 1 rfl) ?_
      refine lv_if_eq (tgt := 359) hx hb dL_runs_280 (by decide) (fun z9 => absurd z9 (by decide)) (fun _ => ?_)
      refine lv_aload_n hx hb dL_runs_283 rfl (lv_at hl 9 rfl) ?_
      refine pw_call (rest := []) (pw_undo_t (cn := c3) (V := V2) (L := (txA ti ri)) (U := V) hst J.zo) ⟨hx, hb, hml, hown, hts⟩ (vx_cwSW 1 hts gL_runs_L_undo rfl rfl rfl (by decide +kernel) ⟨Nat.le_of_ble_eq_true rfl, Nat.le_of_ble_eq_true rfl⟩) hK hG hS hE.1 rfl hl.1 rfl (Nat.le_of_ble_eq_true rfl) dL_runs_284 ⟨by show _ + 1 ≤ 200; omega, by show _ + 6 ≤ 1200; omega⟩ (fun H locs hG hS => ?_)
      refine fz_top (show _ = nI c3 from rfl) ?_
      refine lv_if_lt (tgt := 359) hx hb dL_runs_287 (by decide) (fun z9 => absurd z9 (nI_pos (n := c3) (by omega))) (fun _ => ?_)
      refine lv_aload_n hx hb dL_runs_290 rfl (lv_at hl 9 rfl) ?_
      refine lv_iconst (v := 1) hx hb dL_runs_291 (by decide) ?_
      refine pw_call (rest := []) (pt_whole hst J 1 (by decide)) ⟨hx, hb, hml, hown, hts⟩ (vx_cwSW 2 hts gL_runs_L_whole rfl rfl rfl (by decide +kernel) ⟨Nat.le_of_ble_eq_true rfl, Nat.le_of_ble_eq_true rfl⟩) hK hG hS hE.1 rfl hl.1 rfl (Nat.le_of_ble_eq_true rfl) dL_runs_292 ⟨by show _ + 1 ≤ 200; omega, by show _ + 6 ≤ 1200; omega⟩ (fun H locs hG hS => ?_)
      refine fz_top (show _ = nI nc from J.e8) ?_
      refine lv_iload hx hb dL_runs_295 (lv_at hl 7 rfl) ?_
      refine lv_icmp_ne (tgt := 359) hx hb dL_runs_297 (by decide) (fun z9 => absurd z9 (not_not_p rfl)) (fun _ => ?_)
      refine lv_aload_n hx hb dL_runs_300 rfl (lv_at hl 9 rfl) ?_
      refine lv_bipush (v := 8) hx hb dL_runs_301 (by decide) ?_
      refine pw_call (rest := []) (pt_whole hst J 8 (by decide)) ⟨hx, hb, hml, hown, hts⟩ (vx_cwSW 2 hts gL_runs_L_whole rfl rfl rfl (by decide +kernel) ⟨Nat.le_of_ble_eq_true rfl, Nat.le_of_ble_eq_true rfl⟩) hK hG hS hE.1 rfl hl.1 rfl (Nat.le_of_ble_eq_true rfl) dL_runs_303 ⟨by show _ + 1 ≤ 200; omega, by show _ + 6 ≤ 1200; omega⟩ (fun H locs hG hS => ?_)
      refine fz_top (show _ = nI wk from J.e0) ?_
      refine lv_iload hx hb dL_runs_306 (lv_at hl 6 rfl) ?_
      refine lv_icmp_ne (tgt := 359) hx hb dL_runs_308 (by decide) (fun z9 => absurd z9 (not_not_p rfl)) (fun _ => ?_)
      refine lv_aload_n hx hb dL_runs_311 rfl (lv_at hl 9 rfl) ?_
      refine lv_bipush (v := 13) hx hb dL_runs_312 (by decide) ?_
      refine pw_call (rest := []) (pt_whole hst J 13 (by decide)) ⟨hx, hb, hml, hown, hts⟩ (vx_cwSW 2 hts gL_runs_L_whole rfl rfl rfl (by decide +kernel) ⟨Nat.le_of_ble_eq_true rfl, Nat.le_of_ble_eq_true rfl⟩) hK hG hS hE.1 rfl hl.1 rfl (Nat.le_of_ble_eq_true rfl) dL_runs_314 ⟨by show _ + 1 ≤ 200; omega, by show _ + 6 ≤ 1200; omega⟩ (fun H locs hG hS => ?_)
      refine fz_top (show _ = fz_sum (V 6) nt from rfl) ?_
      refine lv_iload hx hb dL_runs_317 (lv_at hl 5 rfl) ?_
      refine lv_icmp_ne (tgt := 359) hx hb dL_runs_319 (by decide) (fun z9 => absurd z9 (not_not_p rfl)) (fun _ => ?_)
      refine lv_iload hx hb dL_runs_322 (lv_at hl 3 rfl) ?_
      refine lv_if_eq (tgt := 338) hx hb dL_runs_324 (by decide) (fun z9 => absurd z9 (by decide)) (fun _ => ?_)
      refine lv_aload_n hx hb dL_runs_327 rfl (lv_at hl 9 rfl) ?_
      refine lv_iload_n hx hb dL_runs_328 rfl (lv_at hl 10 rfl) ?_
      refine lv_iload_n hx hb dL_runs_329 rfl (lv_at hl 11 rfl) ?_
      refine pw_call (rest := []) (pw_ask_t hst J.wf J.zo (nI ti) (nI ri) (by rw [en]; exact (ok_n (by omega)).1)) ⟨hx, hb, hml, hown, hts⟩ (vx_cwSW 3 hts gL_runs_L_ask rfl rfl rfl (by decide +kernel) ⟨Nat.le_of_ble_eq_true rfl, Nat.le_of_ble_eq_true rfl⟩) hK hG hS hE.1 rfl hl.1 rfl (Nat.le_of_ble_eq_true rfl) dL_runs_330 ⟨by show _ + 1 ≤ 200; omega, by show _ + 6 ≤ 1200; omega⟩ (fun H locs hG hS => ?_)
      refine fz_top (show _ = nI nc from (congrArg Prod.fst en)) ?_
      rw [en] at hG
      refine lv_iload hx hb dL_runs_333 (lv_at hl 7 rfl) ?_
      refine lv_icmp_ne (tgt := 359) hx hb dL_runs_335 (by decide) (fun z9 => absurd z9 (not_not_p rfl)) (fun _ => ?_)
      refine lv_iload hx hb dL_runs_338 (lv_at hl 2 rfl) ?_
      refine lv_if_eq (tgt := 355) hx hb dL_runs_340 (by decide) (fun z9 => absurd z9 (by decide)) (fun _ => ?_)
      refine lv_aload_n hx hb dL_runs_343 rfl (lv_at hl 9 rfl) ?_
      refine pw_call (rest := []) (pw_endWeek_t hst J1.wf J1.zo (cl_ok J1 (by omega) hw).1) ⟨hx, hb, hml, hown, hts⟩ (vx_cwSW 1 hts gL_runs_L_endWeek rfl rfl rfl (by decide +kernel) ⟨Nat.le_of_ble_eq_true rfl, Nat.le_of_ble_eq_true rfl⟩) hK hG hS hE.1 rfl hl.1 rfl (Nat.le_of_ble_eq_true rfl) dL_runs_344 ⟨by show _ + 1 ≤ 200; omega, by show _ + 6 ≤ 1200; omega⟩ (fun H locs hG hS => ?_)
      refine fz_top (show _ = (fz_close V1 nt (nc + 1) nl wk).1 from rfl) ?_
      rw [← e2] at hG
      refine W.widen (k := 44) (n := 264) (by omega) (by omega) ?_
      refine lv_iload hx hb dL_runs_347 (lv_at hl 0 rfl) ?_
      refine lv_iload hx hb dL_runs_349 (lv_at hl 5 rfl) ?_
      refine lv_isub hx hb dL_runs_351 ?_
      refine lv_icmp_ne (tgt := 359) hx hb dL_runs_352 (by decide) (fun z9 => absurd z9 (not_not_p (by rw [e2]; exact run_earn J1 (by rw [e1]; rfl) hw))) (fun _ => ?_)
      refine lv_iconst (v := 1) hx hb dL_runs_355 (by decide) ?_
      refine lv_goto (tgt := 360) hx hb dL_runs_356 (by decide) ?_
      refine lv_istore_n (lv' := [(3, .int 1), (11, .int (fz_sum (V2 6) nt)), (10, .int 1), (9, .int 1), (8, .int 2), (7, .int (fz_sum (V 6) nt)), (6, .int (nI wk)), (5, .int (nI nc)), (4, .int 18), (0, .ref (f 0)), (1, .int (nI ti)), (2, .int (nI ri))]) hx hb dL_runs_360 rfl hl (by decide) rfl (fun ls hl => ?_)
      refine lv_aload_n hx hb dL_runs_361 rfl (lv_at hl 9 rfl) ?_
      refine lv_bipush (v := 17) hx hb dL_runs_362 (by decide) ?_
      refine pw_call (rest := []) (pt_whole17 hst J2) ⟨hx, hb, hml, hown, hts⟩ (vx_cwSW 2 hts gL_runs_L_whole rfl rfl rfl (by decide +kernel) ⟨Nat.le_of_ble_eq_true rfl, Nat.le_of_ble_eq_true rfl⟩) hK hG hS hE.1 rfl hl.1 rfl (Nat.le_of_ble_eq_true rfl) dL_runs_364 ⟨by show _ + 1 ≤ 200; omega, by show _ + 6 ≤ 1200; omega⟩ (fun H locs hG hS => ?_)
      refine fz_top (show _ = 18 from rfl) ?_
      refine lv_istore (lv' := [(12, .int 18), (3, .int 1), (11, .int (fz_sum (V2 6) nt)), (10, .int 1), (9, .int 1), (8, .int 2), (7, .int (fz_sum (V 6) nt)), (6, .int (nI wk)), (5, .int (nI nc)), (4, .int 18), (0, .ref (f 0)), (1, .int (nI ti)), (2, .int (nI ri))]) hx hb dL_runs_367 hl (by decide) rfl (fun ls hl => ?_)
      refine W.widen (k := 45) (n := 270) (by omega) (by omega) ?_
      refine lv_iload_n hx hb dL_runs_369 rfl (lv_at hl 1 rfl) ?_
      refine lv_if_eq (tgt := 433) hx hb dL_runs_370 (by decide) (fun z9 => absurd z9 (by decide)) (fun _ => ?_)
      refine lv_iload hx hb dL_runs_373 (lv_at hl 0 rfl) ?_
      refine lv_bipush (v := 18) hx hb dL_runs_375 (by decide) ?_
      refine lv_icmp_ne (tgt := 433) hx hb dL_runs_377 (by decide) (fun z9 => absurd z9 (by decide)) (fun _ => ?_)
      refine lv_aload_n hx hb dL_runs_380 rfl (lv_at hl 10 rfl) ?_
      refine lv_bipush (v := 119) hx hb dL_runs_381 (by decide) ?_
      refine pw_call (rest := []) (pw_type_t (L := (txA ti ri)) (K := kT) hst 119 (by decide) (Nat.le_of_ble_eq_true rfl)) ⟨hx, hb, hml, hown, hts⟩ (vx_cwSW 2 hts gL_runs_L_type rfl rfl rfl (by decide +kernel) ⟨Nat.le_of_ble_eq_true rfl, Nat.le_of_ble_eq_true rfl⟩) hK hG hS hE.1 rfl hl.1 rfl (Nat.le_of_ble_eq_true rfl) dL_runs_383 ⟨by show _ + 1 ≤ 200; omega, by show _ + 6 ≤ 1200; omega⟩ (fun H locs hG hS => ?_)
      refine fz_top (show _ = 19 from rfl) ?_
      refine lv_bipush (v := 19) hx hb dL_runs_386 (by decide) ?_
      refine lv_icmp_ne (tgt := 433) hx hb dL_runs_388 (by decide) (fun z9 => absurd z9 (by decide)) (fun _ => ?_)
      refine lv_aload_n hx hb dL_runs_391 rfl (lv_at hl 10 rfl) ?_
      refine pv_call (E := fz_Er ad adK adV) (rest := []) (pv_run_f (cn := (hs_n (hs_n c3))) (V := V2) (L := ((txA ti ri) ++ [119])) (K := kT) (F := 18) (txB_F (t := ti) (r := ri) (M := [119]) (by omega) (by omega) (by simp)) (by decide)) ⟨hx, hb, hml, hown, hts⟩ (cwV 0 hts gL_runs_X8_runCommands rfl rfl rfl (by decide +kernel) ⟨Nat.le_of_ble_eq_true rfl, Nat.le_of_ble_eq_true rfl⟩) rfl rfl hK hG hS (fun _ => fz_Er_bl) (fun B9 hB9 U hU hW => hE.2.1.up hU hS hW hB9) rfl hl.1 rfl (Nat.le_of_ble_eq_true rfl) dL_runs_392 ⟨by show _ + 0 ≤ 200; omega, by show _ + 0 ≤ 1200; omega⟩ (fun H locs hG hS => ?_)
      refine fz_top (show _ = (-28) from (by decide)) ?_
      refine lv_bipush (v := (-28)) hx hb dL_runs_395 (by decide) ?_
      refine lv_icmp_ne (tgt := 433) hx hb dL_runs_397 (by decide) (fun z9 => absurd z9 (by decide)) (fun _ => ?_)
      refine lv_aload_n hx hb dL_runs_400 rfl (lv_at hl 10 rfl) ?_
      refine lv_bipush (v := 32) hx hb dL_runs_401 (by decide) ?_
      refine pw_call (rest := []) (pw_type_t (L := ((txA ti ri) ++ [119])) (K := kT) hst 32 (by decide) (Nat.le_of_ble_eq_true rfl)) ⟨hx, hb, hml, hown, hts⟩ (vx_cwSW 2 hts gL_runs_L_type rfl rfl rfl (by decide +kernel) ⟨Nat.le_of_ble_eq_true rfl, Nat.le_of_ble_eq_true rfl⟩) hK hG hS hE.1 rfl hl.1 rfl (Nat.le_of_ble_eq_true rfl) dL_runs_403 ⟨by show _ + 1 ≤ 200; omega, by show _ + 6 ≤ 1200; omega⟩ (fun H locs hG hS => ?_)
      refine fz_top (show _ = 20 from rfl) ?_
      refine lv_bipush (v := 20) hx hb dL_runs_406 (by decide) ?_
      refine lv_icmp_ne (tgt := 433) hx hb dL_runs_408 (by decide) (fun z9 => absurd z9 (by decide)) (fun _ => ?_)
      refine lv_aload_n hx hb dL_runs_411 rfl (lv_at hl 10 rfl) ?_
      refine pv_call (E := fz_Er ad adK adV) (rest := []) (pv_run_f (cn := (hs_n (hs_n c3))) (V := V2) (L := (((txA ti ri) ++ [119]) ++ [32])) (K := kT) (F := 18) (txB_F (t := ti) (r := ri) (M := [119, 32]) (by omega) (by omega) (by simp)) (by decide)) ⟨hx, hb, hml, hown, hts⟩ (cwV 0 hts gL_runs_X8_runCommands rfl rfl rfl (by decide +kernel) ⟨Nat.le_of_ble_eq_true rfl, Nat.le_of_ble_eq_true rfl⟩) rfl rfl hK hG hS (fun _ => fz_Er_bl) (fun B9 hB9 U hU hW => hE.2.1.up hU hS hW hB9) rfl hl.1 rfl (Nat.le_of_ble_eq_true rfl) dL_runs_412 ⟨by show _ + 0 ≤ 200; omega, by show _ + 0 ≤ 1200; omega⟩ (fun H locs hG hS => ?_)
      refine fz_top (show _ = (-28) from (by decide)) ?_
      refine lv_bipush (v := (-28)) hx hb dL_runs_415 (by decide) ?_
      refine lv_icmp_ne (tgt := 433) hx hb dL_runs_417 (by decide) (fun z9 => absurd z9 (by decide)) (fun _ => ?_)
      refine lv_aload_n hx hb dL_runs_420 rfl (lv_at hl 10 rfl) ?_
      refine pv_call (E := fun _ => fz_T) (rest := []) (pv_clear (cn := (hs_n (hs_n c3))) (V := V2) (L := (((txA ti ri) ++ [119]) ++ [32])) (K := kT)) ⟨hx, hb, hml, hown, hts⟩ (cwV 0 hts gL_runs_X8_clearCommands rfl rfl rfl (by decide +kernel) ⟨Nat.le_of_ble_eq_true rfl, Nat.le_of_ble_eq_true rfl⟩) rfl rfl hK hG hS (fun _ => fz_T_bl) (fun _ _ _ _ _ => trivial) rfl hl.1 rfl (Nat.le_of_ble_eq_true rfl) dL_runs_421 ⟨by show _ + 0 ≤ 200; omega, by show _ + 0 ≤ 1200; omega⟩ (fun H locs hG hS => ?_)
      refine fz_top (show _ = 20 from rfl) ?_
      refine lv_bipush (v := 20) hx hb dL_runs_424 (by decide) ?_
      refine lv_icmp_ne (tgt := 433) hx hb dL_runs_426 (by decide) (fun z9 => absurd z9 (by decide)) (fun _ => ?_)
      refine lv_iconst (v := 1) hx hb dL_runs_429 (by decide) ?_
      refine lv_goto (tgt := 434) hx hb dL_runs_430 (by decide) ?_
      refine lv_istore_n (lv' := [(3, .int 1), (12, .int 18), (11, .int (fz_sum (V2 6) nt)), (10, .int 1), (9, .int 1), (8, .int 2), (7, .int (fz_sum (V 6) nt)), (6, .int (nI wk)), (5, .int (nI nc)), (4, .int 18), (0, .ref (f 0)), (1, .int (nI ti)), (2, .int (nI ri))]) hx hb dL_runs_434 rfl hl (by decide) rfl (fun ls hl => ?_)
      refine W.widen (k := 47) (n := 282) (by omega) (by omega) ?_
      refine lv_aload_n hx hb dL_runs_435 rfl (lv_at hl 10 rfl) ?_
      refine lv_bipush (v := 116) hx hb dL_runs_436 (by decide) ?_
      refine pw_call (rest := []) (pw_type_t (L := ([] : List Int32)) (K := kT) hst 116 (by decide) (Nat.le_of_ble_eq_true rfl)) ⟨hx, hb, hml, hown, hts⟩ (vx_cwSW 2 hts gL_runs_L_type rfl rfl rfl (by decide +kernel) ⟨Nat.le_of_ble_eq_true rfl, Nat.le_of_ble_eq_true rfl⟩) hK hG hS hE.1 rfl hl.1 rfl (Nat.le_of_ble_eq_true rfl) dL_runs_438 ⟨by show _ + 1 ≤ 200; omega, by show _ + 6 ≤ 1200; omega⟩ (fun H locs hG hS => ?_)
      refine lv_pop hx hb dL_runs_441 rfl ?_
      refine lv_aload_n hx hb dL_runs_442 rfl (lv_at hl 10 rfl) ?_
      refine lv_bipush (v := 101) hx hb dL_runs_443 (by decide) ?_
      refine pw_call (rest := []) (pw_type_t (L := (([] : List Int32) ++ [116])) (K := kT) hst 101 (by decide) (Nat.le_of_ble_eq_true rfl)) ⟨hx, hb, hml, hown, hts⟩ (vx_cwSW 2 hts gL_runs_L_type rfl rfl rfl (by decide +kernel) ⟨Nat.le_of_ble_eq_true rfl, Nat.le_of_ble_eq_true rfl⟩) hK hG hS hE.1 rfl hl.1 rfl (Nat.le_of_ble_eq_true rfl) dL_runs_445 ⟨by show _ + 1 ≤ 200; omega, by show _ + 6 ≤ 1200; omega⟩ (fun H locs hG hS => ?_)
      refine lv_pop hx hb dL_runs_448 rfl ?_
      refine lv_aload_n hx hb dL_runs_449 rfl (lv_at hl 10 rfl) ?_
      refine lv_bipush (v := 97) hx hb dL_runs_450 (by decide) ?_
      refine pw_call (rest := []) (pw_type_t (L := ((([] : List Int32) ++ [116]) ++ [101])) (K := kT) hst 97 (by decide) (Nat.le_of_ble_eq_true rfl)) ⟨hx, hb, hml, hown, hts⟩ (vx_cwSW 2 hts gL_runs_L_type rfl rfl rfl (by decide +kernel) ⟨Nat.le_of_ble_eq_true rfl, Nat.le_of_ble_eq_true rfl⟩) hK hG hS hE.1 rfl hl.1 rfl (Nat.le_of_ble_eq_true rfl) dL_runs_452 ⟨by show _ + 1 ≤ 200; omega, by show _ + 6 ≤ 1200; omega⟩ (fun H locs hG hS => ?_)
      refine lv_pop hx hb dL_runs_455 rfl ?_
      refine lv_aload_n hx hb dL_runs_456 rfl (lv_at hl 10 rfl) ?_
      refine lv_bipush (v := 109) hx hb dL_runs_457 (by decide) ?_
      refine pw_call (rest := []) (pw_type_t (L := (((([] : List Int32) ++ [116]) ++ [101]) ++ [97])) (K := kT) hst 109 (by decide) (Nat.le_of_ble_eq_true rfl)) ⟨hx, hb, hml, hown, hts⟩ (vx_cwSW 2 hts gL_runs_L_type rfl rfl rfl (by decide +kernel) ⟨Nat.le_of_ble_eq_true rfl, Nat.le_of_ble_eq_true rfl⟩) hK hG hS hE.1 rfl hl.1 rfl (Nat.le_of_ble_eq_true rfl) dL_runs_459 ⟨by show _ + 1 ≤ 200; omega, by show _ + 6 ≤ 1200; omega⟩ (fun H locs hG hS => ?_)
      refine lv_pop hx hb dL_runs_462 rfl ?_
      refine lv_iload_n hx hb dL_runs_463 rfl (lv_at hl 0 rfl) ?_
      refine lv_if_eq (tgt := 552) hx hb dL_runs_464 (by decide) (fun z9 => absurd z9 (by decide)) (fun _ => ?_)
      refine lv_aload_n hx hb dL_runs_467 rfl (lv_at hl 10 rfl) ?_
      refine pv_call (E := fz_Er ad adK adV) (rest := []) (pv_run_f (cn := (hs_n (hs_n c3))) (V := V2) (L := ((((([] : List Int32) ++ [116]) ++ [101]) ++ [97]) ++ [109])) (K := kT) (F := 4) (txteam_F) (by decide)) ⟨hx, hb, hml, hown, hts⟩ (cwV 0 hts gL_runs_X8_runCommands rfl rfl rfl (by decide +kernel) ⟨Nat.le_of_ble_eq_true rfl, Nat.le_of_ble_eq_true rfl⟩) rfl rfl hK hG hS (fun _ => fz_Er_bl) (fun B9 hB9 U hU hW => hE.2.1.up hU hS hW hB9) rfl hl.1 rfl (Nat.le_of_ble_eq_true rfl) dL_runs_468 ⟨by show _ + 0 ≤ 200; omega, by show _ + 0 ≤ 1200; omega⟩ (fun H locs hG hS => ?_)
      refine fz_top (show _ = (-14) from (by decide)) ?_
      refine lv_bipush (v := (-14)) hx hb dL_runs_471 (by decide) ?_
      refine lv_icmp_ne (tgt := 552) hx hb dL_runs_473 (by decide) (fun z9 => absurd z9 (by decide)) (fun _ => ?_)
      refine lv_aload_n hx hb dL_runs_476 rfl (lv_at hl 10 rfl) ?_
      refine lv_bipush (v := 32) hx hb dL_runs_477 (by decide) ?_
      refine pw_call (rest := []) (pw_type_t (L := ((((([] : List Int32) ++ [116]) ++ [101]) ++ [97]) ++ [109])) (K := kT) hst 32 (by decide) (Nat.le_of_ble_eq_true rfl)) ⟨hx, hb, hml, hown, hts⟩ (vx_cwSW 2 hts gL_runs_L_type rfl rfl rfl (by decide +kernel) ⟨Nat.le_of_ble_eq_true rfl, Nat.le_of_ble_eq_true rfl⟩) hK hG hS hE.1 rfl hl.1 rfl (Nat.le_of_ble_eq_true rfl) dL_runs_479 ⟨by show _ + 1 ≤ 200; omega, by show _ + 6 ≤ 1200; omega⟩ (fun H locs hG hS => ?_)
      refine fz_top (show _ = 5 from rfl) ?_
      refine lv_iconst (v := 5) hx hb dL_runs_482 (by decide) ?_
      refine lv_icmp_ne (tgt := 552) hx hb dL_runs_483 (by decide) (fun z9 => absurd z9 (by decide)) (fun _ => ?_)
      refine lv_aload_n hx hb dL_runs_486 rfl (lv_at hl 10 rfl) ?_
      refine pv_call (E := fz_Er ad adK adV) (rest := []) (pv_run_f (cn := (hs_n (hs_n c3))) (V := V2) (L := (((((([] : List Int32) ++ [116]) ++ [101]) ++ [97]) ++ [109]) ++ [32])) (K := kT) (F := 5) (txteam1_F) (by decide)) ⟨hx, hb, hml, hown, hts⟩ (cwV 0 hts gL_runs_X8_runCommands rfl rfl rfl (by decide +kernel) ⟨Nat.le_of_ble_eq_true rfl, Nat.le_of_ble_eq_true rfl⟩) rfl rfl hK hG hS (fun _ => fz_Er_bl) (fun B9 hB9 U hU hW => hE.2.1.up hU hS hW hB9) rfl hl.1 rfl (Nat.le_of_ble_eq_true rfl) dL_runs_487 ⟨by show _ + 0 ≤ 200; omega, by show _ + 0 ≤ 1200; omega⟩ (fun H locs hG hS => ?_)
      refine fz_top (show _ = (-15) from (by decide)) ?_
      refine lv_bipush (v := (-15)) hx hb dL_runs_490 (by decide) ?_
      refine lv_icmp_ne (tgt := 552) hx hb dL_runs_492 (by decide) (fun z9 => absurd z9 (by decide)) (fun _ => ?_)
      refine lv_aload_n hx hb dL_runs_495 rfl (lv_at hl 10 rfl) ?_
      refine lv_bipush (v := 55) hx hb dL_runs_496 (by decide) ?_
      refine pw_call (rest := []) (pw_type_t (L := (((((([] : List Int32) ++ [116]) ++ [101]) ++ [97]) ++ [109]) ++ [32])) (K := kT) hst 55 (by decide) (Nat.le_of_ble_eq_true rfl)) ⟨hx, hb, hml, hown, hts⟩ (vx_cwSW 2 hts gL_runs_L_type rfl rfl rfl (by decide +kernel) ⟨Nat.le_of_ble_eq_true rfl, Nat.le_of_ble_eq_true rfl⟩) hK hG hS hE.1 rfl hl.1 rfl (Nat.le_of_ble_eq_true rfl) dL_runs_498 ⟨by show _ + 1 ≤ 200; omega, by show _ + 6 ≤ 1200; omega⟩ (fun H locs hG hS => ?_)
      refine fz_top (show _ = 6 from rfl) ?_
      refine W.widen (k := 53) (n := 318) (by omega) (by omega) ?_
      refine lv_bipush (v := 6) hx hb dL_runs_501 (by decide) ?_
      refine lv_icmp_ne (tgt := 552) hx hb dL_runs_503 (by decide) (fun z9 => absurd z9 (by decide)) (fun _ => ?_)
      refine lv_aload_n hx hb dL_runs_506 rfl (lv_at hl 10 rfl) ?_
      refine lv_bipush (v := 55) hx hb dL_runs_507 (by decide) ?_
      refine pw_call (rest := []) (pw_type_t (L := ((((((([] : List Int32) ++ [116]) ++ [101]) ++ [97]) ++ [109]) ++ [32]) ++ [55])) (K := kT) hst 55 (by decide) (Nat.le_of_ble_eq_true rfl)) ⟨hx, hb, hml, hown, hts⟩ (vx_cwSW 2 hts gL_runs_L_type rfl rfl rfl (by decide +kernel) ⟨Nat.le_of_ble_eq_true rfl, Nat.le_of_ble_eq_true rfl⟩) hK hG hS hE.1 rfl hl.1 rfl (Nat.le_of_ble_eq_true rfl) dL_runs_509 ⟨by show _ + 1 ≤ 200; omega, by show _ + 6 ≤ 1200; omega⟩ (fun H locs hG hS => ?_)
      refine fz_top (show _ = 7 from rfl) ?_
      refine lv_bipush (v := 7) hx hb dL_runs_512 (by decide) ?_
      refine lv_icmp_ne (tgt := 552) hx hb dL_runs_514 (by decide) (fun z9 => absurd z9 (by decide)) (fun _ => ?_)
      refine lv_aload_n hx hb dL_runs_517 rfl (lv_at hl 10 rfl) ?_
      refine lv_bipush (v := 55) hx hb dL_runs_518 (by decide) ?_
      refine pw_call (rest := []) (pw_type_t (L := (((((((([] : List Int32) ++ [116]) ++ [101]) ++ [97]) ++ [109]) ++ [32]) ++ [55]) ++ [55])) (K := kT) hst 55 (by decide) (Nat.le_of_ble_eq_true rfl)) ⟨hx, hb, hml, hown, hts⟩ (vx_cwSW 2 hts gL_runs_L_type rfl rfl rfl (by decide +kernel) ⟨Nat.le_of_ble_eq_true rfl, Nat.le_of_ble_eq_true rfl⟩) hK hG hS hE.1 rfl hl.1 rfl (Nat.le_of_ble_eq_true rfl) dL_runs_520 ⟨by show _ + 1 ≤ 200; omega, by show _ + 6 ≤ 1200; omega⟩ (fun H locs hG hS => ?_)
      refine fz_top (show _ = 8 from rfl) ?_
      refine lv_bipush (v := 8) hx hb dL_runs_523 (by decide) ?_
      refine lv_icmp_ne (tgt := 552) hx hb dL_runs_525 (by decide) (fun z9 => absurd z9 (by decide)) (fun _ => ?_)
      refine lv_aload_n hx hb dL_runs_528 rfl (lv_at hl 10 rfl) ?_
      refine lv_bipush (v := 55) hx hb dL_runs_529 (by decide) ?_
      refine pw_call (rest := []) (pw_type_t (L := ((((((((([] : List Int32) ++ [116]) ++ [101]) ++ [97]) ++ [109]) ++ [32]) ++ [55]) ++ [55]) ++ [55])) (K := kT) hst 55 (by decide) (Nat.le_of_ble_eq_true rfl)) ⟨hx, hb, hml, hown, hts⟩ (vx_cwSW 2 hts gL_runs_L_type rfl rfl rfl (by decide +kernel) ⟨Nat.le_of_ble_eq_true rfl, Nat.le_of_ble_eq_true rfl⟩) hK hG hS hE.1 rfl hl.1 rfl (Nat.le_of_ble_eq_true rfl) dL_runs_531 ⟨by show _ + 1 ≤ 200; omega, by show _ + 6 ≤ 1200; omega⟩ (fun H locs hG hS => ?_)
      refine fz_top (show _ = 9 from rfl) ?_
      refine lv_bipush (v := 9) hx hb dL_runs_534 (by decide) ?_
      refine lv_icmp_ne (tgt := 552) hx hb dL_runs_536 (by decide) (fun z9 => absurd z9 (by decide)) (fun _ => ?_)
      refine lv_aload_n hx hb dL_runs_539 rfl (lv_at hl 10 rfl) ?_
      refine pv_call (E := fz_Er ad adK adV) (rest := []) (pv_run_f (cn := (hs_n (hs_n c3))) (V := V2) (L := (((((((((([] : List Int32) ++ [116]) ++ [101]) ++ [97]) ++ [109]) ++ [32]) ++ [55]) ++ [55]) ++ [55]) ++ [55])) (K := kT) (F := 8) (txteam5_F) (by decide)) ⟨hx, hb, hml, hown, hts⟩ (cwV 0 hts gL_runs_X8_runCommands rfl rfl rfl (by decide +kernel) ⟨Nat.le_of_ble_eq_true rfl, Nat.le_of_ble_eq_true rfl⟩) rfl rfl hK hG hS (fun _ => fz_Er_bl) (fun B9 hB9 U hU hW => hE.2.1.up hU hS hW hB9) rfl hl.1 rfl (Nat.le_of_ble_eq_true rfl) dL_runs_540 ⟨by show _ + 0 ≤ 200; omega, by show _ + 0 ≤ 1200; omega⟩ (fun H locs hG hS => ?_)
      refine fz_top (show _ = (-18) from (by decide)) ?_
      refine lv_bipush (v := (-18)) hx hb dL_runs_543 (by decide) ?_
      refine lv_icmp_ne (tgt := 552) hx hb dL_runs_545 (by decide) (fun z9 => absurd z9 (by decide)) (fun _ => ?_)
      refine lv_iconst (v := 1) hx hb dL_runs_548 (by decide) ?_
      refine lv_goto (tgt := 553) hx hb dL_runs_549 (by decide) ?_
      refine lv_istore_n (lv' := [(3, .int 1), (12, .int 18), (11, .int (fz_sum (V2 6) nt)), (10, .int 1), (9, .int 1), (8, .int 2), (7, .int (fz_sum (V 6) nt)), (6, .int (nI wk)), (5, .int (nI nc)), (4, .int 18), (0, .ref (f 0)), (1, .int (nI ti)), (2, .int (nI ri))]) hx hb dL_runs_553 rfl hl (by decide) rfl (fun ls hl => ?_)
      refine W.widen (k := 56) (n := 336) (by omega) (by omega) ?_
      refine lv_iload_n hx hb dL_runs_554 rfl (lv_at hl 0 rfl) ?_
      refine lv_if_eq (tgt := 598) hx hb dL_runs_555 (by decide) (fun z9 => absurd z9 (by decide)) (fun _ => ?_)
      refine lv_aload_n hx hb dL_runs_558 rfl (lv_at hl 10 rfl) ?_
      refine pv_call (E := fun _ => fz_T) (rest := []) (pv_clear (cn := (hs_n (hs_n c3))) (V := V2) (L := (((((((((([] : List Int32) ++ [116]) ++ [101]) ++ [97]) ++ [109]) ++ [32]) ++ [55]) ++ [55]) ++ [55]) ++ [55])) (K := kT)) ⟨hx, hb, hml, hown, hts⟩ (cwV 0 hts gL_runs_X8_clearCommands rfl rfl rfl (by decide +kernel) ⟨Nat.le_of_ble_eq_true rfl, Nat.le_of_ble_eq_true rfl⟩) rfl rfl hK hG hS (fun _ => fz_T_bl) (fun _ _ _ _ _ => trivial) rfl hl.1 rfl (Nat.le_of_ble_eq_true rfl) dL_runs_559 ⟨by show _ + 0 ≤ 200; omega, by show _ + 0 ≤ 1200; omega⟩ (fun H locs hG hS => ?_)
      refine fz_top (show _ = 9 from rfl) ?_
      refine lv_bipush (v := 9) hx hb dL_runs_562 (by decide) ?_
      refine lv_icmp_ne (tgt := 598) hx hb dL_runs_564 (by decide) (fun z9 => absurd z9 (by decide)) (fun _ => ?_)
      refine lv_aload_n hx hb dL_runs_567 rfl (lv_at hl 10 rfl) ?_
      refine lv_bipush (v := 59) hx hb dL_runs_568 (by decide) ?_
      refine pw_call (rest := []) (pw_type_t (L := ([] : List Int32)) (K := kT) hst 59 (by decide) (Nat.le_of_ble_eq_true rfl)) ⟨hx, hb, hml, hown, hts⟩ (vx_cwSW 2 hts gL_runs_L_type rfl rfl rfl (by decide +kernel) ⟨Nat.le_of_ble_eq_true rfl, Nat.le_of_ble_eq_true rfl⟩) hK hG hS hE.1 rfl hl.1 rfl (Nat.le_of_ble_eq_true rfl) dL_runs_570 ⟨by show _ + 1 ≤ 200; omega, by show _ + 6 ≤ 1200; omega⟩ (fun H locs hG hS => ?_)
      refine fz_top (show _ = 1 from rfl) ?_
      refine lv_iconst (v := 1) hx hb dL_runs_573 (by decide) ?_
      refine lv_icmp_ne (tgt := 598) hx hb dL_runs_574 (by decide) (fun z9 => absurd z9 (by decide)) (fun _ => ?_)
      refine lv_aload_n hx hb dL_runs_577 rfl (lv_at hl 10 rfl) ?_
      refine pv_call (E := fz_Er ad adK adV) (rest := []) (pv_run_f (cn := (hs_n (hs_n c3))) (V := V2) (L := (([] : List Int32) ++ [59])) (K := kT) (F := 0) (txsemi_F) (by decide)) ⟨hx, hb, hml, hown, hts⟩ (cwV 0 hts gL_runs_X8_runCommands rfl rfl rfl (by decide +kernel) ⟨Nat.le_of_ble_eq_true rfl, Nat.le_of_ble_eq_true rfl⟩) rfl rfl hK hG hS (fun _ => fz_Er_bl) (fun B9 hB9 U hU hW => hE.2.1.up hU hS hW hB9) rfl hl.1 rfl (Nat.le_of_ble_eq_true rfl) dL_runs_578 ⟨by show _ + 0 ≤ 200; omega, by show _ + 0 ≤ 1200; omega⟩ (fun H locs hG hS => ?_)
      refine fz_top (show _ = (-10) from (by decide)) ?_
      refine lv_bipush (v := (-10)) hx hb dL_runs_581 (by decide) ?_
      refine lv_icmp_ne (tgt := 598) hx hb dL_runs_583 (by decide) (fun z9 => absurd z9 (by decide)) (fun _ => ?_)
      refine lv_aload_n hx hb dL_runs_586 rfl (lv_at hl 10 rfl) ?_
      refine pv_call (E := fun _ => fz_T) (rest := []) (pv_clear (cn := (hs_n (hs_n c3))) (V := V2) (L := (([] : List Int32) ++ [59])) (K := kT)) ⟨hx, hb, hml, hown, hts⟩ (cwV 0 hts gL_runs_X8_clearCommands rfl rfl rfl (by decide +kernel) ⟨Nat.le_of_ble_eq_true rfl, Nat.le_of_ble_eq_true rfl⟩) rfl rfl hK hG hS (fun _ => fz_T_bl) (fun _ _ _ _ _ => trivial) rfl hl.1 rfl (Nat.le_of_ble_eq_true rfl) dL_runs_587 ⟨by show _ + 0 ≤ 200; omega, by show _ + 0 ≤ 1200; omega⟩ (fun H locs hG hS => ?_)
      refine fz_top (show _ = 1 from rfl) ?_
      refine lv_iconst (v := 1) hx hb dL_runs_590 (by decide) ?_
      refine lv_icmp_ne (tgt := 598) hx hb dL_runs_591 (by decide) (fun z9 => absurd z9 (by decide)) (fun _ => ?_)
      refine lv_iconst (v := 1) hx hb dL_runs_594 (by decide) ?_
      refine lv_goto (tgt := 599) hx hb dL_runs_595 (by decide) ?_
      refine W.widen (k := 200) (n := 1200) (by omega) (by omega) ?_
      obtain ⟨Wn, h9, hP, hD⟩ := hG
      exact W.zret (v := 1) hx hb hr (by decide) (fun t9 ht9 hW9 => ⟨⟨_, Wn, rfl, ⟨⟨rfl, (hs_n (hs_n c3)), V2, nc + 1, nq + 1, wk + 1, J2.mono (by omega), h9⟩, hD⟩, fz_to ht9 hP⟩, hS.F ht9⟩) hS.2.2 dL_runs_599
    · skip
      have hC := run_C1 J (by omega) ht h1 h9r ha hw
      rw [← e1] at hC
      refine lv_iconst (v := 1) hx hb dL_runs_126 (by decide) ?_
      refine pw_call (rest := []) (pt_whole hst J 1 (by decide)) ⟨hx, hb, hml, hown, hts⟩ (vx_cwSW 2 hts gL_runs_L_whole rfl rfl rfl (by decide +kernel) ⟨Nat.le_of_ble_eq_true rfl, Nat.le_of_ble_eq_true rfl⟩) hK hG hS hE.1 rfl hl.1 rfl (Nat.le_of_ble_eq_true rfl) dL_runs_127 ⟨by show _ + 1 ≤ 200; omega, by show _ + 6 ≤ 1200; omega⟩ (fun H locs hG hS => ?_)
      refine fz_top (show _ = nI nc from J.e8) ?_
      refine lv_istore (lv' := [(5, .int (nI nc)), (4, .int 18), (3, .int 1), (0, .ref (f 0)), (1, .int (nI ti)), (2, .int (nI ri))]) hx hb dL_runs_130 hl (by decide) rfl (fun ls hl => ?_)
      refine W.widen (k := 33) (n := 198) (by omega) (by omega) ?_
      refine lv_aload_n hx hb dL_runs_132 rfl (lv_at hl 3 rfl) ?_
      refine lv_bipush (v := 8) hx hb dL_runs_133 (by decide) ?_
      refine pw_call (rest := []) (pt_whole hst J 8 (by decide)) ⟨hx, hb, hml, hown, hts⟩ (vx_cwSW 2 hts gL_runs_L_whole rfl rfl rfl (by decide +kernel) ⟨Nat.le_of_ble_eq_true rfl, Nat.le_of_ble_eq_true rfl⟩) hK hG hS hE.1 rfl hl.1 rfl (Nat.le_of_ble_eq_true rfl) dL_runs_135 ⟨by show _ + 1 ≤ 200; omega, by show _ + 6 ≤ 1200; omega⟩ (fun H locs hG hS => ?_)
      refine fz_top (show _ = nI wk from J.e0) ?_
      refine lv_istore (lv' := [(6, .int (nI wk)), (5, .int (nI nc)), (4, .int 18), (3, .int 1), (0, .ref (f 0)), (1, .int (nI ti)), (2, .int (nI ri))]) hx hb dL_runs_138 hl (by decide) rfl (fun ls hl => ?_)
      refine W.widen (k := 34) (n := 204) (by omega) (by omega) ?_
      refine lv_aload_n hx hb dL_runs_140 rfl (lv_at hl 4 rfl) ?_
      refine lv_bipush (v := 13) hx hb dL_runs_141 (by decide) ?_
      refine pw_call (rest := []) (pt_whole hst J 13 (by decide)) ⟨hx, hb, hml, hown, hts⟩ (vx_cwSW 2 hts gL_runs_L_whole rfl rfl rfl (by decide +kernel) ⟨Nat.le_of_ble_eq_true rfl, Nat.le_of_ble_eq_true rfl⟩) hK hG hS hE.1 rfl hl.1 rfl (Nat.le_of_ble_eq_true rfl) dL_runs_143 ⟨by show _ + 1 ≤ 200; omega, by show _ + 6 ≤ 1200; omega⟩ (fun H locs hG hS => ?_)
      refine fz_top (show _ = fz_sum (V 6) nt from rfl) ?_
      refine lv_istore (lv' := [(7, .int (fz_sum (V 6) nt)), (6, .int (nI wk)), (5, .int (nI nc)), (4, .int 18), (3, .int 1), (0, .ref (f 0)), (1, .int (nI ti)), (2, .int (nI ri))]) hx hb dL_runs_146 hl (by decide) rfl (fun ls hl => ?_)
      refine W.widen (k := 35) (n := 210) (by omega) (by omega) ?_
      refine lv_aload_n hx hb dL_runs_148 rfl (lv_at hl 5 rfl) ?_
      refine pv_call (E := fz_Er ad adK adV) (rest := []) (pv_run_n (cn := c2) (V := V) (L := (txA ti ri)) (K := kT) (cnt := 1) (V' := V1) (txA_F (by omega) (by omega)) (hC) J.wf J.zo) ⟨hx, hb, hml, hown, hts⟩ (cwV 0 hts gL_runs_X8_runCommands rfl rfl rfl (by decide +kernel) ⟨Nat.le_of_ble_eq_true rfl, Nat.le_of_ble_eq_true rfl⟩) rfl rfl hK hG hS (fun _ => fz_Er_bl) (fun B9 hB9 U hU hW => hE.2.1.up hU hS hW hB9) rfl hl.1 rfl (Nat.le_of_ble_eq_true rfl) dL_runs_149 ⟨by show _ + 0 ≤ 200; omega, by show _ + 0 ≤ 1200; omega⟩ (fun H locs hG hS => ?_)
      refine fz_top (show _ = 1 from rfl) ?_
      obtain ⟨c3, hc3, hG⟩ := run_top hG
      refine lv_istore (lv' := [(8, .int 1), (7, .int (fz_sum (V 6) nt)), (6, .int (nI wk)), (5, .int (nI nc)), (4, .int 18), (3, .int 1), (0, .ref (f 0)), (1, .int (nI ti)), (2, .int (nI ri))]) hx hb dL_runs_152 hl (by decide) rfl (fun ls hl => ?_)
      refine lv_iload hx hb dL_runs_154 (lv_at hl 3 rfl) ?_
      refine lv_bipush (v := 30) hx hb dL_runs_156 (by decide) ?_
      refine lv_icmp_ge (tgt := 165) hx hb dL_runs_158 (by decide) (fun z9 => absurd z9 (fun z => absurd ((nI_leI (a := 30) (by omega) (by omega)).mp z) (by omega))) (fun _ => ?_)
      refine lv_iconst (v := 1) hx hb dL_runs_161 (by decide) ?_
      refine lv_goto (tgt := 166) hx hb dL_runs_162 (by decide) ?_
      refine lv_istore (lv' := [(9, .int 1), (8, .int 1), (7, .int (fz_sum (V 6) nt)), (6, .int (nI wk)), (5, .int (nI nc)), (4, .int 18), (3, .int 1), (0, .ref (f 0)), (1, .int (nI ti)), (2, .int (nI ri))]) hx hb dL_runs_166 hl (by decide) rfl (fun ls hl => ?_)
      refine lv_iload hx hb dL_runs_168 (lv_at hl 0 rfl) ?_
      refine lv_if_eq (tgt := 184) hx hb dL_runs_170 (by decide) (fun z9 => absurd z9 (by decide)) (fun _ => ?_)
      refine lv_iload hx hb dL_runs_173 (lv_at hl 3 rfl) ?_
      refine lv_bipush (v := 39) hx hb dL_runs_175 (by decide) ?_
      refine lv_icmp_ge (tgt := 184) hx hb dL_runs_177 (by decide) (fun _ => ?_) (fun z9 => absurd ((nI_leI (a := 39) (by omega) (by omega)).mpr (by omega)) z9)
      refine lv_iconst (v := 0) hx hb dL_runs_184 (by decide) ?_
      refine lv_istore (lv' := [(10, .int 0), (9, .int 1), (8, .int 1), (7, .int (fz_sum (V 6) nt)), (6, .int (nI wk)), (5, .int (nI nc)), (4, .int 18), (3, .int 1), (0, .ref (f 0)), (1, .int (nI ti)), (2, .int (nI ri))]) hx hb dL_runs_185 hl (by decide) rfl (fun ls hl => ?_)
      refine lv_iload_n hx hb dL_runs_187 rfl (lv_at hl 7 rfl) ?_
      refine lv_if_eq (tgt := 269) hx hb dL_runs_188 (by decide) (fun z9 => absurd z9 (by decide)) (fun _ => ?_)
      refine lv_iload hx hb dL_runs_191 (lv_at hl 6 rfl) ?_
      refine lv_bipush (v := 18) hx hb dL_runs_193 (by decide) ?_
      refine lv_icmp_ne (tgt := 269) hx hb dL_runs_195 (by decide) (fun z9 => absurd z9 (by decide)) (fun _ => ?_)
      refine lv_iload hx hb dL_runs_198 (lv_at hl 2 rfl) ?_
      refine lv_iload hx hb dL_runs_200 (lv_at hl 1 rfl) ?_
      refine lv_if_eq (tgt := 218) hx hb dL_runs_202 (by decide) (fun z9 => absurd z9 (by decide)) (fun _ => ?_)
      refine lv_iload hx hb dL_runs_205 (lv_at hl 0 rfl) ?_
      refine lv_if_eq (tgt := 214) hx hb dL_runs_207 (by decide) (fun _ => ?_) (fun z9 => absurd (by decide) z9)
      refine lv_iconst (v := 1) hx hb dL_runs_214 (by decide) ?_
      refine lv_goto (tgt := 219) hx hb dL_runs_215 (by decide) ?_
      refine lv_icmp_ne (tgt := 269) hx hb dL_runs_219 (by decide) (fun z9 => absurd z9 (by decide)) (fun _ => ?_)
      refine lv_aload_n hx hb dL_runs_222 rfl (lv_at hl 8 rfl) ?_
      refine lv_iconst (v := 1) hx hb dL_runs_223 (by decide) ?_
      refine pw_call (rest := []) (pt_whole hst J1 1 (by decide)) ⟨hx, hb, hml, hown, hts⟩ (vx_cwSW 2 hts gL_runs_L_whole rfl rfl rfl (by decide +kernel) ⟨Nat.le_of_ble_eq_true rfl, Nat.le_of_ble_eq_true rfl⟩) hK hG hS hE.1 rfl hl.1 rfl (Nat.le_of_ble_eq_true rfl) dL_runs_224 ⟨by show _ + 1 ≤ 200; omega, by show _ + 6 ≤ 1200; omega⟩ (fun H locs hG hS => ?_)
      refine fz_top (show _ = nI (nc + 1) from J1.e8) ?_
      refine lv_iload hx hb dL_runs_227 (lv_at hl 5 rfl) ?_
      refine lv_iload hx hb dL_runs_229 (lv_at hl 1 rfl) ?_
      refine lv_if_eq (tgt := 238) hx hb dL_runs_231 (by decide) (fun z9 => absurd z9 (by decide)) (fun _ => ?_)
      refine lv_iconst (v := 1) hx hb dL_runs_234 (by decide) ?_
      refine lv_goto (tgt := 239) hx hb dL_runs_235 (by decide) ?_
      refine lv_iadd hx hb dL_runs_239 ?_
      refine fz_top (show _ = nI (nc + 1) from nI_1 nc) ?_
      refine lv_icmp_ne (tgt := 269) hx hb dL_runs_240 (by decide) (fun z9 => absurd z9 (not_not_p rfl)) (fun _ => ?_)
      refine lv_aload_n hx hb dL_runs_243 rfl (lv_at hl 8 rfl) ?_
      refine lv_bipush (v := 8) hx hb dL_runs_244 (by decide) ?_
      refine pw_call (rest := []) (pt_whole hst J1 8 (by decide)) ⟨hx, hb, hml, hown, hts⟩ (vx_cwSW 2 hts gL_runs_L_whole rfl rfl rfl (by decide +kernel) ⟨Nat.le_of_ble_eq_true rfl, Nat.le_of_ble_eq_true rfl⟩) hK hG hS hE.1 rfl hl.1 rfl (Nat.le_of_ble_eq_true rfl) dL_runs_246 ⟨by show _ + 1 ≤ 200; omega, by show _ + 6 ≤ 1200; omega⟩ (fun H locs hG hS => ?_)
      refine fz_top (show _ = nI wk from J1.e0) ?_
      refine lv_iload hx hb dL_runs_249 (lv_at hl 4 rfl) ?_
      refine lv_iload hx hb dL_runs_251 (lv_at hl 0 rfl) ?_
      refine lv_if_eq (tgt := 260) hx hb dL_runs_253 (by decide) (fun _ => ?_) (fun z9 => absurd (by decide) z9)
      refine lv_iconst (v := 0) hx hb dL_runs_260 (by decide) ?_
      refine lv_iadd hx hb dL_runs_261 ?_
      refine fz_top (show _ = nI wk from Int32.add_zero (nI wk)) ?_
      refine lv_icmp_ne (tgt := 269) hx hb dL_runs_262 (by decide) (fun z9 => absurd z9 (not_not_p rfl)) (fun _ => ?_)
      refine lv_iconst (v := 1) hx hb dL_runs_265 (by decide) ?_
      refine lv_goto (tgt := 270) hx hb dL_runs_266 (by decide) ?_
      refine lv_istore_n (lv' := [(3, .int 1), (10, .int 0), (9, .int 1), (8, .int 1), (7, .int (fz_sum (V 6) nt)), (6, .int (nI wk)), (5, .int (nI nc)), (4, .int 18), (0, .ref (f 0)), (1, .int (nI ti)), (2, .int (nI ri))]) hx hb dL_runs_270 rfl hl (by decide) rfl (fun ls hl => ?_)
      refine W.widen (k := 37) (n := 222) (by omega) (by omega) ?_
      refine lv_aload_n hx hb dL_runs_271 rfl (lv_at hl 8 rfl) ?_
      refine lv_bipush (v := 13) hx hb dL_runs_272 (by decide) ?_
      refine pw_call (rest := []) (pt_whole hst J1 13 (by decide)) ⟨hx, hb, hml, hown, hts⟩ (vx_cwSW 2 hts gL_runs_L_whole rfl rfl rfl (by decide +kernel) ⟨Nat.le_of_ble_eq_true rfl, Nat.le_of_ble_eq_true rfl⟩) hK hG hS hE.1 rfl hl.1 rfl (Nat.le_of_ble_eq_true rfl) dL_runs_274 ⟨by show _ + 1 ≤ 200; omega, by show _ + 6 ≤ 1200; omega⟩ (fun H locs hG hS => ?_)
      refine fz_top (show _ = fz_sum (V1 6) nt from rfl) ?_
      refine lv_istore (lv' := [(11, .int (fz_sum (V1 6) nt)), (3, .int 1), (10, .int 0), (9, .int 1), (8, .int 1), (7, .int (fz_sum (V 6) nt)), (6, .int (nI wk)), (5, .int (nI nc)), (4, .int 18), (0, .ref (f 0)), (1, .int (nI ti)), (2, .int (nI ri))]) hx hb dL_runs_277 hl (by decide) rfl (fun ls hl => ?_)
      refine W.widen (k := 38) (n := 228) (by omega) (by omega) ?_
      refine lv_iload_n hx hb dL_runs_279 rfl (lv_at hl 1 rfl) ?_
      refine lv_if_eq (tgt := 359) hx hb dL_runs_280 (by decide) (fun z9 => absurd z9 (by decide)) (fun _ => ?_)
      refine lv_aload_n hx hb dL_runs_283 rfl (lv_at hl 9 rfl) ?_
      refine pw_call (rest := []) (pw_undo_t (cn := c3) (V := V1) (L := (txA ti ri)) (U := V) hst J.zo) ⟨hx, hb, hml, hown, hts⟩ (vx_cwSW 1 hts gL_runs_L_undo rfl rfl rfl (by decide +kernel) ⟨Nat.le_of_ble_eq_true rfl, Nat.le_of_ble_eq_true rfl⟩) hK hG hS hE.1 rfl hl.1 rfl (Nat.le_of_ble_eq_true rfl) dL_runs_284 ⟨by show _ + 1 ≤ 200; omega, by show _ + 6 ≤ 1200; omega⟩ (fun H locs hG hS => ?_)
      refine fz_top (show _ = nI c3 from rfl) ?_
      refine lv_if_lt (tgt := 359) hx hb dL_runs_287 (by decide) (fun z9 => absurd z9 (nI_pos (n := c3) (by omega))) (fun _ => ?_)
      refine lv_aload_n hx hb dL_runs_290 rfl (lv_at hl 9 rfl) ?_
      refine lv_iconst (v := 1) hx hb dL_runs_291 (by decide) ?_
      refine pw_call (rest := []) (pt_whole hst J 1 (by decide)) ⟨hx, hb, hml, hown, hts⟩ (vx_cwSW 2 hts gL_runs_L_whole rfl rfl rfl (by decide +kernel) ⟨Nat.le_of_ble_eq_true rfl, Nat.le_of_ble_eq_true rfl⟩) hK hG hS hE.1 rfl hl.1 rfl (Nat.le_of_ble_eq_true rfl) dL_runs_292 ⟨by show _ + 1 ≤ 200; omega, by show _ + 6 ≤ 1200; omega⟩ (fun H locs hG hS => ?_)
      refine fz_top (show _ = nI nc from J.e8) ?_
      refine lv_iload hx hb dL_runs_295 (lv_at hl 7 rfl) ?_
      refine lv_icmp_ne (tgt := 359) hx hb dL_runs_297 (by decide) (fun z9 => absurd z9 (not_not_p rfl)) (fun _ => ?_)
      refine lv_aload_n hx hb dL_runs_300 rfl (lv_at hl 9 rfl) ?_
      refine lv_bipush (v := 8) hx hb dL_runs_301 (by decide) ?_
      refine pw_call (rest := []) (pt_whole hst J 8 (by decide)) ⟨hx, hb, hml, hown, hts⟩ (vx_cwSW 2 hts gL_runs_L_whole rfl rfl rfl (by decide +kernel) ⟨Nat.le_of_ble_eq_true rfl, Nat.le_of_ble_eq_true rfl⟩) hK hG hS hE.1 rfl hl.1 rfl (Nat.le_of_ble_eq_true rfl) dL_runs_303 ⟨by show _ + 1 ≤ 200; omega, by show _ + 6 ≤ 1200; omega⟩ (fun H locs hG hS => ?_)
      refine fz_top (show _ = nI wk from J.e0) ?_
      refine lv_iload hx hb dL_runs_306 (lv_at hl 6 rfl) ?_
      refine lv_icmp_ne (tgt := 359) hx hb dL_runs_308 (by decide) (fun z9 => absurd z9 (not_not_p rfl)) (fun _ => ?_)
      refine lv_aload_n hx hb dL_runs_311 rfl (lv_at hl 9 rfl) ?_
      refine lv_bipush (v := 13) hx hb dL_runs_312 (by decide) ?_
      refine pw_call (rest := []) (pt_whole hst J 13 (by decide)) ⟨hx, hb, hml, hown, hts⟩ (vx_cwSW 2 hts gL_runs_L_whole rfl rfl rfl (by decide +kernel) ⟨Nat.le_of_ble_eq_true rfl, Nat.le_of_ble_eq_true rfl⟩) hK hG hS hE.1 rfl hl.1 rfl (Nat.le_of_ble_eq_true rfl) dL_runs_314 ⟨by show _ + 1 ≤ 200; omega, by show _ + 6 ≤ 1200; omega⟩ (fun H locs hG hS => ?_)
      refine fz_top (show _ = fz_sum (V 6) nt from rfl) ?_
      refine lv_iload hx hb dL_runs_317 (lv_at hl 5 rfl) ?_
      refine lv_icmp_ne (tgt := 359) hx hb dL_runs_319 (by decide) (fun z9 => absurd z9 (not_not_p rfl)) (fun _ => ?_)
      refine lv_iload hx hb dL_runs_322 (lv_at hl 3 rfl) ?_
      refine lv_if_eq (tgt := 338) hx hb dL_runs_324 (by decide) (fun z9 => absurd z9 (by decide)) (fun _ => ?_)
      refine lv_aload_n hx hb dL_runs_327 rfl (lv_at hl 9 rfl) ?_
      refine lv_iload_n hx hb dL_runs_328 rfl (lv_at hl 10 rfl) ?_
      refine lv_iload_n hx hb dL_runs_329 rfl (lv_at hl 11 rfl) ?_
      refine pw_call (rest := []) (pw_ask_t hst J.wf J.zo (nI ti) (nI ri) (by rw [en]; exact (ok_n (by omega)).1)) ⟨hx, hb, hml, hown, hts⟩ (vx_cwSW 3 hts gL_runs_L_ask rfl rfl rfl (by decide +kernel) ⟨Nat.le_of_ble_eq_true rfl, Nat.le_of_ble_eq_true rfl⟩) hK hG hS hE.1 rfl hl.1 rfl (Nat.le_of_ble_eq_true rfl) dL_runs_330 ⟨by show _ + 1 ≤ 200; omega, by show _ + 6 ≤ 1200; omega⟩ (fun H locs hG hS => ?_)
      refine fz_top (show _ = nI nc from (congrArg Prod.fst en)) ?_
      rw [en] at hG
      refine lv_iload hx hb dL_runs_333 (lv_at hl 7 rfl) ?_
      refine lv_icmp_ne (tgt := 359) hx hb dL_runs_335 (by decide) (fun z9 => absurd z9 (not_not_p rfl)) (fun _ => ?_)
      refine lv_iload hx hb dL_runs_338 (lv_at hl 2 rfl) ?_
      refine lv_if_eq (tgt := 355) hx hb dL_runs_340 (by decide) (fun _ => ?_) (fun z9 => absurd (by decide) z9)
      refine lv_iconst (v := 1) hx hb dL_runs_355 (by decide) ?_
      refine lv_goto (tgt := 360) hx hb dL_runs_356 (by decide) ?_
      refine lv_istore_n (lv' := [(3, .int 1), (11, .int (fz_sum (V1 6) nt)), (10, .int 0), (9, .int 1), (8, .int 1), (7, .int (fz_sum (V 6) nt)), (6, .int (nI wk)), (5, .int (nI nc)), (4, .int 18), (0, .ref (f 0)), (1, .int (nI ti)), (2, .int (nI ri))]) hx hb dL_runs_360 rfl hl (by decide) rfl (fun ls hl => ?_)
      refine W.widen (k := 43) (n := 258) (by omega) (by omega) ?_
      refine lv_aload_n hx hb dL_runs_361 rfl (lv_at hl 9 rfl) ?_
      refine lv_bipush (v := 17) hx hb dL_runs_362 (by decide) ?_
      refine pw_call (rest := []) (pt_whole17 hst J1) ⟨hx, hb, hml, hown, hts⟩ (vx_cwSW 2 hts gL_runs_L_whole rfl rfl rfl (by decide +kernel) ⟨Nat.le_of_ble_eq_true rfl, Nat.le_of_ble_eq_true rfl⟩) hK hG hS hE.1 rfl hl.1 rfl (Nat.le_of_ble_eq_true rfl) dL_runs_364 ⟨by show _ + 1 ≤ 200; omega, by show _ + 6 ≤ 1200; omega⟩ (fun H locs hG hS => ?_)
      refine fz_top (show _ = 18 from rfl) ?_
      refine lv_istore (lv' := [(12, .int 18), (3, .int 1), (11, .int (fz_sum (V1 6) nt)), (10, .int 0), (9, .int 1), (8, .int 1), (7, .int (fz_sum (V 6) nt)), (6, .int (nI wk)), (5, .int (nI nc)), (4, .int 18), (0, .ref (f 0)), (1, .int (nI ti)), (2, .int (nI ri))]) hx hb dL_runs_367 hl (by decide) rfl (fun ls hl => ?_)
      refine W.widen (k := 44) (n := 264) (by omega) (by omega) ?_
      refine lv_iload_n hx hb dL_runs_369 rfl (lv_at hl 1 rfl) ?_
      refine lv_if_eq (tgt := 433) hx hb dL_runs_370 (by decide) (fun z9 => absurd z9 (by decide)) (fun _ => ?_)
      refine lv_iload hx hb dL_runs_373 (lv_at hl 0 rfl) ?_
      refine lv_bipush (v := 18) hx hb dL_runs_375 (by decide) ?_
      refine lv_icmp_ne (tgt := 433) hx hb dL_runs_377 (by decide) (fun z9 => absurd z9 (by decide)) (fun _ => ?_)
      refine lv_aload_n hx hb dL_runs_380 rfl (lv_at hl 10 rfl) ?_
      refine lv_bipush (v := 119) hx hb dL_runs_381 (by decide) ?_
      refine pw_call (rest := []) (pw_type_t (L := (txA ti ri)) (K := kT) hst 119 (by decide) (Nat.le_of_ble_eq_true rfl)) ⟨hx, hb, hml, hown, hts⟩ (vx_cwSW 2 hts gL_runs_L_type rfl rfl rfl (by decide +kernel) ⟨Nat.le_of_ble_eq_true rfl, Nat.le_of_ble_eq_true rfl⟩) hK hG hS hE.1 rfl hl.1 rfl (Nat.le_of_ble_eq_true rfl) dL_runs_383 ⟨by show _ + 1 ≤ 200; omega, by show _ + 6 ≤ 1200; omega⟩ (fun H locs hG hS => ?_)
      refine fz_top (show _ = 19 from rfl) ?_
      refine lv_bipush (v := 19) hx hb dL_runs_386 (by decide) ?_
      refine lv_icmp_ne (tgt := 433) hx hb dL_runs_388 (by decide) (fun z9 => absurd z9 (by decide)) (fun _ => ?_)
      refine lv_aload_n hx hb dL_runs_391 rfl (lv_at hl 10 rfl) ?_
      refine pv_call (E := fz_Er ad adK adV) (rest := []) (pv_run_f (cn := (hs_n c3)) (V := V1) (L := ((txA ti ri) ++ [119])) (K := kT) (F := 18) (txB_F (t := ti) (r := ri) (M := [119]) (by omega) (by omega) (by simp)) (by decide)) ⟨hx, hb, hml, hown, hts⟩ (cwV 0 hts gL_runs_X8_runCommands rfl rfl rfl (by decide +kernel) ⟨Nat.le_of_ble_eq_true rfl, Nat.le_of_ble_eq_true rfl⟩) rfl rfl hK hG hS (fun _ => fz_Er_bl) (fun B9 hB9 U hU hW => hE.2.1.up hU hS hW hB9) rfl hl.1 rfl (Nat.le_of_ble_eq_true rfl) dL_runs_392 ⟨by show _ + 0 ≤ 200; omega, by show _ + 0 ≤ 1200; omega⟩ (fun H locs hG hS => ?_)
      refine fz_top (show _ = (-28) from (by decide)) ?_
      refine lv_bipush (v := (-28)) hx hb dL_runs_395 (by decide) ?_
      refine lv_icmp_ne (tgt := 433) hx hb dL_runs_397 (by decide) (fun z9 => absurd z9 (by decide)) (fun _ => ?_)
      refine lv_aload_n hx hb dL_runs_400 rfl (lv_at hl 10 rfl) ?_
      refine lv_bipush (v := 32) hx hb dL_runs_401 (by decide) ?_
      refine pw_call (rest := []) (pw_type_t (L := ((txA ti ri) ++ [119])) (K := kT) hst 32 (by decide) (Nat.le_of_ble_eq_true rfl)) ⟨hx, hb, hml, hown, hts⟩ (vx_cwSW 2 hts gL_runs_L_type rfl rfl rfl (by decide +kernel) ⟨Nat.le_of_ble_eq_true rfl, Nat.le_of_ble_eq_true rfl⟩) hK hG hS hE.1 rfl hl.1 rfl (Nat.le_of_ble_eq_true rfl) dL_runs_403 ⟨by show _ + 1 ≤ 200; omega, by show _ + 6 ≤ 1200; omega⟩ (fun H locs hG hS => ?_)
      refine fz_top (show _ = 20 from rfl) ?_
      refine lv_bipush (v := 20) hx hb dL_runs_406 (by decide) ?_
      refine lv_icmp_ne (tgt := 433) hx hb dL_runs_408 (by decide) (fun z9 => absurd z9 (by decide)) (fun _ => ?_)
      refine lv_aload_n hx hb dL_runs_411 rfl (lv_at hl 10 rfl) ?_
      refine pv_call (E := fz_Er ad adK adV) (rest := []) (pv_run_f (cn := (hs_n c3)) (V := V1) (L := (((txA ti ri) ++ [119]) ++ [32])) (K := kT) (F := 18) (txB_F (t := ti) (r := ri) (M := [119, 32]) (by omega) (by omega) (by simp)) (by decide)) ⟨hx, hb, hml, hown, hts⟩ (cwV 0 hts gL_runs_X8_runCommands rfl rfl rfl (by decide +kernel) ⟨Nat.le_of_ble_eq_true rfl, Nat.le_of_ble_eq_true rfl⟩) rfl rfl hK hG hS (fun _ => fz_Er_bl) (fun B9 hB9 U hU hW => hE.2.1.up hU hS hW hB9) rfl hl.1 rfl (Nat.le_of_ble_eq_true rfl) dL_runs_412 ⟨by show _ + 0 ≤ 200; omega, by show _ + 0 ≤ 1200; omega⟩ (fun H locs hG hS => ?_)
      refine fz_top (show _ = (-28) from (by decide)) ?_
      refine lv_bipush (v := (-28)) hx hb dL_runs_415 (by decide) ?_
      refine lv_icmp_ne (tgt := 433) hx hb dL_runs_417 (by decide) (fun z9 => absurd z9 (by decide)) (fun _ => ?_)
      refine lv_aload_n hx hb dL_runs_420 rfl (lv_at hl 10 rfl) ?_
      refine pv_call (E := fun _ => fz_T) (rest := []) (pv_clear (cn := (hs_n c3)) (V := V1) (L := (((txA ti ri) ++ [119]) ++ [32])) (K := kT)) ⟨hx, hb, hml, hown, hts⟩ (cwV 0 hts gL_runs_X8_clearCommands rfl rfl rfl (by decide +kernel) ⟨Nat.le_of_ble_eq_true rfl, Nat.le_of_ble_eq_true rfl⟩) rfl rfl hK hG hS (fun _ => fz_T_bl) (fun _ _ _ _ _ => trivial) rfl hl.1 rfl (Nat.le_of_ble_eq_true rfl) dL_runs_421 ⟨by show _ + 0 ≤ 200; omega, by show _ + 0 ≤ 1200; omega⟩ (fun H locs hG hS => ?_)
      refine fz_top (show _ = 20 from rfl) ?_
      refine lv_bipush (v := 20) hx hb dL_runs_424 (by decide) ?_
      refine lv_icmp_ne (tgt := 433) hx hb dL_runs_426 (by decide) (fun z9 => absurd z9 (by decide)) (fun _ => ?_)
      refine lv_iconst (v := 1) hx hb dL_runs_429 (by decide) ?_
      refine lv_goto (tgt := 434) hx hb dL_runs_430 (by decide) ?_
      refine lv_istore_n (lv' := [(3, .int 1), (12, .int 18), (11, .int (fz_sum (V1 6) nt)), (10, .int 0), (9, .int 1), (8, .int 1), (7, .int (fz_sum (V 6) nt)), (6, .int (nI wk)), (5, .int (nI nc)), (4, .int 18), (0, .ref (f 0)), (1, .int (nI ti)), (2, .int (nI ri))]) hx hb dL_runs_434 rfl hl (by decide) rfl (fun ls hl => ?_)
      refine W.widen (k := 46) (n := 276) (by omega) (by omega) ?_
      refine lv_aload_n hx hb dL_runs_435 rfl (lv_at hl 10 rfl) ?_
      refine lv_bipush (v := 116) hx hb dL_runs_436 (by decide) ?_
      refine pw_call (rest := []) (pw_type_t (L := ([] : List Int32)) (K := kT) hst 116 (by decide) (Nat.le_of_ble_eq_true rfl)) ⟨hx, hb, hml, hown, hts⟩ (vx_cwSW 2 hts gL_runs_L_type rfl rfl rfl (by decide +kernel) ⟨Nat.le_of_ble_eq_true rfl, Nat.le_of_ble_eq_true rfl⟩) hK hG hS hE.1 rfl hl.1 rfl (Nat.le_of_ble_eq_true rfl) dL_runs_438 ⟨by show _ + 1 ≤ 200; omega, by show _ + 6 ≤ 1200; omega⟩ (fun H locs hG hS => ?_)
      refine lv_pop hx hb dL_runs_441 rfl ?_
      refine lv_aload_n hx hb dL_runs_442 rfl (lv_at hl 10 rfl) ?_
      refine lv_bipush (v := 101) hx hb dL_runs_443 (by decide) ?_
      refine pw_call (rest := []) (pw_type_t (L := (([] : List Int32) ++ [116])) (K := kT) hst 101 (by decide) (Nat.le_of_ble_eq_true rfl)) ⟨hx, hb, hml, hown, hts⟩ (vx_cwSW 2 hts gL_runs_L_type rfl rfl rfl (by decide +kernel) ⟨Nat.le_of_ble_eq_true rfl, Nat.le_of_ble_eq_true rfl⟩) hK hG hS hE.1 rfl hl.1 rfl (Nat.le_of_ble_eq_true rfl) dL_runs_445 ⟨by show _ + 1 ≤ 200; omega, by show _ + 6 ≤ 1200; omega⟩ (fun H locs hG hS => ?_)
      refine lv_pop hx hb dL_runs_448 rfl ?_
      refine lv_aload_n hx hb dL_runs_449 rfl (lv_at hl 10 rfl) ?_
      refine lv_bipush (v := 97) hx hb dL_runs_450 (by decide) ?_
      refine pw_call (rest := []) (pw_type_t (L := ((([] : List Int32) ++ [116]) ++ [101])) (K := kT) hst 97 (by decide) (Nat.le_of_ble_eq_true rfl)) ⟨hx, hb, hml, hown, hts⟩ (vx_cwSW 2 hts gL_runs_L_type rfl rfl rfl (by decide +kernel) ⟨Nat.le_of_ble_eq_true rfl, Nat.le_of_ble_eq_true rfl⟩) hK hG hS hE.1 rfl hl.1 rfl (Nat.le_of_ble_eq_true rfl) dL_runs_452 ⟨by show _ + 1 ≤ 200; omega, by show _ + 6 ≤ 1200; omega⟩ (fun H locs hG hS => ?_)
      refine lv_pop hx hb dL_runs_455 rfl ?_
      refine lv_aload_n hx hb dL_runs_456 rfl (lv_at hl 10 rfl) ?_
      refine lv_bipush (v := 109) hx hb dL_runs_457 (by decide) ?_
      refine pw_call (rest := []) (pw_type_t (L := (((([] : List Int32) ++ [116]) ++ [101]) ++ [97])) (K := kT) hst 109 (by decide) (Nat.le_of_ble_eq_true rfl)) ⟨hx, hb, hml, hown, hts⟩ (vx_cwSW 2 hts gL_runs_L_type rfl rfl rfl (by decide +kernel) ⟨Nat.le_of_ble_eq_true rfl, Nat.le_of_ble_eq_true rfl⟩) hK hG hS hE.1 rfl hl.1 rfl (Nat.le_of_ble_eq_true rfl) dL_runs_459 ⟨by show _ + 1 ≤ 200; omega, by show _ + 6 ≤ 1200; omega⟩ (fun H locs hG hS => ?_)
      refine lv_pop hx hb dL_runs_462 rfl ?_
      refine lv_iload_n hx hb dL_runs_463 rfl (lv_at hl 0 rfl) ?_
      refine lv_if_eq (tgt := 552) hx hb dL_runs_464 (by decide) (fun z9 => absurd z9 (by decide)) (fun _ => ?_)
      refine lv_aload_n hx hb dL_runs_467 rfl (lv_at hl 10 rfl) ?_
      refine pv_call (E := fz_Er ad adK adV) (rest := []) (pv_run_f (cn := (hs_n c3)) (V := V1) (L := ((((([] : List Int32) ++ [116]) ++ [101]) ++ [97]) ++ [109])) (K := kT) (F := 4) (txteam_F) (by decide)) ⟨hx, hb, hml, hown, hts⟩ (cwV 0 hts gL_runs_X8_runCommands rfl rfl rfl (by decide +kernel) ⟨Nat.le_of_ble_eq_true rfl, Nat.le_of_ble_eq_true rfl⟩) rfl rfl hK hG hS (fun _ => fz_Er_bl) (fun B9 hB9 U hU hW => hE.2.1.up hU hS hW hB9) rfl hl.1 rfl (Nat.le_of_ble_eq_true rfl) dL_runs_468 ⟨by show _ + 0 ≤ 200; omega, by show _ + 0 ≤ 1200; omega⟩ (fun H locs hG hS => ?_)
      refine fz_top (show _ = (-14) from (by decide)) ?_
      refine lv_bipush (v := (-14)) hx hb dL_runs_471 (by decide) ?_
      refine lv_icmp_ne (tgt := 552) hx hb dL_runs_473 (by decide) (fun z9 => absurd z9 (by decide)) (fun _ => ?_)
      refine lv_aload_n hx hb dL_runs_476 rfl (lv_at hl 10 rfl) ?_
      refine lv_bipush (v := 32) hx hb dL_runs_477 (by decide) ?_
      refine pw_call (rest := []) (pw_type_t (L := ((((([] : List Int32) ++ [116]) ++ [101]) ++ [97]) ++ [109])) (K := kT) hst 32 (by decide) (Nat.le_of_ble_eq_true rfl)) ⟨hx, hb, hml, hown, hts⟩ (vx_cwSW 2 hts gL_runs_L_type rfl rfl rfl (by decide +kernel) ⟨Nat.le_of_ble_eq_true rfl, Nat.le_of_ble_eq_true rfl⟩) hK hG hS hE.1 rfl hl.1 rfl (Nat.le_of_ble_eq_true rfl) dL_runs_479 ⟨by show _ + 1 ≤ 200; omega, by show _ + 6 ≤ 1200; omega⟩ (fun H locs hG hS => ?_)
      refine fz_top (show _ = 5 from rfl) ?_
      refine lv_iconst (v := 5) hx hb dL_runs_482 (by decide) ?_
      refine lv_icmp_ne (tgt := 552) hx hb dL_runs_483 (by decide) (fun z9 => absurd z9 (by decide)) (fun _ => ?_)
      refine lv_aload_n hx hb dL_runs_486 rfl (lv_at hl 10 rfl) ?_
      refine pv_call (E := fz_Er ad adK adV) (rest := []) (pv_run_f (cn := (hs_n c3)) (V := V1) (L := (((((([] : List Int32) ++ [116]) ++ [101]) ++ [97]) ++ [109]) ++ [32])) (K := kT) (F := 5) (txteam1_F) (by decide)) ⟨hx, hb, hml, hown, hts⟩ (cwV 0 hts gL_runs_X8_runCommands rfl rfl rfl (by decide +kernel) ⟨Nat.le_of_ble_eq_true rfl, Nat.le_of_ble_eq_true rfl⟩) rfl rfl hK hG hS (fun _ => fz_Er_bl) (fun B9 hB9 U hU hW => hE.2.1.up hU hS hW hB9) rfl hl.1 rfl (Nat.le_of_ble_eq_true rfl) dL_runs_487 ⟨by show _ + 0 ≤ 200; omega, by show _ + 0 ≤ 1200; omega⟩ (fun H locs hG hS => ?_)
      refine fz_top (show _ = (-15) from (by decide)) ?_
      refine lv_bipush (v := (-15)) hx hb dL_runs_490 (by decide) ?_
      refine lv_icmp_ne (tgt := 552) hx hb dL_runs_492 (by decide) (fun z9 => absurd z9 (by decide)) (fun _ => ?_)
      refine lv_aload_n hx hb dL_runs_495 rfl (lv_at hl 10 rfl) ?_
      refine lv_bipush (v := 55) hx hb dL_runs_496 (by decide) ?_
      refine pw_call (rest := []) (pw_type_t (L := (((((([] : List Int32) ++ [116]) ++ [101]) ++ [97]) ++ [109]) ++ [32])) (K := kT) hst 55 (by decide) (Nat.le_of_ble_eq_true rfl)) ⟨hx, hb, hml, hown, hts⟩ (vx_cwSW 2 hts gL_runs_L_type rfl rfl rfl (by decide +kernel) ⟨Nat.le_of_ble_eq_true rfl, Nat.le_of_ble_eq_true rfl⟩) hK hG hS hE.1 rfl hl.1 rfl (Nat.le_of_ble_eq_true rfl) dL_runs_498 ⟨by show _ + 1 ≤ 200; omega, by show _ + 6 ≤ 1200; omega⟩ (fun H locs hG hS => ?_)
      refine fz_top (show _ = 6 from rfl) ?_
      refine W.widen (k := 52) (n := 312) (by omega) (by omega) ?_
      refine lv_bipush (v := 6) hx hb dL_runs_501 (by decide) ?_
      refine lv_icmp_ne (tgt := 552) hx hb dL_runs_503 (by decide) (fun z9 => absurd z9 (by decide)) (fun _ => ?_)
      refine lv_aload_n hx hb dL_runs_506 rfl (lv_at hl 10 rfl) ?_
      refine lv_bipush (v := 55) hx hb dL_runs_507 (by decide) ?_
      refine pw_call (rest := []) (pw_type_t (L := ((((((([] : List Int32) ++ [116]) ++ [101]) ++ [97]) ++ [109]) ++ [32]) ++ [55])) (K := kT) hst 55 (by decide) (Nat.le_of_ble_eq_true rfl)) ⟨hx, hb, hml, hown, hts⟩ (vx_cwSW 2 hts gL_runs_L_type rfl rfl rfl (by decide +kernel) ⟨Nat.le_of_ble_eq_true rfl, Nat.le_of_ble_eq_true rfl⟩) hK hG hS hE.1 rfl hl.1 rfl (Nat.le_of_ble_eq_true rfl) dL_runs_509 ⟨by show _ + 1 ≤ 200; omega, by show _ + 6 ≤ 1200; omega⟩ (fun H locs hG hS => ?_)
      refine fz_top (show _ = 7 from rfl) ?_
      refine lv_bipush (v := 7) hx hb dL_runs_512 (by decide) ?_
      refine lv_icmp_ne (tgt := 552) hx hb dL_runs_514 (by decide) (fun z9 => absurd z9 (by decide)) (fun _ => ?_)
      refine lv_aload_n hx hb dL_runs_517 rfl (lv_at hl 10 rfl) ?_
      refine lv_bipush (v := 55) hx hb dL_runs_518 (by decide) ?_
      refine pw_call (rest := []) (pw_type_t (L := (((((((([] : List Int32) ++ [116]) ++ [101]) ++ [97]) ++ [109]) ++ [32]) ++ [55]) ++ [55])) (K := kT) hst 55 (by decide) (Nat.le_of_ble_eq_true rfl)) ⟨hx, hb, hml, hown, hts⟩ (vx_cwSW 2 hts gL_runs_L_type rfl rfl rfl (by decide +kernel) ⟨Nat.le_of_ble_eq_true rfl, Nat.le_of_ble_eq_true rfl⟩) hK hG hS hE.1 rfl hl.1 rfl (Nat.le_of_ble_eq_true rfl) dL_runs_520 ⟨by show _ + 1 ≤ 200; omega, by show _ + 6 ≤ 1200; omega⟩ (fun H locs hG hS => ?_)
      refine fz_top (show _ = 8 from rfl) ?_
      refine lv_bipush (v := 8) hx hb dL_runs_523 (by decide) ?_
      refine lv_icmp_ne (tgt := 552) hx hb dL_runs_525 (by decide) (fun z9 => absurd z9 (by decide)) (fun _ => ?_)
      refine lv_aload_n hx hb dL_runs_528 rfl (lv_at hl 10 rfl) ?_
      refine lv_bipush (v := 55) hx hb dL_runs_529 (by decide) ?_
      refine pw_call (rest := []) (pw_type_t (L := ((((((((([] : List Int32) ++ [116]) ++ [101]) ++ [97]) ++ [109]) ++ [32]) ++ [55]) ++ [55]) ++ [55])) (K := kT) hst 55 (by decide) (Nat.le_of_ble_eq_true rfl)) ⟨hx, hb, hml, hown, hts⟩ (vx_cwSW 2 hts gL_runs_L_type rfl rfl rfl (by decide +kernel) ⟨Nat.le_of_ble_eq_true rfl, Nat.le_of_ble_eq_true rfl⟩) hK hG hS hE.1 rfl hl.1 rfl (Nat.le_of_ble_eq_true rfl) dL_runs_531 ⟨by show _ + 1 ≤ 200; omega, by show _ + 6 ≤ 1200; omega⟩ (fun H locs hG hS => ?_)
      refine fz_top (show _ = 9 from rfl) ?_
      refine lv_bipush (v := 9) hx hb dL_runs_534 (by decide) ?_
      refine lv_icmp_ne (tgt := 552) hx hb dL_runs_536 (by decide) (fun z9 => absurd z9 (by decide)) (fun _ => ?_)
      refine lv_aload_n hx hb dL_runs_539 rfl (lv_at hl 10 rfl) ?_
      refine pv_call (E := fz_Er ad adK adV) (rest := []) (pv_run_f (cn := (hs_n c3)) (V := V1) (L := (((((((((([] : List Int32) ++ [116]) ++ [101]) ++ [97]) ++ [109]) ++ [32]) ++ [55]) ++ [55]) ++ [55]) ++ [55])) (K := kT) (F := 8) (txteam5_F) (by decide)) ⟨hx, hb, hml, hown, hts⟩ (cwV 0 hts gL_runs_X8_runCommands rfl rfl rfl (by decide +kernel) ⟨Nat.le_of_ble_eq_true rfl, Nat.le_of_ble_eq_true rfl⟩) rfl rfl hK hG hS (fun _ => fz_Er_bl) (fun B9 hB9 U hU hW => hE.2.1.up hU hS hW hB9) rfl hl.1 rfl (Nat.le_of_ble_eq_true rfl) dL_runs_540 ⟨by show _ + 0 ≤ 200; omega, by show _ + 0 ≤ 1200; omega⟩ (fun H locs hG hS => ?_)
      refine fz_top (show _ = (-18) from (by decide)) ?_
      refine lv_bipush (v := (-18)) hx hb dL_runs_543 (by decide) ?_
      refine lv_icmp_ne (tgt := 552) hx hb dL_runs_545 (by decide) (fun z9 => absurd z9 (by decide)) (fun _ => ?_)
      refine lv_iconst (v := 1) hx hb dL_runs_548 (by decide) ?_
      refine lv_goto (tgt := 553) hx hb dL_runs_549 (by decide) ?_
      refine lv_istore_n (lv' := [(3, .int 1), (12, .int 18), (11, .int (fz_sum (V1 6) nt)), (10, .int 0), (9, .int 1), (8, .int 1), (7, .int (fz_sum (V 6) nt)), (6, .int (nI wk)), (5, .int (nI nc)), (4, .int 18), (0, .ref (f 0)), (1, .int (nI ti)), (2, .int (nI ri))]) hx hb dL_runs_553 rfl hl (by decide) rfl (fun ls hl => ?_)
      refine W.widen (k := 55) (n := 330) (by omega) (by omega) ?_
      refine lv_iload_n hx hb dL_runs_554 rfl (lv_at hl 0 rfl) ?_
      refine lv_if_eq (tgt := 598) hx hb dL_runs_555 (by decide) (fun z9 => absurd z9 (by decide)) (fun _ => ?_)
      refine lv_aload_n hx hb dL_runs_558 rfl (lv_at hl 10 rfl) ?_
      refine pv_call (E := fun _ => fz_T) (rest := []) (pv_clear (cn := (hs_n c3)) (V := V1) (L := (((((((((([] : List Int32) ++ [116]) ++ [101]) ++ [97]) ++ [109]) ++ [32]) ++ [55]) ++ [55]) ++ [55]) ++ [55])) (K := kT)) ⟨hx, hb, hml, hown, hts⟩ (cwV 0 hts gL_runs_X8_clearCommands rfl rfl rfl (by decide +kernel) ⟨Nat.le_of_ble_eq_true rfl, Nat.le_of_ble_eq_true rfl⟩) rfl rfl hK hG hS (fun _ => fz_T_bl) (fun _ _ _ _ _ => trivial) rfl hl.1 rfl (Nat.le_of_ble_eq_true rfl) dL_runs_559 ⟨by show _ + 0 ≤ 200; omega, by show _ + 0 ≤ 1200; omega⟩ (fun H locs hG hS => ?_)
      refine fz_top (show _ = 9 from rfl) ?_
      refine lv_bipush (v := 9) hx hb dL_runs_562 (by decide) ?_
      refine lv_icmp_ne (tgt := 598) hx hb dL_runs_564 (by decide) (fun z9 => absurd z9 (by decide)) (fun _ => ?_)
      refine lv_aload_n hx hb dL_runs_567 rfl (lv_at hl 10 rfl) ?_
      refine lv_bipush (v := 59) hx hb dL_runs_568 (by decide) ?_
      refine pw_call (rest := []) (pw_type_t (L := ([] : List Int32)) (K := kT) hst 59 (by decide) (Nat.le_of_ble_eq_true rfl)) ⟨hx, hb, hml, hown, hts⟩ (vx_cwSW 2 hts gL_runs_L_type rfl rfl rfl (by decide +kernel) ⟨Nat.le_of_ble_eq_true rfl, Nat.le_of_ble_eq_true rfl⟩) hK hG hS hE.1 rfl hl.1 rfl (Nat.le_of_ble_eq_true rfl) dL_runs_570 ⟨by show _ + 1 ≤ 200; omega, by show _ + 6 ≤ 1200; omega⟩ (fun H locs hG hS => ?_)
      refine fz_top (show _ = 1 from rfl) ?_
      refine lv_iconst (v := 1) hx hb dL_runs_573 (by decide) ?_
      refine lv_icmp_ne (tgt := 598) hx hb dL_runs_574 (by decide) (fun z9 => absurd z9 (by decide)) (fun _ => ?_)
      refine lv_aload_n hx hb dL_runs_577 rfl (lv_at hl 10 rfl) ?_
      refine pv_call (E := fz_Er ad adK adV) (rest := []) (pv_run_f (cn := (hs_n c3)) (V := V1) (L := (([] : List Int32) ++ [59])) (K := kT) (F := 0) (txsemi_F) (by decide)) ⟨hx, hb, hml, hown, hts⟩ (cwV 0 hts gL_runs_X8_runCommands rfl rfl rfl (by decide +kernel) ⟨Nat.le_of_ble_eq_true rfl, Nat.le_of_ble_eq_true rfl⟩) rfl rfl hK hG hS (fun _ => fz_Er_bl) (fun B9 hB9 U hU hW => hE.2.1.up hU hS hW hB9) rfl hl.1 rfl (Nat.le_of_ble_eq_true rfl) dL_runs_578 ⟨by show _ + 0 ≤ 200; omega, by show _ + 0 ≤ 1200; omega⟩ (fun H locs hG hS => ?_)
      refine fz_top (show _ = (-10) from (by decide)) ?_
      refine lv_bipush (v := (-10)) hx hb dL_runs_581 (by decide) ?_
      refine lv_icmp_ne (tgt := 598) hx hb dL_runs_583 (by decide) (fun z9 => absurd z9 (by decide)) (fun _ => ?_)
      refine lv_aload_n hx hb dL_runs_586 rfl (lv_at hl 10 rfl) ?_
      refine pv_call (E := fun _ => fz_T) (rest := []) (pv_clear (cn := (hs_n c3)) (V := V1) (L := (([] : List Int32) ++ [59])) (K := kT)) ⟨hx, hb, hml, hown, hts⟩ (cwV 0 hts gL_runs_X8_clearCommands rfl rfl rfl (by decide +kernel) ⟨Nat.le_of_ble_eq_true rfl, Nat.le_of_ble_eq_true rfl⟩) rfl rfl hK hG hS (fun _ => fz_T_bl) (fun _ _ _ _ _ => trivial) rfl hl.1 rfl (Nat.le_of_ble_eq_true rfl) dL_runs_587 ⟨by show _ + 0 ≤ 200; omega, by show _ + 0 ≤ 1200; omega⟩ (fun H locs hG hS => ?_)
      refine fz_top (show _ = 1 from rfl) ?_
      refine lv_iconst (v := 1) hx hb dL_runs_590 (by decide) ?_
      refine lv_icmp_ne (tgt := 598) hx hb dL_runs_591 (by decide) (fun z9 => absurd z9 (by decide)) (fun _ => ?_)
      refine lv_iconst (v := 1) hx hb dL_runs_594 (by decide) ?_
      refine lv_goto (tgt := 599) hx hb dL_runs_595 (by decide) ?_
      refine W.widen (k := 200) (n := 1200) (by omega) (by omega) ?_
      obtain ⟨Wn, h9, hP, hD⟩ := hG
      exact W.zret (v := 1) hx hb hr (by decide) (fun t9 ht9 hW9 => ⟨⟨_, Wn, rfl, ⟨⟨rfl, (hs_n c3), V1, nc + 1, nq + 1, wk, J1.mono (by omega), h9⟩, hD⟩, fz_to ht9 hP⟩, hS.F ht9⟩) hS.2.2 dL_runs_599
  · skip
    have hC := run_C0 J ht h1 h9r ha
    refine lv_aload_n hx hb dL_runs_125 rfl (lv_at hl 2 rfl) ?_
    refine lv_iconst (v := 1) hx hb dL_runs_126 (by decide) ?_
    refine pw_call (rest := []) (pt_whole hst J 1 (by decide)) ⟨hx, hb, hml, hown, hts⟩ (vx_cwSW 2 hts gL_runs_L_whole rfl rfl rfl (by decide +kernel) ⟨Nat.le_of_ble_eq_true rfl, Nat.le_of_ble_eq_true rfl⟩) hK hG hS hE.1 rfl hl.1 rfl (Nat.le_of_ble_eq_true rfl) dL_runs_127 ⟨by show _ + 1 ≤ 200; omega, by show _ + 6 ≤ 1200; omega⟩ (fun H locs hG hS => ?_)
    refine fz_top (show _ = nI nc from J.e8) ?_
    refine lv_istore (lv' := [(5, .int (nI nc)), (4, .int 18), (3, .int 1), (0, .ref (f 0)), (1, .int (nI ti)), (2, .int (nI ri))]) hx hb dL_runs_130 hl (by decide) rfl (fun ls hl => ?_)
    refine W.widen (k := 33) (n := 198) (by omega) (by omega) ?_
    refine lv_aload_n hx hb dL_runs_132 rfl (lv_at hl 3 rfl) ?_
    refine lv_bipush (v := 8) hx hb dL_runs_133 (by decide) ?_
    refine pw_call (rest := []) (pt_whole hst J 8 (by decide)) ⟨hx, hb, hml, hown, hts⟩ (vx_cwSW 2 hts gL_runs_L_whole rfl rfl rfl (by decide +kernel) ⟨Nat.le_of_ble_eq_true rfl, Nat.le_of_ble_eq_true rfl⟩) hK hG hS hE.1 rfl hl.1 rfl (Nat.le_of_ble_eq_true rfl) dL_runs_135 ⟨by show _ + 1 ≤ 200; omega, by show _ + 6 ≤ 1200; omega⟩ (fun H locs hG hS => ?_)
    refine fz_top (show _ = nI wk from J.e0) ?_
    refine lv_istore (lv' := [(6, .int (nI wk)), (5, .int (nI nc)), (4, .int 18), (3, .int 1), (0, .ref (f 0)), (1, .int (nI ti)), (2, .int (nI ri))]) hx hb dL_runs_138 hl (by decide) rfl (fun ls hl => ?_)
    refine W.widen (k := 34) (n := 204) (by omega) (by omega) ?_
    refine lv_aload_n hx hb dL_runs_140 rfl (lv_at hl 4 rfl) ?_
    refine lv_bipush (v := 13) hx hb dL_runs_141 (by decide) ?_
    refine pw_call (rest := []) (pt_whole hst J 13 (by decide)) ⟨hx, hb, hml, hown, hts⟩ (vx_cwSW 2 hts gL_runs_L_whole rfl rfl rfl (by decide +kernel) ⟨Nat.le_of_ble_eq_true rfl, Nat.le_of_ble_eq_true rfl⟩) hK hG hS hE.1 rfl hl.1 rfl (Nat.le_of_ble_eq_true rfl) dL_runs_143 ⟨by show _ + 1 ≤ 200; omega, by show _ + 6 ≤ 1200; omega⟩ (fun H locs hG hS => ?_)
    refine fz_top (show _ = fz_sum (V 6) nt from rfl) ?_
    refine lv_istore (lv' := [(7, .int (fz_sum (V 6) nt)), (6, .int (nI wk)), (5, .int (nI nc)), (4, .int 18), (3, .int 1), (0, .ref (f 0)), (1, .int (nI ti)), (2, .int (nI ri))]) hx hb dL_runs_146 hl (by decide) rfl (fun ls hl => ?_)
    refine W.widen (k := 35) (n := 210) (by omega) (by omega) ?_
    refine lv_aload_n hx hb dL_runs_148 rfl (lv_at hl 5 rfl) ?_
    refine pv_call (E := fz_Er ad adK adV) (rest := []) (pv_run_n (cn := c2) (V := V) (L := (txA ti ri)) (K := kT) (cnt := 0) (V' := V) (txA_F (by omega) (by omega)) (hC) J.wf J.zo) ⟨hx, hb, hml, hown, hts⟩ (cwV 0 hts gL_runs_X8_runCommands rfl rfl rfl (by decide +kernel) ⟨Nat.le_of_ble_eq_true rfl, Nat.le_of_ble_eq_true rfl⟩) rfl rfl hK hG hS (fun _ => fz_Er_bl) (fun B9 hB9 U hU hW => hE.2.1.up hU hS hW hB9) rfl hl.1 rfl (Nat.le_of_ble_eq_true rfl) dL_runs_149 ⟨by show _ + 0 ≤ 200; omega, by show _ + 0 ≤ 1200; omega⟩ (fun H locs hG hS => ?_)
    refine fz_top (show _ = 0 from rfl) ?_
    obtain ⟨c3, hc3, hG⟩ := run_top hG
    refine lv_istore (lv' := [(8, .int 0), (7, .int (fz_sum (V 6) nt)), (6, .int (nI wk)), (5, .int (nI nc)), (4, .int 18), (3, .int 1), (0, .ref (f 0)), (1, .int (nI ti)), (2, .int (nI ri))]) hx hb dL_runs_152 hl (by decide) rfl (fun ls hl => ?_)
    refine lv_iload hx hb dL_runs_154 (lv_at hl 3 rfl) ?_
    refine lv_bipush (v := 30) hx hb dL_runs_156 (by decide) ?_
    refine lv_icmp_ge (tgt := 165) hx hb dL_runs_158 (by decide) (fun _ => ?_) (fun z9 => absurd ((nI_leI (a := 30) (by omega) (by omega)).mpr (by omega)) z9)
    refine lv_iconst (v := 0) hx hb dL_runs_165 (by decide) ?_
    refine lv_istore (lv' := [(9, .int 0), (8, .int 0), (7, .int (fz_sum (V 6) nt)), (6, .int (nI wk)), (5, .int (nI nc)), (4, .int 18), (3, .int 1), (0, .ref (f 0)), (1, .int (nI ti)), (2, .int (nI ri))]) hx hb dL_runs_166 hl (by decide) rfl (fun ls hl => ?_)
    refine lv_iload hx hb dL_runs_168 (lv_at hl 0 rfl) ?_
    refine lv_if_eq (tgt := 184) hx hb dL_runs_170 (by decide) (fun _ => ?_) (fun z9 => absurd (by decide) z9)
    refine lv_iconst (v := 0) hx hb dL_runs_184 (by decide) ?_
    refine lv_istore (lv' := [(10, .int 0), (9, .int 0), (8, .int 0), (7, .int (fz_sum (V 6) nt)), (6, .int (nI wk)), (5, .int (nI nc)), (4, .int 18), (3, .int 1), (0, .ref (f 0)), (1, .int (nI ti)), (2, .int (nI ri))]) hx hb dL_runs_185 hl (by decide) rfl (fun ls hl => ?_)
    refine lv_iload_n hx hb dL_runs_187 rfl (lv_at hl 7 rfl) ?_
    refine lv_if_eq (tgt := 269) hx hb dL_runs_188 (by decide) (fun z9 => absurd z9 (by decide)) (fun _ => ?_)
    refine lv_iload hx hb dL_runs_191 (lv_at hl 6 rfl) ?_
    refine lv_bipush (v := 18) hx hb dL_runs_193 (by decide) ?_
    refine lv_icmp_ne (tgt := 269) hx hb dL_runs_195 (by decide) (fun z9 => absurd z9 (by decide)) (fun _ => ?_)
    refine lv_iload hx hb dL_runs_198 (lv_at hl 2 rfl) ?_
    refine lv_iload hx hb dL_runs_200 (lv_at hl 1 rfl) ?_
    refine lv_if_eq (tgt := 218) hx hb dL_runs_202 (by decide) (fun _ => ?_) (fun z9 => absurd (by decide) z9)
    refine lv_iconst (v := 0) hx hb dL_runs_218 (by decide) ?_
    refine lv_icmp_ne (tgt := 269) hx hb dL_runs_219 (by decide) (fun z9 => absurd z9 (by decide)) (fun _ => ?_)
    refine lv_aload_n hx hb dL_runs_222 rfl (lv_at hl 8 rfl) ?_
    refine lv_iconst (v := 1) hx hb dL_runs_223 (by decide) ?_
    refine pw_call (rest := []) (pt_whole hst J 1 (by decide)) ⟨hx, hb, hml, hown, hts⟩ (vx_cwSW 2 hts gL_runs_L_whole rfl rfl rfl (by decide +kernel) ⟨Nat.le_of_ble_eq_true rfl, Nat.le_of_ble_eq_true rfl⟩) hK hG hS hE.1 rfl hl.1 rfl (Nat.le_of_ble_eq_true rfl) dL_runs_224 ⟨by show _ + 1 ≤ 200; omega, by show _ + 6 ≤ 1200; omega⟩ (fun H locs hG hS => ?_)
    refine fz_top (show _ = nI nc from J.e8) ?_
    refine lv_iload hx hb dL_runs_227 (lv_at hl 5 rfl) ?_
    refine lv_iload hx hb dL_runs_229 (lv_at hl 1 rfl) ?_
    refine lv_if_eq (tgt := 238) hx hb dL_runs_231 (by decide) (fun _ => ?_) (fun z9 => absurd (by decide) z9)
    refine lv_iconst (v := 0) hx hb dL_runs_238 (by decide) ?_
    refine lv_iadd hx hb dL_runs_239 ?_
    refine fz_top (show _ = nI nc from Int32.add_zero (nI nc)) ?_
    refine lv_icmp_ne (tgt := 269) hx hb dL_runs_240 (by decide) (fun z9 => absurd z9 (not_not_p rfl)) (fun _ => ?_)
    refine lv_aload_n hx hb dL_runs_243 rfl (lv_at hl 8 rfl) ?_
    refine lv_bipush (v := 8) hx hb dL_runs_244 (by decide) ?_
    refine pw_call (rest := []) (pt_whole hst J 8 (by decide)) ⟨hx, hb, hml, hown, hts⟩ (vx_cwSW 2 hts gL_runs_L_whole rfl rfl rfl (by decide +kernel) ⟨Nat.le_of_ble_eq_true rfl, Nat.le_of_ble_eq_true rfl⟩) hK hG hS hE.1 rfl hl.1 rfl (Nat.le_of_ble_eq_true rfl) dL_runs_246 ⟨by show _ + 1 ≤ 200; omega, by show _ + 6 ≤ 1200; omega⟩ (fun H locs hG hS => ?_)
    refine fz_top (show _ = nI wk from J.e0) ?_
    refine lv_iload hx hb dL_runs_249 (lv_at hl 4 rfl) ?_
    refine lv_iload hx hb dL_runs_251 (lv_at hl 0 rfl) ?_
    refine lv_if_eq (tgt := 260) hx hb dL_runs_253 (by decide) (fun _ => ?_) (fun z9 => absurd (by decide) z9)
    refine lv_iconst (v := 0) hx hb dL_runs_260 (by decide) ?_
    refine lv_iadd hx hb dL_runs_261 ?_
    refine fz_top (show _ = nI wk from Int32.add_zero (nI wk)) ?_
    refine lv_icmp_ne (tgt := 269) hx hb dL_runs_262 (by decide) (fun z9 => absurd z9 (not_not_p rfl)) (fun _ => ?_)
    refine lv_iconst (v := 1) hx hb dL_runs_265 (by decide) ?_
    refine lv_goto (tgt := 270) hx hb dL_runs_266 (by decide) ?_
    refine lv_istore_n (lv' := [(3, .int 1), (10, .int 0), (9, .int 0), (8, .int 0), (7, .int (fz_sum (V 6) nt)), (6, .int (nI wk)), (5, .int (nI nc)), (4, .int 18), (0, .ref (f 0)), (1, .int (nI ti)), (2, .int (nI ri))]) hx hb dL_runs_270 rfl hl (by decide) rfl (fun ls hl => ?_)
    refine W.widen (k := 37) (n := 222) (by omega) (by omega) ?_
    refine lv_aload_n hx hb dL_runs_271 rfl (lv_at hl 8 rfl) ?_
    refine lv_bipush (v := 13) hx hb dL_runs_272 (by decide) ?_
    refine pw_call (rest := []) (pt_whole hst J 13 (by decide)) ⟨hx, hb, hml, hown, hts⟩ (vx_cwSW 2 hts gL_runs_L_whole rfl rfl rfl (by decide +kernel) ⟨Nat.le_of_ble_eq_true rfl, Nat.le_of_ble_eq_true rfl⟩) hK hG hS hE.1 rfl hl.1 rfl (Nat.le_of_ble_eq_true rfl) dL_runs_274 ⟨by show _ + 1 ≤ 200; omega, by show _ + 6 ≤ 1200; omega⟩ (fun H locs hG hS => ?_)
    refine fz_top (show _ = fz_sum (V 6) nt from rfl) ?_
    refine lv_istore (lv' := [(11, .int (fz_sum (V 6) nt)), (3, .int 1), (10, .int 0), (9, .int 0), (8, .int 0), (7, .int (fz_sum (V 6) nt)), (6, .int (nI wk)), (5, .int (nI nc)), (4, .int 18), (0, .ref (f 0)), (1, .int (nI ti)), (2, .int (nI ri))]) hx hb dL_runs_277 hl (by decide) rfl (fun ls hl => ?_)
    refine W.widen (k := 38) (n := 228) (by omega) (by omega) ?_
    refine lv_iload_n hx hb dL_runs_279 rfl (lv_at hl 1 rfl) ?_
    refine lv_if_eq (tgt := 359) hx hb dL_runs_280 (by decide) (fun z9 => absurd z9 (by decide)) (fun _ => ?_)
    refine lv_aload_n hx hb dL_runs_283 rfl (lv_at hl 9 rfl) ?_
    refine pw_call (rest := []) (pw_undo_t (cn := c3) (V := V) (L := (txA ti ri)) (U := V) hst J.zo) ⟨hx, hb, hml, hown, hts⟩ (vx_cwSW 1 hts gL_runs_L_undo rfl rfl rfl (by decide +kernel) ⟨Nat.le_of_ble_eq_true rfl, Nat.le_of_ble_eq_true rfl⟩) hK hG hS hE.1 rfl hl.1 rfl (Nat.le_of_ble_eq_true rfl) dL_runs_284 ⟨by show _ + 1 ≤ 200; omega, by show _ + 6 ≤ 1200; omega⟩ (fun H locs hG hS => ?_)
    refine fz_top (show _ = nI c3 from rfl) ?_
    refine lv_if_lt (tgt := 359) hx hb dL_runs_287 (by decide) (fun z9 => absurd z9 (nI_pos (n := c3) (by omega))) (fun _ => ?_)
    refine lv_aload_n hx hb dL_runs_290 rfl (lv_at hl 9 rfl) ?_
    refine lv_iconst (v := 1) hx hb dL_runs_291 (by decide) ?_
    refine pw_call (rest := []) (pt_whole hst J 1 (by decide)) ⟨hx, hb, hml, hown, hts⟩ (vx_cwSW 2 hts gL_runs_L_whole rfl rfl rfl (by decide +kernel) ⟨Nat.le_of_ble_eq_true rfl, Nat.le_of_ble_eq_true rfl⟩) hK hG hS hE.1 rfl hl.1 rfl (Nat.le_of_ble_eq_true rfl) dL_runs_292 ⟨by show _ + 1 ≤ 200; omega, by show _ + 6 ≤ 1200; omega⟩ (fun H locs hG hS => ?_)
    refine fz_top (show _ = nI nc from J.e8) ?_
    refine lv_iload hx hb dL_runs_295 (lv_at hl 7 rfl) ?_
    refine lv_icmp_ne (tgt := 359) hx hb dL_runs_297 (by decide) (fun z9 => absurd z9 (not_not_p rfl)) (fun _ => ?_)
    refine lv_aload_n hx hb dL_runs_300 rfl (lv_at hl 9 rfl) ?_
    refine lv_bipush (v := 8) hx hb dL_runs_301 (by decide) ?_
    refine pw_call (rest := []) (pt_whole hst J 8 (by decide)) ⟨hx, hb, hml, hown, hts⟩ (vx_cwSW 2 hts gL_runs_L_whole rfl rfl rfl (by decide +kernel) ⟨Nat.le_of_ble_eq_true rfl, Nat.le_of_ble_eq_true rfl⟩) hK hG hS hE.1 rfl hl.1 rfl (Nat.le_of_ble_eq_true rfl) dL_runs_303 ⟨by show _ + 1 ≤ 200; omega, by show _ + 6 ≤ 1200; omega⟩ (fun H locs hG hS => ?_)
    refine fz_top (show _ = nI wk from J.e0) ?_
    refine lv_iload hx hb dL_runs_306 (lv_at hl 6 rfl) ?_
    refine lv_icmp_ne (tgt := 359) hx hb dL_runs_308 (by decide) (fun z9 => absurd z9 (not_not_p rfl)) (fun _ => ?_)
    refine lv_aload_n hx hb dL_runs_311 rfl (lv_at hl 9 rfl) ?_
    refine lv_bipush (v := 13) hx hb dL_runs_312 (by decide) ?_
    refine pw_call (rest := []) (pt_whole hst J 13 (by decide)) ⟨hx, hb, hml, hown, hts⟩ (vx_cwSW 2 hts gL_runs_L_whole rfl rfl rfl (by decide +kernel) ⟨Nat.le_of_ble_eq_true rfl, Nat.le_of_ble_eq_true rfl⟩) hK hG hS hE.1 rfl hl.1 rfl (Nat.le_of_ble_eq_true rfl) dL_runs_314 ⟨by show _ + 1 ≤ 200; omega, by show _ + 6 ≤ 1200; omega⟩ (fun H locs hG hS => ?_)
    refine fz_top (show _ = fz_sum (V 6) nt from rfl) ?_
    refine lv_iload hx hb dL_runs_317 (lv_at hl 5 rfl) ?_
    refine lv_icmp_ne (tgt := 359) hx hb dL_runs_319 (by decide) (fun z9 => absurd z9 (not_not_p rfl)) (fun _ => ?_)
    refine lv_iload hx hb dL_runs_322 (lv_at hl 3 rfl) ?_
    refine lv_if_eq (tgt := 338) hx hb dL_runs_324 (by decide) (fun _ => ?_) (fun z9 => absurd (by decide) z9)
    refine lv_iload hx hb dL_runs_338 (lv_at hl 2 rfl) ?_
    refine lv_if_eq (tgt := 355) hx hb dL_runs_340 (by decide) (fun _ => ?_) (fun z9 => absurd (by decide) z9)
    refine lv_iconst (v := 1) hx hb dL_runs_355 (by decide) ?_
    refine lv_goto (tgt := 360) hx hb dL_runs_356 (by decide) ?_
    refine lv_istore_n (lv' := [(3, .int 1), (11, .int (fz_sum (V 6) nt)), (10, .int 0), (9, .int 0), (8, .int 0), (7, .int (fz_sum (V 6) nt)), (6, .int (nI wk)), (5, .int (nI nc)), (4, .int 18), (0, .ref (f 0)), (1, .int (nI ti)), (2, .int (nI ri))]) hx hb dL_runs_360 rfl hl (by decide) rfl (fun ls hl => ?_)
    refine W.widen (k := 42) (n := 252) (by omega) (by omega) ?_
    refine lv_aload_n hx hb dL_runs_361 rfl (lv_at hl 9 rfl) ?_
    refine lv_bipush (v := 17) hx hb dL_runs_362 (by decide) ?_
    refine pw_call (rest := []) (pt_whole17 hst J) ⟨hx, hb, hml, hown, hts⟩ (vx_cwSW 2 hts gL_runs_L_whole rfl rfl rfl (by decide +kernel) ⟨Nat.le_of_ble_eq_true rfl, Nat.le_of_ble_eq_true rfl⟩) hK hG hS hE.1 rfl hl.1 rfl (Nat.le_of_ble_eq_true rfl) dL_runs_364 ⟨by show _ + 1 ≤ 200; omega, by show _ + 6 ≤ 1200; omega⟩ (fun H locs hG hS => ?_)
    refine fz_top (show _ = 18 from rfl) ?_
    refine lv_istore (lv' := [(12, .int 18), (3, .int 1), (11, .int (fz_sum (V 6) nt)), (10, .int 0), (9, .int 0), (8, .int 0), (7, .int (fz_sum (V 6) nt)), (6, .int (nI wk)), (5, .int (nI nc)), (4, .int 18), (0, .ref (f 0)), (1, .int (nI ti)), (2, .int (nI ri))]) hx hb dL_runs_367 hl (by decide) rfl (fun ls hl => ?_)
    refine W.widen (k := 43) (n := 258) (by omega) (by omega) ?_
    refine lv_iload_n hx hb dL_runs_369 rfl (lv_at hl 1 rfl) ?_
    refine lv_if_eq (tgt := 433) hx hb dL_runs_370 (by decide) (fun z9 => absurd z9 (by decide)) (fun _ => ?_)
    refine lv_iload hx hb dL_runs_373 (lv_at hl 0 rfl) ?_
    refine lv_bipush (v := 18) hx hb dL_runs_375 (by decide) ?_
    refine lv_icmp_ne (tgt := 433) hx hb dL_runs_377 (by decide) (fun z9 => absurd z9 (by decide)) (fun _ => ?_)
    refine lv_aload_n hx hb dL_runs_380 rfl (lv_at hl 10 rfl) ?_
    refine lv_bipush (v := 119) hx hb dL_runs_381 (by decide) ?_
    refine pw_call (rest := []) (pw_type_t (L := (txA ti ri)) (K := kT) hst 119 (by decide) (Nat.le_of_ble_eq_true rfl)) ⟨hx, hb, hml, hown, hts⟩ (vx_cwSW 2 hts gL_runs_L_type rfl rfl rfl (by decide +kernel) ⟨Nat.le_of_ble_eq_true rfl, Nat.le_of_ble_eq_true rfl⟩) hK hG hS hE.1 rfl hl.1 rfl (Nat.le_of_ble_eq_true rfl) dL_runs_383 ⟨by show _ + 1 ≤ 200; omega, by show _ + 6 ≤ 1200; omega⟩ (fun H locs hG hS => ?_)
    refine fz_top (show _ = 19 from rfl) ?_
    refine lv_bipush (v := 19) hx hb dL_runs_386 (by decide) ?_
    refine lv_icmp_ne (tgt := 433) hx hb dL_runs_388 (by decide) (fun z9 => absurd z9 (by decide)) (fun _ => ?_)
    refine lv_aload_n hx hb dL_runs_391 rfl (lv_at hl 10 rfl) ?_
    refine pv_call (E := fz_Er ad adK adV) (rest := []) (pv_run_f (cn := c3) (V := V) (L := ((txA ti ri) ++ [119])) (K := kT) (F := 18) (txB_F (t := ti) (r := ri) (M := [119]) (by omega) (by omega) (by simp)) (by decide)) ⟨hx, hb, hml, hown, hts⟩ (cwV 0 hts gL_runs_X8_runCommands rfl rfl rfl (by decide +kernel) ⟨Nat.le_of_ble_eq_true rfl, Nat.le_of_ble_eq_true rfl⟩) rfl rfl hK hG hS (fun _ => fz_Er_bl) (fun B9 hB9 U hU hW => hE.2.1.up hU hS hW hB9) rfl hl.1 rfl (Nat.le_of_ble_eq_true rfl) dL_runs_392 ⟨by show _ + 0 ≤ 200; omega, by show _ + 0 ≤ 1200; omega⟩ (fun H locs hG hS => ?_)
    refine fz_top (show _ = (-28) from (by decide)) ?_
    refine lv_bipush (v := (-28)) hx hb dL_runs_395 (by decide) ?_
    refine lv_icmp_ne (tgt := 433) hx hb dL_runs_397 (by decide) (fun z9 => absurd z9 (by decide)) (fun _ => ?_)
    refine lv_aload_n hx hb dL_runs_400 rfl (lv_at hl 10 rfl) ?_
    refine lv_bipush (v := 32) hx hb dL_runs_401 (by decide) ?_
    refine pw_call (rest := []) (pw_type_t (L := ((txA ti ri) ++ [119])) (K := kT) hst 32 (by decide) (Nat.le_of_ble_eq_true rfl)) ⟨hx, hb, hml, hown, hts⟩ (vx_cwSW 2 hts gL_runs_L_type rfl rfl rfl (by decide +kernel) ⟨Nat.le_of_ble_eq_true rfl, Nat.le_of_ble_eq_true rfl⟩) hK hG hS hE.1 rfl hl.1 rfl (Nat.le_of_ble_eq_true rfl) dL_runs_403 ⟨by show _ + 1 ≤ 200; omega, by show _ + 6 ≤ 1200; omega⟩ (fun H locs hG hS => ?_)
    refine fz_top (show _ = 20 from rfl) ?_
    refine lv_bipush (v := 20) hx hb dL_runs_406 (by decide) ?_
    refine lv_icmp_ne (tgt := 433) hx hb dL_runs_408 (by decide) (fun z9 => absurd z9 (by decide)) (fun _ => ?_)
    refine lv_aload_n hx hb dL_runs_411 rfl (lv_at hl 10 rfl) ?_
    refine pv_call (E := fz_Er ad adK adV) (rest := []) (pv_run_f (cn := c3) (V := V) (L := (((txA ti ri) ++ [119]) ++ [32])) (K := kT) (F := 18) (txB_F (t := ti) (r := ri) (M := [119, 32]) (by omega) (by omega) (by simp)) (by decide)) ⟨hx, hb, hml, hown, hts⟩ (cwV 0 hts gL_runs_X8_runCommands rfl rfl rfl (by decide +kernel) ⟨Nat.le_of_ble_eq_true rfl, Nat.le_of_ble_eq_true rfl⟩) rfl rfl hK hG hS (fun _ => fz_Er_bl) (fun B9 hB9 U hU hW => hE.2.1.up hU hS hW hB9) rfl hl.1 rfl (Nat.le_of_ble_eq_true rfl) dL_runs_412 ⟨by show _ + 0 ≤ 200; omega, by show _ + 0 ≤ 1200; omega⟩ (fun H locs hG hS => ?_)
    refine fz_top (show _ = (-28) from (by decide)) ?_
    refine lv_bipush (v := (-28)) hx hb dL_runs_415 (by decide) ?_
    refine lv_icmp_ne (tgt := 433) hx hb dL_runs_417 (by decide) (fun z9 => absurd z9 (by decide)) (fun _ => ?_)
    refine lv_aload_n hx hb dL_runs_420 rfl (lv_at hl 10 rfl) ?_
    refine pv_call (E := fun _ => fz_T) (rest := []) (pv_clear (cn := c3) (V := V) (L := (((txA ti ri) ++ [119]) ++ [32])) (K := kT)) ⟨hx, hb, hml, hown, hts⟩ (cwV 0 hts gL_runs_X8_clearCommands rfl rfl rfl (by decide +kernel) ⟨Nat.le_of_ble_eq_true rfl, Nat.le_of_ble_eq_true rfl⟩) rfl rfl hK hG hS (fun _ => fz_T_bl) (fun _ _ _ _ _ => trivial) rfl hl.1 rfl (Nat.le_of_ble_eq_true rfl) dL_runs_421 ⟨by show _ + 0 ≤ 200; omega, by show _ + 0 ≤ 1200; omega⟩ (fun H locs hG hS => ?_)
    refine fz_top (show _ = 20 from rfl) ?_
    refine lv_bipush (v := 20) hx hb dL_runs_424 (by decide) ?_
    refine lv_icmp_ne (tgt := 433) hx hb dL_runs_426 (by decide) (fun z9 => absurd z9 (by decide)) (fun _ => ?_)
    refine lv_iconst (v := 1) hx hb dL_runs_429 (by decide) ?_
    refine lv_goto (tgt := 434) hx hb dL_runs_430 (by decide) ?_
    refine lv_istore_n (lv' := [(3, .int 1), (12, .int 18), (11, .int (fz_sum (V 6) nt)), (10, .int 0), (9, .int 0), (8, .int 0), (7, .int (fz_sum (V 6) nt)), (6, .int (nI wk)), (5, .int (nI nc)), (4, .int 18), (0, .ref (f 0)), (1, .int (nI ti)), (2, .int (nI ri))]) hx hb dL_runs_434 rfl hl (by decide) rfl (fun ls hl => ?_)
    refine W.widen (k := 45) (n := 270) (by omega) (by omega) ?_
    refine lv_aload_n hx hb dL_runs_435 rfl (lv_at hl 10 rfl) ?_
    refine lv_bipush (v := 116) hx hb dL_runs_436 (by decide) ?_
    refine pw_call (rest := []) (pw_type_t (L := ([] : List Int32)) (K := kT) hst 116 (by decide) (Nat.le_of_ble_eq_true rfl)) ⟨hx, hb, hml, hown, hts⟩ (vx_cwSW 2 hts gL_runs_L_type rfl rfl rfl (by decide +kernel) ⟨Nat.le_of_ble_eq_true rfl, Nat.le_of_ble_eq_true rfl⟩) hK hG hS hE.1 rfl hl.1 rfl (Nat.le_of_ble_eq_true rfl) dL_runs_438 ⟨by show _ + 1 ≤ 200; omega, by show _ + 6 ≤ 1200; omega⟩ (fun H locs hG hS => ?_)
    refine lv_pop hx hb dL_runs_441 rfl ?_
    refine lv_aload_n hx hb dL_runs_442 rfl (lv_at hl 10 rfl) ?_
    refine lv_bipush (v := 101) hx hb dL_runs_443 (by decide) ?_
    refine pw_call (rest := []) (pw_type_t (L := (([] : List Int32) ++ [116])) (K := kT) hst 101 (by decide) (Nat.le_of_ble_eq_true rfl)) ⟨hx, hb, hml, hown, hts⟩ (vx_cwSW 2 hts gL_runs_L_type rfl rfl rfl (by decide +kernel) ⟨Nat.le_of_ble_eq_true rfl, Nat.le_of_ble_eq_true rfl⟩) hK hG hS hE.1 rfl hl.1 rfl (Nat.le_of_ble_eq_true rfl) dL_runs_445 ⟨by show _ + 1 ≤ 200; omega, by show _ + 6 ≤ 1200; omega⟩ (fun H locs hG hS => ?_)
    refine lv_pop hx hb dL_runs_448 rfl ?_
    refine lv_aload_n hx hb dL_runs_449 rfl (lv_at hl 10 rfl) ?_
    refine lv_bipush (v := 97) hx hb dL_runs_450 (by decide) ?_
    refine pw_call (rest := []) (pw_type_t (L := ((([] : List Int32) ++ [116]) ++ [101])) (K := kT) hst 97 (by decide) (Nat.le_of_ble_eq_true rfl)) ⟨hx, hb, hml, hown, hts⟩ (vx_cwSW 2 hts gL_runs_L_type rfl rfl rfl (by decide +kernel) ⟨Nat.le_of_ble_eq_true rfl, Nat.le_of_ble_eq_true rfl⟩) hK hG hS hE.1 rfl hl.1 rfl (Nat.le_of_ble_eq_true rfl) dL_runs_452 ⟨by show _ + 1 ≤ 200; omega, by show _ + 6 ≤ 1200; omega⟩ (fun H locs hG hS => ?_)
    refine lv_pop hx hb dL_runs_455 rfl ?_
    refine lv_aload_n hx hb dL_runs_456 rfl (lv_at hl 10 rfl) ?_
    refine lv_bipush (v := 109) hx hb dL_runs_457 (by decide) ?_
    refine pw_call (rest := []) (pw_type_t (L := (((([] : List Int32) ++ [116]) ++ [101]) ++ [97])) (K := kT) hst 109 (by decide) (Nat.le_of_ble_eq_true rfl)) ⟨hx, hb, hml, hown, hts⟩ (vx_cwSW 2 hts gL_runs_L_type rfl rfl rfl (by decide +kernel) ⟨Nat.le_of_ble_eq_true rfl, Nat.le_of_ble_eq_true rfl⟩) hK hG hS hE.1 rfl hl.1 rfl (Nat.le_of_ble_eq_true rfl) dL_runs_459 ⟨by show _ + 1 ≤ 200; omega, by show _ + 6 ≤ 1200; omega⟩ (fun H locs hG hS => ?_)
    refine lv_pop hx hb dL_runs_462 rfl ?_
    refine lv_iload_n hx hb dL_runs_463 rfl (lv_at hl 0 rfl) ?_
    refine lv_if_eq (tgt := 552) hx hb dL_runs_464 (by decide) (fun z9 => absurd z9 (by decide)) (fun _ => ?_)
    refine lv_aload_n hx hb dL_runs_467 rfl (lv_at hl 10 rfl) ?_
    refine pv_call (E := fz_Er ad adK adV) (rest := []) (pv_run_f (cn := c3) (V := V) (L := ((((([] : List Int32) ++ [116]) ++ [101]) ++ [97]) ++ [109])) (K := kT) (F := 4) (txteam_F) (by decide)) ⟨hx, hb, hml, hown, hts⟩ (cwV 0 hts gL_runs_X8_runCommands rfl rfl rfl (by decide +kernel) ⟨Nat.le_of_ble_eq_true rfl, Nat.le_of_ble_eq_true rfl⟩) rfl rfl hK hG hS (fun _ => fz_Er_bl) (fun B9 hB9 U hU hW => hE.2.1.up hU hS hW hB9) rfl hl.1 rfl (Nat.le_of_ble_eq_true rfl) dL_runs_468 ⟨by show _ + 0 ≤ 200; omega, by show _ + 0 ≤ 1200; omega⟩ (fun H locs hG hS => ?_)
    refine fz_top (show _ = (-14) from (by decide)) ?_
    refine lv_bipush (v := (-14)) hx hb dL_runs_471 (by decide) ?_
    refine lv_icmp_ne (tgt := 552) hx hb dL_runs_473 (by decide) (fun z9 => absurd z9 (by decide)) (fun _ => ?_)
    refine lv_aload_n hx hb dL_runs_476 rfl (lv_at hl 10 rfl) ?_
    refine lv_bipush (v := 32) hx hb dL_runs_477 (by decide) ?_
    refine pw_call (rest := []) (pw_type_t (L := ((((([] : List Int32) ++ [116]) ++ [101]) ++ [97]) ++ [109])) (K := kT) hst 32 (by decide) (Nat.le_of_ble_eq_true rfl)) ⟨hx, hb, hml, hown, hts⟩ (vx_cwSW 2 hts gL_runs_L_type rfl rfl rfl (by decide +kernel) ⟨Nat.le_of_ble_eq_true rfl, Nat.le_of_ble_eq_true rfl⟩) hK hG hS hE.1 rfl hl.1 rfl (Nat.le_of_ble_eq_true rfl) dL_runs_479 ⟨by show _ + 1 ≤ 200; omega, by show _ + 6 ≤ 1200; omega⟩ (fun H locs hG hS => ?_)
    refine fz_top (show _ = 5 from rfl) ?_
    refine lv_iconst (v := 5) hx hb dL_runs_482 (by decide) ?_
    refine lv_icmp_ne (tgt := 552) hx hb dL_runs_483 (by decide) (fun z9 => absurd z9 (by decide)) (fun _ => ?_)
    refine lv_aload_n hx hb dL_runs_486 rfl (lv_at hl 10 rfl) ?_
    refine pv_call (E := fz_Er ad adK adV) (rest := []) (pv_run_f (cn := c3) (V := V) (L := (((((([] : List Int32) ++ [116]) ++ [101]) ++ [97]) ++ [109]) ++ [32])) (K := kT) (F := 5) (txteam1_F) (by decide)) ⟨hx, hb, hml, hown, hts⟩ (cwV 0 hts gL_runs_X8_runCommands rfl rfl rfl (by decide +kernel) ⟨Nat.le_of_ble_eq_true rfl, Nat.le_of_ble_eq_true rfl⟩) rfl rfl hK hG hS (fun _ => fz_Er_bl) (fun B9 hB9 U hU hW => hE.2.1.up hU hS hW hB9) rfl hl.1 rfl (Nat.le_of_ble_eq_true rfl) dL_runs_487 ⟨by show _ + 0 ≤ 200; omega, by show _ + 0 ≤ 1200; omega⟩ (fun H locs hG hS => ?_)
    refine fz_top (show _ = (-15) from (by decide)) ?_
    refine lv_bipush (v := (-15)) hx hb dL_runs_490 (by decide) ?_
    refine lv_icmp_ne (tgt := 552) hx hb dL_runs_492 (by decide) (fun z9 => absurd z9 (by decide)) (fun _ => ?_)
    refine lv_aload_n hx hb dL_runs_495 rfl (lv_at hl 10 rfl) ?_
    refine lv_bipush (v := 55) hx hb dL_runs_496 (by decide) ?_
    refine pw_call (rest := []) (pw_type_t (L := (((((([] : List Int32) ++ [116]) ++ [101]) ++ [97]) ++ [109]) ++ [32])) (K := kT) hst 55 (by decide) (Nat.le_of_ble_eq_true rfl)) ⟨hx, hb, hml, hown, hts⟩ (vx_cwSW 2 hts gL_runs_L_type rfl rfl rfl (by decide +kernel) ⟨Nat.le_of_ble_eq_true rfl, Nat.le_of_ble_eq_true rfl⟩) hK hG hS hE.1 rfl hl.1 rfl (Nat.le_of_ble_eq_true rfl) dL_runs_498 ⟨by show _ + 1 ≤ 200; omega, by show _ + 6 ≤ 1200; omega⟩ (fun H locs hG hS => ?_)
    refine fz_top (show _ = 6 from rfl) ?_
    refine W.widen (k := 51) (n := 306) (by omega) (by omega) ?_
    refine lv_bipush (v := 6) hx hb dL_runs_501 (by decide) ?_
    refine lv_icmp_ne (tgt := 552) hx hb dL_runs_503 (by decide) (fun z9 => absurd z9 (by decide)) (fun _ => ?_)
    refine lv_aload_n hx hb dL_runs_506 rfl (lv_at hl 10 rfl) ?_
    refine lv_bipush (v := 55) hx hb dL_runs_507 (by decide) ?_
    refine pw_call (rest := []) (pw_type_t (L := ((((((([] : List Int32) ++ [116]) ++ [101]) ++ [97]) ++ [109]) ++ [32]) ++ [55])) (K := kT) hst 55 (by decide) (Nat.le_of_ble_eq_true rfl)) ⟨hx, hb, hml, hown, hts⟩ (vx_cwSW 2 hts gL_runs_L_type rfl rfl rfl (by decide +kernel) ⟨Nat.le_of_ble_eq_true rfl, Nat.le_of_ble_eq_true rfl⟩) hK hG hS hE.1 rfl hl.1 rfl (Nat.le_of_ble_eq_true rfl) dL_runs_509 ⟨by show _ + 1 ≤ 200; omega, by show _ + 6 ≤ 1200; omega⟩ (fun H locs hG hS => ?_)
    refine fz_top (show _ = 7 from rfl) ?_
    refine lv_bipush (v := 7) hx hb dL_runs_512 (by decide) ?_
    refine lv_icmp_ne (tgt := 552) hx hb dL_runs_514 (by decide) (fun z9 => absurd z9 (by decide)) (fun _ => ?_)
    refine lv_aload_n hx hb dL_runs_517 rfl (lv_at hl 10 rfl) ?_
    refine lv_bipush (v := 55) hx hb dL_runs_518 (by decide) ?_
    refine pw_call (rest := []) (pw_type_t (L := (((((((([] : List Int32) ++ [116]) ++ [101]) ++ [97]) ++ [109]) ++ [32]) ++ [55]) ++ [55])) (K := kT) hst 55 (by decide) (Nat.le_of_ble_eq_true rfl)) ⟨hx, hb, hml, hown, hts⟩ (vx_cwSW 2 hts gL_runs_L_type rfl rfl rfl (by decide +kernel) ⟨Nat.le_of_ble_eq_true rfl, Nat.le_of_ble_eq_true rfl⟩) hK hG hS hE.1 rfl hl.1 rfl (Nat.le_of_ble_eq_true rfl) dL_runs_520 ⟨by show _ + 1 ≤ 200; omega, by show _ + 6 ≤ 1200; omega⟩ (fun H locs hG hS => ?_)
    refine fz_top (show _ = 8 from rfl) ?_
    refine lv_bipush (v := 8) hx hb dL_runs_523 (by decide) ?_
    refine lv_icmp_ne (tgt := 552) hx hb dL_runs_525 (by decide) (fun z9 => absurd z9 (by decide)) (fun _ => ?_)
    refine lv_aload_n hx hb dL_runs_528 rfl (lv_at hl 10 rfl) ?_
    refine lv_bipush (v := 55) hx hb dL_runs_529 (by decide) ?_
    refine pw_call (rest := []) (pw_type_t (L := ((((((((([] : List Int32) ++ [116]) ++ [101]) ++ [97]) ++ [109]) ++ [32]) ++ [55]) ++ [55]) ++ [55])) (K := kT) hst 55 (by decide) (Nat.le_of_ble_eq_true rfl)) ⟨hx, hb, hml, hown, hts⟩ (vx_cwSW 2 hts gL_runs_L_type rfl rfl rfl (by decide +kernel) ⟨Nat.le_of_ble_eq_true rfl, Nat.le_of_ble_eq_true rfl⟩) hK hG hS hE.1 rfl hl.1 rfl (Nat.le_of_ble_eq_true rfl) dL_runs_531 ⟨by show _ + 1 ≤ 200; omega, by show _ + 6 ≤ 1200; omega⟩ (fun H locs hG hS => ?_)
    refine fz_top (show _ = 9 from rfl) ?_
    refine lv_bipush (v := 9) hx hb dL_runs_534 (by decide) ?_
    refine lv_icmp_ne (tgt := 552) hx hb dL_runs_536 (by decide) (fun z9 => absurd z9 (by decide)) (fun _ => ?_)
    refine lv_aload_n hx hb dL_runs_539 rfl (lv_at hl 10 rfl) ?_
    refine pv_call (E := fz_Er ad adK adV) (rest := []) (pv_run_f (cn := c3) (V := V) (L := (((((((((([] : List Int32) ++ [116]) ++ [101]) ++ [97]) ++ [109]) ++ [32]) ++ [55]) ++ [55]) ++ [55]) ++ [55])) (K := kT) (F := 8) (txteam5_F) (by decide)) ⟨hx, hb, hml, hown, hts⟩ (cwV 0 hts gL_runs_X8_runCommands rfl rfl rfl (by decide +kernel) ⟨Nat.le_of_ble_eq_true rfl, Nat.le_of_ble_eq_true rfl⟩) rfl rfl hK hG hS (fun _ => fz_Er_bl) (fun B9 hB9 U hU hW => hE.2.1.up hU hS hW hB9) rfl hl.1 rfl (Nat.le_of_ble_eq_true rfl) dL_runs_540 ⟨by show _ + 0 ≤ 200; omega, by show _ + 0 ≤ 1200; omega⟩ (fun H locs hG hS => ?_)
    refine fz_top (show _ = (-18) from (by decide)) ?_
    refine lv_bipush (v := (-18)) hx hb dL_runs_543 (by decide) ?_
    refine lv_icmp_ne (tgt := 552) hx hb dL_runs_545 (by decide) (fun z9 => absurd z9 (by decide)) (fun _ => ?_)
    refine lv_iconst (v := 1) hx hb dL_runs_548 (by decide) ?_
    refine lv_goto (tgt := 553) hx hb dL_runs_549 (by decide) ?_
    refine lv_istore_n (lv' := [(3, .int 1), (12, .int 18), (11, .int (fz_sum (V 6) nt)), (10, .int 0), (9, .int 0), (8, .int 0), (7, .int (fz_sum (V 6) nt)), (6, .int (nI wk)), (5, .int (nI nc)), (4, .int 18), (0, .ref (f 0)), (1, .int (nI ti)), (2, .int (nI ri))]) hx hb dL_runs_553 rfl hl (by decide) rfl (fun ls hl => ?_)
    refine W.widen (k := 54) (n := 324) (by omega) (by omega) ?_
    refine lv_iload_n hx hb dL_runs_554 rfl (lv_at hl 0 rfl) ?_
    refine lv_if_eq (tgt := 598) hx hb dL_runs_555 (by decide) (fun z9 => absurd z9 (by decide)) (fun _ => ?_)
    refine lv_aload_n hx hb dL_runs_558 rfl (lv_at hl 10 rfl) ?_
    refine pv_call (E := fun _ => fz_T) (rest := []) (pv_clear (cn := c3) (V := V) (L := (((((((((([] : List Int32) ++ [116]) ++ [101]) ++ [97]) ++ [109]) ++ [32]) ++ [55]) ++ [55]) ++ [55]) ++ [55])) (K := kT)) ⟨hx, hb, hml, hown, hts⟩ (cwV 0 hts gL_runs_X8_clearCommands rfl rfl rfl (by decide +kernel) ⟨Nat.le_of_ble_eq_true rfl, Nat.le_of_ble_eq_true rfl⟩) rfl rfl hK hG hS (fun _ => fz_T_bl) (fun _ _ _ _ _ => trivial) rfl hl.1 rfl (Nat.le_of_ble_eq_true rfl) dL_runs_559 ⟨by show _ + 0 ≤ 200; omega, by show _ + 0 ≤ 1200; omega⟩ (fun H locs hG hS => ?_)
    refine fz_top (show _ = 9 from rfl) ?_
    refine lv_bipush (v := 9) hx hb dL_runs_562 (by decide) ?_
    refine lv_icmp_ne (tgt := 598) hx hb dL_runs_564 (by decide) (fun z9 => absurd z9 (by decide)) (fun _ => ?_)
    refine lv_aload_n hx hb dL_runs_567 rfl (lv_at hl 10 rfl) ?_
    refine lv_bipush (v := 59) hx hb dL_runs_568 (by decide) ?_
    refine pw_call (rest := []) (pw_type_t (L := ([] : List Int32)) (K := kT) hst 59 (by decide) (Nat.le_of_ble_eq_true rfl)) ⟨hx, hb, hml, hown, hts⟩ (vx_cwSW 2 hts gL_runs_L_type rfl rfl rfl (by decide +kernel) ⟨Nat.le_of_ble_eq_true rfl, Nat.le_of_ble_eq_true rfl⟩) hK hG hS hE.1 rfl hl.1 rfl (Nat.le_of_ble_eq_true rfl) dL_runs_570 ⟨by show _ + 1 ≤ 200; omega, by show _ + 6 ≤ 1200; omega⟩ (fun H locs hG hS => ?_)
    refine fz_top (show _ = 1 from rfl) ?_
    refine lv_iconst (v := 1) hx hb dL_runs_573 (by decide) ?_
    refine lv_icmp_ne (tgt := 598) hx hb dL_runs_574 (by decide) (fun z9 => absurd z9 (by decide)) (fun _ => ?_)
    refine lv_aload_n hx hb dL_runs_577 rfl (lv_at hl 10 rfl) ?_
    refine pv_call (E := fz_Er ad adK adV) (rest := []) (pv_run_f (cn := c3) (V := V) (L := (([] : List Int32) ++ [59])) (K := kT) (F := 0) (txsemi_F) (by decide)) ⟨hx, hb, hml, hown, hts⟩ (cwV 0 hts gL_runs_X8_runCommands rfl rfl rfl (by decide +kernel) ⟨Nat.le_of_ble_eq_true rfl, Nat.le_of_ble_eq_true rfl⟩) rfl rfl hK hG hS (fun _ => fz_Er_bl) (fun B9 hB9 U hU hW => hE.2.1.up hU hS hW hB9) rfl hl.1 rfl (Nat.le_of_ble_eq_true rfl) dL_runs_578 ⟨by show _ + 0 ≤ 200; omega, by show _ + 0 ≤ 1200; omega⟩ (fun H locs hG hS => ?_)
    refine fz_top (show _ = (-10) from (by decide)) ?_
    refine lv_bipush (v := (-10)) hx hb dL_runs_581 (by decide) ?_
    refine lv_icmp_ne (tgt := 598) hx hb dL_runs_583 (by decide) (fun z9 => absurd z9 (by decide)) (fun _ => ?_)
    refine lv_aload_n hx hb dL_runs_586 rfl (lv_at hl 10 rfl) ?_
    refine pv_call (E := fun _ => fz_T) (rest := []) (pv_clear (cn := c3) (V := V) (L := (([] : List Int32) ++ [59])) (K := kT)) ⟨hx, hb, hml, hown, hts⟩ (cwV 0 hts gL_runs_X8_clearCommands rfl rfl rfl (by decide +kernel) ⟨Nat.le_of_ble_eq_true rfl, Nat.le_of_ble_eq_true rfl⟩) rfl rfl hK hG hS (fun _ => fz_T_bl) (fun _ _ _ _ _ => trivial) rfl hl.1 rfl (Nat.le_of_ble_eq_true rfl) dL_runs_587 ⟨by show _ + 0 ≤ 200; omega, by show _ + 0 ≤ 1200; omega⟩ (fun H locs hG hS => ?_)
    refine fz_top (show _ = 1 from rfl) ?_
    refine lv_iconst (v := 1) hx hb dL_runs_590 (by decide) ?_
    refine lv_icmp_ne (tgt := 598) hx hb dL_runs_591 (by decide) (fun z9 => absurd z9 (by decide)) (fun _ => ?_)
    refine lv_iconst (v := 1) hx hb dL_runs_594 (by decide) ?_
    refine lv_goto (tgt := 599) hx hb dL_runs_595 (by decide) ?_
    refine W.widen (k := 200) (n := 1200) (by omega) (by omega) ?_
    obtain ⟨Wn, h9, hP, hD⟩ := hG
    exact W.zret (v := 1) hx hb hr (by decide) (fun t9 ht9 hW9 => ⟨⟨_, Wn, rfl, ⟨⟨rfl, c3, V, nc, nq, wk, J.mono (by omega), h9⟩, hD⟩, fz_to ht9 hP⟩, hS.F ht9⟩) hS.2.2 dL_runs_599
