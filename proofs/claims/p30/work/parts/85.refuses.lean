set_option maxHeartbeats 4000000 in
set_option maxRecDepth 100000 in
theorem m_refuses {l : Launch} {D : va_G} {cy : Nat → ClassId} {A : Nat → Prop} {f a t h x ad adK adV : Nat → Nat} {cn : Nat} {V : Nat → Nat → Int32} {L : List Int32} {nt nc nq nl wk B : Nat} (hst : l.stackTraces = false) (J : pJ V nt nc nq nl wk B) (h2 : 2 ≤ nt) : pm_M l yL_refuses wsL_refuses 9 152 200 1200 D cy A (pE ad adK adV A) [.ref (f 0)] (pS cy f a t h x ad cn V L) (fun r W9 => r = 1 ∧ pS cy f a t h x ad cn V L W9) := by
  refine Met.ofW (cc := cL_refuses) (maxL := 6) (ret := (some .boolean)) (by decide) rfl ?_
  intro p e s m args below meth c s₁ B9 hml hv
  obtain ⟨rfl, hG, hK, hE⟩ := hv
  have hx := B9.exec
  have hb := B9.bytes
  have hr := B9.returns
  have hts := atoms_spec (ws := wsL_refuses) B9.pre
  have hown : s.vm.findClass RL = some m.cls := findClass_of_methodNamed B9.named
  have hlocks := B9.notSynchronized
  have hS : va_S A s.heap s.heap [] := va_S.rf
  have hl := lv_entry ([.ref (f 0)]) (n := 6) (Nat.le_of_ble_eq_true rfl)
  rw [lg_entry_eq]
  generalize (lg_sl ([.ref (f 0)]) ++ List.replicate (6 - (lg_sl ([.ref (f 0)])).length) Slot.unset).toArray = ls at hl ⊢
  have hl : lv_has ls 6 [(0, .ref (f 0))] := hl
  have h6 := J.nt6
  have h30 := J.nc30
  have hqc := J.nqc
  have h12 := J.nl12
  have h39 := J.wk39
  refine lv_aload_n hx hb dL_refuses_0 rfl (lv_at hl 0 rfl) ?_
  refine pl_call (rest := []) (pl_digest J.wf) ⟨hx, hb, hml, hown, hts⟩ (cwV 0 hts gL_refuses_X8_digest rfl rfl rfl (by decide +kernel) ⟨Nat.le_of_ble_eq_true rfl, Nat.le_of_ble_eq_true rfl⟩) rfl rfl hK hG hE.2.2 rfl hl.1 rfl (Nat.le_of_ble_eq_true rfl) dL_refuses_1 ⟨by show _ + 0 ≤ 200; omega, by show _ + 0 ≤ 1200; omega⟩ ?_
  refine lv_lstore_n (lv' := [(1, .long (cx_dg V (nI L.length) (nI cn) nt nc nq nl wk)), (0, .ref (f 0))]) hx hb dL_refuses_4 rfl hl (by decide) rfl (fun ls hl => ?_)
  refine lv_aload_n hx hb dL_refuses_5 rfl (lv_at hl 1 rfl) ?_
  refine lv_iconst (v := 0) hx hb dL_refuses_6 (by decide) ?_
  refine pw_call (rest := []) (pt_whole hst J 0 (by decide)) ⟨hx, hb, hml, hown, hts⟩ (vx_cwSW 2 hts gL_refuses_L_whole rfl rfl rfl (by decide +kernel) ⟨Nat.le_of_ble_eq_true rfl, Nat.le_of_ble_eq_true rfl⟩) hK hG hS hE.1 rfl hl.1 rfl (Nat.le_of_ble_eq_true rfl) dL_refuses_7 ⟨by show _ + 1 ≤ 200; omega, by show _ + 6 ≤ 1200; omega⟩ (fun H locs hG hS => ?_)
  refine fz_top (show _ = nI nt from J.e3) ?_
  refine lv_istore_n (lv' := [(3, .int (nI nt)), (1, .long (cx_dg V (nI L.length) (nI cn) nt nc nq nl wk)), (0, .ref (f 0))]) hx hb dL_refuses_10 rfl hl (by decide) rfl (fun ls hl => ?_)
  refine W.widen (k := 1) (n := 6) (by omega) (by omega) ?_
  refine lv_aload_n hx hb dL_refuses_11 rfl (lv_at hl 2 rfl) ?_
  refine lv_iconst (v := 1) hx hb dL_refuses_12 (by decide) ?_
  refine pw_call (rest := []) (pt_whole hst J 1 (by decide)) ⟨hx, hb, hml, hown, hts⟩ (vx_cwSW 2 hts gL_refuses_L_whole rfl rfl rfl (by decide +kernel) ⟨Nat.le_of_ble_eq_true rfl, Nat.le_of_ble_eq_true rfl⟩) hK hG hS hE.1 rfl hl.1 rfl (Nat.le_of_ble_eq_true rfl) dL_refuses_13 ⟨by show _ + 1 ≤ 200; omega, by show _ + 6 ≤ 1200; omega⟩ (fun H locs hG hS => ?_)
  refine fz_top (show _ = nI nc from J.e8) ?_
  refine lv_istore (lv' := [(4, .int (nI nc)), (3, .int (nI nt)), (1, .long (cx_dg V (nI L.length) (nI cn) nt nc nq nl wk)), (0, .ref (f 0))]) hx hb dL_refuses_16 hl (by decide) rfl (fun ls hl => ?_)
  refine W.widen (k := 2) (n := 12) (by omega) (by omega) ?_
  refine lv_aload_n hx hb dL_refuses_18 rfl (lv_at hl 3 rfl) ?_
  refine lv_iconst (v := (-1)) hx hb dL_refuses_19 (by decide) ?_
  refine pw_call (rest := []) (pw_addTeam_IA hst J.wf J.zo (-1) (if_pos (by decide))) ⟨hx, hb, hml, hown, hts⟩ (vx_cwSW 2 hts gL_refuses_L_addTeam rfl rfl rfl (by decide +kernel) ⟨Nat.le_of_ble_eq_true rfl, Nat.le_of_ble_eq_true rfl⟩) hK hG hS hE.1 rfl hl.1 rfl (Nat.le_of_ble_eq_true rfl) dL_refuses_20 ⟨by show _ + 1 ≤ 200; omega, by show _ + 6 ≤ 1200; omega⟩ (fun H locs hG hS => ?_)
  refine lv_bipush (v := (-11)) hx hb dL_refuses_23 (by decide) ?_
  refine lv_icmp_ne (tgt := 197) hx hb dL_refuses_25 (by decide) (fun z9 => absurd z9 (by decide)) (fun _ => ?_)
  refine lv_aload_n hx hb dL_refuses_28 rfl (lv_at hl 3 rfl) ?_
  refine lv_sipush (v := 1000) hx hb dL_refuses_29 (by decide) ?_
  refine pw_call (rest := []) (pw_addTeam_IA hst J.wf J.zo 1000 ((if_neg (by decide)).trans (if_neg (by decide)))) ⟨hx, hb, hml, hown, hts⟩ (vx_cwSW 2 hts gL_refuses_L_addTeam rfl rfl rfl (by decide +kernel) ⟨Nat.le_of_ble_eq_true rfl, Nat.le_of_ble_eq_true rfl⟩) hK hG hS hE.1 rfl hl.1 rfl (Nat.le_of_ble_eq_true rfl) dL_refuses_32 ⟨by show _ + 1 ≤ 200; omega, by show _ + 6 ≤ 1200; omega⟩ (fun H locs hG hS => ?_)
  refine lv_bipush (v := (-11)) hx hb dL_refuses_35 (by decide) ?_
  refine lv_icmp_ne (tgt := 197) hx hb dL_refuses_37 (by decide) (fun z9 => absurd z9 (by decide)) (fun _ => ?_)
  refine lv_aload_n hx hb dL_refuses_40 rfl (lv_at hl 3 rfl) ?_
  refine lv_bipush (v := 40) hx hb dL_refuses_41 (by decide) ?_
  refine lv_bipush (v := 40) hx hb dL_refuses_43 (by decide) ?_
  refine lv_iconst (v := 1) hx hb dL_refuses_45 (by decide) ?_
  refine pw_call (rest := []) (pw_freeze_IA hst J.wf J.zo 40 40 true ((if_neg (by decide)).trans ((if_neg (by decide)).trans (if_neg (by decide))))) ⟨hx, hb, hml, hown, hts⟩ (vx_cwSW 4 hts gL_refuses_L_freeze rfl rfl rfl (by decide +kernel) ⟨Nat.le_of_ble_eq_true rfl, Nat.le_of_ble_eq_true rfl⟩) hK hG hS hE.1 rfl hl.1 rfl (Nat.le_of_ble_eq_true rfl) dL_refuses_46 ⟨by show _ + 1 ≤ 200; omega, by show _ + 6 ≤ 1200; omega⟩ (fun H locs hG hS => ?_)
  refine lv_bipush (v := (-11)) hx hb dL_refuses_49 (by decide) ?_
  refine lv_icmp_ne (tgt := 197) hx hb dL_refuses_51 (by decide) (fun z9 => absurd z9 (by decide)) (fun _ => ?_)
  refine lv_aload_n hx hb dL_refuses_54 rfl (lv_at hl 3 rfl) ?_
  refine lv_iconst (v := 5) hx hb dL_refuses_55 (by decide) ?_
  refine lv_iconst (v := 4) hx hb dL_refuses_56 (by decide) ?_
  refine lv_iconst (v := 1) hx hb dL_refuses_57 (by decide) ?_
  refine pw_call (rest := []) (pw_freeze_IA hst J.wf J.zo 5 4 true ((if_neg (by decide)).trans (if_pos (by decide)))) ⟨hx, hb, hml, hown, hts⟩ (vx_cwSW 4 hts gL_refuses_L_freeze rfl rfl rfl (by decide +kernel) ⟨Nat.le_of_ble_eq_true rfl, Nat.le_of_ble_eq_true rfl⟩) hK hG hS hE.1 rfl hl.1 rfl (Nat.le_of_ble_eq_true rfl) dL_refuses_58 ⟨by show _ + 1 ≤ 200; omega, by show _ + 6 ≤ 1200; omega⟩ (fun H locs hG hS => ?_)
  refine lv_bipush (v := (-11)) hx hb dL_refuses_61 (by decide) ?_
  refine lv_icmp_ne (tgt := 197) hx hb dL_refuses_63 (by decide) (fun z9 => absurd z9 (by decide)) (fun _ => ?_)
  refine lv_aload_n hx hb dL_refuses_66 rfl (lv_at hl 3 rfl) ?_
  refine lv_iconst (v := 0) hx hb dL_refuses_67 (by decide) ?_
  refine lv_bipush (v := 40) hx hb dL_refuses_68 (by decide) ?_
  refine lv_iconst (v := 0) hx hb dL_refuses_70 (by decide) ?_
  refine pw_call (rest := []) (pw_freeze_IA hst J.wf J.zo 0 40 false ((if_neg (by decide)).trans ((if_neg (by decide)).trans (if_neg (by decide))))) ⟨hx, hb, hml, hown, hts⟩ (vx_cwSW 4 hts gL_refuses_L_freeze rfl rfl rfl (by decide +kernel) ⟨Nat.le_of_ble_eq_true rfl, Nat.le_of_ble_eq_true rfl⟩) hK hG hS hE.1 rfl hl.1 rfl (Nat.le_of_ble_eq_true rfl) dL_refuses_71 ⟨by show _ + 1 ≤ 200; omega, by show _ + 6 ≤ 1200; omega⟩ (fun H locs hG hS => ?_)
  refine lv_bipush (v := (-11)) hx hb dL_refuses_74 (by decide) ?_
  refine lv_icmp_ne (tgt := 197) hx hb dL_refuses_76 (by decide) (fun z9 => absurd z9 (by decide)) (fun _ => ?_)
  refine lv_aload_n hx hb dL_refuses_79 rfl (lv_at hl 3 rfl) ?_
  refine lv_iconst (v := 4) hx hb dL_refuses_80 (by decide) ?_
  refine lv_iconst (v := 1) hx hb dL_refuses_81 (by decide) ?_
  refine pw_call (rest := []) (pw_set_IA hst J.wf J.zo 4 1 ((if_neg (by decide)).trans (if_neg (by decide)))) ⟨hx, hb, hml, hown, hts⟩ (vx_cwSW 3 hts gL_refuses_L_set rfl rfl rfl (by decide +kernel) ⟨Nat.le_of_ble_eq_true rfl, Nat.le_of_ble_eq_true rfl⟩) hK hG hS hE.1 rfl hl.1 rfl (Nat.le_of_ble_eq_true rfl) dL_refuses_82 ⟨by show _ + 1 ≤ 200; omega, by show _ + 6 ≤ 1200; omega⟩ (fun H locs hG hS => ?_)
  refine W.widen (k := 8) (n := 48) (by omega) (by omega) ?_
  refine lv_bipush (v := (-11)) hx hb dL_refuses_85 (by decide) ?_
  refine lv_icmp_ne (tgt := 197) hx hb dL_refuses_87 (by decide) (fun z9 => absurd z9 (by decide)) (fun _ => ?_)
  refine lv_aload_n hx hb dL_refuses_90 rfl (lv_at hl 3 rfl) ?_
  refine lv_iconst (v := 0) hx hb dL_refuses_91 (by decide) ?_
  refine lv_iconst (v := 0) hx hb dL_refuses_92 (by decide) ?_
  refine pw_call (rest := []) (pw_set_IA hst J.wf J.zo 0 0 ((if_neg (by decide)).trans ((if_pos (by decide)).trans (if_pos (by decide))))) ⟨hx, hb, hml, hown, hts⟩ (vx_cwSW 3 hts gL_refuses_L_set rfl rfl rfl (by decide +kernel) ⟨Nat.le_of_ble_eq_true rfl, Nat.le_of_ble_eq_true rfl⟩) hK hG hS hE.1 rfl hl.1 rfl (Nat.le_of_ble_eq_true rfl) dL_refuses_93 ⟨by show _ + 1 ≤ 200; omega, by show _ + 6 ≤ 1200; omega⟩ (fun H locs hG hS => ?_)
  refine lv_bipush (v := (-11)) hx hb dL_refuses_96 (by decide) ?_
  refine lv_icmp_ne (tgt := 197) hx hb dL_refuses_98 (by decide) (fun z9 => absurd z9 (by decide)) (fun _ => ?_)
  refine lv_aload_n hx hb dL_refuses_101 rfl (lv_at hl 3 rfl) ?_
  refine lv_iconst (v := 1) hx hb dL_refuses_102 (by decide) ?_
  refine lv_bipush (v := 51) hx hb dL_refuses_103 (by decide) ?_
  refine pw_call (rest := []) (pw_set_IA hst J.wf J.zo 1 51 ((if_neg (by decide)).trans ((if_pos (by decide)).trans ((if_neg (by decide)).trans (if_neg (by decide)))))) ⟨hx, hb, hml, hown, hts⟩ (vx_cwSW 3 hts gL_refuses_L_set rfl rfl rfl (by decide +kernel) ⟨Nat.le_of_ble_eq_true rfl, Nat.le_of_ble_eq_true rfl⟩) hK hG hS hE.1 rfl hl.1 rfl (Nat.le_of_ble_eq_true rfl) dL_refuses_105 ⟨by show _ + 1 ≤ 200; omega, by show _ + 6 ≤ 1200; omega⟩ (fun H locs hG hS => ?_)
  refine lv_bipush (v := (-11)) hx hb dL_refuses_108 (by decide) ?_
  refine lv_icmp_ne (tgt := 197) hx hb dL_refuses_110 (by decide) (fun z9 => absurd z9 (by decide)) (fun _ => ?_)
  refine lv_aload_n hx hb dL_refuses_113 rfl (lv_at hl 3 rfl) ?_
  refine lv_iconst (v := 3) hx hb dL_refuses_114 (by decide) ?_
  refine lv_sipush (v := 2001) hx hb dL_refuses_115 (by decide) ?_
  refine pw_call (rest := []) (pw_set_IA hst J.wf J.zo 3 2001 ((if_neg (by decide)).trans ((if_pos (by decide)).trans ((if_neg (by decide)).trans (if_neg (by decide)))))) ⟨hx, hb, hml, hown, hts⟩ (vx_cwSW 3 hts gL_refuses_L_set rfl rfl rfl (by decide +kernel) ⟨Nat.le_of_ble_eq_true rfl, Nat.le_of_ble_eq_true rfl⟩) hK hG hS hE.1 rfl hl.1 rfl (Nat.le_of_ble_eq_true rfl) dL_refuses_118 ⟨by show _ + 1 ≤ 200; omega, by show _ + 6 ≤ 1200; omega⟩ (fun H locs hG hS => ?_)
  refine lv_bipush (v := (-11)) hx hb dL_refuses_121 (by decide) ?_
  refine lv_icmp_ne (tgt := 197) hx hb dL_refuses_123 (by decide) (fun z9 => absurd z9 (by decide)) (fun _ => ?_)
  refine lv_aload_n hx hb dL_refuses_126 rfl (lv_at hl 3 rfl) ?_
  refine lv_iload_n hx hb dL_refuses_127 rfl (lv_at hl 1 rfl) ?_
  refine lv_iconst (v := 1) hx hb dL_refuses_128 (by decide) ?_
  refine pw_call (rest := []) (pw_ask_IO hst J.wf J.zo (nI nt) 1 (if_neg (by rw [J.e3, ix_out (by omega)]; decide))) ⟨hx, hb, hml, hown, hts⟩ (vx_cwSW 3 hts gL_refuses_L_ask rfl rfl rfl (by decide +kernel) ⟨Nat.le_of_ble_eq_true rfl, Nat.le_of_ble_eq_true rfl⟩) hK hG hS hE.1 rfl hl.1 rfl (Nat.le_of_ble_eq_true rfl) dL_refuses_129 ⟨by show _ + 1 ≤ 200; omega, by show _ + 6 ≤ 1200; omega⟩ (fun H locs hG hS => ?_)
  refine lv_bipush (v := (-11)) hx hb dL_refuses_132 (by decide) ?_
  refine lv_icmp_ne (tgt := 197) hx hb dL_refuses_134 (by decide) (fun z9 => absurd z9 (by decide)) (fun _ => ?_)
  refine lv_aload_n hx hb dL_refuses_137 rfl (lv_at hl 3 rfl) ?_
  refine lv_iconst (v := 0) hx hb dL_refuses_138 (by decide) ?_
  refine lv_iconst (v := 0) hx hb dL_refuses_139 (by decide) ?_
  refine pw_call (rest := []) (pw_ask_IA hst J.wf J.zo 0 0 ((if_pos (show fz_ix 0 (V 3 0) = true from by rw [J.e3]; exact fz_ix_n (j := 0) (by omega) (by omega))).trans (if_neg (by decide)))) ⟨hx, hb, hml, hown, hts⟩ (vx_cwSW 3 hts gL_refuses_L_ask rfl rfl rfl (by decide +kernel) ⟨Nat.le_of_ble_eq_true rfl, Nat.le_of_ble_eq_true rfl⟩) hK hG hS hE.1 rfl hl.1 rfl (Nat.le_of_ble_eq_true rfl) dL_refuses_140 ⟨by show _ + 1 ≤ 200; omega, by show _ + 6 ≤ 1200; omega⟩ (fun H locs hG hS => ?_)
  refine lv_bipush (v := (-12)) hx hb dL_refuses_143 (by decide) ?_
  refine lv_icmp_ne (tgt := 197) hx hb dL_refuses_145 (by decide) (fun z9 => absurd z9 (by decide)) (fun _ => ?_)
  refine lv_aload_n hx hb dL_refuses_148 rfl (lv_at hl 3 rfl) ?_
  refine lv_iconst (v := 0) hx hb dL_refuses_149 (by decide) ?_
  refine lv_bipush (v := 10) hx hb dL_refuses_150 (by decide) ?_
  refine pw_call (rest := []) (pw_ask_IA hst J.wf J.zo 0 10 ((if_pos (show fz_ix 0 (V 3 0) = true from by rw [J.e3]; exact fz_ix_n (j := 0) (by omega) (by omega))).trans (if_neg (by decide)))) ⟨hx, hb, hml, hown, hts⟩ (vx_cwSW 3 hts gL_refuses_L_ask rfl rfl rfl (by decide +kernel) ⟨Nat.le_of_ble_eq_true rfl, Nat.le_of_ble_eq_true rfl⟩) hK hG hS hE.1 rfl hl.1 rfl (Nat.le_of_ble_eq_true rfl) dL_refuses_152 ⟨by show _ + 1 ≤ 200; omega, by show _ + 6 ≤ 1200; omega⟩ (fun H locs hG hS => ?_)
  refine W.widen (k := 14) (n := 84) (by omega) (by omega) ?_
  refine lv_bipush (v := (-12)) hx hb dL_refuses_155 (by decide) ?_
  refine lv_icmp_ne (tgt := 197) hx hb dL_refuses_157 (by decide) (fun z9 => absurd z9 (by decide)) (fun _ => ?_)
  refine lv_aload_n hx hb dL_refuses_160 rfl (lv_at hl 3 rfl) ?_
  refine lv_iload hx hb dL_refuses_161 (lv_at hl 0 rfl) ?_
  refine pw_call (rest := []) (pw_exempt_IO hst J.wf J.zo (nI nc) (if_neg (by rw [J.e8, ix_out (by omega)]; decide))) ⟨hx, hb, hml, hown, hts⟩ (vx_cwSW 2 hts gL_refuses_L_exempt rfl rfl rfl (by decide +kernel) ⟨Nat.le_of_ble_eq_true rfl, Nat.le_of_ble_eq_true rfl⟩) hK hG hS hE.1 rfl hl.1 rfl (Nat.le_of_ble_eq_true rfl) dL_refuses_163 ⟨by show _ + 1 ≤ 200; omega, by show _ + 6 ≤ 1200; omega⟩ (fun H locs hG hS => ?_)
  refine lv_bipush (v := (-11)) hx hb dL_refuses_166 (by decide) ?_
  refine lv_icmp_ne (tgt := 197) hx hb dL_refuses_168 (by decide) (fun z9 => absurd z9 (by decide)) (fun _ => ?_)
  refine lv_aload_n hx hb dL_refuses_171 rfl (lv_at hl 3 rfl) ?_
  refine lv_iconst (v := (-1)) hx hb dL_refuses_172 (by decide) ?_
  refine lv_iconst (v := 1) hx hb dL_refuses_173 (by decide) ?_
  refine pw_call (rest := []) (pw_make_IO hst J.wf J.zo (-1) true (if_neg (by rw [fz_ix, show decide ((-1 : Int32) < 0) = true by decide]; simp))) ⟨hx, hb, hml, hown, hts⟩ (vx_cwSW 3 hts gL_refuses_L_make rfl rfl rfl (by decide +kernel) ⟨Nat.le_of_ble_eq_true rfl, Nat.le_of_ble_eq_true rfl⟩) hK hG hS hE.1 rfl hl.1 rfl (Nat.le_of_ble_eq_true rfl) dL_refuses_174 ⟨by show _ + 1 ≤ 200; omega, by show _ + 6 ≤ 1200; omega⟩ (fun H locs hG hS => ?_)
  refine lv_bipush (v := (-11)) hx hb dL_refuses_177 (by decide) ?_
  refine lv_icmp_ne (tgt := 197) hx hb dL_refuses_179 (by decide) (fun z9 => absurd z9 (by decide)) (fun _ => ?_)
  refine lv_aload_n hx hb dL_refuses_182 rfl (lv_at hl 3 rfl) ?_
  refine lv_iload hx hb dL_refuses_183 (lv_at hl 0 rfl) ?_
  refine pw_call (rest := []) (pw_giveUp_IO hst J.wf J.zo (nI nc) (if_neg (by rw [J.e8, ix_out (by omega)]; decide))) ⟨hx, hb, hml, hown, hts⟩ (vx_cwSW 2 hts gL_refuses_L_giveUp rfl rfl rfl (by decide +kernel) ⟨Nat.le_of_ble_eq_true rfl, Nat.le_of_ble_eq_true rfl⟩) hK hG hS hE.1 rfl hl.1 rfl (Nat.le_of_ble_eq_true rfl) dL_refuses_185 ⟨by show _ + 1 ≤ 200; omega, by show _ + 6 ≤ 1200; omega⟩ (fun H locs hG hS => ?_)
  refine lv_bipush (v := (-11)) hx hb dL_refuses_188 (by decide) ?_
  refine lv_icmp_ne (tgt := 197) hx hb dL_refuses_190 (by decide) (fun z9 => absurd z9 (by decide)) (fun _ => ?_)
  refine lv_iconst (v := 1) hx hb dL_refuses_193 (by decide) ?_
  refine lv_goto (tgt := 198) hx hb dL_refuses_194 (by decide) ?_
  refine lv_istore (lv' := [(5, .int 1), (4, .int (nI nc)), (3, .int (nI nt)), (1, .long (cx_dg V (nI L.length) (nI cn) nt nc nq nl wk)), (0, .ref (f 0))]) hx hb dL_refuses_198 hl (by decide) rfl (fun ls hl => ?_)
  refine W.widen (k := 17) (n := 102) (by omega) (by omega) ?_
  refine lv_iload hx hb dL_refuses_200 (lv_at hl 0 rfl) ?_
  refine lv_if_eq (tgt := 364) hx hb dL_refuses_202 (by decide) (fun z9 => absurd z9 (by decide)) (fun _ => ?_)
  refine lv_aload_n hx hb dL_refuses_205 rfl (lv_at hl 4 rfl) ?_
  refine lv_iconst (v := 0) hx hb dL_refuses_206 (by decide) ?_
  refine lv_iload_n hx hb dL_refuses_207 rfl (lv_at hl 2 rfl) ?_
  refine lv_iconst (v := 1) hx hb dL_refuses_208 (by decide) ?_
  refine lv_bipush (v := 39) hx hb dL_refuses_209 (by decide) ?_
  refine pw_call (rest := []) (pw_lend_IO hst J.wf J.zo 0 (nI nt) 1 39 ((if_pos (show fz_ix 0 (V 3 0) = true from by rw [J.e3]; exact fz_ix_n (j := 0) (by omega) (by omega))).trans (if_neg (by rw [J.e3, ix_out (by omega)]; decide)))) ⟨hx, hb, hml, hown, hts⟩ (vx_cwSW 5 hts gL_refuses_L_lend rfl rfl rfl (by decide +kernel) ⟨Nat.le_of_ble_eq_true rfl, Nat.le_of_ble_eq_true rfl⟩) hK hG hS hE.1 rfl hl.1 rfl (Nat.le_of_ble_eq_true rfl) dL_refuses_211 ⟨by show _ + 1 ≤ 200; omega, by show _ + 6 ≤ 1200; omega⟩ (fun H locs hG hS => ?_)
  refine lv_bipush (v := (-11)) hx hb dL_refuses_214 (by decide) ?_
  refine lv_icmp_ne (tgt := 364) hx hb dL_refuses_216 (by decide) (fun z9 => absurd z9 (by decide)) (fun _ => ?_)
  refine lv_aload_n hx hb dL_refuses_219 rfl (lv_at hl 4 rfl) ?_
  refine lv_iconst (v := 0) hx hb dL_refuses_220 (by decide) ?_
  refine lv_iconst (v := 0) hx hb dL_refuses_221 (by decide) ?_
  refine lv_iconst (v := 1) hx hb dL_refuses_222 (by decide) ?_
  refine lv_bipush (v := 39) hx hb dL_refuses_223 (by decide) ?_
  refine pw_call (rest := []) (pw_lend_IA hst J.wf J.zo 0 0 1 39 ((if_pos (show fz_ix 0 (V 3 0) = true from by rw [J.e3]; exact fz_ix_n (j := 0) (by omega) (by omega))).trans ((if_pos (show fz_ix 0 (V 3 0) = true from by rw [J.e3]; exact fz_ix_n (j := 0) (by omega) (by omega))).trans (if_pos rfl)))) ⟨hx, hb, hml, hown, hts⟩ (vx_cwSW 5 hts gL_refuses_L_lend rfl rfl rfl (by decide +kernel) ⟨Nat.le_of_ble_eq_true rfl, Nat.le_of_ble_eq_true rfl⟩) hK hG hS hE.1 rfl hl.1 rfl (Nat.le_of_ble_eq_true rfl) dL_refuses_225 ⟨by show _ + 1 ≤ 200; omega, by show _ + 6 ≤ 1200; omega⟩ (fun H locs hG hS => ?_)
  refine lv_bipush (v := (-12)) hx hb dL_refuses_228 (by decide) ?_
  refine lv_icmp_ne (tgt := 364) hx hb dL_refuses_230 (by decide) (fun z9 => absurd z9 (by decide)) (fun _ => ?_)
  refine lv_aload_n hx hb dL_refuses_233 rfl (lv_at hl 4 rfl) ?_
  refine lv_iconst (v := 0) hx hb dL_refuses_234 (by decide) ?_
  refine lv_iconst (v := 1) hx hb dL_refuses_235 (by decide) ?_
  refine lv_iconst (v := 0) hx hb dL_refuses_236 (by decide) ?_
  refine lv_bipush (v := 39) hx hb dL_refuses_237 (by decide) ?_
  refine pw_call (rest := []) (pw_lend_IA hst J.wf J.zo 0 1 0 39 ((if_pos (show fz_ix 0 (V 3 0) = true from by rw [J.e3]; exact fz_ix_n (j := 0) (by omega) (by omega))).trans ((if_pos (show fz_ix 1 (V 3 0) = true from by rw [J.e3]; exact fz_ix_n (j := 1) (by omega) (by omega))).trans ((if_neg (by decide)).trans (if_pos (by decide)))))) ⟨hx, hb, hml, hown, hts⟩ (vx_cwSW 5 hts gL_refuses_L_lend rfl rfl rfl (by decide +kernel) ⟨Nat.le_of_ble_eq_true rfl, Nat.le_of_ble_eq_true rfl⟩) hK hG hS hE.1 rfl hl.1 rfl (Nat.le_of_ble_eq_true rfl) dL_refuses_239 ⟨by show _ + 1 ≤ 200; omega, by show _ + 6 ≤ 1200; omega⟩ (fun H locs hG hS => ?_)
  refine lv_bipush (v := (-12)) hx hb dL_refuses_242 (by decide) ?_
  refine lv_icmp_ne (tgt := 364) hx hb dL_refuses_244 (by decide) (fun z9 => absurd z9 (by decide)) (fun _ => ?_)
  refine lv_aload_n hx hb dL_refuses_247 rfl (lv_at hl 4 rfl) ?_
  refine lv_iconst (v := 0) hx hb dL_refuses_248 (by decide) ?_
  refine lv_iconst (v := 1) hx hb dL_refuses_249 (by decide) ?_
  refine lv_sipush (v := 501) hx hb dL_refuses_250 (by decide) ?_
  refine lv_bipush (v := 39) hx hb dL_refuses_253 (by decide) ?_
  refine pw_call (rest := []) (pw_lend_IA hst J.wf J.zo 0 1 501 39 ((if_pos (show fz_ix 0 (V 3 0) = true from by rw [J.e3]; exact fz_ix_n (j := 0) (by omega) (by omega))).trans ((if_pos (show fz_ix 1 (V 3 0) = true from by rw [J.e3]; exact fz_ix_n (j := 1) (by omega) (by omega))).trans ((if_neg (by decide)).trans ((if_neg (by decide)).trans (if_pos (by decide))))))) ⟨hx, hb, hml, hown, hts⟩ (vx_cwSW 5 hts gL_refuses_L_lend rfl rfl rfl (by decide +kernel) ⟨Nat.le_of_ble_eq_true rfl, Nat.le_of_ble_eq_true rfl⟩) hK hG hS hE.1 rfl hl.1 rfl (Nat.le_of_ble_eq_true rfl) dL_refuses_255 ⟨by show _ + 1 ≤ 200; omega, by show _ + 6 ≤ 1200; omega⟩ (fun H locs hG hS => ?_)
  refine lv_bipush (v := (-12)) hx hb dL_refuses_258 (by decide) ?_
  refine lv_icmp_ne (tgt := 364) hx hb dL_refuses_260 (by decide) (fun z9 => absurd z9 (by decide)) (fun _ => ?_)
  refine lv_aload_n hx hb dL_refuses_263 rfl (lv_at hl 4 rfl) ?_
  refine lv_iconst (v := 0) hx hb dL_refuses_264 (by decide) ?_
  refine lv_iconst (v := 1) hx hb dL_refuses_265 (by decide) ?_
  refine lv_iconst (v := 1) hx hb dL_refuses_266 (by decide) ?_
  refine lv_bipush (v := 40) hx hb dL_refuses_267 (by decide) ?_
  refine pw_call (rest := []) (pw_lend_IA hst J.wf J.zo 0 1 1 40 ((if_pos (show fz_ix 0 (V 3 0) = true from by rw [J.e3]; exact fz_ix_n (j := 0) (by omega) (by omega))).trans ((if_pos (show fz_ix 1 (V 3 0) = true from by rw [J.e3]; exact fz_ix_n (j := 1) (by omega) (by omega))).trans ((if_neg (by decide)).trans ((if_neg (by decide)).trans ((if_neg (by decide)).trans ((if_neg (by decide)).trans (if_neg (by decide))))))))) ⟨hx, hb, hml, hown, hts⟩ (vx_cwSW 5 hts gL_refuses_L_lend rfl rfl rfl (by decide +kernel) ⟨Nat.le_of_ble_eq_true rfl, Nat.le_of_ble_eq_true rfl⟩) hK hG hS hE.1 rfl hl.1 rfl (Nat.le_of_ble_eq_true rfl) dL_refuses_269 ⟨by show _ + 1 ≤ 200; omega, by show _ + 6 ≤ 1200; omega⟩ (fun H locs hG hS => ?_)
  refine lv_bipush (v := (-12)) hx hb dL_refuses_272 (by decide) ?_
  refine lv_icmp_ne (tgt := 364) hx hb dL_refuses_274 (by decide) (fun z9 => absurd z9 (by decide)) (fun _ => ?_)
  refine lv_aload_n hx hb dL_refuses_277 rfl (lv_at hl 4 rfl) ?_
  refine lv_aload_n hx hb dL_refuses_278 rfl (lv_at hl 4 rfl) ?_
  refine lv_iconst (v := 2) hx hb dL_refuses_279 (by decide) ?_
  refine pw_call (rest := [.ref (f 0)]) (pt_whole hst J 2 (by decide)) ⟨hx, hb, hml, hown, hts⟩ (vx_cwSW 2 hts gL_refuses_L_whole rfl rfl rfl (by decide +kernel) ⟨Nat.le_of_ble_eq_true rfl, Nat.le_of_ble_eq_true rfl⟩) hK hG hS hE.1 rfl hl.1 rfl (Nat.le_of_ble_eq_true rfl) dL_refuses_280 ⟨by show _ + 1 ≤ 200; omega, by show _ + 6 ≤ 1200; omega⟩ (fun H locs hG hS => ?_)
  refine fz_top (show _ = nI nl from J.e17) ?_
  refine W.widen (k := 23) (n := 138) (by omega) (by omega) ?_
  refine lv_iconst (v := 1) hx hb dL_refuses_283 (by decide) ?_
  refine pw_call (rest := []) (pw_repay_IO hst J.wf J.zo (nI nl) 1 (if_neg (by rw [J.e17, ix_out (by omega)]; decide))) ⟨hx, hb, hml, hown, hts⟩ (vx_cwSW 3 hts gL_refuses_L_repay rfl rfl rfl (by decide +kernel) ⟨Nat.le_of_ble_eq_true rfl, Nat.le_of_ble_eq_true rfl⟩) hK hG hS hE.1 rfl hl.1 rfl (Nat.le_of_ble_eq_true rfl) dL_refuses_284 ⟨by show _ + 1 ≤ 200; omega, by show _ + 6 ≤ 1200; omega⟩ (fun H locs hG hS => ?_)
  refine lv_bipush (v := (-11)) hx hb dL_refuses_287 (by decide) ?_
  refine lv_icmp_ne (tgt := 364) hx hb dL_refuses_289 (by decide) (fun z9 => absurd z9 (by decide)) (fun _ => ?_)
  refine lv_aload_n hx hb dL_refuses_292 rfl (lv_at hl 4 rfl) ?_
  refine lv_iconst (v := 0) hx hb dL_refuses_293 (by decide) ?_
  refine lv_bipush (v := 11) hx hb dL_refuses_294 (by decide) ?_
  refine pw_call (rest := []) (pw_team_IA hst J.wf 0 11 (by rw [show fz_vo 11 11 = false from by decide, Bool.and_false]) (by rw [J.e3, show fz_ix 0 (nI nt) = true from fz_ix_n (j := 0) (by omega) (by omega)]; rfl)) ⟨hx, hb, hml, hown, hts⟩ (vx_cwSW 3 hts gL_refuses_L_team rfl rfl rfl (by decide +kernel) ⟨Nat.le_of_ble_eq_true rfl, Nat.le_of_ble_eq_true rfl⟩) hK hG hS hE.1 rfl hl.1 rfl (Nat.le_of_ble_eq_true rfl) dL_refuses_296 ⟨by show _ + 2 ≤ 200; omega, by show _ + 12 ≤ 1200; omega⟩ (fun H locs hG hS => ?_)
  refine lv_bipush (v := (-12)) hx hb dL_refuses_299 (by decide) ?_
  refine lv_icmp_ne (tgt := 364) hx hb dL_refuses_301 (by decide) (fun z9 => absurd z9 (by decide)) (fun _ => ?_)
  refine lv_aload_n hx hb dL_refuses_304 rfl (lv_at hl 4 rfl) ?_
  refine lv_iload hx hb dL_refuses_305 (lv_at hl 1 rfl) ?_
  refine lv_bipush (v := 9) hx hb dL_refuses_307 (by decide) ?_
  refine pw_call (rest := []) (pt_changeX hst J 9) ⟨hx, hb, hml, hown, hts⟩ (vx_cwSW 3 hts gL_refuses_L_change rfl rfl rfl (by decide +kernel) ⟨Nat.le_of_ble_eq_true rfl, Nat.le_of_ble_eq_true rfl⟩) hK hG hS hE.1 rfl hl.1 rfl (Nat.le_of_ble_eq_true rfl) dL_refuses_309 ⟨by show _ + 2 ≤ 200; omega, by show _ + 12 ≤ 1200; omega⟩ (fun H locs hG hS => ?_)
  refine lv_bipush (v := (-11)) hx hb dL_refuses_312 (by decide) ?_
  refine lv_icmp_ne (tgt := 364) hx hb dL_refuses_314 (by decide) (fun z9 => absurd z9 (by decide)) (fun _ => ?_)
  refine lv_aload_n hx hb dL_refuses_317 rfl (lv_at hl 4 rfl) ?_
  refine lv_iconst (v := (-1)) hx hb dL_refuses_318 (by decide) ?_
  refine lv_iconst (v := 0) hx hb dL_refuses_319 (by decide) ?_
  refine pw_call (rest := []) (pw_loan_IO hst J.wf (-1) 0 (by rw [show fz_ix (-1) (V 17 0) = false from by rw [fz_ix]; rfl]; rfl) (by rw [show fz_ix (-1) (V 17 0) = false from by rw [fz_ix]; rfl]; rfl)) ⟨hx, hb, hml, hown, hts⟩ (vx_cwSW 3 hts gL_refuses_L_loan rfl rfl rfl (by decide +kernel) ⟨Nat.le_of_ble_eq_true rfl, Nat.le_of_ble_eq_true rfl⟩) hK hG hS hE.1 rfl hl.1 rfl (Nat.le_of_ble_eq_true rfl) dL_refuses_320 ⟨by show _ + 1 ≤ 200; omega, by show _ + 6 ≤ 1200; omega⟩ (fun H locs hG hS => ?_)
  refine lv_bipush (v := (-11)) hx hb dL_refuses_323 (by decide) ?_
  refine lv_icmp_ne (tgt := 364) hx hb dL_refuses_325 (by decide) (fun z9 => absurd z9 (by decide)) (fun _ => ?_)
  refine lv_aload_n hx hb dL_refuses_328 rfl (lv_at hl 4 rfl) ?_
  refine lv_iconst (v := (-1)) hx hb dL_refuses_329 (by decide) ?_
  refine pw_call (rest := []) (pw_waiting_IA hst J.wf (-1) (by decide)) ⟨hx, hb, hml, hown, hts⟩ (vx_cwSW 2 hts gL_refuses_L_waiting rfl rfl rfl (by decide +kernel) ⟨Nat.le_of_ble_eq_true rfl, Nat.le_of_ble_eq_true rfl⟩) hK hG hS hE.1 rfl hl.1 rfl (Nat.le_of_ble_eq_true rfl) dL_refuses_330 ⟨by show _ + 1 ≤ 200; omega, by show _ + 6 ≤ 1200; omega⟩ (fun H locs hG hS => ?_)
  refine lv_bipush (v := (-11)) hx hb dL_refuses_333 (by decide) ?_
  refine lv_icmp_ne (tgt := 364) hx hb dL_refuses_335 (by decide) (fun z9 => absurd z9 (by decide)) (fun _ => ?_)
  refine lv_aload_n hx hb dL_refuses_338 rfl (lv_at hl 4 rfl) ?_
  refine lv_bipush (v := 40) hx hb dL_refuses_339 (by decide) ?_
  refine pw_call (rest := []) (pw_frozen_IA hst 40 (by decide)) ⟨hx, hb, hml, hown, hts⟩ (vx_cwSW 2 hts gL_refuses_L_frozen rfl rfl rfl (by decide +kernel) ⟨Nat.le_of_ble_eq_true rfl, Nat.le_of_ble_eq_true rfl⟩) hK hG hS hE.1 rfl hl.1 rfl (Nat.le_of_ble_eq_true rfl) dL_refuses_341 ⟨by show _ + 1 ≤ 200; omega, by show _ + 6 ≤ 1200; omega⟩ (fun H locs hG hS => ?_)
  refine W.widen (k := 31) (n := 186) (by omega) (by omega) ?_
  refine lv_bipush (v := (-11)) hx hb dL_refuses_344 (by decide) ?_
  refine lv_icmp_ne (tgt := 364) hx hb dL_refuses_346 (by decide) (fun z9 => absurd z9 (by decide)) (fun _ => ?_)
  refine lv_aload_n hx hb dL_refuses_349 rfl (lv_at hl 4 rfl) ?_
  refine lv_bipush (v := 18) hx hb dL_refuses_350 (by decide) ?_
  refine pw_call (rest := []) (pw_whole_IA hst J.wf 18 (by decide)) ⟨hx, hb, hml, hown, hts⟩ (vx_cwSW 2 hts gL_refuses_L_whole rfl rfl rfl (by decide +kernel) ⟨Nat.le_of_ble_eq_true rfl, Nat.le_of_ble_eq_true rfl⟩) hK hG hS hE.1 rfl hl.1 rfl (Nat.le_of_ble_eq_true rfl) dL_refuses_352 ⟨by show _ + 1 ≤ 200; omega, by show _ + 6 ≤ 1200; omega⟩ (fun H locs hG hS => ?_)
  refine lv_bipush (v := (-11)) hx hb dL_refuses_355 (by decide) ?_
  refine lv_icmp_ne (tgt := 364) hx hb dL_refuses_357 (by decide) (fun z9 => absurd z9 (by decide)) (fun _ => ?_)
  refine lv_iconst (v := 1) hx hb dL_refuses_360 (by decide) ?_
  refine lv_goto (tgt := 365) hx hb dL_refuses_361 (by decide) ?_
  refine lv_istore (lv' := [(5, .int 1), (4, .int (nI nc)), (3, .int (nI nt)), (1, .long (cx_dg V (nI L.length) (nI cn) nt nc nq nl wk)), (0, .ref (f 0))]) hx hb dL_refuses_365 hl (by decide) rfl (fun ls hl => ?_)
  refine W.widen (k := 32) (n := 192) (by omega) (by omega) ?_
  refine lv_iload hx hb dL_refuses_367 (lv_at hl 0 rfl) ?_
  refine lv_if_eq (tgt := 486) hx hb dL_refuses_369 (by decide) (fun z9 => absurd z9 (by decide)) (fun _ => ?_)
  refine lv_aload_n hx hb dL_refuses_372 rfl (lv_at hl 4 rfl) ?_
  refine lv_iload hx hb dL_refuses_373 (lv_at hl 1 rfl) ?_
  refine pw_call (rest := []) (pw_reason_IO hst J.wf (nI nc) (by rw [J.e8, ix_out (by omega)])) ⟨hx, hb, hml, hown, hts⟩ (vx_cwSW 2 hts gL_refuses_L_reason rfl rfl rfl (by decide +kernel) ⟨Nat.le_of_ble_eq_true rfl, Nat.le_of_ble_eq_true rfl⟩) hK hG hS hE.1 rfl hl.1 rfl (Nat.le_of_ble_eq_true rfl) dL_refuses_375 ⟨by show _ + 1 ≤ 200; omega, by show _ + 6 ≤ 1200; omega⟩ (fun H locs hG hS => ?_)
  refine lv_bipush (v := (-11)) hx hb dL_refuses_378 (by decide) ?_
  refine lv_icmp_ne (tgt := 486) hx hb dL_refuses_380 (by decide) (fun z9 => absurd z9 (by decide)) (fun _ => ?_)
  refine lv_aload_n hx hb dL_refuses_383 rfl (lv_at hl 4 rfl) ?_
  refine lv_iload_n hx hb dL_refuses_384 rfl (lv_at hl 2 rfl) ?_
  refine pw_call (rest := []) (pw_exemptible_IO hst J.wf (nI nt) (by rw [J.e3, ix_out (by omega)])) ⟨hx, hb, hml, hown, hts⟩ (vx_cwSW 2 hts gL_refuses_L_exemptible rfl rfl rfl (by decide +kernel) ⟨Nat.le_of_ble_eq_true rfl, Nat.le_of_ble_eq_true rfl⟩) hK hG hS hE.1 rfl hl.1 rfl (Nat.le_of_ble_eq_true rfl) dL_refuses_385 ⟨by show _ + 1 ≤ 200; omega, by show _ + 6 ≤ 1200; omega⟩ (fun H locs hG hS => ?_)
  refine lv_bipush (v := (-11)) hx hb dL_refuses_388 (by decide) ?_
  refine lv_icmp_ne (tgt := 486) hx hb dL_refuses_390 (by decide) (fun z9 => absurd z9 (by decide)) (fun _ => ?_)
  refine lv_aload_n hx hb dL_refuses_393 rfl (lv_at hl 4 rfl) ?_
  refine lv_iconst (v := 0) hx hb dL_refuses_394 (by decide) ?_
  refine lv_bipush (v := 10) hx hb dL_refuses_395 (by decide) ?_
  refine pw_call (rest := []) (pw_weeksUntil_IA hst J.wf J.zo 0 10 (by rw [show fz_risk 10 = false from by decide, Bool.and_false]) (by rw [J.e3, show fz_ix 0 (nI nt) = true from fz_ix_n (j := 0) (by omega) (by omega)]; rfl)) ⟨hx, hb, hml, hown, hts⟩ (vx_cwSW 3 hts gL_refuses_L_weeksUntil rfl rfl rfl (by decide +kernel) ⟨Nat.le_of_ble_eq_true rfl, Nat.le_of_ble_eq_true rfl⟩) hK hG hS hE.1 rfl hl.1 rfl (Nat.le_of_ble_eq_true rfl) dL_refuses_397 ⟨by show _ + 2 ≤ 200; omega, by show _ + 12 ≤ 1200; omega⟩ (fun H locs hG hS => ?_)
  refine lv_bipush (v := (-12)) hx hb dL_refuses_400 (by decide) ?_
  refine lv_icmp_ne (tgt := 486) hx hb dL_refuses_402 (by decide) (fun z9 => absurd z9 (by decide)) (fun _ => ?_)
  refine lv_aload_n hx hb dL_refuses_405 rfl (lv_at hl 4 rfl) ?_
  refine lv_iconst (v := (-1)) hx hb dL_refuses_406 (by decide) ?_
  refine lv_iconst (v := 1) hx hb dL_refuses_407 (by decide) ?_
  refine pw_call (rest := []) (pw_weeksUntil_IO hst J.wf J.zo (-1) 1 (by rw [show fz_ix (-1) (V 3 0) = false from by rw [fz_ix]; rfl]; rfl) (by rw [show fz_ix (-1) (V 3 0) = false from by rw [fz_ix]; rfl]; rfl)) ⟨hx, hb, hml, hown, hts⟩ (vx_cwSW 3 hts gL_refuses_L_weeksUntil rfl rfl rfl (by decide +kernel) ⟨Nat.le_of_ble_eq_true rfl, Nat.le_of_ble_eq_true rfl⟩) hK hG hS hE.1 rfl hl.1 rfl (Nat.le_of_ble_eq_true rfl) dL_refuses_408 ⟨by show _ + 2 ≤ 200; omega, by show _ + 12 ≤ 1200; omega⟩ (fun H locs hG hS => ?_)
  refine lv_bipush (v := (-11)) hx hb dL_refuses_411 (by decide) ?_
  refine lv_icmp_ne (tgt := 486) hx hb dL_refuses_413 (by decide) (fun z9 => absurd z9 (by decide)) (fun _ => ?_)
  refine lv_aload_n hx hb dL_refuses_416 rfl (lv_at hl 4 rfl) ?_
  refine lv_iconst (v := 0) hx hb dL_refuses_417 (by decide) ?_
  refine lv_iconst (v := 0) hx hb dL_refuses_418 (by decide) ?_
  refine pw_call (rest := []) (pw_lender_IA hst J.wf 0 0 (by rw [show fz_risk 0 = false from by decide, Bool.and_false]) (by rw [J.e3, show fz_ix 0 (nI nt) = true from fz_ix_n (j := 0) (by omega) (by omega)]; rfl)) ⟨hx, hb, hml, hown, hts⟩ (vx_cwSW 3 hts gL_refuses_L_lender rfl rfl rfl (by decide +kernel) ⟨Nat.le_of_ble_eq_true rfl, Nat.le_of_ble_eq_true rfl⟩) hK hG hS hE.1 rfl hl.1 rfl (Nat.le_of_ble_eq_true rfl) dL_refuses_419 ⟨by show _ + 2 ≤ 200; omega, by show _ + 12 ≤ 1200; omega⟩ (fun H locs hG hS => ?_)
  refine lv_bipush (v := (-12)) hx hb dL_refuses_422 (by decide) ?_
  refine lv_icmp_ne (tgt := 486) hx hb dL_refuses_424 (by decide) (fun z9 => absurd z9 (by decide)) (fun _ => ?_)
  refine lv_aload_n hx hb dL_refuses_427 rfl (lv_at hl 4 rfl) ?_
  refine lv_bipush (v := 40) hx hb dL_refuses_428 (by decide) ?_
  refine pw_call (rest := []) (pw_inBeing_IA hst J.wf J.zo 40 (by decide)) ⟨hx, hb, hml, hown, hts⟩ (vx_cwSW 2 hts gL_refuses_L_inBeing rfl rfl rfl (by decide +kernel) ⟨Nat.le_of_ble_eq_true rfl, Nat.le_of_ble_eq_true rfl⟩) hK hG hS hE.1 rfl hl.1 rfl (Nat.le_of_ble_eq_true rfl) dL_refuses_430 ⟨by show _ + 1 ≤ 200; omega, by show _ + 6 ≤ 1200; omega⟩ (fun H locs hG hS => ?_)
  refine W.widen (k := 41) (n := 246) (by omega) (by omega) ?_
  refine lv_bipush (v := (-11)) hx hb dL_refuses_433 (by decide) ?_
  refine lv_icmp_ne (tgt := 486) hx hb dL_refuses_435 (by decide) (fun z9 => absurd z9 (by decide)) (fun _ => ?_)
  refine lv_aload_n hx hb dL_refuses_438 rfl (lv_at hl 4 rfl) ?_
  refine lv_iconst (v := (-1)) hx hb dL_refuses_439 (by decide) ?_
  refine pw_call (rest := []) (pw_type_IA hst (-1) (by decide)) ⟨hx, hb, hml, hown, hts⟩ (vx_cwSW 2 hts gL_refuses_L_type rfl rfl rfl (by decide +kernel) ⟨Nat.le_of_ble_eq_true rfl, Nat.le_of_ble_eq_true rfl⟩) hK hG hS hE.1 rfl hl.1 rfl (Nat.le_of_ble_eq_true rfl) dL_refuses_440 ⟨by show _ + 1 ≤ 200; omega, by show _ + 6 ≤ 1200; omega⟩ (fun H locs hG hS => ?_)
  refine lv_bipush (v := (-11)) hx hb dL_refuses_443 (by decide) ?_
  refine lv_icmp_ne (tgt := 486) hx hb dL_refuses_445 (by decide) (fun z9 => absurd z9 (by decide)) (fun _ => ?_)
  refine lv_aload_n hx hb dL_refuses_448 rfl (lv_at hl 4 rfl) ?_
  refine lv_sipush (v := 128) hx hb dL_refuses_449 (by decide) ?_
  refine pw_call (rest := []) (pw_type_IA hst 128 (by decide)) ⟨hx, hb, hml, hown, hts⟩ (vx_cwSW 2 hts gL_refuses_L_type rfl rfl rfl (by decide +kernel) ⟨Nat.le_of_ble_eq_true rfl, Nat.le_of_ble_eq_true rfl⟩) hK hG hS hE.1 rfl hl.1 rfl (Nat.le_of_ble_eq_true rfl) dL_refuses_452 ⟨by show _ + 1 ≤ 200; omega, by show _ + 6 ≤ 1200; omega⟩ (fun H locs hG hS => ?_)
  refine lv_bipush (v := (-11)) hx hb dL_refuses_455 (by decide) ?_
  refine lv_icmp_ne (tgt := 486) hx hb dL_refuses_457 (by decide) (fun z9 => absurd z9 (by decide)) (fun _ => ?_)
  refine lv_aload_n hx hb dL_refuses_460 rfl (lv_at hl 4 rfl) ?_
  refine lv_bipush (v := 8) hx hb dL_refuses_461 (by decide) ?_
  refine pw_call (rest := []) (pt_whole hst J 8 (by decide)) ⟨hx, hb, hml, hown, hts⟩ (vx_cwSW 2 hts gL_refuses_L_whole rfl rfl rfl (by decide +kernel) ⟨Nat.le_of_ble_eq_true rfl, Nat.le_of_ble_eq_true rfl⟩) hK hG hS hE.1 rfl hl.1 rfl (Nat.le_of_ble_eq_true rfl) dL_refuses_463 ⟨by show _ + 1 ≤ 200; omega, by show _ + 6 ≤ 1200; omega⟩ (fun H locs hG hS => ?_)
  refine fz_top (show _ = nI wk from J.e0) ?_
  refine lv_if_eq (tgt := 482) hx hb dL_refuses_466 (by decide) (fun c4 => ?_) (fun c4 => ?_)
  · skip
    refine lv_iconst (v := 1) hx hb dL_refuses_482 (by decide) ?_
    refine lv_goto (tgt := 487) hx hb dL_refuses_483 (by decide) ?_
    refine lv_istore (lv' := [(5, .int 1), (4, .int (nI nc)), (3, .int (nI nt)), (1, .long (cx_dg V (nI L.length) (nI cn) nt nc nq nl wk)), (0, .ref (f 0))]) hx hb dL_refuses_487 hl (by decide) rfl (fun ls hl => ?_)
    refine W.widen (k := 44) (n := 264) (by omega) (by omega) ?_
    refine lv_iload hx hb dL_refuses_489 (lv_at hl 0 rfl) ?_
    refine lv_if_eq (tgt := 507) hx hb dL_refuses_491 (by decide) (fun z9 => absurd z9 (by decide)) (fun _ => ?_)
    refine lv_aload_n hx hb dL_refuses_494 rfl (lv_at hl 4 rfl) ?_
    refine pl_call (rest := []) (pl_digest J.wf) ⟨hx, hb, hml, hown, hts⟩ (cwV 0 hts gL_refuses_X8_digest rfl rfl rfl (by decide +kernel) ⟨Nat.le_of_ble_eq_true rfl, Nat.le_of_ble_eq_true rfl⟩) rfl rfl hK hG hE.2.2 rfl hl.1 rfl (Nat.le_of_ble_eq_true rfl) dL_refuses_495 ⟨by show _ + 0 ≤ 200; omega, by show _ + 0 ≤ 1200; omega⟩ ?_
    refine lv_lload_n hx hb dL_refuses_498 rfl (lv_at hl 3 rfl) ?_
    refine W.lcmp hx hb dL_refuses_499 ?_
    refine lv_if_ne (tgt := 507) hx hb dL_refuses_500 (by decide) (fun z9 => absurd z9 (not_not_p (lg_same _))) (fun _ => ?_)
    refine lv_iconst (v := 1) hx hb dL_refuses_503 (by decide) ?_
    refine lv_goto (tgt := 508) hx hb dL_refuses_504 (by decide) ?_
    refine W.widen (k := 200) (n := 1200) (by omega) (by omega) ?_
    obtain ⟨Wn, h9, hP, hD⟩ := hG
    exact W.zret (v := 1) hx hb hr (by decide) (fun t9 ht9 hW9 => ⟨⟨_, Wn, rfl, ⟨⟨rfl, h9⟩, hD⟩, fz_to ht9 hP⟩, hS.F ht9⟩) hS.2.2 dL_refuses_508
  · skip
    refine lv_aload_n hx hb dL_refuses_469 rfl (lv_at hl 4 rfl) ?_
    refine lv_iconst (v := 0) hx hb dL_refuses_470 (by decide) ?_
    refine lv_bipush (v := 39) hx hb dL_refuses_471 (by decide) ?_
    refine lv_iconst (v := 1) hx hb dL_refuses_473 (by decide) ?_
    refine pw_call (rest := []) (pw_freeze_IS hst J.wf J.zo 0 39 true ((if_neg (by decide)).trans ((if_neg (by decide)).trans ((if_pos (by decide)).trans (if_neg (by rw [J.e0]; exact fun z => c4 (congrArg nI (Nat.le_zero.mp ((nI_leI (b := 0) (by omega) (by decide)).mp z))))))))) ⟨hx, hb, hml, hown, hts⟩ (vx_cwSW 4 hts gL_refuses_L_freeze rfl rfl rfl (by decide +kernel) ⟨Nat.le_of_ble_eq_true rfl, Nat.le_of_ble_eq_true rfl⟩) hK hG hS hE.1 rfl hl.1 rfl (Nat.le_of_ble_eq_true rfl) dL_refuses_474 ⟨by show _ + 1 ≤ 200; omega, by show _ + 6 ≤ 1200; omega⟩ (fun H locs hG hS => ?_)
    refine lv_bipush (v := (-12)) hx hb dL_refuses_477 (by decide) ?_
    refine lv_icmp_ne (tgt := 486) hx hb dL_refuses_479 (by decide) (fun z9 => absurd z9 (by decide)) (fun _ => ?_)
    refine lv_iconst (v := 1) hx hb dL_refuses_482 (by decide) ?_
    refine lv_goto (tgt := 487) hx hb dL_refuses_483 (by decide) ?_
    refine lv_istore (lv' := [(5, .int 1), (4, .int (nI nc)), (3, .int (nI nt)), (1, .long (cx_dg V (nI L.length) (nI cn) nt nc nq nl wk)), (0, .ref (f 0))]) hx hb dL_refuses_487 hl (by decide) rfl (fun ls hl => ?_)
    refine W.widen (k := 45) (n := 270) (by omega) (by omega) ?_
    refine lv_iload hx hb dL_refuses_489 (lv_at hl 0 rfl) ?_
    refine lv_if_eq (tgt := 507) hx hb dL_refuses_491 (by decide) (fun z9 => absurd z9 (by decide)) (fun _ => ?_)
    refine lv_aload_n hx hb dL_refuses_494 rfl (lv_at hl 4 rfl) ?_
    refine pl_call (rest := []) (pl_digest J.wf) ⟨hx, hb, hml, hown, hts⟩ (cwV 0 hts gL_refuses_X8_digest rfl rfl rfl (by decide +kernel) ⟨Nat.le_of_ble_eq_true rfl, Nat.le_of_ble_eq_true rfl⟩) rfl rfl hK hG hE.2.2 rfl hl.1 rfl (Nat.le_of_ble_eq_true rfl) dL_refuses_495 ⟨by show _ + 0 ≤ 200; omega, by show _ + 0 ≤ 1200; omega⟩ ?_
    refine lv_lload_n hx hb dL_refuses_498 rfl (lv_at hl 3 rfl) ?_
    refine W.lcmp hx hb dL_refuses_499 ?_
    refine lv_if_ne (tgt := 507) hx hb dL_refuses_500 (by decide) (fun z9 => absurd z9 (not_not_p (lg_same _))) (fun _ => ?_)
    refine lv_iconst (v := 1) hx hb dL_refuses_503 (by decide) ?_
    refine lv_goto (tgt := 508) hx hb dL_refuses_504 (by decide) ?_
    refine W.widen (k := 200) (n := 1200) (by omega) (by omega) ?_
    obtain ⟨Wn, h9, hP, hD⟩ := hG
    exact W.zret (v := 1) hx hb hr (by decide) (fun t9 ht9 hW9 => ⟨⟨_, Wn, rfl, ⟨⟨rfl, h9⟩, hD⟩, fz_to ht9 hP⟩, hS.F ht9⟩) hS.2.2 dL_refuses_508
