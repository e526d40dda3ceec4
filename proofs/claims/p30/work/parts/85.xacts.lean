set_option maxHeartbeats 4000000 in
set_option maxRecDepth 100000 in
theorem m_acts {l : Launch} {D : va_G} {cy : Nat → ClassId} {A : Nat → Prop} {f a t h x ad adK adV : Nat → Nat} {cn : Nat} {V : Nat → Nat → Int32} {L : List Int32} {nt nc nq nl wk B : Nat} (hst : l.stackTraces = false) (J : pJ V nt nc nq nl wk B) (hB : B < 50000000) (h2 : 2 ≤ nt) {z0 : Nat} (hz0 : z0 < 2 ^ 31) : pm_M l yL_acts wsL_acts 10 230 1400 8400 D cy A (pE ad adK adV A) [.ref (f 0), .int (nI z0)] (pS cy f a t h x ad cn V L) (fun r W9 => r = 1 ∧ pI cy f a t h x ad (B + 500000) W9) := by
  refine Met.ofW (cc := cL_acts) (maxL := 5) (ret := (some .boolean)) (by decide) rfl ?_
  intro p e s m args below meth c s₁ B9 hml hv
  obtain ⟨rfl, hG, hK, hE⟩ := hv
  have hx := B9.exec
  have hb := B9.bytes
  have hr := B9.returns
  have hts := atoms_spec (ws := wsL_acts) B9.pre
  have hown : s.vm.findClass RL = some m.cls := findClass_of_methodNamed B9.named
  have hlocks := B9.notSynchronized
  have hS : va_S A s.heap s.heap [] := va_S.rf
  have hl := lv_entry ([.ref (f 0), .int (nI z0)]) (n := 5) (Nat.le_of_ble_eq_true rfl)
  rw [lg_entry_eq]
  generalize (lg_sl ([.ref (f 0), .int (nI z0)]) ++ List.replicate (5 - (lg_sl ([.ref (f 0), .int (nI z0)])).length) Slot.unset).toArray = ls at hl ⊢
  have hl : lv_has ls 5 [(0, .ref (f 0)), (1, .int (nI z0))] := hl
  have h6 := J.nt6
  have h30 := J.nc30
  have hqc := J.nqc
  have h12 := J.nl12
  have h39 := J.wk39
  obtain ⟨vv, ev⟩ : ∃ vv, vv = z0 / 16 := ⟨_, rfl⟩
  have hvv : vv < 2 ^ 28 := by omega
  refine lv_iload_n hx hb dL_acts_0 rfl (lv_at hl 1 rfl) ?_
  refine lv_iconst (v := 4) hx hb dL_acts_1 (by decide) ?_
  refine lv_ishr hx hb dL_acts_2 ?_
  refine fz_top (show _ = nI vv from (by rw [ev]; exact nI_shr4 hz0)) ?_
  refine lv_istore_n (lv' := [(2, .int (nI vv)), (0, .ref (f 0)), (1, .int (nI z0))]) hx hb dL_acts_3 rfl hl (by decide) rfl (fun ls hl => ?_)
  refine lv_iload_n hx hb dL_acts_4 rfl (lv_at hl 0 rfl) ?_
  refine lv_aload_n hx hb dL_acts_5 rfl (lv_at hl 1 rfl) ?_
  refine lv_iconst (v := 0) hx hb dL_acts_6 (by decide) ?_
  refine pw_call (rest := [.int (nI vv)]) (pt_whole hst J 0 (by decide)) ⟨hx, hb, hml, hown, hts⟩ (vx_cwSW 2 hts gL_acts_L_whole rfl rfl rfl (by decide +kernel) ⟨Nat.le_of_ble_eq_true rfl, Nat.le_of_ble_eq_true rfl⟩) hK hG hS hE.1 rfl hl.1 rfl (Nat.le_of_ble_eq_true rfl) dL_acts_7 ⟨by show _ + 1 ≤ 1400; omega, by show _ + 6 ≤ 8400; omega⟩ (fun H locs hG hS => ?_)
  refine fz_top (show _ = nI nt from J.e3) ?_
  refine lv_irem hx hb dL_acts_10 (fun z => absurd ((nI_eq (a := nt) (b := 0) (by omega) (by decide)).mp z) (by omega)) ?_
  refine fz_top (show _ = nI (vv % nt) from nI_rem (b := nt) (by omega) (by omega) (by omega)) ?_
  have hti : vv % nt < nt := Nat.mod_lt _ (by omega)
  refine lv_istore_n (lv' := [(3, .int (nI (vv % nt))), (2, .int (nI vv)), (0, .ref (f 0)), (1, .int (nI z0))]) hx hb dL_acts_11 rfl hl (by decide) rfl (fun ls hl => ?_)
  refine W.widen (k := 1) (n := 6) (by omega) (by omega) ?_
  refine lv_iload_n hx hb dL_acts_12 rfl (lv_at hl 1 rfl) ?_
  refine lv_bipush (v := 8) hx hb dL_acts_13 (by decide) ?_
  refine lv_idiv hx hb dL_acts_15 (by decide) ?_
  refine fz_top (show _ = nI (vv / 8) from nI_div (b := 8) (by omega) (by omega) (by omega)) ?_
  refine lv_aload_n hx hb dL_acts_16 rfl (lv_at hl 2 rfl) ?_
  refine lv_iconst (v := 1) hx hb dL_acts_17 (by decide) ?_
  refine pw_call (rest := [.int (nI (vv / 8))]) (pt_whole hst J 1 (by decide)) ⟨hx, hb, hml, hown, hts⟩ (vx_cwSW 2 hts gL_acts_L_whole rfl rfl rfl (by decide +kernel) ⟨Nat.le_of_ble_eq_true rfl, Nat.le_of_ble_eq_true rfl⟩) hK hG hS hE.1 rfl hl.1 rfl (Nat.le_of_ble_eq_true rfl) dL_acts_18 ⟨by show _ + 1 ≤ 1400; omega, by show _ + 6 ≤ 8400; omega⟩ (fun H locs hG hS => ?_)
  refine fz_top (show _ = nI nc from J.e8) ?_
  refine lv_iconst (v := 1) hx hb dL_acts_21 (by decide) ?_
  refine lv_iadd hx hb dL_acts_22 ?_
  refine fz_top (show _ = nI (nc + 1) from nI_1 nc) ?_
  refine lv_irem hx hb dL_acts_23 (fun z => absurd ((nI_eq (a := nc + 1) (b := 0) (by omega) (by decide)).mp z) (by omega)) ?_
  refine fz_top (show _ = nI (vv / 8 % (nc + 1)) from nI_rem (b := nc + 1) (by omega) (by omega) (by omega)) ?_
  refine lv_istore (lv' := [(4, .int (nI (vv / 8 % (nc + 1)))), (3, .int (nI (vv % nt))), (2, .int (nI vv)), (0, .ref (f 0)), (1, .int (nI z0))]) hx hb dL_acts_24 hl (by decide) rfl (fun ls hl => ?_)
  refine W.widen (k := 2) (n := 12) (by omega) (by omega) ?_
  refine lv_iload_n hx hb dL_acts_26 rfl (lv_at hl 4 rfl) ?_
  refine lv_bipush (v := 15) hx hb dL_acts_27 (by decide) ?_
  refine lv_iand hx hb dL_acts_29 ?_
  refine fz_top (show _ = nI (z0 % 16) from nI_and15 hz0) ?_
  have hm : z0 % 16 < 16 := Nat.mod_lt _ (by decide)
  generalize z0 % 16 = m9 at hm ⊢
  rcases (show m9 = 0 ∨ m9 = 1 ∨ m9 = 2 ∨ m9 = 3 ∨ m9 = 4 ∨ m9 = 5 ∨ m9 = 6 ∨ m9 = 7 ∨ m9 = 8 ∨ m9 = 9 ∨ m9 = 10 ∨ m9 = 11 ∨ m9 = 12 ∨ m9 = 13 ∨ m9 = 14 ∨ m9 = 15 by omega) with rfl | rfl | rfl | rfl | rfl | rfl | rfl | rfl | rfl | rfl | rfl | rfl | rfl | rfl | rfl | rfl
  · skip
    refine lv_tableIn (off := 74) (tgt := 104) hx hb dL_acts_30 (by decide) (by decide) (by decide) (by decide) ?_
    refine lv_aload_n hx hb dL_acts_104 rfl (lv_at hl 3 rfl) ?_
    refine lv_iload_n hx hb dL_acts_105 rfl (lv_at hl 2 rfl) ?_
    refine lv_bipush (v := 100) hx hb dL_acts_106 (by decide) ?_
    refine lv_irem hx hb dL_acts_108 (by decide) ?_
    refine fz_top (show _ = nI (vv % 100) from nI_rem (b := 100) (by omega) (by omega) (by omega)) ?_
    rcases tri_bring J (x := vv % 100) (by omega) with ok9 | e9
    · skip
      refine pw_call (rest := []) (pw_addTeam_t hst J.wf J.zo (nI (vv % 100)) ok9.1) ⟨hx, hb, hml, hown, hts⟩ (vx_cwSW 2 hts gL_acts_L_addTeam rfl rfl rfl (by decide +kernel) ⟨Nat.le_of_ble_eq_true rfl, Nat.le_of_ble_eq_true rfl⟩) hK hG hS hE.1 rfl hl.1 rfl (Nat.le_of_ble_eq_true rfl) dL_acts_109 ⟨by show _ + 1 ≤ 1400; omega, by show _ + 6 ≤ 8400; omega⟩ (fun H locs hG hS => ?_)
      refine fz_top (show _ = (fz_bring V nt (nI (vv % 100))).1 from rfl) ?_
      refine lv_bipush (v := (-11)) hx hb dL_acts_112 (by decide) ?_
      refine lv_icmp_eq (tgt := 121) hx hb dL_acts_114 (by decide) (fun z9 => absurd z9 (ge_ne ok9.2)) (fun _ => ?_)
      refine lv_iconst (v := 1) hx hb dL_acts_117 (by decide) ?_
      refine lv_goto (tgt := 122) hx hb dL_acts_118 (by decide) ?_
      refine W.widen (k := 1400) (n := 8400) (by omega) (by omega) ?_
      obtain ⟨Wn, h9, hP, hD⟩ := hG
      exact W.zret (v := 1) hx hb hr (by decide) (fun t9 ht9 hW9 => ⟨⟨_, Wn, rfl, ⟨⟨rfl, pI_op J h2 (pO_bring J (nI (vv % 100))) (by omega) h9⟩, hD⟩, fz_to ht9 hP⟩, hS.F ht9⟩) hS.2.2 dL_acts_122
    · skip
      refine pw_call (rest := []) (pw_addTeam_IS hst J.wf J.zo (nI (vv % 100)) e9) ⟨hx, hb, hml, hown, hts⟩ (vx_cwSW 2 hts gL_acts_L_addTeam rfl rfl rfl (by decide +kernel) ⟨Nat.le_of_ble_eq_true rfl, Nat.le_of_ble_eq_true rfl⟩) hK hG hS hE.1 rfl hl.1 rfl (Nat.le_of_ble_eq_true rfl) dL_acts_109 ⟨by show _ + 1 ≤ 1400; omega, by show _ + 6 ≤ 8400; omega⟩ (fun H locs hG hS => ?_)
      refine lv_bipush (v := (-11)) hx hb dL_acts_112 (by decide) ?_
      refine lv_icmp_eq (tgt := 121) hx hb dL_acts_114 (by decide) (fun z9 => absurd z9 (by decide)) (fun _ => ?_)
      refine lv_iconst (v := 1) hx hb dL_acts_117 (by decide) ?_
      refine lv_goto (tgt := 122) hx hb dL_acts_118 (by decide) ?_
      refine W.widen (k := 1400) (n := 8400) (by omega) (by omega) ?_
      obtain ⟨Wn, h9, hP, hD⟩ := hG
      exact W.zret (v := 1) hx hb hr (by decide) (fun t9 ht9 hW9 => ⟨⟨_, Wn, rfl, ⟨⟨rfl, pI_of J h2 (by omega) h9⟩, hD⟩, fz_to ht9 hP⟩, hS.F ht9⟩) hS.2.2 dL_acts_122
  · skip
    refine lv_tableIn (off := 93) (tgt := 123) hx hb dL_acts_30 (by decide) (by decide) (by decide) (by decide) ?_
    refine lv_aload_n hx hb dL_acts_123 rfl (lv_at hl 3 rfl) ?_
    refine lv_iload_n hx hb dL_acts_124 rfl (lv_at hl 2 rfl) ?_
    refine lv_bipush (v := 40) hx hb dL_acts_125 (by decide) ?_
    refine lv_irem hx hb dL_acts_127 (by decide) ?_
    refine fz_top (show _ = nI (vv % 40) from nI_rem (b := 40) (by omega) (by omega) (by omega)) ?_
    refine lv_bipush (v := 39) hx hb dL_acts_128 (by decide) ?_
    refine lv_iload_n hx hb dL_acts_130 rfl (lv_at hl 2 rfl) ?_
    refine lv_bipush (v := 64) hx hb dL_acts_131 (by decide) ?_
    refine lv_idiv hx hb dL_acts_133 (by decide) ?_
    refine lv_iconst (v := 3) hx hb dL_acts_134 (by decide) ?_
    refine lv_iand hx hb dL_acts_135 ?_
    refine lv_if_le (tgt := 143) hx hb dL_acts_136 (by decide) (fun c6 => ?_) (fun c6 => ?_)
    · skip
      refine lv_iconst (v := 0) hx hb dL_acts_143 (by decide) ?_
      rcases tri_markw J (i := vv % 40) (by omega) false with ok9 | e9
      · skip
        refine pw_call (rest := []) (pw_freeze_t hst J.wf J.zo (nI (vv % 40)) 39 false ok9.1) ⟨hx, hb, hml, hown, hts⟩ (vx_cwSW 4 hts gL_acts_L_freeze rfl rfl rfl (by decide +kernel) ⟨Nat.le_of_ble_eq_true rfl, Nat.le_of_ble_eq_true rfl⟩) hK hG hS hE.1 rfl hl.1 rfl (Nat.le_of_ble_eq_true rfl) dL_acts_144 ⟨by show _ + 1 ≤ 1400; omega, by show _ + 6 ≤ 8400; omega⟩ (fun H locs hG hS => ?_)
        refine fz_top (show _ = (fz_markw V wk (nI (vv % 40)) 39 false).1 from rfl) ?_
        refine lv_bipush (v := (-11)) hx hb dL_acts_147 (by decide) ?_
        refine lv_icmp_eq (tgt := 156) hx hb dL_acts_149 (by decide) (fun z9 => absurd z9 (ge_ne ok9.2)) (fun _ => ?_)
        refine lv_iconst (v := 1) hx hb dL_acts_152 (by decide) ?_
        refine lv_goto (tgt := 157) hx hb dL_acts_153 (by decide) ?_
        refine W.widen (k := 1400) (n := 8400) (by omega) (by omega) ?_
        obtain ⟨Wn, h9, hP, hD⟩ := hG
        exact W.zret (v := 1) hx hb hr (by decide) (fun t9 ht9 hW9 => ⟨⟨_, Wn, rfl, ⟨⟨rfl, pI_op J h2 (pO_markw J (nI (vv % 40)) 39 false) (by omega) h9⟩, hD⟩, fz_to ht9 hP⟩, hS.F ht9⟩) hS.2.2 dL_acts_157
      · skip
        refine pw_call (rest := []) (pw_freeze_IS hst J.wf J.zo (nI (vv % 40)) 39 false e9) ⟨hx, hb, hml, hown, hts⟩ (vx_cwSW 4 hts gL_acts_L_freeze rfl rfl rfl (by decide +kernel) ⟨Nat.le_of_ble_eq_true rfl, Nat.le_of_ble_eq_true rfl⟩) hK hG hS hE.1 rfl hl.1 rfl (Nat.le_of_ble_eq_true rfl) dL_acts_144 ⟨by show _ + 1 ≤ 1400; omega, by show _ + 6 ≤ 8400; omega⟩ (fun H locs hG hS => ?_)
        refine lv_bipush (v := (-11)) hx hb dL_acts_147 (by decide) ?_
        refine lv_icmp_eq (tgt := 156) hx hb dL_acts_149 (by decide) (fun z9 => absurd z9 (by decide)) (fun _ => ?_)
        refine lv_iconst (v := 1) hx hb dL_acts_152 (by decide) ?_
        refine lv_goto (tgt := 157) hx hb dL_acts_153 (by decide) ?_
        refine W.widen (k := 1400) (n := 8400) (by omega) (by omega) ?_
        obtain ⟨Wn, h9, hP, hD⟩ := hG
        exact W.zret (v := 1) hx hb hr (by decide) (fun t9 ht9 hW9 => ⟨⟨_, Wn, rfl, ⟨⟨rfl, pI_of J h2 (by omega) h9⟩, hD⟩, fz_to ht9 hP⟩, hS.F ht9⟩) hS.2.2 dL_acts_157
    · skip
      refine lv_iconst (v := 1) hx hb dL_acts_139 (by decide) ?_
      refine lv_goto (tgt := 144) hx hb dL_acts_140 (by decide) ?_
      rcases tri_markw J (i := vv % 40) (by omega) true with ok9 | e9
      · skip
        refine pw_call (rest := []) (pw_freeze_t hst J.wf J.zo (nI (vv % 40)) 39 true ok9.1) ⟨hx, hb, hml, hown, hts⟩ (vx_cwSW 4 hts gL_acts_L_freeze rfl rfl rfl (by decide +kernel) ⟨Nat.le_of_ble_eq_true rfl, Nat.le_of_ble_eq_true rfl⟩) hK hG hS hE.1 rfl hl.1 rfl (Nat.le_of_ble_eq_true rfl) dL_acts_144 ⟨by show _ + 1 ≤ 1400; omega, by show _ + 6 ≤ 8400; omega⟩ (fun H locs hG hS => ?_)
        refine fz_top (show _ = (fz_markw V wk (nI (vv % 40)) 39 true).1 from rfl) ?_
        refine lv_bipush (v := (-11)) hx hb dL_acts_147 (by decide) ?_
        refine lv_icmp_eq (tgt := 156) hx hb dL_acts_149 (by decide) (fun z9 => absurd z9 (ge_ne ok9.2)) (fun _ => ?_)
        refine lv_iconst (v := 1) hx hb dL_acts_152 (by decide) ?_
        refine lv_goto (tgt := 157) hx hb dL_acts_153 (by decide) ?_
        refine W.widen (k := 1400) (n := 8400) (by omega) (by omega) ?_
        obtain ⟨Wn, h9, hP, hD⟩ := hG
        exact W.zret (v := 1) hx hb hr (by decide) (fun t9 ht9 hW9 => ⟨⟨_, Wn, rfl, ⟨⟨rfl, pI_op J h2 (pO_markw J (nI (vv % 40)) 39 true) (by omega) h9⟩, hD⟩, fz_to ht9 hP⟩, hS.F ht9⟩) hS.2.2 dL_acts_157
      · skip
        refine pw_call (rest := []) (pw_freeze_IS hst J.wf J.zo (nI (vv % 40)) 39 true e9) ⟨hx, hb, hml, hown, hts⟩ (vx_cwSW 4 hts gL_acts_L_freeze rfl rfl rfl (by decide +kernel) ⟨Nat.le_of_ble_eq_true rfl, Nat.le_of_ble_eq_true rfl⟩) hK hG hS hE.1 rfl hl.1 rfl (Nat.le_of_ble_eq_true rfl) dL_acts_144 ⟨by show _ + 1 ≤ 1400; omega, by show _ + 6 ≤ 8400; omega⟩ (fun H locs hG hS => ?_)
        refine lv_bipush (v := (-11)) hx hb dL_acts_147 (by decide) ?_
        refine lv_icmp_eq (tgt := 156) hx hb dL_acts_149 (by decide) (fun z9 => absurd z9 (by decide)) (fun _ => ?_)
        refine lv_iconst (v := 1) hx hb dL_acts_152 (by decide) ?_
        refine lv_goto (tgt := 157) hx hb dL_acts_153 (by decide) ?_
        refine W.widen (k := 1400) (n := 8400) (by omega) (by omega) ?_
        obtain ⟨Wn, h9, hP, hD⟩ := hG
        exact W.zret (v := 1) hx hb hr (by decide) (fun t9 ht9 hW9 => ⟨⟨_, Wn, rfl, ⟨⟨rfl, pI_of J h2 (by omega) h9⟩, hD⟩, fz_to ht9 hP⟩, hS.F ht9⟩) hS.2.2 dL_acts_157
  · skip
    refine lv_tableIn (off := 128) (tgt := 158) hx hb dL_acts_30 (by decide) (by decide) (by decide) (by decide) ?_
    refine lv_aload_n hx hb dL_acts_158 rfl (lv_at hl 3 rfl) ?_
    refine lv_iload_n hx hb dL_acts_159 rfl (lv_at hl 2 rfl) ?_
    refine lv_iconst (v := 3) hx hb dL_acts_160 (by decide) ?_
    refine lv_iand hx hb dL_acts_161 ?_
    refine fz_top (show _ = nI (vv % 4) from nI_and3 (by omega)) ?_
    refine lv_iconst (v := 1) hx hb dL_acts_162 (by decide) ?_
    refine lv_iload_n hx hb dL_acts_163 rfl (lv_at hl 2 rfl) ?_
    refine lv_iconst (v := 4) hx hb dL_acts_164 (by decide) ?_
    refine lv_idiv hx hb dL_acts_165 (by decide) ?_
    refine fz_top (show _ = nI (vv / 4) from nI_div (b := 4) (by omega) (by omega) (by omega)) ?_
    refine lv_bipush (v := 20) hx hb dL_acts_166 (by decide) ?_
    refine lv_irem hx hb dL_acts_168 (by decide) ?_
    refine fz_top (show _ = nI (vv / 4 % 20) from nI_rem (b := 20) (by omega) (by omega) (by omega)) ?_
    refine lv_iadd hx hb dL_acts_169 ?_
    refine fz_top (show _ = nI (1 + vv / 4 % 20) from nI_add 1 _) ?_
    have ok9 := set_okn J (i := vv % 4) (b := 1 + vv / 4 % 20) (by omega) (by omega) (by omega)
    refine pw_call (rest := []) (pw_set_t hst J.wf J.zo (nI (vv % 4)) (nI (1 + vv / 4 % 20)) ok9.1) ⟨hx, hb, hml, hown, hts⟩ (vx_cwSW 3 hts gL_acts_L_set rfl rfl rfl (by decide +kernel) ⟨Nat.le_of_ble_eq_true rfl, Nat.le_of_ble_eq_true rfl⟩) hK hG hS hE.1 rfl hl.1 rfl (Nat.le_of_ble_eq_true rfl) dL_acts_170 ⟨by show _ + 1 ≤ 1400; omega, by show _ + 6 ≤ 8400; omega⟩ (fun H locs hG hS => ?_)
    refine fz_top (show _ = (fz_set V (nI (vv % 4)) (nI (1 + vv / 4 % 20))).1 from rfl) ?_
    refine lv_if_lt (tgt := 180) hx hb dL_acts_173 (by decide) (fun z9 => absurd z9 (Int32.not_lt.mpr ok9.2)) (fun _ => ?_)
    refine lv_iconst (v := 1) hx hb dL_acts_176 (by decide) ?_
    refine lv_goto (tgt := 181) hx hb dL_acts_177 (by decide) ?_
    refine W.widen (k := 1400) (n := 8400) (by omega) (by omega) ?_
    obtain ⟨Wn, h9, hP, hD⟩ := hG
    exact W.zret (v := 1) hx hb hr (by decide) (fun t9 ht9 hW9 => ⟨⟨_, Wn, rfl, ⟨⟨rfl, pI_op J h2 (pO_set J (nI (vv % 4)) (nI (1 + vv / 4 % 20))) (by omega) h9⟩, hD⟩, fz_to ht9 hP⟩, hS.F ht9⟩) hS.2.2 dL_acts_181
  · skip
    refine lv_tableIn (off := 152) (tgt := 182) hx hb dL_acts_30 (by decide) (by decide) (by decide) (by decide) ?_
    refine lv_aload_n hx hb dL_acts_182 rfl (lv_at hl 3 rfl) ?_
    refine lv_iload_n hx hb dL_acts_183 rfl (lv_at hl 1 rfl) ?_
    refine lv_iconst (v := 1) hx hb dL_acts_184 (by decide) ?_
    refine lv_iload_n hx hb dL_acts_185 rfl (lv_at hl 2 rfl) ?_
    refine lv_bipush (v := 64) hx hb dL_acts_186 (by decide) ?_
    refine lv_idiv hx hb dL_acts_188 (by decide) ?_
    refine fz_top (show _ = nI (vv / 64) from nI_div (b := 64) (by omega) (by omega) (by omega)) ?_
    refine lv_bipush (v := 9) hx hb dL_acts_189 (by decide) ?_
    refine lv_irem hx hb dL_acts_191 (by decide) ?_
    refine fz_top (show _ = nI (vv / 64 % 9) from nI_rem (b := 9) (by omega) (by omega) (by omega)) ?_
    refine lv_iadd hx hb dL_acts_192 ?_
    refine fz_top (show _ = nI (1 + vv / 64 % 9) from nI_add 1 _) ?_
    rcases tri_enter J (t := vv % nt) (r := 1 + vv / 64 % 9) hti (by omega) (by omega) with ok9 | e9
    · skip
      refine pw_call (rest := []) (pw_ask_t hst J.wf J.zo (nI (vv % nt)) (nI (1 + vv / 64 % 9)) ok9.1) ⟨hx, hb, hml, hown, hts⟩ (vx_cwSW 3 hts gL_acts_L_ask rfl rfl rfl (by decide +kernel) ⟨Nat.le_of_ble_eq_true rfl, Nat.le_of_ble_eq_true rfl⟩) hK hG hS hE.1 rfl hl.1 rfl (Nat.le_of_ble_eq_true rfl) dL_acts_193 ⟨by show _ + 1 ≤ 1400; omega, by show _ + 6 ≤ 8400; omega⟩ (fun H locs hG hS => ?_)
      refine fz_top (show _ = (fz_enter V nc nq (nI (vv % nt)) (nI (1 + vv / 64 % 9))).1 from rfl) ?_
      refine lv_bipush (v := (-11)) hx hb dL_acts_196 (by decide) ?_
      refine lv_icmp_eq (tgt := 205) hx hb dL_acts_198 (by decide) (fun z9 => absurd z9 (ge_ne ok9.2)) (fun _ => ?_)
      refine lv_iconst (v := 1) hx hb dL_acts_201 (by decide) ?_
      refine lv_goto (tgt := 206) hx hb dL_acts_202 (by decide) ?_
      refine W.widen (k := 1400) (n := 8400) (by omega) (by omega) ?_
      obtain ⟨Wn, h9, hP, hD⟩ := hG
      exact W.zret (v := 1) hx hb hr (by decide) (fun t9 ht9 hW9 => ⟨⟨_, Wn, rfl, ⟨⟨rfl, pI_op J h2 (pO_enter J (nI (vv % nt)) (nI (1 + vv / 64 % 9))) (by omega) h9⟩, hD⟩, fz_to ht9 hP⟩, hS.F ht9⟩) hS.2.2 dL_acts_206
    · skip
      refine pw_call (rest := []) (pw_ask_IS hst J.wf J.zo (nI (vv % nt)) (nI (1 + vv / 64 % 9)) e9) ⟨hx, hb, hml, hown, hts⟩ (vx_cwSW 3 hts gL_acts_L_ask rfl rfl rfl (by decide +kernel) ⟨Nat.le_of_ble_eq_true rfl, Nat.le_of_ble_eq_true rfl⟩) hK hG hS hE.1 rfl hl.1 rfl (Nat.le_of_ble_eq_true rfl) dL_acts_193 ⟨by show _ + 1 ≤ 1400; omega, by show _ + 6 ≤ 8400; omega⟩ (fun H locs hG hS => ?_)
      refine lv_bipush (v := (-11)) hx hb dL_acts_196 (by decide) ?_
      refine lv_icmp_eq (tgt := 205) hx hb dL_acts_198 (by decide) (fun z9 => absurd z9 (by decide)) (fun _ => ?_)
      refine lv_iconst (v := 1) hx hb dL_acts_201 (by decide) ?_
      refine lv_goto (tgt := 206) hx hb dL_acts_202 (by decide) ?_
      refine W.widen (k := 1400) (n := 8400) (by omega) (by omega) ?_
      obtain ⟨Wn, h9, hP, hD⟩ := hG
      exact W.zret (v := 1) hx hb hr (by decide) (fun t9 ht9 hW9 => ⟨⟨_, Wn, rfl, ⟨⟨rfl, pI_of J h2 (by omega) h9⟩, hD⟩, fz_to ht9 hP⟩, hS.F ht9⟩) hS.2.2 dL_acts_206
  · skip
    refine lv_tableIn (off := 152) (tgt := 182) hx hb dL_acts_30 (by decide) (by decide) (by decide) (by decide) ?_
    refine lv_aload_n hx hb dL_acts_182 rfl (lv_at hl 3 rfl) ?_
    refine lv_iload_n hx hb dL_acts_183 rfl (lv_at hl 1 rfl) ?_
    refine lv_iconst (v := 1) hx hb dL_acts_184 (by decide) ?_
    refine lv_iload_n hx hb dL_acts_185 rfl (lv_at hl 2 rfl) ?_
    refine lv_bipush (v := 64) hx hb dL_acts_186 (by decide) ?_
    refine lv_idiv hx hb dL_acts_188 (by decide) ?_
    refine fz_top (show _ = nI (vv / 64) from nI_div (b := 64) (by omega) (by omega) (by omega)) ?_
    refine lv_bipush (v := 9) hx hb dL_acts_189 (by decide) ?_
    refine lv_irem hx hb dL_acts_191 (by decide) ?_
    refine fz_top (show _ = nI (vv / 64 % 9) from nI_rem (b := 9) (by omega) (by omega) (by omega)) ?_
    refine lv_iadd hx hb dL_acts_192 ?_
    refine fz_top (show _ = nI (1 + vv / 64 % 9) from nI_add 1 _) ?_
    rcases tri_enter J (t := vv % nt) (r := 1 + vv / 64 % 9) hti (by omega) (by omega) with ok9 | e9
    · skip
      refine pw_call (rest := []) (pw_ask_t hst J.wf J.zo (nI (vv % nt)) (nI (1 + vv / 64 % 9)) ok9.1) ⟨hx, hb, hml, hown, hts⟩ (vx_cwSW 3 hts gL_acts_L_ask rfl rfl rfl (by decide +kernel) ⟨Nat.le_of_ble_eq_true rfl, Nat.le_of_ble_eq_true rfl⟩) hK hG hS hE.1 rfl hl.1 rfl (Nat.le_of_ble_eq_true rfl) dL_acts_193 ⟨by show _ + 1 ≤ 1400; omega, by show _ + 6 ≤ 8400; omega⟩ (fun H locs hG hS => ?_)
      refine fz_top (show _ = (fz_enter V nc nq (nI (vv % nt)) (nI (1 + vv / 64 % 9))).1 from rfl) ?_
      refine lv_bipush (v := (-11)) hx hb dL_acts_196 (by decide) ?_
      refine lv_icmp_eq (tgt := 205) hx hb dL_acts_198 (by decide) (fun z9 => absurd z9 (ge_ne ok9.2)) (fun _ => ?_)
      refine lv_iconst (v := 1) hx hb dL_acts_201 (by decide) ?_
      refine lv_goto (tgt := 206) hx hb dL_acts_202 (by decide) ?_
      refine W.widen (k := 1400) (n := 8400) (by omega) (by omega) ?_
      obtain ⟨Wn, h9, hP, hD⟩ := hG
      exact W.zret (v := 1) hx hb hr (by decide) (fun t9 ht9 hW9 => ⟨⟨_, Wn, rfl, ⟨⟨rfl, pI_op J h2 (pO_enter J (nI (vv % nt)) (nI (1 + vv / 64 % 9))) (by omega) h9⟩, hD⟩, fz_to ht9 hP⟩, hS.F ht9⟩) hS.2.2 dL_acts_206
    · skip
      refine pw_call (rest := []) (pw_ask_IS hst J.wf J.zo (nI (vv % nt)) (nI (1 + vv / 64 % 9)) e9) ⟨hx, hb, hml, hown, hts⟩ (vx_cwSW 3 hts gL_acts_L_ask rfl rfl rfl (by decide +kernel) ⟨Nat.le_of_ble_eq_true rfl, Nat.le_of_ble_eq_true rfl⟩) hK hG hS hE.1 rfl hl.1 rfl (Nat.le_of_ble_eq_true rfl) dL_acts_193 ⟨by show _ + 1 ≤ 1400; omega, by show _ + 6 ≤ 8400; omega⟩ (fun H locs hG hS => ?_)
      refine lv_bipush (v := (-11)) hx hb dL_acts_196 (by decide) ?_
      refine lv_icmp_eq (tgt := 205) hx hb dL_acts_198 (by decide) (fun z9 => absurd z9 (by decide)) (fun _ => ?_)
      refine lv_iconst (v := 1) hx hb dL_acts_201 (by decide) ?_
      refine lv_goto (tgt := 206) hx hb dL_acts_202 (by decide) ?_
      refine W.widen (k := 1400) (n := 8400) (by omega) (by omega) ?_
      obtain ⟨Wn, h9, hP, hD⟩ := hG
      exact W.zret (v := 1) hx hb hr (by decide) (fun t9 ht9 hW9 => ⟨⟨_, Wn, rfl, ⟨⟨rfl, pI_of J h2 (by omega) h9⟩, hD⟩, fz_to ht9 hP⟩, hS.F ht9⟩) hS.2.2 dL_acts_206
  · skip
    refine lv_tableIn (off := 152) (tgt := 182) hx hb dL_acts_30 (by decide) (by decide) (by decide) (by decide) ?_
    refine lv_aload_n hx hb dL_acts_182 rfl (lv_at hl 3 rfl) ?_
    refine lv_iload_n hx hb dL_acts_183 rfl (lv_at hl 1 rfl) ?_
    refine lv_iconst (v := 1) hx hb dL_acts_184 (by decide) ?_
    refine lv_iload_n hx hb dL_acts_185 rfl (lv_at hl 2 rfl) ?_
    refine lv_bipush (v := 64) hx hb dL_acts_186 (by decide) ?_
    refine lv_idiv hx hb dL_acts_188 (by decide) ?_
    refine fz_top (show _ = nI (vv / 64) from nI_div (b := 64) (by omega) (by omega) (by omega)) ?_
    refine lv_bipush (v := 9) hx hb dL_acts_189 (by decide) ?_
    refine lv_irem hx hb dL_acts_191 (by decide) ?_
    refine fz_top (show _ = nI (vv / 64 % 9) from nI_rem (b := 9) (by omega) (by omega) (by omega)) ?_
    refine lv_iadd hx hb dL_acts_192 ?_
    refine fz_top (show _ = nI (1 + vv / 64 % 9) from nI_add 1 _) ?_
    rcases tri_enter J (t := vv % nt) (r := 1 + vv / 64 % 9) hti (by omega) (by omega) with ok9 | e9
    · skip
      refine pw_call (rest := []) (pw_ask_t hst J.wf J.zo (nI (vv % nt)) (nI (1 + vv / 64 % 9)) ok9.1) ⟨hx, hb, hml, hown, hts⟩ (vx_cwSW 3 hts gL_acts_L_ask rfl rfl rfl (by decide +kernel) ⟨Nat.le_of_ble_eq_true rfl, Nat.le_of_ble_eq_true rfl⟩) hK hG hS hE.1 rfl hl.1 rfl (Nat.le_of_ble_eq_true rfl) dL_acts_193 ⟨by show _ + 1 ≤ 1400; omega, by show _ + 6 ≤ 8400; omega⟩ (fun H locs hG hS => ?_)
      refine fz_top (show _ = (fz_enter V nc nq (nI (vv % nt)) (nI (1 + vv / 64 % 9))).1 from rfl) ?_
      refine lv_bipush (v := (-11)) hx hb dL_acts_196 (by decide) ?_
      refine lv_icmp_eq (tgt := 205) hx hb dL_acts_198 (by decide) (fun z9 => absurd z9 (ge_ne ok9.2)) (fun _ => ?_)
      refine lv_iconst (v := 1) hx hb dL_acts_201 (by decide) ?_
      refine lv_goto (tgt := 206) hx hb dL_acts_202 (by decide) ?_
      refine W.widen (k := 1400) (n := 8400) (by omega) (by omega) ?_
      obtain ⟨Wn, h9, hP, hD⟩ := hG
      exact W.zret (v := 1) hx hb hr (by decide) (fun t9 ht9 hW9 => ⟨⟨_, Wn, rfl, ⟨⟨rfl, pI_op J h2 (pO_enter J (nI (vv % nt)) (nI (1 + vv / 64 % 9))) (by omega) h9⟩, hD⟩, fz_to ht9 hP⟩, hS.F ht9⟩) hS.2.2 dL_acts_206
    · skip
      refine pw_call (rest := []) (pw_ask_IS hst J.wf J.zo (nI (vv % nt)) (nI (1 + vv / 64 % 9)) e9) ⟨hx, hb, hml, hown, hts⟩ (vx_cwSW 3 hts gL_acts_L_ask rfl rfl rfl (by decide +kernel) ⟨Nat.le_of_ble_eq_true rfl, Nat.le_of_ble_eq_true rfl⟩) hK hG hS hE.1 rfl hl.1 rfl (Nat.le_of_ble_eq_true rfl) dL_acts_193 ⟨by show _ + 1 ≤ 1400; omega, by show _ + 6 ≤ 8400; omega⟩ (fun H locs hG hS => ?_)
      refine lv_bipush (v := (-11)) hx hb dL_acts_196 (by decide) ?_
      refine lv_icmp_eq (tgt := 205) hx hb dL_acts_198 (by decide) (fun z9 => absurd z9 (by decide)) (fun _ => ?_)
      refine lv_iconst (v := 1) hx hb dL_acts_201 (by decide) ?_
      refine lv_goto (tgt := 206) hx hb dL_acts_202 (by decide) ?_
      refine W.widen (k := 1400) (n := 8400) (by omega) (by omega) ?_
      obtain ⟨Wn, h9, hP, hD⟩ := hG
      exact W.zret (v := 1) hx hb hr (by decide) (fun t9 ht9 hW9 => ⟨⟨_, Wn, rfl, ⟨⟨rfl, pI_of J h2 (by omega) h9⟩, hD⟩, fz_to ht9 hP⟩, hS.F ht9⟩) hS.2.2 dL_acts_206
  · skip
    refine lv_tableIn (off := 177) (tgt := 207) hx hb dL_acts_30 (by decide) (by decide) (by decide) (by decide) ?_
    refine lv_aload_n hx hb dL_acts_207 rfl (lv_at hl 3 rfl) ?_
    refine lv_iload_n hx hb dL_acts_208 rfl (lv_at hl 1 rfl) ?_
    refine pm_call (rest := []) (m_exempts hst J (by omega) hti) ⟨hx, hb, hml, hown, hts⟩ (va_cwS 2 hts gL_acts_L_exempts rfl rfl rfl (by decide +kernel) ⟨Nat.le_of_ble_eq_true rfl, Nat.le_of_ble_eq_true rfl⟩) hK hG hS hE rfl hl.1 rfl (Nat.le_of_ble_eq_true rfl) dL_acts_209 ⟨by show _ + 1300 ≤ 1400; omega, by show _ + 7800 ≤ 8400; omega⟩ (fun r H locs hG hS => ?_)
    obtain ⟨Wn9, ⟨hr9, cm, U, J9, hw9⟩, hP9, hD9⟩ := hG
    subst hr9
    have hG : pG D A (pS cy f a t h x ad cm U L) H := ⟨Wn9, hw9, hP9, hD9⟩
    refine W.widen (k := 1400) (n := 8400) (by omega) (by omega) ?_
    obtain ⟨Wn, h9, hP, hD⟩ := hG
    exact W.zret (v := 1) hx hb hr (by decide) (fun t9 ht9 hW9 => ⟨⟨_, Wn, rfl, ⟨⟨rfl, pI_of J9 h2 (by omega) h9⟩, hD⟩, fz_to ht9 hP⟩, hS.F ht9⟩) hS.2.2 dL_acts_212
  · skip
    refine lv_tableIn (off := 183) (tgt := 213) hx hb dL_acts_30 (by decide) (by decide) (by decide) (by decide) ?_
    refine lv_aload_n hx hb dL_acts_213 rfl (lv_at hl 3 rfl) ?_
    refine lv_iload hx hb dL_acts_214 (lv_at hl 0 rfl) ?_
    refine lv_iload_n hx hb dL_acts_216 rfl (lv_at hl 2 rfl) ?_
    refine lv_sipush (v := 512) hx hb dL_acts_217 (by decide) ?_
    refine lv_idiv hx hb dL_acts_220 (by decide) ?_
    refine lv_iconst (v := 1) hx hb dL_acts_221 (by decide) ?_
    refine lv_iand hx hb dL_acts_222 ?_
    refine lv_iconst (v := 1) hx hb dL_acts_223 (by decide) ?_
    refine lv_icmp_ne (tgt := 231) hx hb dL_acts_224 (by decide) (fun c6 => ?_) (fun c6 => ?_)
    · skip
      refine lv_iconst (v := 0) hx hb dL_acts_231 (by decide) ?_
      rcases tri_make J (by omega) (nI (vv / 8 % (nc + 1))) false with ok9 | e9 | e9
      · skip
        refine pw_call (rest := []) (pw_make_t hst J.wf J.zo (nI (vv / 8 % (nc + 1))) false ok9.1) ⟨hx, hb, hml, hown, hts⟩ (vx_cwSW 3 hts gL_acts_L_make rfl rfl rfl (by decide +kernel) ⟨Nat.le_of_ble_eq_true rfl, Nat.le_of_ble_eq_true rfl⟩) hK hG hS hE.1 rfl hl.1 rfl (Nat.le_of_ble_eq_true rfl) dL_acts_232 ⟨by show _ + 1 ≤ 1400; omega, by show _ + 6 ≤ 8400; omega⟩ (fun H locs hG hS => ?_)
        refine fz_top (show _ = (fz_make V nc nq wk (nI (vv / 8 % (nc + 1))) false).1 from rfl) ?_
        refine lv_bipush (v := (-12)) hx hb dL_acts_235 (by decide) ?_
        refine lv_icmp_lt (tgt := 244) hx hb dL_acts_237 (by decide) (fun z9 => absurd z9 (ge_nlt ok9.2 (by decide))) (fun _ => ?_)
        refine lv_iconst (v := 1) hx hb dL_acts_240 (by decide) ?_
        refine lv_goto (tgt := 245) hx hb dL_acts_241 (by decide) ?_
        refine W.widen (k := 1400) (n := 8400) (by omega) (by omega) ?_
        obtain ⟨Wn, h9, hP, hD⟩ := hG
        exact W.zret (v := 1) hx hb hr (by decide) (fun t9 ht9 hW9 => ⟨⟨_, Wn, rfl, ⟨⟨rfl, pI_op J h2 (pO_make J (by omega) (nI (vv / 8 % (nc + 1))) false) (by omega) h9⟩, hD⟩, fz_to ht9 hP⟩, hS.F ht9⟩) hS.2.2 dL_acts_245
      · skip
        refine pw_call (rest := []) (pw_make_IO hst J.wf J.zo (nI (vv / 8 % (nc + 1))) false e9) ⟨hx, hb, hml, hown, hts⟩ (vx_cwSW 3 hts gL_acts_L_make rfl rfl rfl (by decide +kernel) ⟨Nat.le_of_ble_eq_true rfl, Nat.le_of_ble_eq_true rfl⟩) hK hG hS hE.1 rfl hl.1 rfl (Nat.le_of_ble_eq_true rfl) dL_acts_232 ⟨by show _ + 1 ≤ 1400; omega, by show _ + 6 ≤ 8400; omega⟩ (fun H locs hG hS => ?_)
        refine lv_bipush (v := (-12)) hx hb dL_acts_235 (by decide) ?_
        refine lv_icmp_lt (tgt := 244) hx hb dL_acts_237 (by decide) (fun z9 => absurd z9 (by decide)) (fun _ => ?_)
        refine lv_iconst (v := 1) hx hb dL_acts_240 (by decide) ?_
        refine lv_goto (tgt := 245) hx hb dL_acts_241 (by decide) ?_
        refine W.widen (k := 1400) (n := 8400) (by omega) (by omega) ?_
        obtain ⟨Wn, h9, hP, hD⟩ := hG
        exact W.zret (v := 1) hx hb hr (by decide) (fun t9 ht9 hW9 => ⟨⟨_, Wn, rfl, ⟨⟨rfl, pI_of J h2 (by omega) h9⟩, hD⟩, fz_to ht9 hP⟩, hS.F ht9⟩) hS.2.2 dL_acts_245
      · skip
        refine pw_call (rest := []) (pw_make_IS hst J.wf J.zo (nI (vv / 8 % (nc + 1))) false e9) ⟨hx, hb, hml, hown, hts⟩ (vx_cwSW 3 hts gL_acts_L_make rfl rfl rfl (by decide +kernel) ⟨Nat.le_of_ble_eq_true rfl, Nat.le_of_ble_eq_true rfl⟩) hK hG hS hE.1 rfl hl.1 rfl (Nat.le_of_ble_eq_true rfl) dL_acts_232 ⟨by show _ + 1 ≤ 1400; omega, by show _ + 6 ≤ 8400; omega⟩ (fun H locs hG hS => ?_)
        refine lv_bipush (v := (-12)) hx hb dL_acts_235 (by decide) ?_
        refine lv_icmp_lt (tgt := 244) hx hb dL_acts_237 (by decide) (fun z9 => absurd z9 (by decide)) (fun _ => ?_)
        refine lv_iconst (v := 1) hx hb dL_acts_240 (by decide) ?_
        refine lv_goto (tgt := 245) hx hb dL_acts_241 (by decide) ?_
        refine W.widen (k := 1400) (n := 8400) (by omega) (by omega) ?_
        obtain ⟨Wn, h9, hP, hD⟩ := hG
        exact W.zret (v := 1) hx hb hr (by decide) (fun t9 ht9 hW9 => ⟨⟨_, Wn, rfl, ⟨⟨rfl, pI_of J h2 (by omega) h9⟩, hD⟩, fz_to ht9 hP⟩, hS.F ht9⟩) hS.2.2 dL_acts_245
    · skip
      refine lv_iconst (v := 1) hx hb dL_acts_227 (by decide) ?_
      refine lv_goto (tgt := 232) hx hb dL_acts_228 (by decide) ?_
      rcases tri_make J (by omega) (nI (vv / 8 % (nc + 1))) true with ok9 | e9 | e9
      · skip
        refine pw_call (rest := []) (pw_make_t hst J.wf J.zo (nI (vv / 8 % (nc + 1))) true ok9.1) ⟨hx, hb, hml, hown, hts⟩ (vx_cwSW 3 hts gL_acts_L_make rfl rfl rfl (by decide +kernel) ⟨Nat.le_of_ble_eq_true rfl, Nat.le_of_ble_eq_true rfl⟩) hK hG hS hE.1 rfl hl.1 rfl (Nat.le_of_ble_eq_true rfl) dL_acts_232 ⟨by show _ + 1 ≤ 1400; omega, by show _ + 6 ≤ 8400; omega⟩ (fun H locs hG hS => ?_)
        refine fz_top (show _ = (fz_make V nc nq wk (nI (vv / 8 % (nc + 1))) true).1 from rfl) ?_
        refine lv_bipush (v := (-12)) hx hb dL_acts_235 (by decide) ?_
        refine lv_icmp_lt (tgt := 244) hx hb dL_acts_237 (by decide) (fun z9 => absurd z9 (ge_nlt ok9.2 (by decide))) (fun _ => ?_)
        refine lv_iconst (v := 1) hx hb dL_acts_240 (by decide) ?_
        refine lv_goto (tgt := 245) hx hb dL_acts_241 (by decide) ?_
        refine W.widen (k := 1400) (n := 8400) (by omega) (by omega) ?_
        obtain ⟨Wn, h9, hP, hD⟩ := hG
        exact W.zret (v := 1) hx hb hr (by decide) (fun t9 ht9 hW9 => ⟨⟨_, Wn, rfl, ⟨⟨rfl, pI_op J h2 (pO_make J (by omega) (nI (vv / 8 % (nc + 1))) true) (by omega) h9⟩, hD⟩, fz_to ht9 hP⟩, hS.F ht9⟩) hS.2.2 dL_acts_245
      · skip
        refine pw_call (rest := []) (pw_make_IO hst J.wf J.zo (nI (vv / 8 % (nc + 1))) true e9) ⟨hx, hb, hml, hown, hts⟩ (vx_cwSW 3 hts gL_acts_L_make rfl rfl rfl (by decide +kernel) ⟨Nat.le_of_ble_eq_true rfl, Nat.le_of_ble_eq_true rfl⟩) hK hG hS hE.1 rfl hl.1 rfl (Nat.le_of_ble_eq_true rfl) dL_acts_232 ⟨by show _ + 1 ≤ 1400; omega, by show _ + 6 ≤ 8400; omega⟩ (fun H locs hG hS => ?_)
        refine lv_bipush (v := (-12)) hx hb dL_acts_235 (by decide) ?_
        refine lv_icmp_lt (tgt := 244) hx hb dL_acts_237 (by decide) (fun z9 => absurd z9 (by decide)) (fun _ => ?_)
        refine lv_iconst (v := 1) hx hb dL_acts_240 (by decide) ?_
        refine lv_goto (tgt := 245) hx hb dL_acts_241 (by decide) ?_
        refine W.widen (k := 1400) (n := 8400) (by omega) (by omega) ?_
        obtain ⟨Wn, h9, hP, hD⟩ := hG
        exact W.zret (v := 1) hx hb hr (by decide) (fun t9 ht9 hW9 => ⟨⟨_, Wn, rfl, ⟨⟨rfl, pI_of J h2 (by omega) h9⟩, hD⟩, fz_to ht9 hP⟩, hS.F ht9⟩) hS.2.2 dL_acts_245
      · skip
        refine pw_call (rest := []) (pw_make_IS hst J.wf J.zo (nI (vv / 8 % (nc + 1))) true e9) ⟨hx, hb, hml, hown, hts⟩ (vx_cwSW 3 hts gL_acts_L_make rfl rfl rfl (by decide +kernel) ⟨Nat.le_of_ble_eq_true rfl, Nat.le_of_ble_eq_true rfl⟩) hK hG hS hE.1 rfl hl.1 rfl (Nat.le_of_ble_eq_true rfl) dL_acts_232 ⟨by show _ + 1 ≤ 1400; omega, by show _ + 6 ≤ 8400; omega⟩ (fun H locs hG hS => ?_)
        refine lv_bipush (v := (-12)) hx hb dL_acts_235 (by decide) ?_
        refine lv_icmp_lt (tgt := 244) hx hb dL_acts_237 (by decide) (fun z9 => absurd z9 (by decide)) (fun _ => ?_)
        refine lv_iconst (v := 1) hx hb dL_acts_240 (by decide) ?_
        refine lv_goto (tgt := 245) hx hb dL_acts_241 (by decide) ?_
        refine W.widen (k := 1400) (n := 8400) (by omega) (by omega) ?_
        obtain ⟨Wn, h9, hP, hD⟩ := hG
        exact W.zret (v := 1) hx hb hr (by decide) (fun t9 ht9 hW9 => ⟨⟨_, Wn, rfl, ⟨⟨rfl, pI_of J h2 (by omega) h9⟩, hD⟩, fz_to ht9 hP⟩, hS.F ht9⟩) hS.2.2 dL_acts_245
  · skip
    refine lv_tableIn (off := 183) (tgt := 213) hx hb dL_acts_30 (by decide) (by decide) (by decide) (by decide) ?_
    refine lv_aload_n hx hb dL_acts_213 rfl (lv_at hl 3 rfl) ?_
    refine lv_iload hx hb dL_acts_214 (lv_at hl 0 rfl) ?_
    refine lv_iload_n hx hb dL_acts_216 rfl (lv_at hl 2 rfl) ?_
    refine lv_sipush (v := 512) hx hb dL_acts_217 (by decide) ?_
    refine lv_idiv hx hb dL_acts_220 (by decide) ?_
    refine lv_iconst (v := 1) hx hb dL_acts_221 (by decide) ?_
    refine lv_iand hx hb dL_acts_222 ?_
    refine lv_iconst (v := 1) hx hb dL_acts_223 (by decide) ?_
    refine lv_icmp_ne (tgt := 231) hx hb dL_acts_224 (by decide) (fun c6 => ?_) (fun c6 => ?_)
    · skip
      refine lv_iconst (v := 0) hx hb dL_acts_231 (by decide) ?_
      rcases tri_make J (by omega) (nI (vv / 8 % (nc + 1))) false with ok9 | e9 | e9
      · skip
        refine pw_call (rest := []) (pw_make_t hst J.wf J.zo (nI (vv / 8 % (nc + 1))) false ok9.1) ⟨hx, hb, hml, hown, hts⟩ (vx_cwSW 3 hts gL_acts_L_make rfl rfl rfl (by decide +kernel) ⟨Nat.le_of_ble_eq_true rfl, Nat.le_of_ble_eq_true rfl⟩) hK hG hS hE.1 rfl hl.1 rfl (Nat.le_of_ble_eq_true rfl) dL_acts_232 ⟨by show _ + 1 ≤ 1400; omega, by show _ + 6 ≤ 8400; omega⟩ (fun H locs hG hS => ?_)
        refine fz_top (show _ = (fz_make V nc nq wk (nI (vv / 8 % (nc + 1))) false).1 from rfl) ?_
        refine lv_bipush (v := (-12)) hx hb dL_acts_235 (by decide) ?_
        refine lv_icmp_lt (tgt := 244) hx hb dL_acts_237 (by decide) (fun z9 => absurd z9 (ge_nlt ok9.2 (by decide))) (fun _ => ?_)
        refine lv_iconst (v := 1) hx hb dL_acts_240 (by decide) ?_
        refine lv_goto (tgt := 245) hx hb dL_acts_241 (by decide) ?_
        refine W.widen (k := 1400) (n := 8400) (by omega) (by omega) ?_
        obtain ⟨Wn, h9, hP, hD⟩ := hG
        exact W.zret (v := 1) hx hb hr (by decide) (fun t9 ht9 hW9 => ⟨⟨_, Wn, rfl, ⟨⟨rfl, pI_op J h2 (pO_make J (by omega) (nI (vv / 8 % (nc + 1))) false) (by omega) h9⟩, hD⟩, fz_to ht9 hP⟩, hS.F ht9⟩) hS.2.2 dL_acts_245
      · skip
        refine pw_call (rest := []) (pw_make_IO hst J.wf J.zo (nI (vv / 8 % (nc + 1))) false e9) ⟨hx, hb, hml, hown, hts⟩ (vx_cwSW 3 hts gL_acts_L_make rfl rfl rfl (by decide +kernel) ⟨Nat.le_of_ble_eq_true rfl, Nat.le_of_ble_eq_true rfl⟩) hK hG hS hE.1 rfl hl.1 rfl (Nat.le_of_ble_eq_true rfl) dL_acts_232 ⟨by show _ + 1 ≤ 1400; omega, by show _ + 6 ≤ 8400; omega⟩ (fun H locs hG hS => ?_)
        refine lv_bipush (v := (-12)) hx hb dL_acts_235 (by decide) ?_
        refine lv_icmp_lt (tgt := 244) hx hb dL_acts_237 (by decide) (fun z9 => absurd z9 (by decide)) (fun _ => ?_)
        refine lv_iconst (v := 1) hx hb dL_acts_240 (by decide) ?_
        refine lv_goto (tgt := 245) hx hb dL_acts_241 (by decide) ?_
        refine W.widen (k := 1400) (n := 8400) (by omega) (by omega) ?_
        obtain ⟨Wn, h9, hP, hD⟩ := hG
        exact W.zret (v := 1) hx hb hr (by decide) (fun t9 ht9 hW9 => ⟨⟨_, Wn, rfl, ⟨⟨rfl, pI_of J h2 (by omega) h9⟩, hD⟩, fz_to ht9 hP⟩, hS.F ht9⟩) hS.2.2 dL_acts_245
      · skip
        refine pw_call (rest := []) (pw_make_IS hst J.wf J.zo (nI (vv / 8 % (nc + 1))) false e9) ⟨hx, hb, hml, hown, hts⟩ (vx_cwSW 3 hts gL_acts_L_make rfl rfl rfl (by decide +kernel) ⟨Nat.le_of_ble_eq_true rfl, Nat.le_of_ble_eq_true rfl⟩) hK hG hS hE.1 rfl hl.1 rfl (Nat.le_of_ble_eq_true rfl) dL_acts_232 ⟨by show _ + 1 ≤ 1400; omega, by show _ + 6 ≤ 8400; omega⟩ (fun H locs hG hS => ?_)
        refine lv_bipush (v := (-12)) hx hb dL_acts_235 (by decide) ?_
        refine lv_icmp_lt (tgt := 244) hx hb dL_acts_237 (by decide) (fun z9 => absurd z9 (by decide)) (fun _ => ?_)
        refine lv_iconst (v := 1) hx hb dL_acts_240 (by decide) ?_
        refine lv_goto (tgt := 245) hx hb dL_acts_241 (by decide) ?_
        refine W.widen (k := 1400) (n := 8400) (by omega) (by omega) ?_
        obtain ⟨Wn, h9, hP, hD⟩ := hG
        exact W.zret (v := 1) hx hb hr (by decide) (fun t9 ht9 hW9 => ⟨⟨_, Wn, rfl, ⟨⟨rfl, pI_of J h2 (by omega) h9⟩, hD⟩, fz_to ht9 hP⟩, hS.F ht9⟩) hS.2.2 dL_acts_245
    · skip
      refine lv_iconst (v := 1) hx hb dL_acts_227 (by decide) ?_
      refine lv_goto (tgt := 232) hx hb dL_acts_228 (by decide) ?_
      rcases tri_make J (by omega) (nI (vv / 8 % (nc + 1))) true with ok9 | e9 | e9
      · skip
        refine pw_call (rest := []) (pw_make_t hst J.wf J.zo (nI (vv / 8 % (nc + 1))) true ok9.1) ⟨hx, hb, hml, hown, hts⟩ (vx_cwSW 3 hts gL_acts_L_make rfl rfl rfl (by decide +kernel) ⟨Nat.le_of_ble_eq_true rfl, Nat.le_of_ble_eq_true rfl⟩) hK hG hS hE.1 rfl hl.1 rfl (Nat.le_of_ble_eq_true rfl) dL_acts_232 ⟨by show _ + 1 ≤ 1400; omega, by show _ + 6 ≤ 8400; omega⟩ (fun H locs hG hS => ?_)
        refine fz_top (show _ = (fz_make V nc nq wk (nI (vv / 8 % (nc + 1))) true).1 from rfl) ?_
        refine lv_bipush (v := (-12)) hx hb dL_acts_235 (by decide) ?_
        refine lv_icmp_lt (tgt := 244) hx hb dL_acts_237 (by decide) (fun z9 => absurd z9 (ge_nlt ok9.2 (by decide))) (fun _ => ?_)
        refine lv_iconst (v := 1) hx hb dL_acts_240 (by decide) ?_
        refine lv_goto (tgt := 245) hx hb dL_acts_241 (by decide) ?_
        refine W.widen (k := 1400) (n := 8400) (by omega) (by omega) ?_
        obtain ⟨Wn, h9, hP, hD⟩ := hG
        exact W.zret (v := 1) hx hb hr (by decide) (fun t9 ht9 hW9 => ⟨⟨_, Wn, rfl, ⟨⟨rfl, pI_op J h2 (pO_make J (by omega) (nI (vv / 8 % (nc + 1))) true) (by omega) h9⟩, hD⟩, fz_to ht9 hP⟩, hS.F ht9⟩) hS.2.2 dL_acts_245
      · skip
        refine pw_call (rest := []) (pw_make_IO hst J.wf J.zo (nI (vv / 8 % (nc + 1))) true e9) ⟨hx, hb, hml, hown, hts⟩ (vx_cwSW 3 hts gL_acts_L_make rfl rfl rfl (by decide +kernel) ⟨Nat.le_of_ble_eq_true rfl, Nat.le_of_ble_eq_true rfl⟩) hK hG hS hE.1 rfl hl.1 rfl (Nat.le_of_ble_eq_true rfl) dL_acts_232 ⟨by show _ + 1 ≤ 1400; omega, by show _ + 6 ≤ 8400; omega⟩ (fun H locs hG hS => ?_)
        refine lv_bipush (v := (-12)) hx hb dL_acts_235 (by decide) ?_
        refine lv_icmp_lt (tgt := 244) hx hb dL_acts_237 (by decide) (fun z9 => absurd z9 (by decide)) (fun _ => ?_)
        refine lv_iconst (v := 1) hx hb dL_acts_240 (by decide) ?_
        refine lv_goto (tgt := 245) hx hb dL_acts_241 (by decide) ?_
        refine W.widen (k := 1400) (n := 8400) (by omega) (by omega) ?_
        obtain ⟨Wn, h9, hP, hD⟩ := hG
        exact W.zret (v := 1) hx hb hr (by decide) (fun t9 ht9 hW9 => ⟨⟨_, Wn, rfl, ⟨⟨rfl, pI_of J h2 (by omega) h9⟩, hD⟩, fz_to ht9 hP⟩, hS.F ht9⟩) hS.2.2 dL_acts_245
      · skip
        refine pw_call (rest := []) (pw_make_IS hst J.wf J.zo (nI (vv / 8 % (nc + 1))) true e9) ⟨hx, hb, hml, hown, hts⟩ (vx_cwSW 3 hts gL_acts_L_make rfl rfl rfl (by decide +kernel) ⟨Nat.le_of_ble_eq_true rfl, Nat.le_of_ble_eq_true rfl⟩) hK hG hS hE.1 rfl hl.1 rfl (Nat.le_of_ble_eq_true rfl) dL_acts_232 ⟨by show _ + 1 ≤ 1400; omega, by show _ + 6 ≤ 8400; omega⟩ (fun H locs hG hS => ?_)
        refine lv_bipush (v := (-12)) hx hb dL_acts_235 (by decide) ?_
        refine lv_icmp_lt (tgt := 244) hx hb dL_acts_237 (by decide) (fun z9 => absurd z9 (by decide)) (fun _ => ?_)
        refine lv_iconst (v := 1) hx hb dL_acts_240 (by decide) ?_
        refine lv_goto (tgt := 245) hx hb dL_acts_241 (by decide) ?_
        refine W.widen (k := 1400) (n := 8400) (by omega) (by omega) ?_
        obtain ⟨Wn, h9, hP, hD⟩ := hG
        exact W.zret (v := 1) hx hb hr (by decide) (fun t9 ht9 hW9 => ⟨⟨_, Wn, rfl, ⟨⟨rfl, pI_of J h2 (by omega) h9⟩, hD⟩, fz_to ht9 hP⟩, hS.F ht9⟩) hS.2.2 dL_acts_245
  · skip
    refine lv_tableIn (off := 216) (tgt := 246) hx hb dL_acts_30 (by decide) (by decide) (by decide) (by decide) ?_
    refine lv_aload_n hx hb dL_acts_246 rfl (lv_at hl 3 rfl) ?_
    refine lv_iload hx hb dL_acts_247 (lv_at hl 0 rfl) ?_
    rcases tri_drop J (by omega) (nI (vv / 8 % (nc + 1))) with ok9 | e9 | e9
    · skip
      refine pw_call (rest := []) (pw_giveUp_t hst J.wf J.zo (nI (vv / 8 % (nc + 1))) ok9.1) ⟨hx, hb, hml, hown, hts⟩ (vx_cwSW 2 hts gL_acts_L_giveUp rfl rfl rfl (by decide +kernel) ⟨Nat.le_of_ble_eq_true rfl, Nat.le_of_ble_eq_true rfl⟩) hK hG hS hE.1 rfl hl.1 rfl (Nat.le_of_ble_eq_true rfl) dL_acts_249 ⟨by show _ + 1 ≤ 1400; omega, by show _ + 6 ≤ 8400; omega⟩ (fun H locs hG hS => ?_)
      refine fz_top (show _ = (fz_drop V nc nq (nI (vv / 8 % (nc + 1)))).1 from rfl) ?_
      refine lv_bipush (v := (-12)) hx hb dL_acts_252 (by decide) ?_
      refine lv_icmp_lt (tgt := 261) hx hb dL_acts_254 (by decide) (fun z9 => absurd z9 (ge_nlt ok9.2 (by decide))) (fun _ => ?_)
      refine lv_iconst (v := 1) hx hb dL_acts_257 (by decide) ?_
      refine lv_goto (tgt := 262) hx hb dL_acts_258 (by decide) ?_
      refine W.widen (k := 1400) (n := 8400) (by omega) (by omega) ?_
      obtain ⟨Wn, h9, hP, hD⟩ := hG
      exact W.zret (v := 1) hx hb hr (by decide) (fun t9 ht9 hW9 => ⟨⟨_, Wn, rfl, ⟨⟨rfl, pI_op J h2 (pO_drop J (by omega) (nI (vv / 8 % (nc + 1)))) (by omega) h9⟩, hD⟩, fz_to ht9 hP⟩, hS.F ht9⟩) hS.2.2 dL_acts_262
    · skip
      refine pw_call (rest := []) (pw_giveUp_IO hst J.wf J.zo (nI (vv / 8 % (nc + 1))) e9) ⟨hx, hb, hml, hown, hts⟩ (vx_cwSW 2 hts gL_acts_L_giveUp rfl rfl rfl (by decide +kernel) ⟨Nat.le_of_ble_eq_true rfl, Nat.le_of_ble_eq_true rfl⟩) hK hG hS hE.1 rfl hl.1 rfl (Nat.le_of_ble_eq_true rfl) dL_acts_249 ⟨by show _ + 1 ≤ 1400; omega, by show _ + 6 ≤ 8400; omega⟩ (fun H locs hG hS => ?_)
      refine lv_bipush (v := (-12)) hx hb dL_acts_252 (by decide) ?_
      refine lv_icmp_lt (tgt := 261) hx hb dL_acts_254 (by decide) (fun z9 => absurd z9 (by decide)) (fun _ => ?_)
      refine lv_iconst (v := 1) hx hb dL_acts_257 (by decide) ?_
      refine lv_goto (tgt := 262) hx hb dL_acts_258 (by decide) ?_
      refine W.widen (k := 1400) (n := 8400) (by omega) (by omega) ?_
      obtain ⟨Wn, h9, hP, hD⟩ := hG
      exact W.zret (v := 1) hx hb hr (by decide) (fun t9 ht9 hW9 => ⟨⟨_, Wn, rfl, ⟨⟨rfl, pI_of J h2 (by omega) h9⟩, hD⟩, fz_to ht9 hP⟩, hS.F ht9⟩) hS.2.2 dL_acts_262
    · skip
      refine pw_call (rest := []) (pw_giveUp_IS hst J.wf J.zo (nI (vv / 8 % (nc + 1))) e9) ⟨hx, hb, hml, hown, hts⟩ (vx_cwSW 2 hts gL_acts_L_giveUp rfl rfl rfl (by decide +kernel) ⟨Nat.le_of_ble_eq_true rfl, Nat.le_of_ble_eq_true rfl⟩) hK hG hS hE.1 rfl hl.1 rfl (Nat.le_of_ble_eq_true rfl) dL_acts_249 ⟨by show _ + 1 ≤ 1400; omega, by show _ + 6 ≤ 8400; omega⟩ (fun H locs hG hS => ?_)
      refine lv_bipush (v := (-12)) hx hb dL_acts_252 (by decide) ?_
      refine lv_icmp_lt (tgt := 261) hx hb dL_acts_254 (by decide) (fun z9 => absurd z9 (by decide)) (fun _ => ?_)
      refine lv_iconst (v := 1) hx hb dL_acts_257 (by decide) ?_
      refine lv_goto (tgt := 262) hx hb dL_acts_258 (by decide) ?_
      refine W.widen (k := 1400) (n := 8400) (by omega) (by omega) ?_
      obtain ⟨Wn, h9, hP, hD⟩ := hG
      exact W.zret (v := 1) hx hb hr (by decide) (fun t9 ht9 hW9 => ⟨⟨_, Wn, rfl, ⟨⟨rfl, pI_of J h2 (by omega) h9⟩, hD⟩, fz_to ht9 hP⟩, hS.F ht9⟩) hS.2.2 dL_acts_262
  · skip
    refine lv_tableIn (off := 233) (tgt := 263) hx hb dL_acts_30 (by decide) (by decide) (by decide) (by decide) ?_
    refine lv_aload_n hx hb dL_acts_263 rfl (lv_at hl 3 rfl) ?_
    refine lv_iload_n hx hb dL_acts_264 rfl (lv_at hl 1 rfl) ?_
    refine lv_iload_n hx hb dL_acts_265 rfl (lv_at hl 1 rfl) ?_
    refine lv_iconst (v := 1) hx hb dL_acts_266 (by decide) ?_
    refine lv_iadd hx hb dL_acts_267 ?_
    refine lv_aload_n hx hb dL_acts_268 rfl (lv_at hl 3 rfl) ?_
    refine lv_iconst (v := 0) hx hb dL_acts_269 (by decide) ?_
    refine pw_call (rest := [.int ((nI (vv % nt)) + 1), .int (nI (vv % nt)), .ref (f 0)]) (pt_whole hst J 0 (by decide)) ⟨hx, hb, hml, hown, hts⟩ (vx_cwSW 2 hts gL_acts_L_whole rfl rfl rfl (by decide +kernel) ⟨Nat.le_of_ble_eq_true rfl, Nat.le_of_ble_eq_true rfl⟩) hK hG hS hE.1 rfl hl.1 rfl (Nat.le_of_ble_eq_true rfl) dL_acts_270 ⟨by show _ + 1 ≤ 1400; omega, by show _ + 6 ≤ 8400; omega⟩ (fun H locs hG hS => ?_)
    refine fz_top (show _ = nI nt from J.e3) ?_
    refine lv_irem hx hb dL_acts_273 (fun z => absurd ((nI_eq (a := nt) (b := 0) (by omega) (by decide)).mp z) (by omega)) ?_
    refine lv_iconst (v := 1) hx hb dL_acts_274 (by decide) ?_
    refine lv_iload_n hx hb dL_acts_275 rfl (lv_at hl 2 rfl) ?_
    refine lv_bipush (v := 64) hx hb dL_acts_276 (by decide) ?_
    refine lv_idiv hx hb dL_acts_278 (by decide) ?_
    refine lv_bipush (v := 30) hx hb dL_acts_279 (by decide) ?_
    refine lv_irem hx hb dL_acts_281 (by decide) ?_
    refine lv_iadd hx hb dL_acts_282 ?_
    refine lv_aload_n hx hb dL_acts_283 rfl (lv_at hl 3 rfl) ?_
    refine lv_bipush (v := 8) hx hb dL_acts_284 (by decide) ?_
    refine pw_call (rest := [.int (1 + (((nI vv) / 64) - ((nI vv) / 64) / 30 * 30)), .int (((nI (vv % nt)) + 1) - ((nI (vv % nt)) + 1) / (nI nt) * (nI nt)), .int (nI (vv % nt)), .ref (f 0)]) (pt_whole hst J 8 (by decide)) ⟨hx, hb, hml, hown, hts⟩ (vx_cwSW 2 hts gL_acts_L_whole rfl rfl rfl (by decide +kernel) ⟨Nat.le_of_ble_eq_true rfl, Nat.le_of_ble_eq_true rfl⟩) hK hG hS hE.1 rfl hl.1 rfl (Nat.le_of_ble_eq_true rfl) dL_acts_286 ⟨by show _ + 1 ≤ 1400; omega, by show _ + 6 ≤ 8400; omega⟩ (fun H locs hG hS => ?_)
    refine fz_top (show _ = nI wk from J.e0) ?_
    refine lv_iload_n hx hb dL_acts_289 rfl (lv_at hl 2 rfl) ?_
    refine lv_sipush (v := 2048) hx hb dL_acts_290 (by decide) ?_
    refine lv_idiv hx hb dL_acts_293 (by decide) ?_
    refine lv_iconst (v := 3) hx hb dL_acts_294 (by decide) ?_
    refine lv_irem hx hb dL_acts_295 (by decide) ?_
    refine lv_iadd hx hb dL_acts_296 ?_
    refine lv_bipush (v := 40) hx hb dL_acts_297 (by decide) ?_
    refine lv_irem hx hb dL_acts_299 (by decide) ?_
    rcases pO_tri (pO_lend J (by omega) (nI (vv % nt)) (((nI (vv % nt)) + 1) - ((nI (vv % nt)) + 1) / (nI nt) * (nI nt)) (1 + (((nI vv) / 64) - ((nI vv) / 64) / 30 * 30)) (((nI wk) + (((nI vv) / 2048) - ((nI vv) / 2048) / 3 * 3)) - ((nI wk) + (((nI vv) / 2048) - ((nI vv) / 2048) / 3 * 3)) / 40 * 40)) with ok9 | e9 | e9 | e9
    · skip
      refine pw_call (rest := []) (pw_lend_t hst J.wf J.zo (nI (vv % nt)) (((nI (vv % nt)) + 1) - ((nI (vv % nt)) + 1) / (nI nt) * (nI nt)) (1 + (((nI vv) / 64) - ((nI vv) / 64) / 30 * 30)) (((nI wk) + (((nI vv) / 2048) - ((nI vv) / 2048) / 3 * 3)) - ((nI wk) + (((nI vv) / 2048) - ((nI vv) / 2048) / 3 * 3)) / 40 * 40) ok9.1) ⟨hx, hb, hml, hown, hts⟩ (vx_cwSW 5 hts gL_acts_L_lend rfl rfl rfl (by decide +kernel) ⟨Nat.le_of_ble_eq_true rfl, Nat.le_of_ble_eq_true rfl⟩) hK hG hS hE.1 rfl hl.1 rfl (Nat.le_of_ble_eq_true rfl) dL_acts_300 ⟨by show _ + 1 ≤ 1400; omega, by show _ + 6 ≤ 8400; omega⟩ (fun H locs hG hS => ?_)
      refine fz_top (show _ = (fz_lend V nt nl (nI (vv % nt)) (((nI (vv % nt)) + 1) - ((nI (vv % nt)) + 1) / (nI nt) * (nI nt)) (1 + (((nI vv) / 64) - ((nI vv) / 64) / 30 * 30)) (((nI wk) + (((nI vv) / 2048) - ((nI vv) / 2048) / 3 * 3)) - ((nI wk) + (((nI vv) / 2048) - ((nI vv) / 2048) / 3 * 3)) / 40 * 40)).1 from rfl) ?_
      refine lv_bipush (v := (-13)) hx hb dL_acts_303 (by decide) ?_
      refine lv_icmp_lt (tgt := 312) hx hb dL_acts_305 (by decide) (fun z9 => absurd z9 (ge_nlt ok9.2 (by decide))) (fun _ => ?_)
      refine lv_iconst (v := 1) hx hb dL_acts_308 (by decide) ?_
      refine lv_goto (tgt := 313) hx hb dL_acts_309 (by decide) ?_
      refine W.widen (k := 1400) (n := 8400) (by omega) (by omega) ?_
      obtain ⟨Wn, h9, hP, hD⟩ := hG
      exact W.zret (v := 1) hx hb hr (by decide) (fun t9 ht9 hW9 => ⟨⟨_, Wn, rfl, ⟨⟨rfl, pI_op J h2 (pO_lend J (by omega) (nI (vv % nt)) (((nI (vv % nt)) + 1) - ((nI (vv % nt)) + 1) / (nI nt) * (nI nt)) (1 + (((nI vv) / 64) - ((nI vv) / 64) / 30 * 30)) (((nI wk) + (((nI vv) / 2048) - ((nI vv) / 2048) / 3 * 3)) - ((nI wk) + (((nI vv) / 2048) - ((nI vv) / 2048) / 3 * 3)) / 40 * 40)) (by omega) h9⟩, hD⟩, fz_to ht9 hP⟩, hS.F ht9⟩) hS.2.2 dL_acts_313
    · skip
      refine pw_call (rest := []) (pw_lend_IO hst J.wf J.zo (nI (vv % nt)) (((nI (vv % nt)) + 1) - ((nI (vv % nt)) + 1) / (nI nt) * (nI nt)) (1 + (((nI vv) / 64) - ((nI vv) / 64) / 30 * 30)) (((nI wk) + (((nI vv) / 2048) - ((nI vv) / 2048) / 3 * 3)) - ((nI wk) + (((nI vv) / 2048) - ((nI vv) / 2048) / 3 * 3)) / 40 * 40) e9) ⟨hx, hb, hml, hown, hts⟩ (vx_cwSW 5 hts gL_acts_L_lend rfl rfl rfl (by decide +kernel) ⟨Nat.le_of_ble_eq_true rfl, Nat.le_of_ble_eq_true rfl⟩) hK hG hS hE.1 rfl hl.1 rfl (Nat.le_of_ble_eq_true rfl) dL_acts_300 ⟨by show _ + 1 ≤ 1400; omega, by show _ + 6 ≤ 8400; omega⟩ (fun H locs hG hS => ?_)
      refine lv_bipush (v := (-13)) hx hb dL_acts_303 (by decide) ?_
      refine lv_icmp_lt (tgt := 312) hx hb dL_acts_305 (by decide) (fun z9 => absurd z9 (by decide)) (fun _ => ?_)
      refine lv_iconst (v := 1) hx hb dL_acts_308 (by decide) ?_
      refine lv_goto (tgt := 313) hx hb dL_acts_309 (by decide) ?_
      refine W.widen (k := 1400) (n := 8400) (by omega) (by omega) ?_
      obtain ⟨Wn, h9, hP, hD⟩ := hG
      exact W.zret (v := 1) hx hb hr (by decide) (fun t9 ht9 hW9 => ⟨⟨_, Wn, rfl, ⟨⟨rfl, pI_of J h2 (by omega) h9⟩, hD⟩, fz_to ht9 hP⟩, hS.F ht9⟩) hS.2.2 dL_acts_313
    · skip
      refine pw_call (rest := []) (pw_lend_IA hst J.wf J.zo (nI (vv % nt)) (((nI (vv % nt)) + 1) - ((nI (vv % nt)) + 1) / (nI nt) * (nI nt)) (1 + (((nI vv) / 64) - ((nI vv) / 64) / 30 * 30)) (((nI wk) + (((nI vv) / 2048) - ((nI vv) / 2048) / 3 * 3)) - ((nI wk) + (((nI vv) / 2048) - ((nI vv) / 2048) / 3 * 3)) / 40 * 40) e9) ⟨hx, hb, hml, hown, hts⟩ (vx_cwSW 5 hts gL_acts_L_lend rfl rfl rfl (by decide +kernel) ⟨Nat.le_of_ble_eq_true rfl, Nat.le_of_ble_eq_true rfl⟩) hK hG hS hE.1 rfl hl.1 rfl (Nat.le_of_ble_eq_true rfl) dL_acts_300 ⟨by show _ + 1 ≤ 1400; omega, by show _ + 6 ≤ 8400; omega⟩ (fun H locs hG hS => ?_)
      refine lv_bipush (v := (-13)) hx hb dL_acts_303 (by decide) ?_
      refine lv_icmp_lt (tgt := 312) hx hb dL_acts_305 (by decide) (fun z9 => absurd z9 (by decide)) (fun _ => ?_)
      refine lv_iconst (v := 1) hx hb dL_acts_308 (by decide) ?_
      refine lv_goto (tgt := 313) hx hb dL_acts_309 (by decide) ?_
      refine W.widen (k := 1400) (n := 8400) (by omega) (by omega) ?_
      obtain ⟨Wn, h9, hP, hD⟩ := hG
      exact W.zret (v := 1) hx hb hr (by decide) (fun t9 ht9 hW9 => ⟨⟨_, Wn, rfl, ⟨⟨rfl, pI_of J h2 (by omega) h9⟩, hD⟩, fz_to ht9 hP⟩, hS.F ht9⟩) hS.2.2 dL_acts_313
    · skip
      refine pw_call (rest := []) (pw_lend_IS hst J.wf J.zo (nI (vv % nt)) (((nI (vv % nt)) + 1) - ((nI (vv % nt)) + 1) / (nI nt) * (nI nt)) (1 + (((nI vv) / 64) - ((nI vv) / 64) / 30 * 30)) (((nI wk) + (((nI vv) / 2048) - ((nI vv) / 2048) / 3 * 3)) - ((nI wk) + (((nI vv) / 2048) - ((nI vv) / 2048) / 3 * 3)) / 40 * 40) e9) ⟨hx, hb, hml, hown, hts⟩ (vx_cwSW 5 hts gL_acts_L_lend rfl rfl rfl (by decide +kernel) ⟨Nat.le_of_ble_eq_true rfl, Nat.le_of_ble_eq_true rfl⟩) hK hG hS hE.1 rfl hl.1 rfl (Nat.le_of_ble_eq_true rfl) dL_acts_300 ⟨by show _ + 1 ≤ 1400; omega, by show _ + 6 ≤ 8400; omega⟩ (fun H locs hG hS => ?_)
      refine lv_bipush (v := (-13)) hx hb dL_acts_303 (by decide) ?_
      refine lv_icmp_lt (tgt := 312) hx hb dL_acts_305 (by decide) (fun z9 => absurd z9 (by decide)) (fun _ => ?_)
      refine lv_iconst (v := 1) hx hb dL_acts_308 (by decide) ?_
      refine lv_goto (tgt := 313) hx hb dL_acts_309 (by decide) ?_
      refine W.widen (k := 1400) (n := 8400) (by omega) (by omega) ?_
      obtain ⟨Wn, h9, hP, hD⟩ := hG
      exact W.zret (v := 1) hx hb hr (by decide) (fun t9 ht9 hW9 => ⟨⟨_, Wn, rfl, ⟨⟨rfl, pI_of J h2 (by omega) h9⟩, hD⟩, fz_to ht9 hP⟩, hS.F ht9⟩) hS.2.2 dL_acts_313
  · skip
    refine lv_tableIn (off := 233) (tgt := 263) hx hb dL_acts_30 (by decide) (by decide) (by decide) (by decide) ?_
    refine lv_aload_n hx hb dL_acts_263 rfl (lv_at hl 3 rfl) ?_
    refine lv_iload_n hx hb dL_acts_264 rfl (lv_at hl 1 rfl) ?_
    refine lv_iload_n hx hb dL_acts_265 rfl (lv_at hl 1 rfl) ?_
    refine lv_iconst (v := 1) hx hb dL_acts_266 (by decide) ?_
    refine lv_iadd hx hb dL_acts_267 ?_
    refine lv_aload_n hx hb dL_acts_268 rfl (lv_at hl 3 rfl) ?_
    refine lv_iconst (v := 0) hx hb dL_acts_269 (by decide) ?_
    refine pw_call (rest := [.int ((nI (vv % nt)) + 1), .int (nI (vv % nt)), .ref (f 0)]) (pt_whole hst J 0 (by decide)) ⟨hx, hb, hml, hown, hts⟩ (vx_cwSW 2 hts gL_acts_L_whole rfl rfl rfl (by decide +kernel) ⟨Nat.le_of_ble_eq_true rfl, Nat.le_of_ble_eq_true rfl⟩) hK hG hS hE.1 rfl hl.1 rfl (Nat.le_of_ble_eq_true rfl) dL_acts_270 ⟨by show _ + 1 ≤ 1400; omega, by show _ + 6 ≤ 8400; omega⟩ (fun H locs hG hS => ?_)
    refine fz_top (show _ = nI nt from J.e3) ?_
    refine lv_irem hx hb dL_acts_273 (fun z => absurd ((nI_eq (a := nt) (b := 0) (by omega) (by decide)).mp z) (by omega)) ?_
    refine lv_iconst (v := 1) hx hb dL_acts_274 (by decide) ?_
    refine lv_iload_n hx hb dL_acts_275 rfl (lv_at hl 2 rfl) ?_
    refine lv_bipush (v := 64) hx hb dL_acts_276 (by decide) ?_
    refine lv_idiv hx hb dL_acts_278 (by decide) ?_
    refine lv_bipush (v := 30) hx hb dL_acts_279 (by decide) ?_
    refine lv_irem hx hb dL_acts_281 (by decide) ?_
    refine lv_iadd hx hb dL_acts_282 ?_
    refine lv_aload_n hx hb dL_acts_283 rfl (lv_at hl 3 rfl) ?_
    refine lv_bipush (v := 8) hx hb dL_acts_284 (by decide) ?_
    refine pw_call (rest := [.int (1 + (((nI vv) / 64) - ((nI vv) / 64) / 30 * 30)), .int (((nI (vv % nt)) + 1) - ((nI (vv % nt)) + 1) / (nI nt) * (nI nt)), .int (nI (vv % nt)), .ref (f 0)]) (pt_whole hst J 8 (by decide)) ⟨hx, hb, hml, hown, hts⟩ (vx_cwSW 2 hts gL_acts_L_whole rfl rfl rfl (by decide +kernel) ⟨Nat.le_of_ble_eq_true rfl, Nat.le_of_ble_eq_true rfl⟩) hK hG hS hE.1 rfl hl.1 rfl (Nat.le_of_ble_eq_true rfl) dL_acts_286 ⟨by show _ + 1 ≤ 1400; omega, by show _ + 6 ≤ 8400; omega⟩ (fun H locs hG hS => ?_)
    refine fz_top (show _ = nI wk from J.e0) ?_
    refine lv_iload_n hx hb dL_acts_289 rfl (lv_at hl 2 rfl) ?_
    refine lv_sipush (v := 2048) hx hb dL_acts_290 (by decide) ?_
    refine lv_idiv hx hb dL_acts_293 (by decide) ?_
    refine lv_iconst (v := 3) hx hb dL_acts_294 (by decide) ?_
    refine lv_irem hx hb dL_acts_295 (by decide) ?_
    refine lv_iadd hx hb dL_acts_296 ?_
    refine lv_bipush (v := 40) hx hb dL_acts_297 (by decide) ?_
    refine lv_irem hx hb dL_acts_299 (by decide) ?_
    rcases pO_tri (pO_lend J (by omega) (nI (vv % nt)) (((nI (vv % nt)) + 1) - ((nI (vv % nt)) + 1) / (nI nt) * (nI nt)) (1 + (((nI vv) / 64) - ((nI vv) / 64) / 30 * 30)) (((nI wk) + (((nI vv) / 2048) - ((nI vv) / 2048) / 3 * 3)) - ((nI wk) + (((nI vv) / 2048) - ((nI vv) / 2048) / 3 * 3)) / 40 * 40)) with ok9 | e9 | e9 | e9
    · skip
      refine pw_call (rest := []) (pw_lend_t hst J.wf J.zo (nI (vv % nt)) (((nI (vv % nt)) + 1) - ((nI (vv % nt)) + 1) / (nI nt) * (nI nt)) (1 + (((nI vv) / 64) - ((nI vv) / 64) / 30 * 30)) (((nI wk) + (((nI vv) / 2048) - ((nI vv) / 2048) / 3 * 3)) - ((nI wk) + (((nI vv) / 2048) - ((nI vv) / 2048) / 3 * 3)) / 40 * 40) ok9.1) ⟨hx, hb, hml, hown, hts⟩ (vx_cwSW 5 hts gL_acts_L_lend rfl rfl rfl (by decide +kernel) ⟨Nat.le_of_ble_eq_true rfl, Nat.le_of_ble_eq_true rfl⟩) hK hG hS hE.1 rfl hl.1 rfl (Nat.le_of_ble_eq_true rfl) dL_acts_300 ⟨by show _ + 1 ≤ 1400; omega, by show _ + 6 ≤ 8400; omega⟩ (fun H locs hG hS => ?_)
      refine fz_top (show _ = (fz_lend V nt nl (nI (vv % nt)) (((nI (vv % nt)) + 1) - ((nI (vv % nt)) + 1) / (nI nt) * (nI nt)) (1 + (((nI vv) / 64) - ((nI vv) / 64) / 30 * 30)) (((nI wk) + (((nI vv) / 2048) - ((nI vv) / 2048) / 3 * 3)) - ((nI wk) + (((nI vv) / 2048) - ((nI vv) / 2048) / 3 * 3)) / 40 * 40)).1 from rfl) ?_
      refine lv_bipush (v := (-13)) hx hb dL_acts_303 (by decide) ?_
      refine lv_icmp_lt (tgt := 312) hx hb dL_acts_305 (by decide) (fun z9 => absurd z9 (ge_nlt ok9.2 (by decide))) (fun _ => ?_)
      refine lv_iconst (v := 1) hx hb dL_acts_308 (by decide) ?_
      refine lv_goto (tgt := 313) hx hb dL_acts_309 (by decide) ?_
      refine W.widen (k := 1400) (n := 8400) (by omega) (by omega) ?_
      obtain ⟨Wn, h9, hP, hD⟩ := hG
      exact W.zret (v := 1) hx hb hr (by decide) (fun t9 ht9 hW9 => ⟨⟨_, Wn, rfl, ⟨⟨rfl, pI_op J h2 (pO_lend J (by omega) (nI (vv % nt)) (((nI (vv % nt)) + 1) - ((nI (vv % nt)) + 1) / (nI nt) * (nI nt)) (1 + (((nI vv) / 64) - ((nI vv) / 64) / 30 * 30)) (((nI wk) + (((nI vv) / 2048) - ((nI vv) / 2048) / 3 * 3)) - ((nI wk) + (((nI vv) / 2048) - ((nI vv) / 2048) / 3 * 3)) / 40 * 40)) (by omega) h9⟩, hD⟩, fz_to ht9 hP⟩, hS.F ht9⟩) hS.2.2 dL_acts_313
    · skip
      refine pw_call (rest := []) (pw_lend_IO hst J.wf J.zo (nI (vv % nt)) (((nI (vv % nt)) + 1) - ((nI (vv % nt)) + 1) / (nI nt) * (nI nt)) (1 + (((nI vv) / 64) - ((nI vv) / 64) / 30 * 30)) (((nI wk) + (((nI vv) / 2048) - ((nI vv) / 2048) / 3 * 3)) - ((nI wk) + (((nI vv) / 2048) - ((nI vv) / 2048) / 3 * 3)) / 40 * 40) e9) ⟨hx, hb, hml, hown, hts⟩ (vx_cwSW 5 hts gL_acts_L_lend rfl rfl rfl (by decide +kernel) ⟨Nat.le_of_ble_eq_true rfl, Nat.le_of_ble_eq_true rfl⟩) hK hG hS hE.1 rfl hl.1 rfl (Nat.le_of_ble_eq_true rfl) dL_acts_300 ⟨by show _ + 1 ≤ 1400; omega, by show _ + 6 ≤ 8400; omega⟩ (fun H locs hG hS => ?_)
      refine lv_bipush (v := (-13)) hx hb dL_acts_303 (by decide) ?_
      refine lv_icmp_lt (tgt := 312) hx hb dL_acts_305 (by decide) (fun z9 => absurd z9 (by decide)) (fun _ => ?_)
      refine lv_iconst (v := 1) hx hb dL_acts_308 (by decide) ?_
      refine lv_goto (tgt := 313) hx hb dL_acts_309 (by decide) ?_
      refine W.widen (k := 1400) (n := 8400) (by omega) (by omega) ?_
      obtain ⟨Wn, h9, hP, hD⟩ := hG
      exact W.zret (v := 1) hx hb hr (by decide) (fun t9 ht9 hW9 => ⟨⟨_, Wn, rfl, ⟨⟨rfl, pI_of J h2 (by omega) h9⟩, hD⟩, fz_to ht9 hP⟩, hS.F ht9⟩) hS.2.2 dL_acts_313
    · skip
      refine pw_call (rest := []) (pw_lend_IA hst J.wf J.zo (nI (vv % nt)) (((nI (vv % nt)) + 1) - ((nI (vv % nt)) + 1) / (nI nt) * (nI nt)) (1 + (((nI vv) / 64) - ((nI vv) / 64) / 30 * 30)) (((nI wk) + (((nI vv) / 2048) - ((nI vv) / 2048) / 3 * 3)) - ((nI wk) + (((nI vv) / 2048) - ((nI vv) / 2048) / 3 * 3)) / 40 * 40) e9) ⟨hx, hb, hml, hown, hts⟩ (vx_cwSW 5 hts gL_acts_L_lend rfl rfl rfl (by decide +kernel) ⟨Nat.le_of_ble_eq_true rfl, Nat.le_of_ble_eq_true rfl⟩) hK hG hS hE.1 rfl hl.1 rfl (Nat.le_of_ble_eq_true rfl) dL_acts_300 ⟨by show _ + 1 ≤ 1400; omega, by show _ + 6 ≤ 8400; omega⟩ (fun H locs hG hS => ?_)
      refine lv_bipush (v := (-13)) hx hb dL_acts_303 (by decide) ?_
      refine lv_icmp_lt (tgt := 312) hx hb dL_acts_305 (by decide) (fun z9 => absurd z9 (by decide)) (fun _ => ?_)
      refine lv_iconst (v := 1) hx hb dL_acts_308 (by decide) ?_
      refine lv_goto (tgt := 313) hx hb dL_acts_309 (by decide) ?_
      refine W.widen (k := 1400) (n := 8400) (by omega) (by omega) ?_
      obtain ⟨Wn, h9, hP, hD⟩ := hG
      exact W.zret (v := 1) hx hb hr (by decide) (fun t9 ht9 hW9 => ⟨⟨_, Wn, rfl, ⟨⟨rfl, pI_of J h2 (by omega) h9⟩, hD⟩, fz_to ht9 hP⟩, hS.F ht9⟩) hS.2.2 dL_acts_313
    · skip
      refine pw_call (rest := []) (pw_lend_IS hst J.wf J.zo (nI (vv % nt)) (((nI (vv % nt)) + 1) - ((nI (vv % nt)) + 1) / (nI nt) * (nI nt)) (1 + (((nI vv) / 64) - ((nI vv) / 64) / 30 * 30)) (((nI wk) + (((nI vv) / 2048) - ((nI vv) / 2048) / 3 * 3)) - ((nI wk) + (((nI vv) / 2048) - ((nI vv) / 2048) / 3 * 3)) / 40 * 40) e9) ⟨hx, hb, hml, hown, hts⟩ (vx_cwSW 5 hts gL_acts_L_lend rfl rfl rfl (by decide +kernel) ⟨Nat.le_of_ble_eq_true rfl, Nat.le_of_ble_eq_true rfl⟩) hK hG hS hE.1 rfl hl.1 rfl (Nat.le_of_ble_eq_true rfl) dL_acts_300 ⟨by show _ + 1 ≤ 1400; omega, by show _ + 6 ≤ 8400; omega⟩ (fun H locs hG hS => ?_)
      refine lv_bipush (v := (-13)) hx hb dL_acts_303 (by decide) ?_
      refine lv_icmp_lt (tgt := 312) hx hb dL_acts_305 (by decide) (fun z9 => absurd z9 (by decide)) (fun _ => ?_)
      refine lv_iconst (v := 1) hx hb dL_acts_308 (by decide) ?_
      refine lv_goto (tgt := 313) hx hb dL_acts_309 (by decide) ?_
      refine W.widen (k := 1400) (n := 8400) (by omega) (by omega) ?_
      obtain ⟨Wn, h9, hP, hD⟩ := hG
      exact W.zret (v := 1) hx hb hr (by decide) (fun t9 ht9 hW9 => ⟨⟨_, Wn, rfl, ⟨⟨rfl, pI_of J h2 (by omega) h9⟩, hD⟩, fz_to ht9 hP⟩, hS.F ht9⟩) hS.2.2 dL_acts_313
  · skip
    refine lv_tableIn (off := 284) (tgt := 314) hx hb dL_acts_30 (by decide) (by decide) (by decide) (by decide) ?_
    refine lv_aload_n hx hb dL_acts_314 rfl (lv_at hl 3 rfl) ?_
    refine lv_iload_n hx hb dL_acts_315 rfl (lv_at hl 2 rfl) ?_
    refine lv_aload_n hx hb dL_acts_316 rfl (lv_at hl 3 rfl) ?_
    refine lv_iconst (v := 2) hx hb dL_acts_317 (by decide) ?_
    refine pw_call (rest := [.int (nI vv), .ref (f 0)]) (pt_whole hst J 2 (by decide)) ⟨hx, hb, hml, hown, hts⟩ (vx_cwSW 2 hts gL_acts_L_whole rfl rfl rfl (by decide +kernel) ⟨Nat.le_of_ble_eq_true rfl, Nat.le_of_ble_eq_true rfl⟩) hK hG hS hE.1 rfl hl.1 rfl (Nat.le_of_ble_eq_true rfl) dL_acts_318 ⟨by show _ + 1 ≤ 1400; omega, by show _ + 6 ≤ 8400; omega⟩ (fun H locs hG hS => ?_)
    refine fz_top (show _ = nI nl from J.e17) ?_
    refine lv_iconst (v := 1) hx hb dL_acts_321 (by decide) ?_
    refine lv_iadd hx hb dL_acts_322 ?_
    refine fz_top (show _ = nI (nl + 1) from nI_1 nl) ?_
    refine lv_irem hx hb dL_acts_323 (fun z => absurd ((nI_eq (a := nl + 1) (b := 0) (by omega) (by decide)).mp z) (by omega)) ?_
    refine lv_iconst (v := 1) hx hb dL_acts_324 (by decide) ?_
    refine lv_iload_n hx hb dL_acts_325 rfl (lv_at hl 2 rfl) ?_
    refine lv_bipush (v := 64) hx hb dL_acts_326 (by decide) ?_
    refine lv_idiv hx hb dL_acts_328 (by decide) ?_
    refine lv_bipush (v := 9) hx hb dL_acts_329 (by decide) ?_
    refine lv_irem hx hb dL_acts_331 (by decide) ?_
    refine lv_iadd hx hb dL_acts_332 ?_
    rcases pO_tri (pO_repay J (by omega) ((nI vv) - (nI vv) / (nI (nl + 1)) * (nI (nl + 1))) (1 + (((nI vv) / 64) - ((nI vv) / 64) / 9 * 9))) with ok9 | e9 | e9 | e9
    · skip
      refine pw_call (rest := []) (pw_repay_t hst J.wf J.zo ((nI vv) - (nI vv) / (nI (nl + 1)) * (nI (nl + 1))) (1 + (((nI vv) / 64) - ((nI vv) / 64) / 9 * 9)) ok9.1) ⟨hx, hb, hml, hown, hts⟩ (vx_cwSW 3 hts gL_acts_L_repay rfl rfl rfl (by decide +kernel) ⟨Nat.le_of_ble_eq_true rfl, Nat.le_of_ble_eq_true rfl⟩) hK hG hS hE.1 rfl hl.1 rfl (Nat.le_of_ble_eq_true rfl) dL_acts_333 ⟨by show _ + 1 ≤ 1400; omega, by show _ + 6 ≤ 8400; omega⟩ (fun H locs hG hS => ?_)
      refine fz_top (show _ = (fz_repay V nl ((nI vv) - (nI vv) / (nI (nl + 1)) * (nI (nl + 1))) (1 + (((nI vv) / 64) - ((nI vv) / 64) / 9 * 9))).1 from rfl) ?_
      refine lv_bipush (v := (-13)) hx hb dL_acts_336 (by decide) ?_
      refine lv_icmp_lt (tgt := 345) hx hb dL_acts_338 (by decide) (fun z9 => absurd z9 (ge_nlt ok9.2 (by decide))) (fun _ => ?_)
      refine lv_iconst (v := 1) hx hb dL_acts_341 (by decide) ?_
      refine lv_goto (tgt := 346) hx hb dL_acts_342 (by decide) ?_
      refine W.widen (k := 1400) (n := 8400) (by omega) (by omega) ?_
      obtain ⟨Wn, h9, hP, hD⟩ := hG
      exact W.zret (v := 1) hx hb hr (by decide) (fun t9 ht9 hW9 => ⟨⟨_, Wn, rfl, ⟨⟨rfl, pI_op J h2 (pO_repay J (by omega) ((nI vv) - (nI vv) / (nI (nl + 1)) * (nI (nl + 1))) (1 + (((nI vv) / 64) - ((nI vv) / 64) / 9 * 9))) (by omega) h9⟩, hD⟩, fz_to ht9 hP⟩, hS.F ht9⟩) hS.2.2 dL_acts_346
    · skip
      refine pw_call (rest := []) (pw_repay_IO hst J.wf J.zo ((nI vv) - (nI vv) / (nI (nl + 1)) * (nI (nl + 1))) (1 + (((nI vv) / 64) - ((nI vv) / 64) / 9 * 9)) e9) ⟨hx, hb, hml, hown, hts⟩ (vx_cwSW 3 hts gL_acts_L_repay rfl rfl rfl (by decide +kernel) ⟨Nat.le_of_ble_eq_true rfl, Nat.le_of_ble_eq_true rfl⟩) hK hG hS hE.1 rfl hl.1 rfl (Nat.le_of_ble_eq_true rfl) dL_acts_333 ⟨by show _ + 1 ≤ 1400; omega, by show _ + 6 ≤ 8400; omega⟩ (fun H locs hG hS => ?_)
      refine lv_bipush (v := (-13)) hx hb dL_acts_336 (by decide) ?_
      refine lv_icmp_lt (tgt := 345) hx hb dL_acts_338 (by decide) (fun z9 => absurd z9 (by decide)) (fun _ => ?_)
      refine lv_iconst (v := 1) hx hb dL_acts_341 (by decide) ?_
      refine lv_goto (tgt := 346) hx hb dL_acts_342 (by decide) ?_
      refine W.widen (k := 1400) (n := 8400) (by omega) (by omega) ?_
      obtain ⟨Wn, h9, hP, hD⟩ := hG
      exact W.zret (v := 1) hx hb hr (by decide) (fun t9 ht9 hW9 => ⟨⟨_, Wn, rfl, ⟨⟨rfl, pI_of J h2 (by omega) h9⟩, hD⟩, fz_to ht9 hP⟩, hS.F ht9⟩) hS.2.2 dL_acts_346
    · skip
      refine pw_call (rest := []) (pw_repay_IA hst J.wf J.zo ((nI vv) - (nI vv) / (nI (nl + 1)) * (nI (nl + 1))) (1 + (((nI vv) / 64) - ((nI vv) / 64) / 9 * 9)) e9) ⟨hx, hb, hml, hown, hts⟩ (vx_cwSW 3 hts gL_acts_L_repay rfl rfl rfl (by decide +kernel) ⟨Nat.le_of_ble_eq_true rfl, Nat.le_of_ble_eq_true rfl⟩) hK hG hS hE.1 rfl hl.1 rfl (Nat.le_of_ble_eq_true rfl) dL_acts_333 ⟨by show _ + 1 ≤ 1400; omega, by show _ + 6 ≤ 8400; omega⟩ (fun H locs hG hS => ?_)
      refine lv_bipush (v := (-13)) hx hb dL_acts_336 (by decide) ?_
      refine lv_icmp_lt (tgt := 345) hx hb dL_acts_338 (by decide) (fun z9 => absurd z9 (by decide)) (fun _ => ?_)
      refine lv_iconst (v := 1) hx hb dL_acts_341 (by decide) ?_
      refine lv_goto (tgt := 346) hx hb dL_acts_342 (by decide) ?_
      refine W.widen (k := 1400) (n := 8400) (by omega) (by omega) ?_
      obtain ⟨Wn, h9, hP, hD⟩ := hG
      exact W.zret (v := 1) hx hb hr (by decide) (fun t9 ht9 hW9 => ⟨⟨_, Wn, rfl, ⟨⟨rfl, pI_of J h2 (by omega) h9⟩, hD⟩, fz_to ht9 hP⟩, hS.F ht9⟩) hS.2.2 dL_acts_346
    · skip
      refine pw_call (rest := []) (pw_repay_IS hst J.wf J.zo ((nI vv) - (nI vv) / (nI (nl + 1)) * (nI (nl + 1))) (1 + (((nI vv) / 64) - ((nI vv) / 64) / 9 * 9)) e9) ⟨hx, hb, hml, hown, hts⟩ (vx_cwSW 3 hts gL_acts_L_repay rfl rfl rfl (by decide +kernel) ⟨Nat.le_of_ble_eq_true rfl, Nat.le_of_ble_eq_true rfl⟩) hK hG hS hE.1 rfl hl.1 rfl (Nat.le_of_ble_eq_true rfl) dL_acts_333 ⟨by show _ + 1 ≤ 1400; omega, by show _ + 6 ≤ 8400; omega⟩ (fun H locs hG hS => ?_)
      refine lv_bipush (v := (-13)) hx hb dL_acts_336 (by decide) ?_
      refine lv_icmp_lt (tgt := 345) hx hb dL_acts_338 (by decide) (fun z9 => absurd z9 (by decide)) (fun _ => ?_)
      refine lv_iconst (v := 1) hx hb dL_acts_341 (by decide) ?_
      refine lv_goto (tgt := 346) hx hb dL_acts_342 (by decide) ?_
      refine W.widen (k := 1400) (n := 8400) (by omega) (by omega) ?_
      obtain ⟨Wn, h9, hP, hD⟩ := hG
      exact W.zret (v := 1) hx hb hr (by decide) (fun t9 ht9 hW9 => ⟨⟨_, Wn, rfl, ⟨⟨rfl, pI_of J h2 (by omega) h9⟩, hD⟩, fz_to ht9 hP⟩, hS.F ht9⟩) hS.2.2 dL_acts_346
  · skip
    refine lv_tableIn (off := 317) (tgt := 347) hx hb dL_acts_30 (by decide) (by decide) (by decide) (by decide) ?_
    refine lv_aload_n hx hb dL_acts_347 rfl (lv_at hl 3 rfl) ?_
    refine lv_iload_n hx hb dL_acts_348 rfl (lv_at hl 1 rfl) ?_
    refine lv_iconst (v := 1) hx hb dL_acts_349 (by decide) ?_
    refine lv_iload_n hx hb dL_acts_350 rfl (lv_at hl 2 rfl) ?_
    refine lv_bipush (v := 64) hx hb dL_acts_351 (by decide) ?_
    refine lv_idiv hx hb dL_acts_353 (by decide) ?_
    refine fz_top (show _ = nI (vv / 64) from nI_div (b := 64) (by omega) (by omega) (by omega)) ?_
    refine lv_bipush (v := 9) hx hb dL_acts_354 (by decide) ?_
    refine lv_irem hx hb dL_acts_356 (by decide) ?_
    refine fz_top (show _ = nI (vv / 64 % 9) from nI_rem (b := 9) (by omega) (by omega) (by omega)) ?_
    refine lv_iadd hx hb dL_acts_357 ?_
    refine fz_top (show _ = nI (1 + vv / 64 % 9) from nI_add 1 _) ?_
    refine pm_call (rest := []) (m_runs hst J (by omega) hti (by omega) (by omega)) ⟨hx, hb, hml, hown, hts⟩ (va_cwS 3 hts gL_acts_L_runs rfl rfl rfl (by decide +kernel) ⟨Nat.le_of_ble_eq_true rfl, Nat.le_of_ble_eq_true rfl⟩) hK hG hS hE rfl hl.1 rfl (Nat.le_of_ble_eq_true rfl) dL_acts_358 ⟨by show _ + 200 ≤ 1400; omega, by show _ + 1200 ≤ 8400; omega⟩ (fun r H locs hG hS => ?_)
    obtain ⟨Wn9, ⟨hr9, cm, U, nc9, nq9, wk9, J9, hw9⟩, hP9, hD9⟩ := hG
    subst hr9
    have hG : pG D A (pS cy f a t h x ad cm U []) H := ⟨Wn9, hw9, hP9, hD9⟩
    refine W.widen (k := 1400) (n := 8400) (by omega) (by omega) ?_
    obtain ⟨Wn, h9, hP, hD⟩ := hG
    exact W.zret (v := 1) hx hb hr (by decide) (fun t9 ht9 hW9 => ⟨⟨_, Wn, rfl, ⟨⟨rfl, pI_of J9 h2 (by omega) h9⟩, hD⟩, fz_to ht9 hP⟩, hS.F ht9⟩) hS.2.2 dL_acts_361
  · skip
    refine lv_tableIn (off := 332) (tgt := 362) hx hb dL_acts_30 (by decide) (by decide) (by decide) (by decide) ?_
    refine lv_aload_n hx hb dL_acts_362 rfl (lv_at hl 3 rfl) ?_
    refine lv_iload_n hx hb dL_acts_363 rfl (lv_at hl 1 rfl) ?_
    refine lv_iconst (v := 1) hx hb dL_acts_364 (by decide) ?_
    refine lv_iload_n hx hb dL_acts_365 rfl (lv_at hl 2 rfl) ?_
    refine lv_bipush (v := 64) hx hb dL_acts_366 (by decide) ?_
    refine lv_idiv hx hb dL_acts_368 (by decide) ?_
    refine fz_top (show _ = nI (vv / 64) from nI_div (b := 64) (by omega) (by omega) (by omega)) ?_
    refine lv_bipush (v := 9) hx hb dL_acts_369 (by decide) ?_
    refine lv_irem hx hb dL_acts_371 (by decide) ?_
    refine fz_top (show _ = nI (vv / 64 % 9) from nI_rem (b := 9) (by omega) (by omega) (by omega)) ?_
    refine lv_iadd hx hb dL_acts_372 ?_
    refine fz_top (show _ = nI (1 + vv / 64 % 9) from nI_add 1 _) ?_
    refine lv_iconst (v := 1) hx hb dL_acts_373 (by decide) ?_
    refine lv_iload_n hx hb dL_acts_374 rfl (lv_at hl 2 rfl) ?_
    refine lv_sipush (v := 1024) hx hb dL_acts_375 (by decide) ?_
    refine lv_idiv hx hb dL_acts_378 (by decide) ?_
    refine fz_top (show _ = nI (vv / 1024) from nI_div (b := 1024) (by omega) (by omega) (by omega)) ?_
    refine lv_iconst (v := 4) hx hb dL_acts_379 (by decide) ?_
    refine lv_irem hx hb dL_acts_380 (by decide) ?_
    refine fz_top (show _ = nI (vv / 1024 % 4) from nI_rem (b := 4) (by omega) (by omega) (by omega)) ?_
    refine lv_iadd hx hb dL_acts_381 ?_
    refine fz_top (show _ = nI (1 + vv / 1024 % 4) from nI_add 1 _) ?_
    refine pm_call (rest := []) (m_weeks hst J (by omega) hti (by omega) (by omega) (by omega)) ⟨hx, hb, hml, hown, hts⟩ (va_cwS 4 hts gL_acts_L_weeks rfl rfl rfl (by decide +kernel) ⟨Nat.le_of_ble_eq_true rfl, Nat.le_of_ble_eq_true rfl⟩) hK hG hS hE rfl hl.1 rfl (Nat.le_of_ble_eq_true rfl) dL_acts_382 ⟨by show _ + 200 ≤ 1400; omega, by show _ + 1200 ≤ 8400; omega⟩ (fun r H locs hG hS => ?_)
    obtain ⟨Wn9, ⟨hr9, cm, wk9, U, J9, hw9⟩, hP9, hD9⟩ := hG
    subst hr9
    have hG : pG D A (pS cy f a t h x ad cm U L) H := ⟨Wn9, hw9, hP9, hD9⟩
    refine W.widen (k := 1400) (n := 8400) (by omega) (by omega) ?_
    obtain ⟨Wn, h9, hP, hD⟩ := hG
    exact W.zret (v := 1) hx hb hr (by decide) (fun t9 ht9 hW9 => ⟨⟨_, Wn, rfl, ⟨⟨rfl, pI_of J9 h2 (by omega) h9⟩, hD⟩, fz_to ht9 hP⟩, hS.F ht9⟩) hS.2.2 dL_acts_385
  · skip
    refine lv_tableOut (tgt := 386) hx hb dL_acts_30 (by decide) (by decide) ?_
    refine lv_aload_n hx hb dL_acts_386 rfl (lv_at hl 3 rfl) ?_
    rcases tri_close J (by omega) with ok9 | e9
    · skip
      refine pw_call (rest := []) (pw_endWeek_t hst J.wf J.zo  ok9.1) ⟨hx, hb, hml, hown, hts⟩ (vx_cwSW 1 hts gL_acts_L_endWeek rfl rfl rfl (by decide +kernel) ⟨Nat.le_of_ble_eq_true rfl, Nat.le_of_ble_eq_true rfl⟩) hK hG hS hE.1 rfl hl.1 rfl (Nat.le_of_ble_eq_true rfl) dL_acts_387 ⟨by show _ + 1 ≤ 1400; omega, by show _ + 6 ≤ 8400; omega⟩ (fun H locs hG hS => ?_)
      refine fz_top (show _ = (fz_close V nt nc nl wk).1 from rfl) ?_
      refine lv_bipush (v := (-11)) hx hb dL_acts_390 (by decide) ?_
      refine lv_icmp_lt (tgt := 399) hx hb dL_acts_392 (by decide) (fun z9 => absurd z9 (ge_nlt ok9.2 (by decide))) (fun _ => ?_)
      refine lv_iconst (v := 1) hx hb dL_acts_395 (by decide) ?_
      refine lv_goto (tgt := 400) hx hb dL_acts_396 (by decide) ?_
      refine W.widen (k := 1400) (n := 8400) (by omega) (by omega) ?_
      obtain ⟨Wn, h9, hP, hD⟩ := hG
      exact W.zret (v := 1) hx hb hr (by decide) (fun t9 ht9 hW9 => ⟨⟨_, Wn, rfl, ⟨⟨rfl, pI_op J h2 (pO_close J (by omega)) (by omega) h9⟩, hD⟩, fz_to ht9 hP⟩, hS.F ht9⟩) hS.2.2 dL_acts_400
    · skip
      refine pw_call (rest := []) (pw_endWeek_IS hst J.wf J.zo  e9) ⟨hx, hb, hml, hown, hts⟩ (vx_cwSW 1 hts gL_acts_L_endWeek rfl rfl rfl (by decide +kernel) ⟨Nat.le_of_ble_eq_true rfl, Nat.le_of_ble_eq_true rfl⟩) hK hG hS hE.1 rfl hl.1 rfl (Nat.le_of_ble_eq_true rfl) dL_acts_387 ⟨by show _ + 1 ≤ 1400; omega, by show _ + 6 ≤ 8400; omega⟩ (fun H locs hG hS => ?_)
      refine lv_bipush (v := (-11)) hx hb dL_acts_390 (by decide) ?_
      refine lv_icmp_lt (tgt := 399) hx hb dL_acts_392 (by decide) (fun z9 => absurd z9 (by decide)) (fun _ => ?_)
      refine lv_iconst (v := 1) hx hb dL_acts_395 (by decide) ?_
      refine lv_goto (tgt := 400) hx hb dL_acts_396 (by decide) ?_
      refine W.widen (k := 1400) (n := 8400) (by omega) (by omega) ?_
      obtain ⟨Wn, h9, hP, hD⟩ := hG
      exact W.zret (v := 1) hx hb hr (by decide) (fun t9 ht9 hW9 => ⟨⟨_, Wn, rfl, ⟨⟨rfl, pI_of J h2 (by omega) h9⟩, hD⟩, fz_to ht9 hP⟩, hS.F ht9⟩) hS.2.2 dL_acts_400
