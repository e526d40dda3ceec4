set_option maxHeartbeats 4000000 in
set_option maxRecDepth 100000 in
/-- the law behind its making of the class -/
theorem law_from8 {p : Program} {l : Launch} {e : Env} {s : State} {m : MethodId} {below : List Frame} {meth : Method} {c : Code} {D : va_G} {cy : Nat → ClassId} {sc L0 : Nat} {xs : Nat → Int32} {A : Nat → Prop} {f a t h x ad adK adV : Nat → Nat} (C0 : lw_At p s m meth c sc L0 xs) (hst : l.stackTraces = false) (hL0 : L0 ≤ 260) (hA : ∀ q, A q → s.heap.size ≤ q) (hK : va_K D vwCl (fz_TY cy) s) (hE : pE ad adK adV A s) {H : Heap} {locs : List Loc} {ls : Array Slot} (hG : pG D A (pS cy f a t h x ad 0 v1 []) H) (hS : va_S A s.heap H locs) (hl : lv_has ls 4 [(1, .ref (f 0)), (0, .ref sc)]) : W p l e room_1 s m #[Value.ref sc] below meth c H locs 1000 10000 (lw_Z below #[Value.ref sc] s) (F0 m 8 ls []) := by
  obtain ⟨hx, hb, hr, hml, hown, hts0, hX, hbl, hlocks, -⟩ := C0
  have hts : ∀ w ∈ wsL_law, w.before #[Value.ref sc] s = true := fun w z9 => hts0 w (wsL_law_in w z9)
  have hown : s.vm.findClass RL = some m.cls := hown
  have hb : c.code = cL_law := hb
  have hbA : ¬ A sc := fun z => absurd (hA _ z) (Nat.not_le.mpr hbl)
  have J := pJ_new
  refine lv_aload_n hx hb dL_law_8 rfl (lv_at hl 0 rfl) ?_
  refine pw_call (rest := []) (pw_undo_IS hst) ⟨hx, hb, hml, hown, hts⟩ (vx_cwSW 1 hts gL_law_L_undo rfl rfl rfl (by decide +kernel) ⟨Nat.le_of_ble_eq_true rfl, Nat.le_of_ble_eq_true rfl⟩) hK hG hS hE.1 rfl hl.1 rfl (Nat.le_of_ble_eq_true rfl) dL_law_9 ⟨by show _ + 1 ≤ 600104; omega, by show _ + 6 ≤ 7301314; omega⟩ (fun H locs hG hS => ?_)
  refine lv_bipush (v := (-11)) hx hb dL_law_12 (by decide) ?_
  refine lv_icmp_ne (tgt := 46) hx hb dL_law_14 (by decide) (fun z9 => absurd z9 (by decide)) (fun _ => ?_)
  refine lv_aload_n hx hb dL_law_17 rfl (lv_at hl 0 rfl) ?_
  refine pr_call (rest := []) (pr_thaw J.wf) ⟨hx, hb, hml, hown, hts⟩ (cwV 0 hts gL_law_X8_nextThaw rfl rfl rfl (by decide +kernel) ⟨Nat.le_of_ble_eq_true rfl, Nat.le_of_ble_eq_true rfl⟩) rfl rfl hK hG rfl hl.1 rfl (Nat.le_of_ble_eq_true rfl) dL_law_18 ⟨by show _ + 0 ≤ 600104; omega, by show _ + 0 ≤ 7301314; omega⟩ ?_
  refine fz_top (show _ = 0 from (by decide +kernel)) ?_
  refine lv_if_ne (tgt := 46) hx hb dL_law_21 (by decide) (fun z9 => absurd z9 (by decide)) (fun _ => ?_)
  refine lv_aload_n hx hb dL_law_24 rfl (lv_at hl 0 rfl) ?_
  refine lv_iconst (v := 4) hx hb dL_law_25 (by decide) ?_
  refine pw_call (rest := []) (pt_whole hst J 4 (by decide)) ⟨hx, hb, hml, hown, hts⟩ (vx_cwSW 2 hts gL_law_L_whole rfl rfl rfl (by decide +kernel) ⟨Nat.le_of_ble_eq_true rfl, Nat.le_of_ble_eq_true rfl⟩) hK hG hS hE.1 rfl hl.1 rfl (Nat.le_of_ble_eq_true rfl) dL_law_26 ⟨by show _ + 1 ≤ 600104; omega, by show _ + 6 ≤ 7301314; omega⟩ (fun H locs hG hS => ?_)
  refine fz_top (show _ = 3 from rfl) ?_
  refine lv_iconst (v := 3) hx hb dL_law_29 (by decide) ?_
  refine lv_icmp_ne (tgt := 46) hx hb dL_law_30 (by decide) (fun z9 => absurd z9 (by decide)) (fun _ => ?_)
  refine lv_aload_n hx hb dL_law_33 rfl (lv_at hl 0 rfl) ?_
  refine lv_bipush (v := 39) hx hb dL_law_34 (by decide) ?_
  refine pw_call (rest := []) (pt_being hst J 39 (by decide)) ⟨hx, hb, hml, hown, hts⟩ (vx_cwSW 2 hts gL_law_L_inBeing rfl rfl rfl (by decide +kernel) ⟨Nat.le_of_ble_eq_true rfl, Nat.le_of_ble_eq_true rfl⟩) hK hG hS hE.1 rfl hl.1 rfl (Nat.le_of_ble_eq_true rfl) dL_law_36 ⟨by show _ + 1 ≤ 600104; omega, by show _ + 6 ≤ 7301314; omega⟩ (fun H locs hG hS => ?_)
  refine fz_top (show _ = 0 from (by rw [if_pos (by decide)]; rfl)) ?_
  refine lv_if_ne (tgt := 46) hx hb dL_law_39 (by decide) (fun z9 => absurd z9 (by decide)) (fun _ => ?_)
  refine lv_iconst (v := 1) hx hb dL_law_42 (by decide) ?_
  refine lv_goto (tgt := 47) hx hb dL_law_43 (by decide) ?_
  refine lv_istore_n (lv' := [(2, .int 1), (1, .ref (f 0)), (0, .ref sc)]) hx hb dL_law_47 rfl hl (by decide) rfl (fun ls hl => ?_)
  refine W.widen (k := 1003) (n := 10018) (by omega) (by omega) ?_
  refine lv_iconst (v := 0) hx hb dL_law_48 (by decide) ?_
  refine lv_istore_n (lv' := [(3, .int 0), (2, .int 1), (1, .ref (f 0)), (0, .ref sc)]) hx hb dL_law_49 rfl hl (by decide) rfl (fun ls hl => ?_)
  have hl : lv_has ls 4 [(3, .int (nI 0)), (2, .int 1), (1, .ref (f 0)), (0, .ref sc)] := hl
  refine W.widen (k := 1100 + 20 * 0) (n := 10600 + 120 * 0) (by omega) (by omega) ?_
  refine pw_loop (σ := Nat × Nat × (Nat → Nat → Int32)) (pc := 50) (nL := 4) (rest := []) (fun x9 => match x9 with | (k, cm, U) => [(0, .ref sc), (1, .ref (f 0)), (2, .int 1), (3, .int (nI k))]) (fun x9 => match x9 with | (k, cm, U) => pS cy f a t h x ad cm U []) (fun x9 => match x9 with | (k, cm, U) => (k ≤ 2) ∧ (pJ U k 0 0 0 0 (6600 * k))) (fun x9 => match x9 with | (k, cm, U) => 2 - k) (fun x9 => match x9 with | (k, cm, U) => 1100 + 20 * k) (fun x9 => match x9 with | (k, cm, U) => 10600 + 120 * k) ?_ (0, 0, v1) (show (0 ≤ 2) ∧ (pJ v1 0 0 0 0 0 (6600 * 0)) from ⟨(by omega), J⟩) _ _ ls hG hS (lv_sub hl [3, 2, 1, 0] rfl)
  rintro ⟨k, cm, U⟩ ⟨hk, J9⟩ ih50 H locs ls hG hS hl
  have hk : k ≤ 2 := hk
  have J9 : pJ U k 0 0 0 0 (6600 * k) := J9
  have hG : pG D A (pS cy f a t h x ad cm U []) H := hG
  have hl : lv_has ls 4 [(0, .ref sc), (1, .ref (f 0)), (2, .int 1), (3, .int (nI k))] := hl
  show W _ _ _ _ _ _ _ _ _ _ _ _ (1100 + 20 * k) (10600 + 120 * k) _ _
  refine lv_iload_n hx hb dL_law_50 rfl (lv_at hl 3 rfl) ?_
  refine lv_iconst (v := 2) hx hb dL_law_51 (by decide) ?_
  refine lv_icmp_ge (tgt := 87) hx hb dL_law_52 (by decide) (fun c9 => ?_) (fun c9 => ?_)
  · skip
    have e9 : k = 2 := by have := (nI_leI (a := 2) (b := k) (by omega) (by omega)).mp c9; omega
    subst e9
    have hl : lv_has ls 4 [(0, .ref sc), (1, .ref (f 0)), (2, .int 1), (3, .int (nI 2))] := hl
    refine lv_iconst (v := 2) hx hb dL_law_87 (by decide) ?_
    refine lv_istore_n (lv' := [(3, .int 2), (0, .ref sc), (1, .ref (f 0)), (2, .int 1)]) hx hb dL_law_88 rfl hl (by decide) rfl (fun ls hl => ?_)
    have hl : lv_has ls 4 [(3, .int (nI 2)), (0, .ref sc), (1, .ref (f 0)), (2, .int 1)] := hl
    refine W.widen (k := 2000 + 10000 * 2) (n := 20000 + 60000 * 2) (by omega) (by omega) ?_
    have hG : pG D A (pI cy f a t h x ad (20000 + 500000 * 2)) H := hG.mono (fun W9 hw9 => pI_of J9 (by omega) (by omega) hw9)
    refine pw_loop (σ := Nat) (pc := 89) (nL := 4) (rest := []) (fun (k : Nat) => [(0, .ref sc), (1, .ref (f 0)), (2, .int 1), (3, .int (nI k))]) (fun (k : Nat) => pI cy f a t h x ad (20000 + 500000 * k)) (fun (k : Nat) => (2 ≤ k) ∧ (k ≤ 22)) (fun (k : Nat) => 22 - k) (fun (k : Nat) => 2000 + 10000 * k) (fun (k : Nat) => 20000 + 60000 * k) ?_ 2 (show (2 ≤ 2) ∧ (2 ≤ 22) from ⟨(by omega), (by omega)⟩) _ _ ls hG hS (lv_sub hl [1, 2, 3, 0] rfl)
    rintro k ⟨h29, hk⟩ ih89 H locs ls hG hS hl
    have h29 : 2 ≤ k := h29
    have hk : k ≤ 22 := hk
    have hG : pG D A (pI cy f a t h x ad (20000 + 500000 * k)) H := hG
    have hl : lv_has ls 4 [(0, .ref sc), (1, .ref (f 0)), (2, .int 1), (3, .int (nI k))] := hl
    show W _ _ _ _ _ _ _ _ _ _ _ _ (2000 + 10000 * k) (20000 + 60000 * k) _ _
    refine lv_iload_n hx hb dL_law_89 rfl (lv_at hl 3 rfl) ?_
    refine lv_bipush (v := 22) hx hb dL_law_90 (by decide) ?_
    refine lv_icmp_ge (tgt := 136) hx hb dL_law_92 (by decide) (fun c9 => ?_) (fun c9 => ?_)
    · skip
      have e9 : k = 22 := by have := (nI_leI (a := 22) (b := k) (by omega) (by omega)).mp c9; omega
      subst e9
      have hl : lv_has ls 4 [(0, .ref sc), (1, .ref (f 0)), (2, .int 1), (3, .int (nI 22))] := hl
      obtain ⟨Wn9, ⟨cm, U, L, nt, nc, nq, nl, wk, h2, J9, hw9⟩, hP9, hD9⟩ := hG
      have hG : pG D A (pS cy f a t h x ad cm U L) H := ⟨Wn9, hw9, hP9, hD9⟩
      refine lv_iload_n hx hb dL_law_136 rfl (lv_at hl 2 rfl) ?_
      refine lv_if_eq (tgt := 158) hx hb dL_law_137 (by decide) (fun z9 => absurd z9 (by decide)) (fun _ => ?_)
      refine lv_aload_n hx hb dL_law_140 rfl (lv_at hl 1 rfl) ?_
      refine pm_call (rest := []) (m_isSound hst J9 (by omega)) ⟨hx, hb, hml, hown, hts⟩ (va_cwS 1 hts gL_law_L_isSound rfl rfl rfl (by decide +kernel) ⟨Nat.le_of_ble_eq_true rfl, Nat.le_of_ble_eq_true rfl⟩) hK hG hS hE rfl hl.1 rfl (Nat.le_of_ble_eq_true rfl) dL_law_141 ⟨by show _ + 3000 ≤ 600104; omega, by show _ + 18000 ≤ 7301314; omega⟩ (fun r H locs hG hS => ?_)
      obtain ⟨Wn9, ⟨hr9, hw9⟩, hP9, hD9⟩ := hG
      subst hr9
      have hG : pG D A (pI cy f a t h x ad (20000 + 500000 * 22)) H := ⟨Wn9, pI_of J9 h2 (by omega) hw9, hP9, hD9⟩
      refine lv_if_eq (tgt := 158) hx hb dL_law_144 (by decide) (fun z9 => absurd z9 (by decide)) (fun _ => ?_)
      obtain ⟨Wn9, ⟨cm, U, L, nt, nc, nq, nl, wk, h2, J9, hw9⟩, hP9, hD9⟩ := hG
      have hG : pG D A (pS cy f a t h x ad cm U L) H := ⟨Wn9, hw9, hP9, hD9⟩
      refine lv_aload_n hx hb dL_law_147 rfl (lv_at hl 1 rfl) ?_
      refine pm_call (rest := []) (m_refuses hst J9 h2) ⟨hx, hb, hml, hown, hts⟩ (va_cwS 1 hts gL_law_L_refuses rfl rfl rfl (by decide +kernel) ⟨Nat.le_of_ble_eq_true rfl, Nat.le_of_ble_eq_true rfl⟩) hK hG hS hE rfl hl.1 rfl (Nat.le_of_ble_eq_true rfl) dL_law_148 ⟨by show _ + 200 ≤ 600104; omega, by show _ + 1200 ≤ 7301314; omega⟩ (fun r H locs hG hS => ?_)
      obtain ⟨Wn9, ⟨hr9, hw9⟩, hP9, hD9⟩ := hG
      subst hr9
      have hG : pG D A (pS cy f a t h x ad cm U L) H := ⟨Wn9, hw9, hP9, hD9⟩
      refine lv_if_eq (tgt := 158) hx hb dL_law_151 (by decide) (fun z9 => absurd z9 (by decide)) (fun _ => ?_)
      refine lv_iconst (v := 1) hx hb dL_law_154 (by decide) ?_
      refine lv_goto (tgt := 159) hx hb dL_law_155 (by decide) ?_
      refine va_forget (fun q hq => hA _ (hS.2.2 q hq)) ?_
      refine W.widen (k := 600104) (n := 7301314) (by omega) (by omega) ?_
      exact lw_ret hx hb hr hlocks dL_law_159
    · skip
      have hk22 : k < 22 := Nat.lt_of_not_le fun z => c9 ((nI_leI (a := 22) (by omega) (by omega)).mpr z)
      obtain ⟨Wn9, ⟨cm, U, L, nt, nc, nq, nl, wk, h2, J9, hw9⟩, hP9, hD9⟩ := hG
      have hG : pG D A (pS cy f a t h x ad cm U L) H := ⟨Wn9, hw9, hP9, hD9⟩
      refine lv_iload_n hx hb dL_law_95 rfl (lv_at hl 2 rfl) ?_
      refine lv_if_eq (tgt := 136) hx hb dL_law_96 (by decide) (fun z9 => absurd z9 (by decide)) (fun _ => ?_)
      refine lv_aload_n hx hb dL_law_99 rfl (lv_at hl 1 rfl) ?_
      refine lv_aload_n hx hb dL_law_100 rfl (lv_at hl 0 rfl) ?_
      refine lv_iload_n hx hb dL_law_101 rfl (lv_at hl 3 rfl) ?_
      refine cell_call (rest := [.ref (f 0)]) (k := k) hL0 (by omega) hX hbl hbA hS ⟨hx, hb, hml, hown, hts⟩ (va_cwS 2 hts gL_law_L_cell rfl rfl rfl (by decide +kernel) ⟨Nat.le_of_ble_eq_true rfl, Nat.le_of_ble_eq_true rfl⟩) hl.1 rfl (Nat.le_of_ble_eq_true rfl) dL_law_102 ⟨by show _ + 0 ≤ 600104; omega, by show _ + 0 ≤ 7301314; omega⟩ (fun z0 hz0 => ?_)
      refine pm_call (rest := []) (m_acts hst J9 (by omega) h2 hz0) ⟨hx, hb, hml, hown, hts⟩ (va_cwS 2 hts gL_law_L_acts rfl rfl rfl (by decide +kernel) ⟨Nat.le_of_ble_eq_true rfl, Nat.le_of_ble_eq_true rfl⟩) hK hG hS hE rfl hl.1 rfl (Nat.le_of_ble_eq_true rfl) dL_law_105 ⟨by show _ + 1400 ≤ 600104; omega, by show _ + 8400 ≤ 7301314; omega⟩ (fun r H locs hG hS => ?_)
      obtain ⟨Wn9, ⟨hr9, hw9⟩, hP9, hD9⟩ := hG
      subst hr9
      have hG : pG D A (pI cy f a t h x ad (20000 + 500000 * k + 500000)) H := ⟨Wn9, hw9, hP9, hD9⟩
      refine lv_if_eq (tgt := 128) hx hb dL_law_108 (by decide) (fun z9 => absurd z9 (by decide)) (fun _ => ?_)
      refine lv_iload_n hx hb dL_law_111 rfl (lv_at hl 3 rfl) ?_
      refine lv_iconst (v := 3) hx hb dL_law_112 (by decide) ?_
      refine lv_irem hx hb dL_law_113 (by decide) ?_
      refine fz_top (show _ = nI (k % 3) from nI_rem (b := 3) (by omega) (by omega) (by omega)) ?_
      refine lv_if_ne (tgt := 124) hx hb dL_law_114 (by decide) (fun c7 => ?_) (fun c7 => ?_)
      · skip
        refine lv_iconst (v := 1) hx hb dL_law_124 (by decide) ?_
        refine lv_goto (tgt := 129) hx hb dL_law_125 (by decide) ?_
        refine lv_istore_n (lv' := [(2, .int 1), (0, .ref sc), (1, .ref (f 0)), (3, .int (nI k))]) hx hb dL_law_129 rfl hl (by decide) rfl (fun ls hl => ?_)
        refine W.widen (k := (2000 + 10000 * k) + 1400) (n := (20000 + 60000 * k) + 8400) (by omega) (by omega) ?_
        refine lv_iinc (v := nI (k + 1)) (lv' := [(3, .int (nI (k + 1))), (2, .int 1), (0, .ref sc), (1, .ref (f 0))]) hx hb dL_law_130 hl (k := 3) rfl (nI_add _ 1) (by decide) rfl (fun ls hl => ?_)
        refine lv_goto (tgt := 89) hx hb dL_law_133 (by decide) ?_
        have hl : lv_has ls 4 [(3, .int (nI (k + 1))), (2, .int 1), (0, .ref sc), (1, .ref (f 0))] := hl
        refine W.widen (k := 2000 + 10000 * (k + 1)) (n := 20000 + 60000 * (k + 1)) (by omega) (by omega) ?_
        exact ih89 (k + 1) (show (2 ≤ (k + 1)) ∧ ((k + 1) ≤ 22) from ⟨(by omega), hk22⟩) (by show 22 - (k + 1) < 22 - k; omega) _ _ ls (hG.mono (fun W9 hw9 => by rw [show 20000 + 500000 * (k + 1) = 20000 + 500000 * k + 500000 by omega]; exact hw9)) hS (lv_sub hl [2, 3, 1, 0] rfl)
      · skip
        obtain ⟨Wn9, ⟨cm, U, L, nt, nc, nq, nl, wk, h2, J9, hw9⟩, hP9, hD9⟩ := hG
        have hG : pG D A (pS cy f a t h x ad cm U L) H := ⟨Wn9, hw9, hP9, hD9⟩
        refine lv_aload_n hx hb dL_law_117 rfl (lv_at hl 1 rfl) ?_
        refine pm_call (rest := []) (m_isSound hst J9 (by omega)) ⟨hx, hb, hml, hown, hts⟩ (va_cwS 1 hts gL_law_L_isSound rfl rfl rfl (by decide +kernel) ⟨Nat.le_of_ble_eq_true rfl, Nat.le_of_ble_eq_true rfl⟩) hK hG hS hE rfl hl.1 rfl (Nat.le_of_ble_eq_true rfl) dL_law_118 ⟨by show _ + 3000 ≤ 600104; omega, by show _ + 18000 ≤ 7301314; omega⟩ (fun r H locs hG hS => ?_)
        obtain ⟨Wn9, ⟨hr9, hw9⟩, hP9, hD9⟩ := hG
        subst hr9
        have hG : pG D A (pI cy f a t h x ad (20000 + 500000 * k + 500000)) H := ⟨Wn9, pI_of J9 h2 (by omega) hw9, hP9, hD9⟩
        refine lv_if_eq (tgt := 128) hx hb dL_law_121 (by decide) (fun z9 => absurd z9 (by decide)) (fun _ => ?_)
        refine lv_iconst (v := 1) hx hb dL_law_124 (by decide) ?_
        refine lv_goto (tgt := 129) hx hb dL_law_125 (by decide) ?_
        refine lv_istore_n (lv' := [(2, .int 1), (0, .ref sc), (1, .ref (f 0)), (3, .int (nI k))]) hx hb dL_law_129 rfl hl (by decide) rfl (fun ls hl => ?_)
        refine W.widen (k := (2000 + 10000 * k) + 4400) (n := (20000 + 60000 * k) + 26400) (by omega) (by omega) ?_
        refine lv_iinc (v := nI (k + 1)) (lv' := [(3, .int (nI (k + 1))), (2, .int 1), (0, .ref sc), (1, .ref (f 0))]) hx hb dL_law_130 hl (k := 3) rfl (nI_add _ 1) (by decide) rfl (fun ls hl => ?_)
        refine lv_goto (tgt := 89) hx hb dL_law_133 (by decide) ?_
        have hl : lv_has ls 4 [(3, .int (nI (k + 1))), (2, .int 1), (0, .ref sc), (1, .ref (f 0))] := hl
        refine W.widen (k := 2000 + 10000 * (k + 1)) (n := 20000 + 60000 * (k + 1)) (by omega) (by omega) ?_
        exact ih89 (k + 1) (show (2 ≤ (k + 1)) ∧ ((k + 1) ≤ 22) from ⟨(by omega), hk22⟩) (by show 22 - (k + 1) < 22 - k; omega) _ _ ls (hG.mono (fun W9 hw9 => by rw [show 20000 + 500000 * (k + 1) = 20000 + 500000 * k + 500000 by omega]; exact hw9)) hS (lv_sub hl [2, 3, 1, 0] rfl)
  · skip
    have hk2 : k < 2 := Nat.lt_of_not_le fun z => c9 ((nI_leI (a := 2) (by omega) (by omega)).mpr z)
    refine lv_iload_n hx hb dL_law_55 rfl (lv_at hl 2 rfl) ?_
    refine lv_if_eq (tgt := 87) hx hb dL_law_56 (by decide) (fun z9 => absurd z9 (by decide)) (fun _ => ?_)
    refine lv_aload_n hx hb dL_law_59 rfl (lv_at hl 1 rfl) ?_
    refine lv_aload_n hx hb dL_law_60 rfl (lv_at hl 0 rfl) ?_
    refine lv_iload_n hx hb dL_law_61 rfl (lv_at hl 3 rfl) ?_
    refine cell_call (rest := [.ref (f 0)]) (k := k) hL0 (by omega) hX hbl hbA hS ⟨hx, hb, hml, hown, hts⟩ (va_cwS 2 hts gL_law_L_cell rfl rfl rfl (by decide +kernel) ⟨Nat.le_of_ble_eq_true rfl, Nat.le_of_ble_eq_true rfl⟩) hl.1 rfl (Nat.le_of_ble_eq_true rfl) dL_law_62 ⟨by show _ + 0 ≤ 600104; omega, by show _ + 0 ≤ 7301314; omega⟩ (fun z0 hz0 => ?_)
    refine lv_bipush (v := 60) hx hb dL_law_65 (by decide) ?_
    refine lv_irem hx hb dL_law_67 (by decide) ?_
    refine fz_top (show _ = nI (z0 % 60) from nI_rem (b := 60) hz0 (by omega) (by omega)) ?_
    refine pw_call (rest := []) (pw_addTeam_t hst J9.wf J9.zo (nI (z0 % 60)) (by rw [br_eq J9 (by omega) (by omega)]; exact (ok_n (by omega)).1)) ⟨hx, hb, hml, hown, hts⟩ (vx_cwSW 2 hts gL_law_L_addTeam rfl rfl rfl (by decide +kernel) ⟨Nat.le_of_ble_eq_true rfl, Nat.le_of_ble_eq_true rfl⟩) hK hG hS hE.1 rfl hl.1 rfl (Nat.le_of_ble_eq_true rfl) dL_law_68 ⟨by show _ + 1 ≤ 600104; omega, by show _ + 6 ≤ 7301314; omega⟩ (fun H locs hG hS => ?_)
    refine fz_top (show _ = nI k from (congrArg Prod.fst (br_eq J9 (by omega) (by omega)))) ?_
    have J10 := br_J J9 (x := z0 % 60) (by omega) (by omega)
    refine lv_iload_n hx hb dL_law_71 rfl (lv_at hl 3 rfl) ?_
    refine lv_icmp_ne (tgt := 79) hx hb dL_law_72 (by decide) (fun z9 => absurd z9 (not_not_p rfl)) (fun _ => ?_)
    refine lv_iconst (v := 1) hx hb dL_law_75 (by decide) ?_
    refine lv_goto (tgt := 80) hx hb dL_law_76 (by decide) ?_
    refine lv_istore_n (lv' := [(2, .int 1), (0, .ref sc), (1, .ref (f 0)), (3, .int (nI k))]) hx hb dL_law_80 rfl hl (by decide) rfl (fun ls hl => ?_)
    refine W.widen (k := (1100 + 20 * k) + 1) (n := (10600 + 120 * k) + 6) (by omega) (by omega) ?_
    refine lv_iinc (v := nI (k + 1)) (lv' := [(3, .int (nI (k + 1))), (2, .int 1), (0, .ref sc), (1, .ref (f 0))]) hx hb dL_law_81 hl (k := 3) rfl (nI_add _ 1) (by decide) rfl (fun ls hl => ?_)
    refine lv_goto (tgt := 50) hx hb dL_law_84 (by decide) ?_
    have hl : lv_has ls 4 [(3, .int (nI (k + 1))), (2, .int 1), (0, .ref sc), (1, .ref (f 0))] := hl
    refine W.widen (k := 1100 + 20 * (k + 1)) (n := 10600 + 120 * (k + 1)) (by omega) (by omega) ?_
    exact ih50 (k + 1, hs_n cm, (fz_bring U k (nI (z0 % 60))).2) (show ((k + 1) ≤ 2) ∧ (pJ ((fz_bring U k (nI (z0 % 60))).2) (k + 1) 0 0 0 0 (6600 * (k + 1))) from ⟨hk2, (J10.mono (by omega))⟩) (by show 2 - (k + 1) < 2 - k; omega) _ _ ls hG hS (lv_sub hl [2, 3, 1, 0] rfl)
