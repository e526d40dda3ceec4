/-! digests, texts, trials -/
def cx_num (V : Nat → Nat → Int32) (x0 : Int32) (nt nc nl wk : Nat) : Nat → Int32 := fun z => if z = 17 then x0 else fz_wval V nt nc nl wk z
def cx_dg (V : Nat → Nat → Int32) (x0 cn : Int32) (nt nc nq nl wk : Nat) : Int64 := fz_mix (fz_ht (fun q w => V (18 + w) q) 6 (fun _ h => h) nl (fz_hs (V 16) nq (fz_ht (fun c w => V (9 + w) c) 7 (fun _ h => h) nc (fz_ht (fun t w => fz_tval V nc nl t w) 11 (fun t h => fz_mix h (fz_xc V nl nq t)) nt (fz_hs (fun w => fz_nz (V 2 w)) 40 (fz_hs (cx_num V x0 nt nc nl wk) 18 (fz_mix 43672 cn))))))) (fz_thaw (V 2) wk)
theorem fz_vo_b {y : Int32} (h1 : ¬ y < 0) (h2 : y ≤ 127) : fz_vo y 128 = true := by
  rcases pk_ix y (n := 128) (by decide) with q | q | ⟨j, q, rfl⟩
  · exact absurd q h1
  · exact absurd (Int32.le_trans q h2) (by decide)
  · simp only [fz_vo, Bool.and_eq_true, Bool.not_eq_true', decide_eq_false_iff_not, decide_eq_true_eq]
    exact ⟨h1, nI_lt q (by decide)⟩
theorem fz_vo_bn {y : Int32} (h : ¬ y ≤ 127) : fz_vo y 128 = false := by
  cases hc : fz_vo y 128 with
  | false => rfl
  | true =>
    obtain ⟨e, g⟩ := fz_vo_s (n := 128) (by decide) hc
    refine absurd ?_ h
    rw [e, show (127 : Int32) = nI 127 from rfl]
    exact (nI_leI (by omega) (by decide)).mpr (by omega)
theorem fz_b8 : ∀ j, j < 128 → (nI j).toInt8.toInt32 = nI j := by decide +kernel
theorem fz_vo_w {y : Int32} (h : fz_vo y 128 = true) : y.toInt8.toInt32 = y := by
  obtain ⟨e, g⟩ := fz_vo_s (n := 128) (by decide) h
  rw [e]
  exact fz_b8 _ g
theorem fz_close_wf {V : Nat → Nat → Int32} {nt nc nq nl wk : Nat} (wf : fz_wf V nt nc nq nl wk) (h : wk < 39) : fz_wf (fz_close V nt nc nl wk).2 nt nc nq nl (wk + 1) := by
  obtain ⟨hnt, hnt6, hnc, hnc30, hnq, hqc, hnl, hnl12, hwk, hwk39, hT, hQ, hG, hB⟩ := wf
  rw [fz_close, if_neg (by omega)]
  exact ⟨hnt, hnt6, hnc, hnc30, hnq, hqc, hnl, hnl12, rfl, by omega, hT, hQ, hG, hB⟩
/-- the rows i weeks on -/
def fz_its (V : Nat → Nat → Int32) (nt nc nl wk : Nat) : Nat → Nat → Nat → Int32
  | 0 => V
  | i + 1 => (fz_close (fz_its V nt nc nl wk i) nt nc nl (wk + i)).2
theorem fz_its_wf {V : Nat → Nat → Int32} {nt nc nq nl wk : Nat} (wf : fz_wf V nt nc nq nl wk) : ∀ i, wk + i ≤ 39 → fz_wf (fz_its V nt nc nl wk i) nt nc nq nl (wk + i)
  | 0, _ => wf
  | i + 1, h => fz_close_wf (fz_its_wf wf i (by omega)) (by omega)
/-- how many weeks are tried -/
def fz_wn (f : Nat → Int32) (c : Int32) : Nat → Nat → Nat
  | 0, n => if c ≤ f n then n else n + 1
  | k + 1, n => if c ≤ f n then n else fz_wn f c k (n + 1)
theorem fz_wn_y {f : Nat → Int32} {c : Int32} {k n : Nat} (h : c ≤ f n) : fz_wn f c k n = n := by
  cases k <;> rw [fz_wn, if_pos h]
theorem fz_wn_n {f : Nat → Int32} {c : Int32} {k n : Nat} (h : ¬ c ≤ f n) (hk : k = 0) : fz_wn f c k n = n + 1 := by
  subst hk
  rw [fz_wn, if_neg h]
theorem fz_wn_s {f : Nat → Int32} {c : Int32} {k n : Nat} (h : ¬ c ≤ f n) (hk : 0 < k) : fz_wn f c k n = fz_wn f c (k - 1) (n + 1) := by
  obtain ⟨j, rfl⟩ : ∃ j, k = j + 1 := ⟨k - 1, by omega⟩
  rw [fz_wn, if_neg h]
  rfl
def cx_wu (V : Nat → Nat → Int32) (nt nc nl wk : Nat) (y z : Int32) : Int32 × (Nat → Nat → Int32) := (fz_wu (fun i => fz_its V nt nc nl wk i 4 y.toNatClampNeg) (z * V 1 0) (39 - wk) 0, fz_its V nt nc nl wk (fz_wn (fun i => fz_its V nt nc nl wk i 4 y.toNatClampNeg) (z * V 1 0) (39 - wk) 0))
def cx_ib (V N : Nat → Nat → Int32) (nt nc nl wk : Nat) (y : Int32) : Int32 × (Nat → Nat → Int32) := if wk + y.toNatClampNeg ≤ 39 then (fz_sum (fz_its V nt nc nl wk y.toNatClampNeg 4) nt + fz_sum (fz_its V nt nc nl wk y.toNatClampNeg 12) nc, fz_its V nt nc nl wk y.toNatClampNeg) else (-1, N)
set_option maxHeartbeats 4000000 in
set_option maxRecDepth 100000 in
/-- mix -/
theorem c_X8_mix (l : Launch) (D : va_G) (cy : Nat → ClassId) (y : Int64) (v : Int32) : fz_RL l yX8_mix wsX8_mix 0 0 D cy [.long y, .int v] ([] : va_W) fz_T (fz_mix y v) := by
  refine Met.ofW (cc := cX8_mix) (maxL := 3) (ret := (some .long)) (by decide) rfl ?_
  intro p e s m args below meth c s₁ B hml hv
  obtain ⟨rfl, hP, hK, hE⟩ := hv
  have hx := B.exec
  have hb := B.bytes
  have hr := B.returns
  have hts := atoms_spec (ws := wsX8_mix) B.pre
  have hown : s.vm.findClass RX8 = some m.cls := findClass_of_methodNamed B.named
  have hlocks := B.notSynchronized
  have hl := lv_entry ([.long y, .int v]) (n := 3) (Nat.le_of_ble_eq_true rfl)
  rw [lg_entry_eq]
  generalize (lg_sl ([.long y, .int v]) ++ List.replicate (3 - (lg_sl ([.long y, .int v])).length) Slot.unset).toArray = ls at hl ⊢
  have hl : lv_has ls 3 [(0, .long y), (2, .int v)] := hl
  refine lv_ldc2 (v := 31) hx hb hown (hts (.constantLong RX8 287 (31)) (by decide +kernel)) dX8_mix_0 ?_
  refine lv_lload_n hx hb dX8_mix_3 rfl (lv_at hl 0 rfl) ?_
  refine lv_lmul hx hb dX8_mix_4 ?_
  refine lv_iload_n hx hb dX8_mix_5 rfl (lv_at hl 1 rfl) ?_
  refine lv_i2l (v := v.toInt64) hx hb dX8_mix_6 rfl ?_
  refine lv_ladd hx hb dX8_mix_7 ?_
  exact W.lret (v := ((31 * y) + v.toInt64)) hx hb hr (fun t9 ht9 hW9 => ⟨_, rfl, rfl, ht9⟩) (fun _ h => nomatch h) dX8_mix_8
set_option maxHeartbeats 4000000 in
set_option maxRecDepth 100000 in
/-- FreezeCredits.mixTeams -/
theorem c_X8_mixTeams (l : Launch) (D : va_G) (cy : Nat → ClassId) (f t h x : Nat → Nat) (a : Nat → Nat) (V : Nat → Nat → Int32) (nt nc nq nl wk : Nat) (wf : fz_wf V nt nc nq nl wk) (y : Int64) : fz_RL l yX8_mixTeams wsX8_mixTeams 3 69 D cy [.ref (f 0), .long y] ((FW f a t h x) ++ (CW cy a V)) fz_Nw (fz_ht (fun t w => fz_tval V nc nl t w) 11 (fun t h => fz_mix h (fz_xc V nl nq t)) nt y) := by
  refine Met.ofW (cc := cX8_mixTeams) (maxL := 7) (ret := (some .long)) (by decide) rfl ?_
  intro p e s m args below meth c s₁ B hml hv
  obtain ⟨rfl, hP, hK, hE⟩ := hv
  have hx := B.exec
  have hb := B.bytes
  have hr := B.returns
  have hts := atoms_spec (ws := wsX8_mixTeams) B.pre
  have hown : s.vm.findClass RX8 = some m.cls := findClass_of_methodNamed B.named
  have hlocks := B.notSynchronized
  have hl := lv_entry ([.ref (f 0), .long y]) (n := 7) (Nat.le_of_ble_eq_true rfl)
  rw [lg_entry_eq]
  generalize (lg_sl ([.ref (f 0), .long y]) ++ List.replicate (7 - (lg_sl ([.ref (f 0), .long y])).length) Slot.unset).toArray = ls at hl ⊢
  have hl : lv_has ls 7 [(0, .ref (f 0)), (1, .long y)] := hl
  have k_12 := hts (.fieldLink RX8 12 "FreezeCredits" "now" "LFreezeCredits$Calendar;") (by decide +kernel)
  have inX8 : ∀ w ∈ u_ws RX8 TX8 4, w ∈ wsX8_mixTeams := by decide +kernel
  have k_161 := hts (.fieldLink RX8 161 "FreezeCredits$Calendar" "teams" "LFreezeCredits$Teams;") (by decide +kernel)
  have inX1 : ∀ w ∈ u_ws RX1 TX1 6, w ∈ wsX8_mixTeams := by decide +kernel
  have k_289 := hts (.fieldLink RX8 289 "FreezeCredits$Teams" "count" "I") (by decide +kernel)
  have inX6 : ∀ w ∈ u_ws RX6 TX6 5, w ∈ wsX8_mixTeams := by decide +kernel
  obtain ⟨hnt, hnt6, hnc, hnc30, hnq, hqc, hnl, hnl12, hwk, hwk39, hT, hQ, hG, hB⟩ := id wf
  refine lv_lload_n hx hb dX8_mixTeams_0 rfl (lv_at hl 1 rfl) ?_
  refine lv_lstore_n (lv' := [(3, .long y), (0, .ref (f 0)), (1, .long y)]) hx hb dX8_mixTeams_1 rfl hl (by decide) rfl (fun ls hl => ?_)
  refine lv_iconst (v := 0) hx hb dX8_mixTeams_2 (by decide) ?_
  refine lv_istore (lv' := [(5, .int 0), (3, .long y), (0, .ref (f 0)), (1, .long y)]) hx hb dX8_mixTeams_3 hl (by decide) rfl (fun ls hl => ?_)
  refine fz_loop (σ := Nat × Int64) (pc := 5) (nL := 7) (fun x9 => match x9 with | (k1, h1) => [(0, .ref (f 0)), (3, .long h1), (5, .int (nI k1))]) (fun x9 => match x9 with | (k1, h1) => (k1 ≤ nt) ∧ (h1 = fz_ht (fun t w => fz_tval V nc nl t w) 11 (fun t h => fz_mix h (fz_xc V nl nq t)) k1 y)) (fun x9 => match x9 with | (k1, h1) => nt - k1) ?_ (0, y) (show (0 ≤ nt) ∧ (y = fz_ht (fun t w => fz_tval V nc nl t w) 11 (fun t h => fz_mix h (fz_xc V nl nq t)) 0 y) from ⟨(by omega), (fz_ht_0 _ _ _ _).symm⟩) ls (lv_sub hl [2, 1, 0] rfl)
  rintro ⟨k1, h1⟩ ⟨hk_k1, e_h1⟩ ih5 ls hl
  have hk_k1 : k1 ≤ nt := hk_k1
  have e_h1 : h1 = fz_ht (fun t w => fz_tval V nc nl t w) 11 (fun t h => fz_mix h (fz_xc V nl nq t)) k1 y := e_h1
  have hl : lv_has ls 7 [(0, .ref (f 0)), (3, .long h1), (5, .int (nI k1))] := hl
  refine lv_iload hx hb dX8_mixTeams_5 (lv_at hl 2 rfl) ?_
  refine lv_aload_n hx hb dX8_mixTeams_7 rfl (lv_at hl 0 rfl) ?_
  refine va_get (D := D) (ci := 6) (v := .ref (a 0)) (C := RX8) (T := TX8) (N := 4) hx hb hts inX8 hown hK hP 0 rfl rfl 0 (by decide) k_12 (fun _ h9 => h9) rfl dX8_mixTeams_8 ?_
  refine va_get (D := D) (ci := 0) (v := .ref (a 3)) (C := RX1) (T := TX1) (N := 6) hx hb hts inX1 hown hK hP 1 rfl rfl 3 (by decide) k_161 (fun _ h9 => h9) rfl dX8_mixTeams_11 ?_
  refine va_get (D := D) (ci := 5) (v := .int (V 3 0)) (C := RX6) (T := TX6) (N := 5) hx hb hts inX6 hown hK hP 4 rfl rfl 0 (by decide) k_289 (fun _ h9 => h9) rfl dX8_mixTeams_14 ?_
  refine fz_geN (tgt := 72) hx hb k1 nt rfl hnt dX8_mixTeams_17 (by decide) (by omega) (by omega) (fun c_1 => ?_) (fun c_1 => ?_)
  · skip
    refine lv_lload_n hx hb dX8_mixTeams_72 rfl (lv_at hl 1 rfl) ?_
    exact W.lret (v := h1) hx hb hr (fun t9 ht9 hW9 => ⟨_, rfl, (by rw [e_h1, show k1 = nt by omega]), ht9⟩) (fun _ h => nomatch h) dX8_mixTeams_73
  · skip
    refine lv_iconst (v := 0) hx hb dX8_mixTeams_20 (by decide) ?_
    refine lv_istore (lv' := [(6, .int 0), (0, .ref (f 0)), (3, .long h1), (5, .int (nI k1))]) hx hb dX8_mixTeams_21 hl (by decide) rfl (fun ls hl => ?_)
    refine fz_loop (σ := Nat × Int64) (pc := 23) (nL := 7) (fun x9 => match x9 with | (k2, h2) => [(0, .ref (f 0)), (3, .long h2), (5, .int (nI k1)), (6, .int (nI k2))]) (fun x9 => match x9 with | (k2, h2) => (k2 ≤ 11) ∧ (h2 = fz_hs (fz_tval V nc nl k1) k2 h1)) (fun x9 => match x9 with | (k2, h2) => 11 - k2) ?_ (0, h1) (show (0 ≤ 11) ∧ (h1 = fz_hs (fz_tval V nc nl k1) 0 h1) from ⟨(by omega), (fz_hs_0 _ _).symm⟩) ls (lv_sub hl [1, 2, 3, 0] rfl)
    rintro ⟨k2, h2⟩ ⟨hk_k2, e_h2⟩ ih23 ls hl
    have hk_k2 : k2 ≤ 11 := hk_k2
    have e_h2 : h2 = fz_hs (fz_tval V nc nl k1) k2 h1 := e_h2
    have hl : lv_has ls 7 [(0, .ref (f 0)), (3, .long h2), (5, .int (nI k1)), (6, .int (nI k2))] := hl
    refine lv_iload hx hb dX8_mixTeams_23 (lv_at hl 3 rfl) ?_
    refine lv_bipush (v := 11) hx hb dX8_mixTeams_25 (by decide) ?_
    refine fz_geN (tgt := 52) hx hb k2 11 rfl rfl dX8_mixTeams_27 (by decide) (by omega) (by omega) (fun c_2 => ?_) (fun c_2 => ?_)
    · skip
      refine lv_lload_n hx hb dX8_mixTeams_52 rfl (lv_at hl 1 rfl) ?_
      refine lv_aload_n hx hb dX8_mixTeams_53 rfl (lv_at hl 0 rfl) ?_
      refine va_get (D := D) (ci := 6) (v := .ref (a 0)) (C := RX8) (T := TX8) (N := 4) hx hb hts inX8 hown hK hP 0 rfl rfl 0 (by decide) k_12 (fun _ h9 => h9) rfl dX8_mixTeams_54 ?_
      refine lv_iload hx hb dX8_mixTeams_57 (lv_at hl 2 rfl) ?_
      refine fz_retR (va_runV (As := [.int (nI k1)]) (rest := [.long h2]) ⟨hx, hb, hml, hown, hts⟩ (c_X1_countExemptible l D cy a V nt nc nq nl wk wf k1 (by omega)) (cwV 1 hts gX8_mixTeams_X1_countExemptible rfl rfl rfl (by decide +kernel) ⟨Nat.le_of_ble_eq_true rfl, Nat.le_of_ble_eq_true rfl⟩) (fz_preV (ci := 0) (q0 := 0) hK (hP.sub (ws' := CW cy a V) [1, 2, 3, 4, 5, 6, 7, 8, 9, 10, 11, 12, 13, 14, 15, 16, 17, 18, 19, 20, 21, 22, 23, 24] rfl) rfl rfl rfl fz_T_bl (fun _ _ _ => trivial)) rfl rfl hl.1 rfl (lv_room (Nat.le_of_ble_eq_true rfl)) dX8_mixTeams_59 ⟨Nat.zero_le _, Nat.zero_le _⟩) ?_
      refine fz_retRL (va_runS (As := [.long h2, .int (fz_xc V nl nq k1)]) (rest := []) ⟨hx, hb, hml, hown, hts⟩ (c_X8_mix l D cy h2 (fz_xc V nl nq k1)) (va_cwS 2 hts gX8_mixTeams_X8_mix rfl rfl rfl (by decide +kernel) ⟨Nat.le_of_ble_eq_true rfl, Nat.le_of_ble_eq_true rfl⟩) (fz_preS hK (fz_nil) fz_T_bl (fun _ _ _ => trivial)) rfl rfl hl.1 rfl (lv_room (Nat.le_of_ble_eq_true rfl)) dX8_mixTeams_62 ⟨Nat.zero_le _, Nat.zero_le _⟩) ?_
      refine lv_lstore_n (lv' := [(3, .long (fz_mix h2 (fz_xc V nl nq k1))), (0, .ref (f 0)), (5, .int (nI k1)), (6, .int (nI k2))]) hx hb dX8_mixTeams_65 rfl hl (by decide) rfl (fun ls hl => ?_)
      refine lv_iinc (v := nI (k1 + 1)) (lv' := [(5, .int (nI (k1 + 1))), (3, .long (fz_mix h2 (fz_xc V nl nq k1))), (0, .ref (f 0)), (6, .int (nI k2))]) hx hb dX8_mixTeams_66 hl (k := 2) rfl (fz_inc rfl) (by decide) rfl (fun ls hl => ?_)
      refine lv_goto (tgt := 5) hx hb dX8_mixTeams_69 (by decide) ?_
      exact ih5 (k1 + 1, fz_mix h2 (fz_xc V nl nq k1)) (show ((k1 + 1) ≤ nt) ∧ ((fz_mix h2 (fz_xc V nl nq k1)) = fz_ht (fun t w => fz_tval V nc nl t w) 11 (fun t h => fz_mix h (fz_xc V nl nq t)) (k1 + 1) y) from ⟨(by omega), (by rw [fz_ht, ← e_h1, e_h2, show k2 = 11 by omega])⟩) (by show nt - (k1 + 1) < nt - k1; omega) ls (lv_sub hl [2, 1, 0] rfl)
    · skip
      refine lv_lload_n hx hb dX8_mixTeams_30 rfl (lv_at hl 1 rfl) ?_
      refine lv_aload_n hx hb dX8_mixTeams_31 rfl (lv_at hl 0 rfl) ?_
      refine va_get (D := D) (ci := 6) (v := .ref (a 0)) (C := RX8) (T := TX8) (N := 4) hx hb hts inX8 hown hK hP 0 rfl rfl 0 (by decide) k_12 (fun _ h9 => h9) rfl dX8_mixTeams_32 ?_
      refine lv_iload hx hb dX8_mixTeams_35 (lv_at hl 2 rfl) ?_
      refine lv_iload hx hb dX8_mixTeams_37 (lv_at hl 3 rfl) ?_
      refine fz_retR (va_runV (As := [.int (nI k1), .int (nI k2)]) (rest := [.long h2]) ⟨hx, hb, hml, hown, hts⟩ (c_X1_teamValue l D cy a V nt nc nq nl wk wf k1 k2 (by omega) (by omega)) (cwV 2 hts gX8_mixTeams_X1_teamValue rfl rfl rfl (by decide +kernel) ⟨Nat.le_of_ble_eq_true rfl, Nat.le_of_ble_eq_true rfl⟩) (fz_preV (ci := 0) (q0 := 0) hK (hP.sub (ws' := CW cy a V) [1, 2, 3, 4, 5, 6, 7, 8, 9, 10, 11, 12, 13, 14, 15, 16, 17, 18, 19, 20, 21, 22, 23, 24] rfl) rfl rfl rfl fz_Nw_bl (fun U _ hW => fz_Nw_warm hW hE)) rfl rfl hl.1 rfl (lv_room (Nat.le_of_ble_eq_true rfl)) dX8_mixTeams_39 ⟨Nat.zero_le _, Nat.zero_le _⟩) ?_
      refine fz_retRL (va_runS (As := [.long h2, .int (fz_tval V nc nl k1 k2)]) (rest := []) ⟨hx, hb, hml, hown, hts⟩ (c_X8_mix l D cy h2 (fz_tval V nc nl k1 k2)) (va_cwS 2 hts gX8_mixTeams_X8_mix rfl rfl rfl (by decide +kernel) ⟨Nat.le_of_ble_eq_true rfl, Nat.le_of_ble_eq_true rfl⟩) (fz_preS hK (fz_nil) fz_T_bl (fun _ _ _ => trivial)) rfl rfl hl.1 rfl (lv_room (Nat.le_of_ble_eq_true rfl)) dX8_mixTeams_42 ⟨Nat.zero_le _, Nat.zero_le _⟩) ?_
      refine lv_lstore_n (lv' := [(3, .long (fz_mix h2 (fz_tval V nc nl k1 k2))), (0, .ref (f 0)), (5, .int (nI k1)), (6, .int (nI k2))]) hx hb dX8_mixTeams_45 rfl hl (by decide) rfl (fun ls hl => ?_)
      refine lv_iinc (v := nI (k2 + 1)) (lv' := [(6, .int (nI (k2 + 1))), (3, .long (fz_mix h2 (fz_tval V nc nl k1 k2))), (0, .ref (f 0)), (5, .int (nI k1))]) hx hb dX8_mixTeams_46 hl (k := 3) rfl (fz_inc rfl) (by decide) rfl (fun ls hl => ?_)
      refine lv_goto (tgt := 23) hx hb dX8_mixTeams_49 (by decide) ?_
      exact ih23 (k2 + 1, fz_mix h2 (fz_tval V nc nl k1 k2)) (show ((k2 + 1) ≤ 11) ∧ ((fz_mix h2 (fz_tval V nc nl k1 k2)) = fz_hs (fz_tval V nc nl k1) (k2 + 1) h1) from ⟨(by omega), (by rw [fz_hs, ← e_h2])⟩) (by show 11 - (k2 + 1) < 11 - k2; omega) ls (lv_sub hl [2, 1, 3, 0] rfl)
set_option maxHeartbeats 4000000 in
set_option maxRecDepth 100000 in
/-- FreezeCredits.mixChanges -/
theorem c_X8_mixChanges (l : Launch) (D : va_G) (cy : Nat → ClassId) (f t h x : Nat → Nat) (a : Nat → Nat) (V : Nat → Nat → Int32) (nt nc nq nl wk : Nat) (wf : fz_wf V nt nc nq nl wk) (y : Int64) : fz_RL l yX8_mixChanges wsX8_mixChanges 1 22 D cy [.ref (f 0), .long y] ((FW f a t h x) ++ (CW cy a V)) fz_Nw (fz_hs (V 16) nq (fz_ht (fun c w => V (9 + w) c) 7 (fun _ h => h) nc y)) := by
  refine Met.ofW (cc := cX8_mixChanges) (maxL := 7) (ret := (some .long)) (by decide) rfl ?_
  intro p e s m args below meth c s₁ B hml hv
  obtain ⟨rfl, hP, hK, hE⟩ := hv
  have hx := B.exec
  have hb := B.bytes
  have hr := B.returns
  have hts := atoms_spec (ws := wsX8_mixChanges) B.pre
  have hown : s.vm.findClass RX8 = some m.cls := findClass_of_methodNamed B.named
  have hlocks := B.notSynchronized
  have hl := lv_entry ([.ref (f 0), .long y]) (n := 7) (Nat.le_of_ble_eq_true rfl)
  rw [lg_entry_eq]
  generalize (lg_sl ([.ref (f 0), .long y]) ++ List.replicate (7 - (lg_sl ([.ref (f 0), .long y])).length) Slot.unset).toArray = ls at hl ⊢
  have hl : lv_has ls 7 [(0, .ref (f 0)), (1, .long y)] := hl
  have k_12 := hts (.fieldLink RX8 12 "FreezeCredits" "now" "LFreezeCredits$Calendar;") (by decide +kernel)
  have inX8 : ∀ w ∈ u_ws RX8 TX8 4, w ∈ wsX8_mixChanges := by decide +kernel
  have k_90 := hts (.fieldLink RX8 90 "FreezeCredits$Calendar" "changes" "LFreezeCredits$Changes;") (by decide +kernel)
  have inX1 : ∀ w ∈ u_ws RX1 TX1 6, w ∈ wsX8_mixChanges := by decide +kernel
  have k_290 := hts (.fieldLink RX8 290 "FreezeCredits$Changes" "count" "I") (by decide +kernel)
  have inX2 : ∀ w ∈ u_ws RX2 TX2 10, w ∈ wsX8_mixChanges := by decide +kernel
  have k_122 := hts (.fieldLink RX8 122 "FreezeCredits$Changes" "queued" "I") (by decide +kernel)
  have k_126 := hts (.fieldLink RX8 126 "FreezeCredits$Changes" "queue" "[I") (by decide +kernel)
  obtain ⟨hnt, hnt6, hnc, hnc30, hnq, hqc, hnl, hnl12, hwk, hwk39, hT, hQ, hG, hB⟩ := id wf
  refine lv_lload_n hx hb dX8_mixChanges_0 rfl (lv_at hl 1 rfl) ?_
  refine lv_lstore_n (lv' := [(3, .long y), (0, .ref (f 0)), (1, .long y)]) hx hb dX8_mixChanges_1 rfl hl (by decide) rfl (fun ls hl => ?_)
  refine lv_iconst (v := 0) hx hb dX8_mixChanges_2 (by decide) ?_
  refine lv_istore (lv' := [(5, .int 0), (3, .long y), (0, .ref (f 0)), (1, .long y)]) hx hb dX8_mixChanges_3 hl (by decide) rfl (fun ls hl => ?_)
  refine fz_loop (σ := Nat × Int64) (pc := 5) (nL := 7) (fun x9 => match x9 with | (k1, h1) => [(0, .ref (f 0)), (3, .long h1), (5, .int (nI k1))]) (fun x9 => match x9 with | (k1, h1) => (k1 ≤ nc) ∧ (h1 = fz_ht (fun c w => V (9 + w) c) 7 (fun _ h => h) k1 y)) (fun x9 => match x9 with | (k1, h1) => nc - k1) ?_ (0, y) (show (0 ≤ nc) ∧ (y = fz_ht (fun c w => V (9 + w) c) 7 (fun _ h => h) 0 y) from ⟨(by omega), (fz_ht_0 _ _ _ _).symm⟩) ls (lv_sub hl [2, 1, 0] rfl)
  rintro ⟨k1, h1⟩ ⟨hk_k1, e_h1⟩ ih5 ls hl
  have hk_k1 : k1 ≤ nc := hk_k1
  have e_h1 : h1 = fz_ht (fun c w => V (9 + w) c) 7 (fun _ h => h) k1 y := e_h1
  have hl : lv_has ls 7 [(0, .ref (f 0)), (3, .long h1), (5, .int (nI k1))] := hl
  refine lv_iload hx hb dX8_mixChanges_5 (lv_at hl 2 rfl) ?_
  refine lv_aload_n hx hb dX8_mixChanges_7 rfl (lv_at hl 0 rfl) ?_
  refine va_get (D := D) (ci := 6) (v := .ref (a 0)) (C := RX8) (T := TX8) (N := 4) hx hb hts inX8 hown hK hP 0 rfl rfl 0 (by decide) k_12 (fun _ h9 => h9) rfl dX8_mixChanges_8 ?_
  refine va_get (D := D) (ci := 0) (v := .ref (a 8)) (C := RX1) (T := TX1) (N := 6) hx hb hts inX1 hown hK hP 1 rfl rfl 4 (by decide) k_90 (fun _ h9 => h9) rfl dX8_mixChanges_11 ?_
  refine va_get (D := D) (ci := 1) (v := .int (V 8 0)) (C := RX2) (T := TX2) (N := 10) hx hb hts inX2 hown hK hP 9 rfl rfl 0 (by decide) k_290 (fun _ h9 => h9) rfl dX8_mixChanges_14 ?_
  refine fz_geN (tgt := 61) hx hb k1 nc rfl hnc dX8_mixChanges_17 (by decide) (by omega) (by omega) (fun c_1 => ?_) (fun c_1 => ?_)
  · skip
    refine lv_iconst (v := 0) hx hb dX8_mixChanges_61 (by decide) ?_
    refine lv_istore (lv' := [(5, .int 0), (0, .ref (f 0)), (3, .long h1)]) hx hb dX8_mixChanges_62 hl (by decide) rfl (fun ls hl => ?_)
    refine fz_loop (σ := Nat × Int64) (pc := 64) (nL := 7) (fun x9 => match x9 with | (k3, h3) => [(0, .ref (f 0)), (3, .long h3), (5, .int (nI k3))]) (fun x9 => match x9 with | (k3, h3) => (k3 ≤ nq) ∧ (h3 = fz_hs (V 16) k3 (fz_ht (fun c w => V (9 + w) c) 7 (fun _ h => h) nc y))) (fun x9 => match x9 with | (k3, h3) => nq - k3) ?_ (0, h1) (show (0 ≤ nq) ∧ (h1 = fz_hs (V 16) 0 (fz_ht (fun c w => V (9 + w) c) 7 (fun _ h => h) nc y)) from ⟨(by omega), (by rw [e_h1, show k1 = nc by omega, fz_hs_0])⟩) ls (lv_sub hl [1, 2, 0] rfl)
    rintro ⟨k3, h3⟩ ⟨hk_k3, e_h3⟩ ih64 ls hl
    have hk_k3 : k3 ≤ nq := hk_k3
    have e_h3 : h3 = fz_hs (V 16) k3 (fz_ht (fun c w => V (9 + w) c) 7 (fun _ h => h) nc y) := e_h3
    have hl : lv_has ls 7 [(0, .ref (f 0)), (3, .long h3), (5, .int (nI k3))] := hl
    refine lv_iload hx hb dX8_mixChanges_64 (lv_at hl 2 rfl) ?_
    refine lv_aload_n hx hb dX8_mixChanges_66 rfl (lv_at hl 0 rfl) ?_
    refine va_get (D := D) (ci := 6) (v := .ref (a 0)) (C := RX8) (T := TX8) (N := 4) hx hb hts inX8 hown hK hP 0 rfl rfl 0 (by decide) k_12 (fun _ h9 => h9) rfl dX8_mixChanges_67 ?_
    refine va_get (D := D) (ci := 0) (v := .ref (a 8)) (C := RX1) (T := TX1) (N := 6) hx hb hts inX1 hown hK hP 1 rfl rfl 4 (by decide) k_90 (fun _ h9 => h9) rfl dX8_mixChanges_70 ?_
    refine va_get (D := D) (ci := 1) (v := .int (V 8 1)) (C := RX2) (T := TX2) (N := 10) hx hb hts inX2 hown hK hP 9 rfl rfl 8 (by decide) k_122 (fun _ h9 => h9) rfl dX8_mixChanges_73 ?_
    refine fz_geN (tgt := 103) hx hb k3 nq rfl hnq dX8_mixChanges_76 (by decide) (by omega) (by omega) (fun c_2 => ?_) (fun c_2 => ?_)
    · skip
      refine lv_lload_n hx hb dX8_mixChanges_103 rfl (lv_at hl 1 rfl) ?_
      exact W.lret (v := h3) hx hb hr (fun t9 ht9 hW9 => ⟨_, rfl, (by rw [e_h3, show k3 = nq by omega]), ht9⟩) (fun _ h => nomatch h) dX8_mixChanges_104
    · skip
      refine lv_lload_n hx hb dX8_mixChanges_79 rfl (lv_at hl 1 rfl) ?_
      refine lv_aload_n hx hb dX8_mixChanges_80 rfl (lv_at hl 0 rfl) ?_
      refine va_get (D := D) (ci := 6) (v := .ref (a 0)) (C := RX8) (T := TX8) (N := 4) hx hb hts inX8 hown hK hP 0 rfl rfl 0 (by decide) k_12 (fun _ h9 => h9) rfl dX8_mixChanges_81 ?_
      refine va_get (D := D) (ci := 0) (v := .ref (a 8)) (C := RX1) (T := TX1) (N := 6) hx hb hts inX1 hown hK hP 1 rfl rfl 4 (by decide) k_90 (fun _ h9 => h9) rfl dX8_mixChanges_84 ?_
      refine va_get (D := D) (ci := 1) (v := .ref (a 16)) (C := RX2) (T := TX2) (N := 10) hx hb hts inX2 hown hK hP 9 rfl rfl 9 (by decide) k_126 (fun _ h9 => h9) rfl dX8_mixChanges_87 ?_
      refine lv_iload hx hb dX8_mixChanges_90 (lv_at hl 2 rfl) ?_
      refine fz_iald (f := V 16) hx hb hK hP 17 0 rfl rfl k3 rfl (by omega) (by decide) dX8_mixChanges_92 ?_
      refine fz_retRL (va_runS (As := [.long h3, .int (V 16 k3)]) (rest := []) ⟨hx, hb, hml, hown, hts⟩ (c_X8_mix l D cy h3 (V 16 k3)) (va_cwS 2 hts gX8_mixChanges_X8_mix rfl rfl rfl (by decide +kernel) ⟨Nat.le_of_ble_eq_true rfl, Nat.le_of_ble_eq_true rfl⟩) (fz_preS hK (fz_nil) fz_T_bl (fun _ _ _ => trivial)) rfl rfl hl.1 rfl (lv_room (Nat.le_of_ble_eq_true rfl)) dX8_mixChanges_93 ⟨Nat.zero_le _, Nat.zero_le _⟩) ?_
      refine lv_lstore_n (lv' := [(3, .long (fz_mix h3 (V 16 k3))), (0, .ref (f 0)), (5, .int (nI k3))]) hx hb dX8_mixChanges_96 rfl hl (by decide) rfl (fun ls hl => ?_)
      refine lv_iinc (v := nI (k3 + 1)) (lv' := [(5, .int (nI (k3 + 1))), (3, .long (fz_mix h3 (V 16 k3))), (0, .ref (f 0))]) hx hb dX8_mixChanges_97 hl (k := 2) rfl (fz_inc rfl) (by decide) rfl (fun ls hl => ?_)
      refine lv_goto (tgt := 64) hx hb dX8_mixChanges_100 (by decide) ?_
      exact ih64 (k3 + 1, fz_mix h3 (V 16 k3)) (show ((k3 + 1) ≤ nq) ∧ ((fz_mix h3 (V 16 k3)) = fz_hs (V 16) (k3 + 1) (fz_ht (fun c w => V (9 + w) c) 7 (fun _ h => h) nc y)) from ⟨(by omega), (by rw [fz_hs, ← e_h3])⟩) (by show nq - (k3 + 1) < nq - k3; omega) ls (lv_sub hl [2, 1, 0] rfl)
  · skip
    refine lv_iconst (v := 0) hx hb dX8_mixChanges_20 (by decide) ?_
    refine lv_istore (lv' := [(6, .int 0), (0, .ref (f 0)), (3, .long h1), (5, .int (nI k1))]) hx hb dX8_mixChanges_21 hl (by decide) rfl (fun ls hl => ?_)
    refine fz_loop (σ := Nat × Int64) (pc := 23) (nL := 7) (fun x9 => match x9 with | (k2, h2) => [(0, .ref (f 0)), (3, .long h2), (5, .int (nI k1)), (6, .int (nI k2))]) (fun x9 => match x9 with | (k2, h2) => (k2 ≤ 7) ∧ (h2 = fz_hs (fun w => V (9 + w) k1) k2 h1)) (fun x9 => match x9 with | (k2, h2) => 7 - k2) ?_ (0, h1) (show (0 ≤ 7) ∧ (h1 = fz_hs (fun w => V (9 + w) k1) 0 h1) from ⟨(by omega), (fz_hs_0 _ _).symm⟩) ls (lv_sub hl [1, 2, 3, 0] rfl)
    rintro ⟨k2, h2⟩ ⟨hk_k2, e_h2⟩ ih23 ls hl
    have hk_k2 : k2 ≤ 7 := hk_k2
    have e_h2 : h2 = fz_hs (fun w => V (9 + w) k1) k2 h1 := e_h2
    have hl : lv_has ls 7 [(0, .ref (f 0)), (3, .long h2), (5, .int (nI k1)), (6, .int (nI k2))] := hl
    refine lv_iload hx hb dX8_mixChanges_23 (lv_at hl 3 rfl) ?_
    refine lv_bipush (v := 7) hx hb dX8_mixChanges_25 (by decide) ?_
    refine fz_geN (tgt := 55) hx hb k2 7 rfl rfl dX8_mixChanges_27 (by decide) (by omega) (by omega) (fun c_3 => ?_) (fun c_3 => ?_)
    · skip
      refine lv_iinc (v := nI (k1 + 1)) (lv' := [(5, .int (nI (k1 + 1))), (0, .ref (f 0)), (3, .long h2), (6, .int (nI k2))]) hx hb dX8_mixChanges_55 hl (k := 2) rfl (fz_inc rfl) (by decide) rfl (fun ls hl => ?_)
      refine lv_goto (tgt := 5) hx hb dX8_mixChanges_58 (by decide) ?_
      exact ih5 (k1 + 1, h2) (show ((k1 + 1) ≤ nc) ∧ (h2 = fz_ht (fun c w => V (9 + w) c) 7 (fun _ h => h) (k1 + 1) y) from ⟨(by omega), (by rw [fz_ht, ← e_h1, e_h2, show k2 = 7 by omega])⟩) (by show nc - (k1 + 1) < nc - k1; omega) ls (lv_sub hl [1, 2, 0] rfl)
    · skip
      refine lv_lload_n hx hb dX8_mixChanges_30 rfl (lv_at hl 1 rfl) ?_
      refine lv_aload_n hx hb dX8_mixChanges_31 rfl (lv_at hl 0 rfl) ?_
      refine va_get (D := D) (ci := 6) (v := .ref (a 0)) (C := RX8) (T := TX8) (N := 4) hx hb hts inX8 hown hK hP 0 rfl rfl 0 (by decide) k_12 (fun _ h9 => h9) rfl dX8_mixChanges_32 ?_
      refine va_get (D := D) (ci := 0) (v := .ref (a 8)) (C := RX1) (T := TX1) (N := 6) hx hb hts inX1 hown hK hP 1 rfl rfl 4 (by decide) k_90 (fun _ h9 => h9) rfl dX8_mixChanges_35 ?_
      refine lv_iload hx hb dX8_mixChanges_38 (lv_at hl 2 rfl) ?_
      refine lv_iload hx hb dX8_mixChanges_40 (lv_at hl 3 rfl) ?_
      refine fz_retR (va_runV (As := [.int (nI k1), .int (nI k2)]) (rest := [.long h2]) ⟨hx, hb, hml, hown, hts⟩ (c_X2_value l D cy a V k1 k2 (by omega) (by omega)) (cwV 2 hts gX8_mixChanges_X2_value rfl rfl rfl (by decide +kernel) ⟨Nat.le_of_ble_eq_true rfl, Nat.le_of_ble_eq_true rfl⟩) (fz_preV (ci := 1) (q0 := 0) hK (hP.sub (ws' := GW cy a V) [9, 10, 11, 12, 13, 14, 15, 16, 17] rfl) rfl rfl rfl fz_T_bl (fun _ _ _ => trivial)) rfl rfl hl.1 rfl (lv_room (Nat.le_of_ble_eq_true rfl)) dX8_mixChanges_42 ⟨Nat.zero_le _, Nat.zero_le _⟩) ?_
      refine fz_retRL (va_runS (As := [.long h2, .int (V (9 + k2) k1)]) (rest := []) ⟨hx, hb, hml, hown, hts⟩ (c_X8_mix l D cy h2 (V (9 + k2) k1)) (va_cwS 2 hts gX8_mixChanges_X8_mix rfl rfl rfl (by decide +kernel) ⟨Nat.le_of_ble_eq_true rfl, Nat.le_of_ble_eq_true rfl⟩) (fz_preS hK (fz_nil) fz_T_bl (fun _ _ _ => trivial)) rfl rfl hl.1 rfl (lv_room (Nat.le_of_ble_eq_true rfl)) dX8_mixChanges_45 ⟨Nat.zero_le _, Nat.zero_le _⟩) ?_
      refine lv_lstore_n (lv' := [(3, .long (fz_mix h2 (V (9 + k2) k1))), (0, .ref (f 0)), (5, .int (nI k1)), (6, .int (nI k2))]) hx hb dX8_mixChanges_48 rfl hl (by decide) rfl (fun ls hl => ?_)
      refine lv_iinc (v := nI (k2 + 1)) (lv' := [(6, .int (nI (k2 + 1))), (3, .long (fz_mix h2 (V (9 + k2) k1))), (0, .ref (f 0)), (5, .int (nI k1))]) hx hb dX8_mixChanges_49 hl (k := 3) rfl (fz_inc rfl) (by decide) rfl (fun ls hl => ?_)
      refine lv_goto (tgt := 23) hx hb dX8_mixChanges_52 (by decide) ?_
      exact ih23 (k2 + 1, fz_mix h2 (V (9 + k2) k1)) (show ((k2 + 1) ≤ 7) ∧ ((fz_mix h2 (V (9 + k2) k1)) = fz_hs (fun w => V (9 + w) k1) (k2 + 1) h1) from ⟨(by omega), (by rw [fz_hs, ← e_h2])⟩) (by show 7 - (k2 + 1) < 7 - k2; omega) ls (lv_sub hl [2, 1, 3, 0] rfl)
set_option maxHeartbeats 4000000 in
set_option maxRecDepth 100000 in
/-- FreezeCredits.mixLoans -/
theorem c_X8_mixLoans (l : Launch) (D : va_G) (cy : Nat → ClassId) (f t h x : Nat → Nat) (a : Nat → Nat) (V : Nat → Nat → Int32) (nt nc nq nl wk : Nat) (wf : fz_wf V nt nc nq nl wk) (y : Int64) : fz_RL l yX8_mixLoans wsX8_mixLoans 1 22 D cy [.ref (f 0), .long y] ((FW f a t h x) ++ (CW cy a V)) fz_Nw (fz_ht (fun q w => V (18 + w) q) 6 (fun _ h => h) nl y) := by
  refine Met.ofW (cc := cX8_mixLoans) (maxL := 7) (ret := (some .long)) (by decide) rfl ?_
  intro p e s m args below meth c s₁ B hml hv
  obtain ⟨rfl, hP, hK, hE⟩ := hv
  have hx := B.exec
  have hb := B.bytes
  have hr := B.returns
  have hts := atoms_spec (ws := wsX8_mixLoans) B.pre
  have hown : s.vm.findClass RX8 = some m.cls := findClass_of_methodNamed B.named
  have hlocks := B.notSynchronized
  have hl := lv_entry ([.ref (f 0), .long y]) (n := 7) (Nat.le_of_ble_eq_true rfl)
  rw [lg_entry_eq]
  generalize (lg_sl ([.ref (f 0), .long y]) ++ List.replicate (7 - (lg_sl ([.ref (f 0), .long y])).length) Slot.unset).toArray = ls at hl ⊢
  have hl : lv_has ls 7 [(0, .ref (f 0)), (1, .long y)] := hl
  have k_12 := hts (.fieldLink RX8 12 "FreezeCredits" "now" "LFreezeCredits$Calendar;") (by decide +kernel)
  have inX8 : ∀ w ∈ u_ws RX8 TX8 4, w ∈ wsX8_mixLoans := by decide +kernel
  have k_99 := hts (.fieldLink RX8 99 "FreezeCredits$Calendar" "loans" "LFreezeCredits$Loans;") (by decide +kernel)
  have inX1 : ∀ w ∈ u_ws RX1 TX1 6, w ∈ wsX8_mixLoans := by decide +kernel
  have k_291 := hts (.fieldLink RX8 291 "FreezeCredits$Loans" "count" "I") (by decide +kernel)
  have inX5 : ∀ w ∈ u_ws RX5 TX5 7, w ∈ wsX8_mixLoans := by decide +kernel
  obtain ⟨hnt, hnt6, hnc, hnc30, hnq, hqc, hnl, hnl12, hwk, hwk39, hT, hQ, hG, hB⟩ := id wf
  refine lv_lload_n hx hb dX8_mixLoans_0 rfl (lv_at hl 1 rfl) ?_
  refine lv_lstore_n (lv' := [(3, .long y), (0, .ref (f 0)), (1, .long y)]) hx hb dX8_mixLoans_1 rfl hl (by decide) rfl (fun ls hl => ?_)
  refine lv_iconst (v := 0) hx hb dX8_mixLoans_2 (by decide) ?_
  refine lv_istore (lv' := [(5, .int 0), (3, .long y), (0, .ref (f 0)), (1, .long y)]) hx hb dX8_mixLoans_3 hl (by decide) rfl (fun ls hl => ?_)
  refine fz_loop (σ := Nat × Int64) (pc := 5) (nL := 7) (fun x9 => match x9 with | (k1, h1) => [(0, .ref (f 0)), (3, .long h1), (5, .int (nI k1))]) (fun x9 => match x9 with | (k1, h1) => (k1 ≤ nl) ∧ (h1 = fz_ht (fun q w => V (18 + w) q) 6 (fun _ h => h) k1 y)) (fun x9 => match x9 with | (k1, h1) => nl - k1) ?_ (0, y) (show (0 ≤ nl) ∧ (y = fz_ht (fun q w => V (18 + w) q) 6 (fun _ h => h) 0 y) from ⟨(by omega), (fz_ht_0 _ _ _ _).symm⟩) ls (lv_sub hl [2, 1, 0] rfl)
  rintro ⟨k1, h1⟩ ⟨hk_k1, e_h1⟩ ih5 ls hl
  have hk_k1 : k1 ≤ nl := hk_k1
  have e_h1 : h1 = fz_ht (fun q w => V (18 + w) q) 6 (fun _ h => h) k1 y := e_h1
  have hl : lv_has ls 7 [(0, .ref (f 0)), (3, .long h1), (5, .int (nI k1))] := hl
  refine lv_iload hx hb dX8_mixLoans_5 (lv_at hl 2 rfl) ?_
  refine lv_aload_n hx hb dX8_mixLoans_7 rfl (lv_at hl 0 rfl) ?_
  refine va_get (D := D) (ci := 6) (v := .ref (a 0)) (C := RX8) (T := TX8) (N := 4) hx hb hts inX8 hown hK hP 0 rfl rfl 0 (by decide) k_12 (fun _ h9 => h9) rfl dX8_mixLoans_8 ?_
  refine va_get (D := D) (ci := 0) (v := .ref (a 17)) (C := RX1) (T := TX1) (N := 6) hx hb hts inX1 hown hK hP 1 rfl rfl 5 (by decide) k_99 (fun _ h9 => h9) rfl dX8_mixLoans_11 ?_
  refine va_get (D := D) (ci := 4) (v := .int (V 17 0)) (C := RX5) (T := TX5) (N := 7) hx hb hts inX5 hown hK hP 18 rfl rfl 0 (by decide) k_291 (fun _ h9 => h9) rfl dX8_mixLoans_14 ?_
  refine fz_geN (tgt := 61) hx hb k1 nl rfl hnl dX8_mixLoans_17 (by decide) (by omega) (by omega) (fun c_1 => ?_) (fun c_1 => ?_)
  · skip
    refine lv_lload_n hx hb dX8_mixLoans_61 rfl (lv_at hl 1 rfl) ?_
    exact W.lret (v := h1) hx hb hr (fun t9 ht9 hW9 => ⟨_, rfl, (by rw [e_h1, show k1 = nl by omega]), ht9⟩) (fun _ h => nomatch h) dX8_mixLoans_62
  · skip
    refine lv_iconst (v := 0) hx hb dX8_mixLoans_20 (by decide) ?_
    refine lv_istore (lv' := [(6, .int 0), (0, .ref (f 0)), (3, .long h1), (5, .int (nI k1))]) hx hb dX8_mixLoans_21 hl (by decide) rfl (fun ls hl => ?_)
    refine fz_loop (σ := Nat × Int64) (pc := 23) (nL := 7) (fun x9 => match x9 with | (k2, h2) => [(0, .ref (f 0)), (3, .long h2), (5, .int (nI k1)), (6, .int (nI k2))]) (fun x9 => match x9 with | (k2, h2) => (k2 ≤ 6) ∧ (h2 = fz_hs (fun w => V (18 + w) k1) k2 h1)) (fun x9 => match x9 with | (k2, h2) => 6 - k2) ?_ (0, h1) (show (0 ≤ 6) ∧ (h1 = fz_hs (fun w => V (18 + w) k1) 0 h1) from ⟨(by omega), (fz_hs_0 _ _).symm⟩) ls (lv_sub hl [1, 2, 3, 0] rfl)
    rintro ⟨k2, h2⟩ ⟨hk_k2, e_h2⟩ ih23 ls hl
    have hk_k2 : k2 ≤ 6 := hk_k2
    have e_h2 : h2 = fz_hs (fun w => V (18 + w) k1) k2 h1 := e_h2
    have hl : lv_has ls 7 [(0, .ref (f 0)), (3, .long h2), (5, .int (nI k1)), (6, .int (nI k2))] := hl
    refine lv_iload hx hb dX8_mixLoans_23 (lv_at hl 3 rfl) ?_
    refine lv_bipush (v := 6) hx hb dX8_mixLoans_25 (by decide) ?_
    refine fz_geN (tgt := 55) hx hb k2 6 rfl rfl dX8_mixLoans_27 (by decide) (by omega) (by omega) (fun c_2 => ?_) (fun c_2 => ?_)
    · skip
      refine lv_iinc (v := nI (k1 + 1)) (lv' := [(5, .int (nI (k1 + 1))), (0, .ref (f 0)), (3, .long h2), (6, .int (nI k2))]) hx hb dX8_mixLoans_55 hl (k := 2) rfl (fz_inc rfl) (by decide) rfl (fun ls hl => ?_)
      refine lv_goto (tgt := 5) hx hb dX8_mixLoans_58 (by decide) ?_
      exact ih5 (k1 + 1, h2) (show ((k1 + 1) ≤ nl) ∧ (h2 = fz_ht (fun q w => V (18 + w) q) 6 (fun _ h => h) (k1 + 1) y) from ⟨(by omega), (by rw [fz_ht, ← e_h1, e_h2, show k2 = 6 by omega])⟩) (by show nl - (k1 + 1) < nl - k1; omega) ls (lv_sub hl [1, 2, 0] rfl)
    · skip
      refine lv_lload_n hx hb dX8_mixLoans_30 rfl (lv_at hl 1 rfl) ?_
      refine lv_aload_n hx hb dX8_mixLoans_31 rfl (lv_at hl 0 rfl) ?_
      refine va_get (D := D) (ci := 6) (v := .ref (a 0)) (C := RX8) (T := TX8) (N := 4) hx hb hts inX8 hown hK hP 0 rfl rfl 0 (by decide) k_12 (fun _ h9 => h9) rfl dX8_mixLoans_32 ?_
      refine va_get (D := D) (ci := 0) (v := .ref (a 17)) (C := RX1) (T := TX1) (N := 6) hx hb hts inX1 hown hK hP 1 rfl rfl 5 (by decide) k_99 (fun _ h9 => h9) rfl dX8_mixLoans_35 ?_
      refine lv_iload hx hb dX8_mixLoans_38 (lv_at hl 2 rfl) ?_
      refine lv_iload hx hb dX8_mixLoans_40 (lv_at hl 3 rfl) ?_
      refine fz_retR (va_runV (As := [.int (nI k1), .int (nI k2)]) (rest := [.long h2]) ⟨hx, hb, hml, hown, hts⟩ (c_X5_value l D cy a V k1 k2 (by omega) (by omega)) (cwV 2 hts gX8_mixLoans_X5_value rfl rfl rfl (by decide +kernel) ⟨Nat.le_of_ble_eq_true rfl, Nat.le_of_ble_eq_true rfl⟩) (fz_preV (ci := 4) (q0 := 0) hK (hP.sub (ws' := LW cy a V) [18, 19, 20, 21, 22, 23, 24] rfl) rfl rfl rfl fz_T_bl (fun _ _ _ => trivial)) rfl rfl hl.1 rfl (lv_room (Nat.le_of_ble_eq_true rfl)) dX8_mixLoans_42 ⟨Nat.zero_le _, Nat.zero_le _⟩) ?_
      refine fz_retRL (va_runS (As := [.long h2, .int (V (18 + k2) k1)]) (rest := []) ⟨hx, hb, hml, hown, hts⟩ (c_X8_mix l D cy h2 (V (18 + k2) k1)) (va_cwS 2 hts gX8_mixLoans_X8_mix rfl rfl rfl (by decide +kernel) ⟨Nat.le_of_ble_eq_true rfl, Nat.le_of_ble_eq_true rfl⟩) (fz_preS hK (fz_nil) fz_T_bl (fun _ _ _ => trivial)) rfl rfl hl.1 rfl (lv_room (Nat.le_of_ble_eq_true rfl)) dX8_mixLoans_45 ⟨Nat.zero_le _, Nat.zero_le _⟩) ?_
      refine lv_lstore_n (lv' := [(3, .long (fz_mix h2 (V (18 + k2) k1))), (0, .ref (f 0)), (5, .int (nI k1)), (6, .int (nI k2))]) hx hb dX8_mixLoans_48 rfl hl (by decide) rfl (fun ls hl => ?_)
      refine lv_iinc (v := nI (k2 + 1)) (lv' := [(6, .int (nI (k2 + 1))), (3, .long (fz_mix h2 (V (18 + k2) k1))), (0, .ref (f 0)), (5, .int (nI k1))]) hx hb dX8_mixLoans_49 hl (k := 3) rfl (fz_inc rfl) (by decide) rfl (fun ls hl => ?_)
      refine lv_goto (tgt := 23) hx hb dX8_mixLoans_52 (by decide) ?_
      exact ih23 (k2 + 1, fz_mix h2 (V (18 + k2) k1)) (show ((k2 + 1) ≤ 6) ∧ ((fz_mix h2 (V (18 + k2) k1)) = fz_hs (fun w => V (18 + w) k1) (k2 + 1) h1) from ⟨(by omega), (by rw [fz_hs, ← e_h2])⟩) (by show 6 - (k2 + 1) < 6 - k2; omega) ls (lv_sub hl [2, 1, 3, 0] rfl)
set_option maxHeartbeats 4000000 in
set_option maxRecDepth 100000 in
/-- FreezeCredits.digest -/
theorem c_X8_digest (l : Launch) (D : va_G) (cy : Nat → ClassId) (f t : Nat → Nat) (x : Nat → Nat) (ad : Nat → Nat) (X : Nat → Nat → Int32) (vb : Option Nat) (h : Nat → Nat) (g : Nat → Option Nat) (cn : Int32) (a : Nat → Nat) (V : Nat → Nat → Int32) (nt nc nq nl wk : Nat) (wf : fz_wf V nt nc nq nl wk) : fz_RL l yX8_digest wsX8_digest 5 108 D cy [.ref (f 0)] ((FW f a t h x) ++ ((XW cy ad x X vb) ++ ((HW cy h g cn) ++ (CW cy a V)))) fz_Nw (cx_dg V (X 0 0) cn nt nc nq nl wk) := by
  refine Met.ofW (cc := cX8_digest) (maxL := 4) (ret := (some .long)) (by decide) rfl ?_
  intro p e s m args below meth c s₁ B hml hv
  obtain ⟨rfl, hP, hK, hE⟩ := hv
  have hx := B.exec
  have hb := B.bytes
  have hr := B.returns
  have hts := atoms_spec (ws := wsX8_digest) B.pre
  have hown : s.vm.findClass RX8 = some m.cls := findClass_of_methodNamed B.named
  have hlocks := B.notSynchronized
  have hl := lv_entry ([.ref (f 0)]) (n := 4) (Nat.le_of_ble_eq_true rfl)
  rw [lg_entry_eq]
  generalize (lg_sl ([.ref (f 0)]) ++ List.replicate (4 - (lg_sl ([.ref (f 0)])).length) Slot.unset).toArray = ls at hl ⊢
  have hl : lv_has ls 4 [(0, .ref (f 0))] := hl
  have k_22 := hts (.fieldLink RX8 22 "FreezeCredits" "history" "LFreezeCredits$History;") (by decide +kernel)
  have inX8 : ∀ w ∈ u_ws RX8 TX8 4, w ∈ wsX8_digest := by decide +kernel
  have k_209 := hts (.fieldLink RX8 209 "FreezeCredits$History" "count" "I") (by decide +kernel)
  have inX4 : ∀ w ∈ u_ws RX4 TX4 2, w ∈ wsX8_digest := by decide +kernel
  have k_12 := hts (.fieldLink RX8 12 "FreezeCredits" "now" "LFreezeCredits$Calendar;") (by decide +kernel)
  have k_132 := hts (.fieldLink RX8 132 "FreezeCredits$Calendar" "frozenWeeks" "[Z") (by decide +kernel)
  have inX1 : ∀ w ∈ u_ws RX1 TX1 6, w ∈ wsX8_digest := by decide +kernel
  obtain ⟨hnt, hnt6, hnc, hnc30, hnq, hqc, hnl, hnl12, hwk, hwk39, hT, hQ, hG, hB⟩ := id wf
  refine lv_ldc2 (v := 43672) hx hb hown (hts (.constantLong RX8 218 (43672)) (by decide +kernel)) dX8_digest_0 ?_
  refine lv_aload_n hx hb dX8_digest_3 rfl (lv_at hl 0 rfl) ?_
  refine va_get (D := D) (ci := 6) (v := .ref (h 0)) (C := RX8) (T := TX8) (N := 4) hx hb hts inX8 hown hK hP 0 rfl rfl 2 (by decide) k_22 (fun _ h9 => h9) rfl dX8_digest_4 ?_
  refine va_get (D := D) (ci := 3) (v := .int cn) (C := RX4) (T := TX4) (N := 2) hx hb hts inX4 hown hK hP 4 rfl rfl 0 (by decide) k_209 (fun _ h9 => h9) rfl dX8_digest_7 ?_
  refine fz_retRL (va_runS (As := [.long 43672, .int cn]) (rest := []) ⟨hx, hb, hml, hown, hts⟩ (c_X8_mix l D cy 43672 cn) (va_cwS 2 hts gX8_digest_X8_mix rfl rfl rfl (by decide +kernel) ⟨Nat.le_of_ble_eq_true rfl, Nat.le_of_ble_eq_true rfl⟩) (fz_preS hK (fz_nil) fz_T_bl (fun _ _ _ => trivial)) rfl rfl hl.1 rfl (lv_room (Nat.le_of_ble_eq_true rfl)) dX8_digest_10 ⟨Nat.zero_le _, Nat.zero_le _⟩) ?_
  refine lv_lstore_n (lv' := [(1, .long (fz_mix 43672 cn)), (0, .ref (f 0))]) hx hb dX8_digest_13 rfl hl (by decide) rfl (fun ls hl => ?_)
  refine lv_iconst (v := 0) hx hb dX8_digest_14 (by decide) ?_
  refine lv_istore_n (lv' := [(3, .int 0), (1, .long (fz_mix 43672 cn)), (0, .ref (f 0))]) hx hb dX8_digest_15 rfl hl (by decide) rfl (fun ls hl => ?_)
  refine fz_loop (σ := Nat × Int64) (pc := 16) (nL := 4) (fun x9 => match x9 with | (k1, h1) => [(0, .ref (f 0)), (1, .long h1), (3, .int (nI k1))]) (fun x9 => match x9 with | (k1, h1) => (k1 ≤ 18) ∧ (h1 = fz_hs (cx_num V (X 0 0) nt nc nl wk) k1 (fz_mix 43672 cn))) (fun x9 => match x9 with | (k1, h1) => 18 - k1) ?_ (0, fz_mix 43672 cn) (show (0 ≤ 18) ∧ ((fz_mix 43672 cn) = fz_hs (cx_num V (X 0 0) nt nc nl wk) 0 (fz_mix 43672 cn)) from ⟨(by omega), (fz_hs_0 _ _).symm⟩) ls (lv_sub hl [2, 1, 0] rfl)
  rintro ⟨k1, h1⟩ ⟨hk_k1, e_h1⟩ ih16 ls hl
  have hk_k1 : k1 ≤ 18 := hk_k1
  have e_h1 : h1 = fz_hs (cx_num V (X 0 0) nt nc nl wk) k1 (fz_mix 43672 cn) := e_h1
  have hl : lv_has ls 4 [(0, .ref (f 0)), (1, .long h1), (3, .int (nI k1))] := hl
  refine lv_iload_n hx hb dX8_digest_16 rfl (lv_at hl 2 rfl) ?_
  refine lv_bipush (v := 18) hx hb dX8_digest_17 (by decide) ?_
  refine fz_geN (tgt := 38) hx hb k1 18 rfl rfl dX8_digest_19 (by decide) (by omega) (by omega) (fun c_1 => ?_) (fun c_1 => ?_)
  · skip
    refine lv_iconst (v := 0) hx hb dX8_digest_38 (by decide) ?_
    refine lv_istore_n (lv' := [(3, .int 0), (0, .ref (f 0)), (1, .long h1)]) hx hb dX8_digest_39 rfl hl (by decide) rfl (fun ls hl => ?_)
    refine fz_loop (σ := Nat × Int64) (pc := 40) (nL := 4) (fun x9 => match x9 with | (k2, h2) => [(0, .ref (f 0)), (1, .long h2), (3, .int (nI k2))]) (fun x9 => match x9 with | (k2, h2) => (k2 ≤ 40) ∧ (h2 = fz_hs (fun w => fz_nz (V 2 w)) k2 (fz_hs (cx_num V (X 0 0) nt nc nl wk) 18 (fz_mix 43672 cn)))) (fun x9 => match x9 with | (k2, h2) => 40 - k2) ?_ (0, h1) (show (0 ≤ 40) ∧ (h1 = fz_hs (fun w => fz_nz (V 2 w)) 0 (fz_hs (cx_num V (X 0 0) nt nc nl wk) 18 (fz_mix 43672 cn))) from ⟨(by omega), (by rw [e_h1, show k1 = 18 by omega, fz_hs_0])⟩) ls (lv_sub hl [1, 2, 0] rfl)
    rintro ⟨k2, h2⟩ ⟨hk_k2, e_h2⟩ ih40 ls hl
    have hk_k2 : k2 ≤ 40 := hk_k2
    have e_h2 : h2 = fz_hs (fun w => fz_nz (V 2 w)) k2 (fz_hs (cx_num V (X 0 0) nt nc nl wk) 18 (fz_mix 43672 cn)) := e_h2
    have hl : lv_has ls 4 [(0, .ref (f 0)), (1, .long h2), (3, .int (nI k2))] := hl
    refine lv_iload_n hx hb dX8_digest_40 rfl (lv_at hl 2 rfl) ?_
    refine lv_bipush (v := 40) hx hb dX8_digest_41 (by decide) ?_
    refine fz_geN (tgt := 69) hx hb k2 40 rfl rfl dX8_digest_43 (by decide) (by omega) (by omega) (fun c_2 => ?_) (fun c_2 => ?_)
    · skip
      refine lv_aload_n hx hb dX8_digest_69 rfl (lv_at hl 0 rfl) ?_
      refine lv_lload_n hx hb dX8_digest_70 rfl (lv_at hl 1 rfl) ?_
      refine fz_retRL (va_runV (As := [.long h2]) (rest := []) ⟨hx, hb, hml, hown, hts⟩ (c_X8_mixTeams l D cy f t h x a V nt nc nq nl wk wf h2) (cwV 1 hts gX8_digest_X8_mixTeams rfl rfl rfl (by decide +kernel) ⟨Nat.le_of_ble_eq_true rfl, Nat.le_of_ble_eq_true rfl⟩) (fz_preV (ci := 6) (q0 := 0) hK (hP.sub (ws' := (FW f a t h x) ++ (CW cy a V)) [0, 6, 7, 8, 9, 10, 11, 12, 13, 14, 15, 16, 17, 18, 19, 20, 21, 22, 23, 24, 25, 26, 27, 28, 29] rfl) rfl rfl rfl fz_Nw_bl (fun U _ hW => fz_Nw_warm hW hE)) rfl rfl hl.1 rfl (lv_room (Nat.le_of_ble_eq_true rfl)) dX8_digest_71 ⟨Nat.zero_le _, Nat.zero_le _⟩) ?_
      refine lv_lstore_n (lv' := [(1, .long (fz_ht (fun t w => fz_tval V nc nl t w) 11 (fun t h => fz_mix h (fz_xc V nl nq t)) nt h2)), (0, .ref (f 0)), (3, .int (nI k2))]) hx hb dX8_digest_74 rfl hl (by decide) rfl (fun ls hl => ?_)
      refine lv_aload_n hx hb dX8_digest_75 rfl (lv_at hl 1 rfl) ?_
      refine lv_lload_n hx hb dX8_digest_76 rfl (lv_at hl 0 rfl) ?_
      refine fz_retRL (va_runV (As := [.long (fz_ht (fun t w => fz_tval V nc nl t w) 11 (fun t h => fz_mix h (fz_xc V nl nq t)) nt h2)]) (rest := []) ⟨hx, hb, hml, hown, hts⟩ (c_X8_mixChanges l D cy f t h x a V nt nc nq nl wk wf (fz_ht (fun t w => fz_tval V nc nl t w) 11 (fun t h => fz_mix h (fz_xc V nl nq t)) nt h2)) (cwV 1 hts gX8_digest_X8_mixChanges rfl rfl rfl (by decide +kernel) ⟨Nat.le_of_ble_eq_true rfl, Nat.le_of_ble_eq_true rfl⟩) (fz_preV (ci := 6) (q0 := 0) hK (hP.sub (ws' := (FW f a t h x) ++ (CW cy a V)) [0, 6, 7, 8, 9, 10, 11, 12, 13, 14, 15, 16, 17, 18, 19, 20, 21, 22, 23, 24, 25, 26, 27, 28, 29] rfl) rfl rfl rfl fz_Nw_bl (fun U _ hW => fz_Nw_warm hW hE)) rfl rfl hl.1 rfl (lv_room (Nat.le_of_ble_eq_true rfl)) dX8_digest_77 ⟨Nat.zero_le _, Nat.zero_le _⟩) ?_
      refine lv_lstore_n (lv' := [(1, .long (fz_hs (V 16) nq (fz_ht (fun c w => V (9 + w) c) 7 (fun _ h => h) nc (fz_ht (fun t w => fz_tval V nc nl t w) 11 (fun t h => fz_mix h (fz_xc V nl nq t)) nt h2)))), (0, .ref (f 0)), (3, .int (nI k2))]) hx hb dX8_digest_80 rfl hl (by decide) rfl (fun ls hl => ?_)
      refine lv_aload_n hx hb dX8_digest_81 rfl (lv_at hl 1 rfl) ?_
      refine lv_lload_n hx hb dX8_digest_82 rfl (lv_at hl 0 rfl) ?_
      refine fz_retRL (va_runV (As := [.long (fz_hs (V 16) nq (fz_ht (fun c w => V (9 + w) c) 7 (fun _ h => h) nc (fz_ht (fun t w => fz_tval V nc nl t w) 11 (fun t h => fz_mix h (fz_xc V nl nq t)) nt h2)))]) (rest := []) ⟨hx, hb, hml, hown, hts⟩ (c_X8_mixLoans l D cy f t h x a V nt nc nq nl wk wf (fz_hs (V 16) nq (fz_ht (fun c w => V (9 + w) c) 7 (fun _ h => h) nc (fz_ht (fun t w => fz_tval V nc nl t w) 11 (fun t h => fz_mix h (fz_xc V nl nq t)) nt h2)))) (cwV 1 hts gX8_digest_X8_mixLoans rfl rfl rfl (by decide +kernel) ⟨Nat.le_of_ble_eq_true rfl, Nat.le_of_ble_eq_true rfl⟩) (fz_preV (ci := 6) (q0 := 0) hK (hP.sub (ws' := (FW f a t h x) ++ (CW cy a V)) [0, 6, 7, 8, 9, 10, 11, 12, 13, 14, 15, 16, 17, 18, 19, 20, 21, 22, 23, 24, 25, 26, 27, 28, 29] rfl) rfl rfl rfl fz_Nw_bl (fun U _ hW => fz_Nw_warm hW hE)) rfl rfl hl.1 rfl (lv_room (Nat.le_of_ble_eq_true rfl)) dX8_digest_83 ⟨Nat.zero_le _, Nat.zero_le _⟩) ?_
      refine lv_lstore_n (lv' := [(1, .long (fz_ht (fun q w => V (18 + w) q) 6 (fun _ h => h) nl (fz_hs (V 16) nq (fz_ht (fun c w => V (9 + w) c) 7 (fun _ h => h) nc (fz_ht (fun t w => fz_tval V nc nl t w) 11 (fun t h => fz_mix h (fz_xc V nl nq t)) nt h2))))), (0, .ref (f 0)), (3, .int (nI k2))]) hx hb dX8_digest_86 rfl hl (by decide) rfl (fun ls hl => ?_)
      refine lv_lload_n hx hb dX8_digest_87 rfl (lv_at hl 0 rfl) ?_
      refine lv_aload_n hx hb dX8_digest_88 rfl (lv_at hl 1 rfl) ?_
      refine va_get (D := D) (ci := 6) (v := .ref (a 0)) (C := RX8) (T := TX8) (N := 4) hx hb hts inX8 hown hK hP 0 rfl rfl 0 (by decide) k_12 (fun _ h9 => h9) rfl dX8_digest_89 ?_
      refine fz_retR (va_runV (As := []) (rest := [.long (fz_ht (fun q w => V (18 + w) q) 6 (fun _ h => h) nl (fz_hs (V 16) nq (fz_ht (fun c w => V (9 + w) c) 7 (fun _ h => h) nc (fz_ht (fun t w => fz_tval V nc nl t w) 11 (fun t h => fz_mix h (fz_xc V nl nq t)) nt h2))))]) ⟨hx, hb, hml, hown, hts⟩ (c_X1_firstThaw l D cy a V nt nc nq nl wk wf) (cwV 0 hts gX8_digest_X1_firstThaw rfl rfl rfl (by decide +kernel) ⟨Nat.le_of_ble_eq_true rfl, Nat.le_of_ble_eq_true rfl⟩) (fz_preV (ci := 0) (q0 := 0) hK (hP.sub (ws' := CW cy a V) [6, 7, 8, 9, 10, 11, 12, 13, 14, 15, 16, 17, 18, 19, 20, 21, 22, 23, 24, 25, 26, 27, 28, 29] rfl) rfl rfl rfl fz_T_bl (fun _ _ _ => trivial)) rfl rfl hl.1 rfl (lv_room (Nat.le_of_ble_eq_true rfl)) dX8_digest_92 ⟨Nat.zero_le _, Nat.zero_le _⟩) ?_
      refine fz_retRL (va_runS (As := [.long (fz_ht (fun q w => V (18 + w) q) 6 (fun _ h => h) nl (fz_hs (V 16) nq (fz_ht (fun c w => V (9 + w) c) 7 (fun _ h => h) nc (fz_ht (fun t w => fz_tval V nc nl t w) 11 (fun t h => fz_mix h (fz_xc V nl nq t)) nt h2)))), .int (fz_thaw (V 2) wk)]) (rest := []) ⟨hx, hb, hml, hown, hts⟩ (c_X8_mix l D cy (fz_ht (fun q w => V (18 + w) q) 6 (fun _ h => h) nl (fz_hs (V 16) nq (fz_ht (fun c w => V (9 + w) c) 7 (fun _ h => h) nc (fz_ht (fun t w => fz_tval V nc nl t w) 11 (fun t h => fz_mix h (fz_xc V nl nq t)) nt h2)))) (fz_thaw (V 2) wk)) (va_cwS 2 hts gX8_digest_X8_mix rfl rfl rfl (by decide +kernel) ⟨Nat.le_of_ble_eq_true rfl, Nat.le_of_ble_eq_true rfl⟩) (fz_preS hK (fz_nil) fz_T_bl (fun _ _ _ => trivial)) rfl rfl hl.1 rfl (lv_room (Nat.le_of_ble_eq_true rfl)) dX8_digest_95 ⟨Nat.zero_le _, Nat.zero_le _⟩) ?_
      exact W.lret (v := (fz_mix (fz_ht (fun q w => V (18 + w) q) 6 (fun _ h => h) nl (fz_hs (V 16) nq (fz_ht (fun c w => V (9 + w) c) 7 (fun _ h => h) nc (fz_ht (fun t w => fz_tval V nc nl t w) 11 (fun t h => fz_mix h (fz_xc V nl nq t)) nt h2)))) (fz_thaw (V 2) wk))) hx hb hr (fun t9 ht9 hW9 => ⟨_, rfl, (by rw [cx_dg, e_h2, show k2 = 40 by omega]), ht9⟩) (fun _ h => nomatch h) dX8_digest_98
    · skip
      refine lv_lload_n hx hb dX8_digest_46 rfl (lv_at hl 1 rfl) ?_
      refine lv_aload_n hx hb dX8_digest_47 rfl (lv_at hl 0 rfl) ?_
      refine va_get (D := D) (ci := 6) (v := .ref (a 0)) (C := RX8) (T := TX8) (N := 4) hx hb hts inX8 hown hK hP 0 rfl rfl 0 (by decide) k_12 (fun _ h9 => h9) rfl dX8_digest_48 ?_
      refine va_get (D := D) (ci := 0) (v := .ref (a 2)) (C := RX1) (T := TX1) (N := 6) hx hb hts inX1 hown hK hP 6 rfl rfl 2 (by decide) k_132 (fun _ h9 => h9) rfl dX8_digest_51 ?_
      refine lv_iload_n hx hb dX8_digest_54 rfl (lv_at hl 2 rfl) ?_
      refine fz_zald (f := V 2) hx hb hK hP 8 1 rfl rfl k2 rfl (by omega) (by decide) dX8_digest_55 ?_
      refine fz_retR (va_runS (As := [.int (V 2 k2)]) (rest := [.long h2]) ⟨hx, hb, hml, hown, hts⟩ (c_X8_asNumber l D cy (V 2 k2)) (va_cwS 1 hts gX8_digest_X8_asNumber rfl rfl rfl (by decide +kernel) ⟨Nat.le_of_ble_eq_true rfl, Nat.le_of_ble_eq_true rfl⟩) (fz_preS hK (fz_nil) fz_T_bl (fun _ _ _ => trivial)) rfl rfl hl.1 rfl (lv_room (Nat.le_of_ble_eq_true rfl)) dX8_digest_56 ⟨Nat.zero_le _, Nat.zero_le _⟩) ?_
      refine fz_retRL (va_runS (As := [.long h2, .int (fz_nz (V 2 k2))]) (rest := []) ⟨hx, hb, hml, hown, hts⟩ (c_X8_mix l D cy h2 (fz_nz (V 2 k2))) (va_cwS 2 hts gX8_digest_X8_mix rfl rfl rfl (by decide +kernel) ⟨Nat.le_of_ble_eq_true rfl, Nat.le_of_ble_eq_true rfl⟩) (fz_preS hK (fz_nil) fz_T_bl (fun _ _ _ => trivial)) rfl rfl hl.1 rfl (lv_room (Nat.le_of_ble_eq_true rfl)) dX8_digest_59 ⟨Nat.zero_le _, Nat.zero_le _⟩) ?_
      refine lv_lstore_n (lv' := [(1, .long (fz_mix h2 (fz_nz (V 2 k2)))), (0, .ref (f 0)), (3, .int (nI k2))]) hx hb dX8_digest_62 rfl hl (by decide) rfl (fun ls hl => ?_)
      refine lv_iinc (v := nI (k2 + 1)) (lv' := [(3, .int (nI (k2 + 1))), (1, .long (fz_mix h2 (fz_nz (V 2 k2)))), (0, .ref (f 0))]) hx hb dX8_digest_63 hl (k := 2) rfl (fz_inc rfl) (by decide) rfl (fun ls hl => ?_)
      refine lv_goto (tgt := 40) hx hb dX8_digest_66 (by decide) ?_
      exact ih40 (k2 + 1, fz_mix h2 (fz_nz (V 2 k2))) (show ((k2 + 1) ≤ 40) ∧ ((fz_mix h2 (fz_nz (V 2 k2))) = fz_hs (fun w => fz_nz (V 2 w)) (k2 + 1) (fz_hs (cx_num V (X 0 0) nt nc nl wk) 18 (fz_mix 43672 cn))) from ⟨(by omega), (by rw [fz_hs, ← e_h2])⟩) (by show 40 - (k2 + 1) < 40 - k2; omega) ls (lv_sub hl [2, 1, 0] rfl)
  · skip
    refine lv_lload_n hx hb dX8_digest_22 rfl (lv_at hl 1 rfl) ?_
    refine lv_aload_n hx hb dX8_digest_23 rfl (lv_at hl 0 rfl) ?_
    refine lv_iload_n hx hb dX8_digest_24 rfl (lv_at hl 2 rfl) ?_
    refine fz_retR (va_runV (As := [.int (nI k1)]) (rest := [.long h1]) ⟨hx, hb, hml, hown, hts⟩ (c_X8_wholeValue l D cy f t h a V x ad X vb nt nc nq nl wk wf k1 (by omega) X ad vb) (cwV 1 hts gX8_digest_X8_wholeValue rfl rfl rfl (by decide +kernel) ⟨Nat.le_of_ble_eq_true rfl, Nat.le_of_ble_eq_true rfl⟩) (fz_preV (ci := 6) (q0 := 0) hK (hP.sub (ws' := (FW f a t h x) ++ ((CW cy a V) ++ (XW cy ad x X vb))) [0, 6, 7, 8, 9, 10, 11, 12, 13, 14, 15, 16, 17, 18, 19, 20, 21, 22, 23, 24, 25, 26, 27, 28, 29, 1, 2, 3] rfl) rfl rfl rfl fz_Nw_bl (fun U _ hW => fz_Nw_warm hW hE)) rfl rfl hl.1 rfl (lv_room (Nat.le_of_ble_eq_true rfl)) dX8_digest_25 ⟨Nat.zero_le _, Nat.zero_le _⟩) ?_
    refine fz_retRL (va_runS (As := [.long h1, .int (if k1 = 17 then X 0 0 else fz_wval V nt nc nl wk k1)]) (rest := []) ⟨hx, hb, hml, hown, hts⟩ (c_X8_mix l D cy h1 (if k1 = 17 then X 0 0 else fz_wval V nt nc nl wk k1)) (va_cwS 2 hts gX8_digest_X8_mix rfl rfl rfl (by decide +kernel) ⟨Nat.le_of_ble_eq_true rfl, Nat.le_of_ble_eq_true rfl⟩) (fz_preS hK (fz_nil) fz_T_bl (fun _ _ _ => trivial)) rfl rfl hl.1 rfl (lv_room (Nat.le_of_ble_eq_true rfl)) dX8_digest_28 ⟨Nat.zero_le _, Nat.zero_le _⟩) ?_
    refine lv_lstore_n (lv' := [(1, .long (fz_mix h1 (if k1 = 17 then X 0 0 else fz_wval V nt nc nl wk k1))), (0, .ref (f 0)), (3, .int (nI k1))]) hx hb dX8_digest_31 rfl hl (by decide) rfl (fun ls hl => ?_)
    refine lv_iinc (v := nI (k1 + 1)) (lv' := [(3, .int (nI (k1 + 1))), (1, .long (fz_mix h1 (if k1 = 17 then X 0 0 else fz_wval V nt nc nl wk k1))), (0, .ref (f 0))]) hx hb dX8_digest_32 hl (k := 2) rfl (fz_inc rfl) (by decide) rfl (fun ls hl => ?_)
    refine lv_goto (tgt := 16) hx hb dX8_digest_35 (by decide) ?_
    exact ih16 (k1 + 1, fz_mix h1 (if k1 = 17 then X 0 0 else fz_wval V nt nc nl wk k1)) (show ((k1 + 1) ≤ 18) ∧ ((fz_mix h1 (if k1 = 17 then X 0 0 else fz_wval V nt nc nl wk k1)) = fz_hs (cx_num V (X 0 0) nt nc nl wk) (k1 + 1) (fz_mix 43672 cn)) from ⟨(by omega), (by rw [fz_hs, ← e_h1, cx_num])⟩) (by show 18 - (k1 + 1) < 18 - k1; omega) ls (lv_sub hl [2, 1, 0] rfl)
set_option maxHeartbeats 4000000 in
set_option maxRecDepth 100000 in
/-- FreezeCredits.type -/
theorem c_X8_type (l : Launch) (hst : l.stackTraces = false) (D : va_G) (cy : Nat → ClassId) (f a t h : Nat → Nat) (x : Nat → Nat) (ad : Nat → Nat) (X : Nat → Nat → Int32) (vb : Option Nat) (y : Int32) (ln : Nat) (hln : X 0 0 = nI ln) (hln150 : ln ≤ 150) : fz_XI l yX8_type wsX8_type 6 82 1 6 D cy [.ref (f 0), .int y] ((FW f a t h x) ++ (XW cy ad x X vb)) (fz_Ev (fz_in ((FW f a t h x) ++ (XW cy ad x X vb)))) (nI (ln + 1)) ((FW f a t h x) ++ (XW cy ad x (fz_up (fz_up X 0 (upd (X 0) 0 (nI (ln + 1)))) 2 (upd (X 2) ln y)) vb)) (fz_vo y 128 && decide (ln < 150)) (bif fz_vo y 128 then xIS else xIA) ((FW f a t h x) ++ (XW cy ad x X vb)) := by
  refine vx_ofW (cc := cX8_type) (maxL := 2) (ret := (some .int)) (by decide) rfl ?_
  intro p e s m args below meth c s₁ B hml ht hv
  obtain ⟨rfl, hP, hK, hD0, hE⟩ := hv
  have hx := B.exec
  have hb := B.bytes
  have hr := B.returns
  have hts := atoms_spec (ws := wsX8_type) B.pre
  have hown : s.vm.findClass RX8 = some m.cls := findClass_of_methodNamed B.named
  have hlocks := B.notSynchronized
  have hD := fz_self hD0
  obtain ⟨A, hAe⟩ : ∃ A : Nat → Prop, A = fz_in ((FW f a t h x) ++ (XW cy ad x X vb)) := ⟨_, rfl⟩
  rw [← hAe] at hD
  have hE : fz_Ev A s := by rw [hAe]; exact hE
  have hS : va_S A s.heap s.heap [] := va_S.rf
  have hl := lv_entry ([.ref (f 0), .int y]) (n := 2) (Nat.le_of_ble_eq_true rfl)
  rw [lg_entry_eq]
  generalize (lg_sl ([.ref (f 0), .int y]) ++ List.replicate (2 - (lg_sl ([.ref (f 0), .int y])).length) Slot.unset).toArray = ls at hl ⊢
  have hl : lv_has ls 2 [(0, .ref (f 0)), (1, .int y)] := hl
  have k_29 := hts (.fieldLink RX8 29 "FreezeCredits" "text" "LFreezeCredits$CommandText;") (by decide +kernel)
  have inX8 : ∀ w ∈ u_ws RX8 TX8 4, w ∈ wsX8_type := by decide +kernel
  have k_189 := hts (.fieldLink RX8 189 "FreezeCredits$CommandText" "length" "I") (by decide +kernel)
  have inX3 : ∀ w ∈ u_ws RX3 TX3 5, w ∈ wsX8_type := by decide +kernel
  refine lv_iload_n hx hb dX8_type_0 rfl (lv_at hl 1 rfl) ?_
  refine lv_if_lt (tgt := 10) hx hb dX8_type_1 (by decide) (fun c_1 => ?_) (fun c_1 => ?_)
  · skip
    rw [show (bif fz_vo y 128 then xIS else xIA) = xIA from (by simp [fz_vo, c_1])]
    subst hAe
    exact fz_throw (text := "the byte is out of range") (cls := xIA) (ik := 117) (is := 187) (ic := 121) hx hb hst (hl.1.trans hml.symm) ht hlocks hown hts hE.1 (by decide +kernel) (by decide +kernel) (by decide +kernel) (by decide +kernel) (by decide +kernel) (by decide +kernel) (by decide +kernel) (by simp [fz_vo, c_1]) hP hS dX8_type_10 dX8_type_13 dX8_type_14 dX8_type_16 dX8_type_19 (Nat.le_of_ble_eq_true rfl) (Nat.le_of_ble_eq_true rfl) (Nat.le_of_ble_eq_true rfl) (Nat.le_of_ble_eq_true rfl) (Nat.le_of_ble_eq_true rfl) (Nat.le_of_ble_eq_true rfl)
  · skip
    refine lv_iload_n hx hb dX8_type_4 rfl (lv_at hl 1 rfl) ?_
    refine lv_bipush (v := 127) hx hb dX8_type_5 (by decide) ?_
    refine lv_icmp_le (tgt := 20) hx hb dX8_type_7 (by decide) (fun c_2 => ?_) (fun c_2 => ?_)
    · skip
      refine lv_aload_n hx hb dX8_type_20 rfl (lv_at hl 0 rfl) ?_
      refine va_get (D := D) (ci := 6) (v := .ref (x 0)) (C := RX8) (T := TX8) (N := 4) hx hb hts inX8 hown hK hP 0 rfl rfl 3 (by decide) k_29 (fun _ h9 => h9) rfl dX8_type_21 ?_
      refine va_get (D := D) (ci := 2) (v := .int (X 0 0)) (C := RX3) (T := TX3) (N := 5) hx hb hts inX3 hown hK hP 1 rfl rfl 0 (by decide) k_189 (fun _ h9 => h9) rfl dX8_type_24 ?_
      refine lv_sipush (v := 150) hx hb dX8_type_27 (by decide) ?_
      refine fz_ltN (tgt := 43) hx hb ln 150 hln rfl dX8_type_30 (by decide) (by omega) (by omega) (fun c_3 => ?_) (fun c_3 => ?_)
      · skip
        refine lv_aload_n hx hb dX8_type_43 rfl (lv_at hl 0 rfl) ?_
        refine va_get (D := D) (ci := 6) (v := .ref (x 0)) (C := RX8) (T := TX8) (N := 4) hx hb hts inX8 hown hK hP 0 rfl rfl 3 (by decide) k_29 (fun _ h9 => h9) rfl dX8_type_44 ?_
        refine lv_iload_n hx hb dX8_type_47 rfl (lv_at hl 1 rfl) ?_
        refine fz_retM (ws' := (FW f a t h x) ++ (XE cy ad x (nI (ln + 1)) (X 0 1) (X 1) (upd (X 2) ln y) vb)) (va_runV (As := [.int y]) (rest := []) ⟨hx, hb, hml, hown, hts⟩ (c_X3_append l D cy x ad X vb y (fz_vo_w (fz_vo_b c_1 c_2)) ln hln (by omega)) (cwV 1 hts gX8_type_X3_append rfl rfl rfl (by decide +kernel) ⟨Nat.le_of_ble_eq_true rfl, Nat.le_of_ble_eq_true rfl⟩) (fz_preMV (ci := 2) (q0 := 0) hK (hP.sub (ws' := XW cy ad x X vb) [1, 2, 3] rfl) (hD.sub (ws' := XW cy ad x X vb) [1, 2, 3] (by decide) rfl) rfl rfl rfl fz_T_bl (fun _ _ _ => trivial)) rfl rfl hl.1 rfl (lv_room (Nat.le_of_ble_eq_true rfl)) dX8_type_48 ⟨Nat.le_of_ble_eq_true rfl, Nat.le_of_ble_eq_true rfl⟩) hP hD hS [1, 2, 3] [0] rfl rfl [false, true, true, true] (And.intro rfl (And.intro rfl (And.intro rfl (And.intro rfl trivial)))) rfl rfl (fun H locs hP hD hS => ?_)
        have hP : va_P D vwCl ((FW f a t h x) ++ (XE cy ad x (nI (ln + 1)) (X 0 1) (X 1) (upd (X 2) ln y) vb)) H := hP
        have hD : va_D A ((FW f a t h x) ++ (XE cy ad x (nI (ln + 1)) (X 0 1) (X 1) (upd (X 2) ln y) vb)) := hD
        refine fz_wd (k := 1) (n := 6) (Nat.le_of_ble_eq_true rfl) (Nat.le_of_ble_eq_true rfl) ?_
        refine vx_ret ?_
        subst hAe
        exact W.iret (v := (nI (ln + 1))) hx hb hr (fun t9 ht9 hW9 => ⟨⟨_, (), rfl, ⟨rfl, (by rw [fz_vo_b c_1 c_2, decide_eq_true (show ln < 150 by omega)]; rfl)⟩, fz_to ht9 hP⟩, hS.F ht9⟩) hS.2.2 dX8_type_51
      · skip
        rw [show (bif fz_vo y 128 then xIS else xIA) = xIS from (by rw [fz_vo_b c_1 c_2]; rfl)]
        subst hAe
        exact fz_throw (text := "the command text is full") (cls := xIS) (ik := 192) (is := 194) (ic := 196) hx hb hst (hl.1.trans hml.symm) ht hlocks hown hts hE.1 (by decide +kernel) (by decide +kernel) (by decide +kernel) (by decide +kernel) (by decide +kernel) (by decide +kernel) (by decide +kernel) (by rw [fz_vo_b c_1 c_2, decide_eq_false (show ¬ ln < 150 by omega)]; rfl) hP hS dX8_type_33 dX8_type_36 dX8_type_37 dX8_type_39 dX8_type_42 (Nat.le_of_ble_eq_true rfl) (Nat.le_of_ble_eq_true rfl) (Nat.le_of_ble_eq_true rfl) (Nat.le_of_ble_eq_true rfl) (Nat.le_of_ble_eq_true rfl) (Nat.le_of_ble_eq_true rfl)
    · skip
      rw [show (bif fz_vo y 128 then xIS else xIA) = xIA from (by rw [fz_vo_bn c_2]; rfl)]
      subst hAe
      exact fz_throw (text := "the byte is out of range") (cls := xIA) (ik := 117) (is := 187) (ic := 121) hx hb hst (hl.1.trans hml.symm) ht hlocks hown hts hE.1 (by decide +kernel) (by decide +kernel) (by decide +kernel) (by decide +kernel) (by decide +kernel) (by decide +kernel) (by decide +kernel) (by rw [fz_vo_bn c_2]; rfl) hP hS dX8_type_10 dX8_type_13 dX8_type_14 dX8_type_16 dX8_type_19 (Nat.le_of_ble_eq_true rfl) (Nat.le_of_ble_eq_true rfl) (Nat.le_of_ble_eq_true rfl) (Nat.le_of_ble_eq_true rfl) (Nat.le_of_ble_eq_true rfl) (Nat.le_of_ble_eq_true rfl)
set_option maxHeartbeats 4000000 in
set_option maxRecDepth 100000 in
/-- FreezeCredits.clearCommands -/
theorem c_X8_clearCommands (l : Launch) (D : va_G) (cy : Nat → ClassId) (f a t h : Nat → Nat) (x : Nat → Nat) (ad : Nat → Nat) (X : Nat → Nat → Int32) (vb : Option Nat) : fz_MI l yX8_clearCommands wsX8_clearCommands 0 0 D cy [.ref (f 0)] ((FW f a t h x) ++ (XW cy ad x X vb)) fz_T (X 0 0) ((FW f a t h x) ++ (XW cy ad x (fz_up X 0 (upd (X 0) 0 0)) vb)) := by
  refine Met.ofW (cc := cX8_clearCommands) (maxL := 2) (ret := (some .int)) (by decide) rfl ?_
  intro p e s m args below meth c s₁ B hml hv
  obtain ⟨rfl, hP, hK, hD0, hE⟩ := hv
  have hx := B.exec
  have hb := B.bytes
  have hr := B.returns
  have hts := atoms_spec (ws := wsX8_clearCommands) B.pre
  have hown : s.vm.findClass RX8 = some m.cls := findClass_of_methodNamed B.named
  have hlocks := B.notSynchronized
  have hD := fz_self hD0
  generalize hAe : fz_in ((FW f a t h x) ++ (XW cy ad x X vb)) = A at hD ⊢
  have hS : va_S A s.heap s.heap [] := va_S.rf
  have hl := lv_entry ([.ref (f 0)]) (n := 2) (Nat.le_of_ble_eq_true rfl)
  rw [lg_entry_eq]
  generalize (lg_sl ([.ref (f 0)]) ++ List.replicate (2 - (lg_sl ([.ref (f 0)])).length) Slot.unset).toArray = ls at hl ⊢
  have hl : lv_has ls 2 [(0, .ref (f 0))] := hl
  have k_29 := hts (.fieldLink RX8 29 "FreezeCredits" "text" "LFreezeCredits$CommandText;") (by decide +kernel)
  have inX8 : ∀ w ∈ u_ws RX8 TX8 4, w ∈ wsX8_clearCommands := by decide +kernel
  have k_189 := hts (.fieldLink RX8 189 "FreezeCredits$CommandText" "length" "I") (by decide +kernel)
  have inX3 : ∀ w ∈ u_ws RX3 TX3 5, w ∈ wsX8_clearCommands := by decide +kernel
  refine lv_aload_n hx hb dX8_clearCommands_0 rfl (lv_at hl 0 rfl) ?_
  refine va_get (D := D) (ci := 6) (v := .ref (x 0)) (C := RX8) (T := TX8) (N := 4) hx hb hts inX8 hown hK hP 0 rfl rfl 3 (by decide) k_29 (fun _ h9 => h9) rfl dX8_clearCommands_1 ?_
  refine va_get (D := D) (ci := 2) (v := .int (X 0 0)) (C := RX3) (T := TX3) (N := 5) hx hb hts inX3 hown hK hP 1 rfl rfl 0 (by decide) k_189 (fun _ h9 => h9) rfl dX8_clearCommands_4 ?_
  refine lv_istore_n (lv' := [(1, .int (X 0 0)), (0, .ref (f 0))]) hx hb dX8_clearCommands_7 rfl hl (by decide) rfl (fun ls hl => ?_)
  refine lv_aload_n hx hb dX8_clearCommands_8 rfl (lv_at hl 1 rfl) ?_
  refine va_get (D := D) (ci := 6) (v := .ref (x 0)) (C := RX8) (T := TX8) (N := 4) hx hb hts inX8 hown hK hP 0 rfl rfl 3 (by decide) k_29 (fun _ h9 => h9) rfl dX8_clearCommands_9 ?_
  refine lv_iconst (v := 0) hx hb dX8_clearCommands_12 (by decide) ?_
  refine va_put (D := D) (ci := 2) (v := .int 0) (ty := tyX3 0) (C := RX3) (T := TX3) (N := 5) hx hb hts inX3 tyX3 tyX3_ok nmX3 hown hK hP hD hS 1 rfl rfl 0 (by decide) k_189 (fun _ h9 => h9) rfl (by decide +kernel) rfl rfl (Nat.le_of_ble_eq_true rfl) dX8_clearCommands_13 (fun H locs hP hD hS => ?_)
  have hP : va_P D vwCl ((FW f a t h x) ++ (XE cy ad x 0 (X 0 1) (X 1) (X 2) vb)) H := hP
  have hD : va_D A ((FW f a t h x) ++ (XE cy ad x 0 (X 0 1) (X 1) (X 2) vb)) := hD
  refine lv_iload_n hx hb dX8_clearCommands_16 rfl (lv_at hl 0 rfl) ?_
  exact W.iret (v := (X 0 0)) hx hb hr (fun t9 ht9 hW9 => ⟨⟨_, (), rfl, rfl, fz_to ht9 hP⟩, hS.F ht9⟩) hS.2.2 dX8_clearCommands_17
set_option maxHeartbeats 4000000 in
set_option maxRecDepth 100000 in
/-- FreezeCredits.inBeing -/
theorem c_X8_inBeing (l : Launch) (hst : l.stackTraces = false) (D : va_G) (cy : Nat → ClassId) (f h x : Nat → Nat) (a : Nat → Nat) (V : Nat → Nat → Int32) (t : Nat → Nat) (N : Nat → Nat → Int32) (nt nc nq nl wk : Nat) (wf : fz_wf V nt nc nq nl wk) (y : Int32) (hz : fz_zo (V 2) 40) : fz_XI l yX8_inBeing wsX8_inBeing 6 88 1 6 D cy [.ref (f 0), .int y] ((FW f a t h x) ++ ((CW cy a V) ++ (CW cy t N))) (fz_Ev (fz_in ((FW f a t h x) ++ ((CW cy a V) ++ (CW cy t N))))) ((cx_ib V N nt nc nl wk y).1) ((FW f a t h x) ++ ((CW cy a V) ++ (CW cy t ((cx_ib V N nt nc nl wk y).2)))) (fz_vo y 40) xIA ((FW f a t h x) ++ ((CW cy a V) ++ (CW cy t N))) := by
  refine vx_ofW (cc := cX8_inBeing) (maxL := 3) (ret := (some .int)) (by decide) rfl ?_
  intro p e s m args below meth c s₁ B hml ht hv
  obtain ⟨rfl, hP, hK, hD0, hE⟩ := hv
  have hx := B.exec
  have hb := B.bytes
  have hr := B.returns
  have hts := atoms_spec (ws := wsX8_inBeing) B.pre
  have hown : s.vm.findClass RX8 = some m.cls := findClass_of_methodNamed B.named
  have hlocks := B.notSynchronized
  have hD := fz_self hD0
  obtain ⟨A, hAe⟩ : ∃ A : Nat → Prop, A = fz_in ((FW f a t h x) ++ ((CW cy a V) ++ (CW cy t N))) := ⟨_, rfl⟩
  rw [← hAe] at hD
  have hE : fz_Ev A s := by rw [hAe]; exact hE
  have hS : va_S A s.heap s.heap [] := va_S.rf
  have hl := lv_entry ([.ref (f 0), .int y]) (n := 3) (Nat.le_of_ble_eq_true rfl)
  rw [lg_entry_eq]
  generalize (lg_sl ([.ref (f 0), .int y]) ++ List.replicate (3 - (lg_sl ([.ref (f 0), .int y])).length) Slot.unset).toArray = ls at hl ⊢
  have hl : lv_has ls 3 [(0, .ref (f 0)), (1, .int y)] := hl
  have k_12 := hts (.fieldLink RX8 12 "FreezeCredits" "now" "LFreezeCredits$Calendar;") (by decide +kernel)
  have inX8 : ∀ w ∈ u_ws RX8 TX8 4, w ∈ wsX8_inBeing := by decide +kernel
  have k_155 := hts (.fieldLink RX8 155 "FreezeCredits$Calendar" "week" "I") (by decide +kernel)
  have inX1 : ∀ w ∈ u_ws RX1 TX1 6, w ∈ wsX8_inBeing := by decide +kernel
  have k_16 := hts (.fieldLink RX8 16 "FreezeCredits" "trial" "LFreezeCredits$Calendar;") (by decide +kernel)
  obtain ⟨hnt, hnt6, hnc, hnc30, hnq, hqc, hnl, hnl12, hwk, hwk39, hT, hQ, hG, hB⟩ := id wf
  refine lv_iload_n hx hb dX8_inBeing_0 rfl (lv_at hl 1 rfl) ?_
  refine lv_if_lt (tgt := 10) hx hb dX8_inBeing_1 (by decide) (fun c_1 => ?_) (fun c_1 => ?_)
  · skip
    subst hAe
    exact fz_throw (text := "the number of weeks is out of range") (cls := xIA) (ik := 117) (is := 179) (ic := 121) hx hb hst (hl.1.trans hml.symm) ht hlocks hown hts hE.1 (by decide +kernel) (by decide +kernel) (by decide +kernel) (by decide +kernel) (by decide +kernel) (by decide +kernel) (by decide +kernel) (by simp [fz_vo, c_1]) hP hS dX8_inBeing_10 dX8_inBeing_13 dX8_inBeing_14 dX8_inBeing_16 dX8_inBeing_19 (Nat.le_of_ble_eq_true rfl) (Nat.le_of_ble_eq_true rfl) (Nat.le_of_ble_eq_true rfl) (Nat.le_of_ble_eq_true rfl) (Nat.le_of_ble_eq_true rfl) (Nat.le_of_ble_eq_true rfl)
  · skip
    refine lv_iload_n hx hb dX8_inBeing_4 rfl (lv_at hl 1 rfl) ?_
    refine lv_bipush (v := 39) hx hb dX8_inBeing_5 (by decide) ?_
    refine lv_icmp_le (tgt := 20) hx hb dX8_inBeing_7 (by decide) (fun c_2 => ?_) (fun c_2 => ?_)
    · skip
      refine lv_aload_n hx hb dX8_inBeing_20 rfl (lv_at hl 0 rfl) ?_
      refine va_get (D := D) (ci := 6) (v := .ref (a 0)) (C := RX8) (T := TX8) (N := 4) hx hb hts inX8 hown hK hP 0 rfl rfl 0 (by decide) k_12 (fun _ h9 => h9) rfl dX8_inBeing_21 ?_
      have hy := fz_vo_s (z := y) (n := 40) (by decide) (fz_vo_40 c_1 c_2)
      refine va_get (D := D) (ci := 0) (v := .int (V 0 0)) (C := RX1) (T := TX1) (N := 6) hx hb hts inX1 hown hK hP 1 rfl rfl 0 (by decide) k_155 (fun _ h9 => h9) rfl dX8_inBeing_24 ?_
      refine lv_iload_n hx hb dX8_inBeing_27 rfl (lv_at hl 1 rfl) ?_
      refine fz_iaddN hx hb wk y.toNatClampNeg hwk hy.1 dX8_inBeing_28 ?_
      refine lv_bipush (v := 39) hx hb dX8_inBeing_29 (by decide) ?_
      refine fz_leN (tgt := 36) hx hb (wk + y.toNatClampNeg) 39 rfl rfl dX8_inBeing_31 (by decide) (by omega) (by omega) (fun c_3 => ?_) (fun c_3 => ?_)
      · skip
        refine lv_aload_n hx hb dX8_inBeing_36 rfl (lv_at hl 0 rfl) ?_
        refine va_get (D := D) (ci := 6) (v := .ref (t 0)) (C := RX8) (T := TX8) (N := 4) hx hb hts inX8 hown hK hP 0 rfl rfl 1 (by decide) k_16 (fun _ h9 => h9) rfl dX8_inBeing_37 ?_
        refine lv_aload_n hx hb dX8_inBeing_40 rfl (lv_at hl 0 rfl) ?_
        refine va_get (D := D) (ci := 6) (v := .ref (a 0)) (C := RX8) (T := TX8) (N := 4) hx hb hts inX8 hown hK hP 0 rfl rfl 0 (by decide) k_12 (fun _ h9 => h9) rfl dX8_inBeing_41 ?_
        refine fz_retMV (ws' := (FW f a t h x) ++ ((CW cy a V) ++ (CW cy t V))) (va_runV (As := [.ref (a 0)]) (rest := []) ⟨hx, hb, hml, hown, hts⟩ (c_X1_copyFrom l D cy t N a V hz) (cwV 1 hts gX8_inBeing_X1_copyFrom rfl rfl rfl (by decide +kernel) ⟨Nat.le_of_ble_eq_true rfl, Nat.le_of_ble_eq_true rfl⟩) (fz_preMV (ci := 0) (q0 := 0) hK (hP.sub (ws' := (CW cy t N) ++ (CW cy a V)) [25, 26, 27, 28, 29, 30, 31, 32, 33, 34, 35, 36, 37, 38, 39, 40, 41, 42, 43, 44, 45, 46, 47, 48, 1, 2, 3, 4, 5, 6, 7, 8, 9, 10, 11, 12, 13, 14, 15, 16, 17, 18, 19, 20, 21, 22, 23, 24] rfl) (hD.sub (ws' := (CW cy t N) ++ (CW cy a V)) [25, 26, 27, 28, 29, 30, 31, 32, 33, 34, 35, 36, 37, 38, 39, 40, 41, 42, 43, 44, 45, 46, 47, 48, 1, 2, 3, 4, 5, 6, 7, 8, 9, 10, 11, 12, 13, 14, 15, 16, 17, 18, 19, 20, 21, 22, 23, 24] (by decide) rfl) rfl rfl rfl fz_T_bl (fun _ _ _ => trivial)) rfl rfl hl.1 rfl (lv_room (Nat.le_of_ble_eq_true rfl)) dX8_inBeing_44 ⟨Nat.le_of_ble_eq_true rfl, Nat.le_of_ble_eq_true rfl⟩) hP hD hS [25, 26, 27, 28, 29, 30, 31, 32, 33, 34, 35, 36, 37, 38, 39, 40, 41, 42, 43, 44, 45, 46, 47, 48, 1, 2, 3, 4, 5, 6, 7, 8, 9, 10, 11, 12, 13, 14, 15, 16, 17, 18, 19, 20, 21, 22, 23, 24] [0] rfl rfl [false, true, true, true, true, true, true, true, true, true, true, true, true, true, true, true, true, true, true, true, true, true, true, true, true, true, true, true, true, true, true, true, true, true, true, true, true, true, true, true, true, true, true, true, true, true, true, true, true] (And.intro rfl (And.intro rfl (And.intro rfl (And.intro rfl (And.intro rfl (And.intro rfl (And.intro rfl (And.intro rfl (And.intro rfl (And.intro rfl (And.intro rfl (And.intro rfl (And.intro rfl (And.intro rfl (And.intro rfl (And.intro rfl (And.intro rfl (And.intro rfl (And.intro rfl (And.intro rfl (And.intro rfl (And.intro rfl (And.intro rfl (And.intro rfl (And.intro rfl (And.intro rfl (And.intro rfl (And.intro rfl (And.intro rfl (And.intro rfl (And.intro rfl (And.intro rfl (And.intro rfl (And.intro rfl (And.intro rfl (And.intro rfl (And.intro rfl (And.intro rfl (And.intro rfl (And.intro rfl (And.intro rfl (And.intro rfl (And.intro rfl (And.intro rfl (And.intro rfl (And.intro rfl (And.intro rfl (And.intro rfl (And.intro rfl trivial))))))))))))))))))))))))))))))))))))))))))))))))) rfl rfl (fun H locs hP hD hS => ?_)
        have hP : va_P D vwCl ((FW f a t h x) ++ ((CW cy a V) ++ (CW cy t V))) H := hP
        have hD : va_D A ((FW f a t h x) ++ ((CW cy a V) ++ (CW cy t V))) := hD
        refine lv_iconst (v := 0) hx hb dX8_inBeing_47 (by decide) ?_
        refine lv_istore_n (lv' := [(2, .int 0), (0, .ref (f 0)), (1, .int y)]) hx hb dX8_inBeing_48 rfl hl (by decide) rfl (fun ls hl => ?_)
        rw [show y = nI y.toNatClampNeg from hy.1] at hl
        refine fz_loopM (σ := Nat × (Nat → Nat → Int32)) (pc := 49) (nL := 3) (fun x9 => match x9 with | (i, T) => [(0, .ref (f 0)), (1, .int (nI y.toNatClampNeg)), (2, .int (nI i))]) (fun x9 => match x9 with | (i, T) => (FW f a t h x) ++ ((CW cy a V) ++ (CW cy t T))) (fun x9 => match x9 with | (i, T) => (i ≤ y.toNatClampNeg) ∧ (T = fz_its V nt nc nl wk i)) (fun x9 => match x9 with | (i, T) => y.toNatClampNeg - i) ?_ (0, V) (show (0 ≤ y.toNatClampNeg) ∧ (V = fz_its V nt nc nl wk 0) from ⟨(by omega), rfl⟩) _ _ ls hP hD hS (lv_sub hl [1, 2, 0] rfl)
        rintro ⟨i, T⟩ ⟨hi, eT⟩ ih49 H locs ls hP hD hS hl
        have hP : va_P D vwCl ((FW f a t h x) ++ ((CW cy a V) ++ (CW cy t T))) H := hP
        have hD : va_D A ((FW f a t h x) ++ ((CW cy a V) ++ (CW cy t T))) := hD
        have hi : i ≤ y.toNatClampNeg := hi
        have eT : T = fz_its V nt nc nl wk i := eT
        have hl : lv_has ls 3 [(0, .ref (f 0)), (1, .int (nI y.toNatClampNeg)), (2, .int (nI i))] := hl
        refine lv_iload_n hx hb dX8_inBeing_49 rfl (lv_at hl 2 rfl) ?_
        refine lv_iload_n hx hb dX8_inBeing_50 rfl (lv_at hl 1 rfl) ?_
        refine fz_geN (tgt := 68) hx hb i y.toNatClampNeg rfl rfl dX8_inBeing_51 (by decide) (by omega) (by omega) (fun c_4 => ?_) (fun c_4 => ?_)
        · skip
          refine lv_aload_n hx hb dX8_inBeing_68 rfl (lv_at hl 0 rfl) ?_
          refine va_get (D := D) (ci := 6) (v := .ref (t 0)) (C := RX8) (T := TX8) (N := 4) hx hb hts inX8 hown hK hP 0 rfl rfl 1 (by decide) k_16 (fun _ h9 => h9) rfl dX8_inBeing_69 ?_
          have hwT := fz_its_wf wf i (by omega)
          rw [← eT] at hwT
          have ei : i = y.toNatClampNeg := by omega
          refine fz_retR (va_runV (As := []) (rest := []) ⟨hx, hb, hml, hown, hts⟩ (c_X1_wholeFree l D cy t T nt nc nq nl (wk + i) hwT) (cwV 0 hts gX8_inBeing_X1_wholeFree rfl rfl rfl (by decide +kernel) ⟨Nat.le_of_ble_eq_true rfl, Nat.le_of_ble_eq_true rfl⟩) (fz_preV (ci := 0) (q0 := 0) hK (hP.sub (ws' := CW cy t T) [25, 26, 27, 28, 29, 30, 31, 32, 33, 34, 35, 36, 37, 38, 39, 40, 41, 42, 43, 44, 45, 46, 47, 48] rfl) rfl rfl rfl fz_Nw_bl (fun U _ hW => fz_Nw_warm hW hE.2.1)) rfl rfl hl.1 rfl (lv_room (Nat.le_of_ble_eq_true rfl)) dX8_inBeing_72 ⟨Nat.le_of_ble_eq_true rfl, Nat.le_of_ble_eq_true rfl⟩) ?_
          refine lv_aload_n hx hb dX8_inBeing_75 rfl (lv_at hl 0 rfl) ?_
          refine va_get (D := D) (ci := 6) (v := .ref (t 0)) (C := RX8) (T := TX8) (N := 4) hx hb hts inX8 hown hK hP 0 rfl rfl 1 (by decide) k_16 (fun _ h9 => h9) rfl dX8_inBeing_76 ?_
          refine fz_retR (va_runV (As := []) (rest := [.int (fz_sum (T 4) nt)]) ⟨hx, hb, hml, hown, hts⟩ (c_X1_wholeHeld l D cy t T nt nc nq nl (wk + i) hwT) (cwV 0 hts gX8_inBeing_X1_wholeHeld rfl rfl rfl (by decide +kernel) ⟨Nat.le_of_ble_eq_true rfl, Nat.le_of_ble_eq_true rfl⟩) (fz_preV (ci := 0) (q0 := 0) hK (hP.sub (ws' := CW cy t T) [25, 26, 27, 28, 29, 30, 31, 32, 33, 34, 35, 36, 37, 38, 39, 40, 41, 42, 43, 44, 45, 46, 47, 48] rfl) rfl rfl rfl fz_Nw_bl (fun U _ hW => fz_Nw_warm hW hE.2.1)) rfl rfl hl.1 rfl (lv_room (Nat.le_of_ble_eq_true rfl)) dX8_inBeing_79 ⟨Nat.le_of_ble_eq_true rfl, Nat.le_of_ble_eq_true rfl⟩) ?_
          refine lv_iadd hx hb dX8_inBeing_82 ?_
          have eF : cx_ib V N nt nc nl wk y = ((fz_sum (T 4) nt) + (fz_sum (T 12) nc), T) := by rw [cx_ib, if_pos (by omega), ← ei, ← eT]
          refine fz_wd (k := 1) (n := 6) (Nat.le_of_ble_eq_true rfl) (Nat.le_of_ble_eq_true rfl) ?_
          refine vx_ret ?_
          subst hAe
          exact W.iret (v := ((fz_sum (T 4) nt) + (fz_sum (T 12) nc))) hx hb hr (fun t9 ht9 hW9 => ⟨⟨_, (), rfl, ⟨(by rw [eF] <;> rfl), (fz_vo_40 c_1 c_2)⟩, fz_to ht9 (by rw [eF]; exact hP)⟩, hS.F ht9⟩) hS.2.2 dX8_inBeing_83
        · skip
          refine lv_aload_n hx hb dX8_inBeing_54 rfl (lv_at hl 0 rfl) ?_
          refine va_get (D := D) (ci := 6) (v := .ref (t 0)) (C := RX8) (T := TX8) (N := 4) hx hb hts inX8 hown hK hP 0 rfl rfl 1 (by decide) k_16 (fun _ h9 => h9) rfl dX8_inBeing_55 ?_
          have hwT := fz_its_wf wf i (by omega)
          rw [← eT] at hwT
          refine fz_retM (ws' := (FW f a t h x) ++ ((CW cy a V) ++ (CE cy t (((fz_close T nt nc nl (wk + i)).2) 0 0) (((fz_close T nt nc nl (wk + i)).2) 3 0) (((fz_close T nt nc nl (wk + i)).2) 8 0) (((fz_close T nt nc nl (wk + i)).2) 8 1) (((fz_close T nt nc nl (wk + i)).2) 17 0) (((fz_close T nt nc nl (wk + i)).2) 1) (((fz_close T nt nc nl (wk + i)).2) 2) (((fz_close T nt nc nl (wk + i)).2) 4) (((fz_close T nt nc nl (wk + i)).2) 5) (((fz_close T nt nc nl (wk + i)).2) 6) (((fz_close T nt nc nl (wk + i)).2) 7) (((fz_close T nt nc nl (wk + i)).2) 9) (((fz_close T nt nc nl (wk + i)).2) 10) (((fz_close T nt nc nl (wk + i)).2) 11) (((fz_close T nt nc nl (wk + i)).2) 12) (((fz_close T nt nc nl (wk + i)).2) 13) (((fz_close T nt nc nl (wk + i)).2) 14) (((fz_close T nt nc nl (wk + i)).2) 15) (((fz_close T nt nc nl (wk + i)).2) 16) (((fz_close T nt nc nl (wk + i)).2) 18) (((fz_close T nt nc nl (wk + i)).2) 19) (((fz_close T nt nc nl (wk + i)).2) 20) (((fz_close T nt nc nl (wk + i)).2) 21) (((fz_close T nt nc nl (wk + i)).2) 22) (((fz_close T nt nc nl (wk + i)).2) 23)))) (va_runV (As := []) (rest := []) ⟨hx, hb, hml, hown, hts⟩ (c_X1_closeWeek l D cy t T nt nc nq nl (wk + i) hwT) (cwV 0 hts gX8_inBeing_X1_closeWeek rfl rfl rfl (by decide +kernel) ⟨Nat.le_of_ble_eq_true rfl, Nat.le_of_ble_eq_true rfl⟩) (fz_preMV (ci := 0) (q0 := 0) hK (hP.sub (ws' := CW cy t T) [25, 26, 27, 28, 29, 30, 31, 32, 33, 34, 35, 36, 37, 38, 39, 40, 41, 42, 43, 44, 45, 46, 47, 48] rfl) (hD.sub (ws' := CW cy t T) [25, 26, 27, 28, 29, 30, 31, 32, 33, 34, 35, 36, 37, 38, 39, 40, 41, 42, 43, 44, 45, 46, 47, 48] (by decide) rfl) rfl rfl rfl fz_T_bl (fun _ _ _ => trivial)) rfl rfl hl.1 rfl (lv_room (Nat.le_of_ble_eq_true rfl)) dX8_inBeing_58 ⟨Nat.le_of_ble_eq_true rfl, Nat.le_of_ble_eq_true rfl⟩) hP hD hS [25, 26, 27, 28, 29, 30, 31, 32, 33, 34, 35, 36, 37, 38, 39, 40, 41, 42, 43, 44, 45, 46, 47, 48] [0, 1, 2, 3, 4, 5, 6, 7, 8, 9, 10, 11, 12, 13, 14, 15, 16, 17, 18, 19, 20, 21, 22, 23, 24] rfl rfl [false, false, false, false, false, false, false, false, false, false, false, false, false, false, false, false, false, false, false, false, false, false, false, false, false, true, true, true, true, true, true, true, true, true, true, true, true, true, true, true, true, true, true, true, true, true, true, true, true] (And.intro rfl (And.intro rfl (And.intro rfl (And.intro rfl (And.intro rfl (And.intro rfl (And.intro rfl (And.intro rfl (And.intro rfl (And.intro rfl (And.intro rfl (And.intro rfl (And.intro rfl (And.intro rfl (And.intro rfl (And.intro rfl (And.intro rfl (And.intro rfl (And.intro rfl (And.intro rfl (And.intro rfl (And.intro rfl (And.intro rfl (And.intro rfl (And.intro rfl (And.intro rfl (And.intro rfl (And.intro rfl (And.intro rfl (And.intro rfl (And.intro rfl (And.intro rfl (And.intro rfl (And.intro rfl (And.intro rfl (And.intro rfl (And.intro rfl (And.intro rfl (And.intro rfl (And.intro rfl (And.intro rfl (And.intro rfl (And.intro rfl (And.intro rfl (And.intro rfl (And.intro rfl (And.intro rfl (And.intro rfl (And.intro rfl trivial))))))))))))))))))))))))))))))))))))))))))))))))) rfl rfl (fun H locs hP hD hS => ?_)
          have hP : va_P D vwCl ((FW f a t h x) ++ ((CW cy a V) ++ (CE cy t (((fz_close T nt nc nl (wk + i)).2) 0 0) (((fz_close T nt nc nl (wk + i)).2) 3 0) (((fz_close T nt nc nl (wk + i)).2) 8 0) (((fz_close T nt nc nl (wk + i)).2) 8 1) (((fz_close T nt nc nl (wk + i)).2) 17 0) (((fz_close T nt nc nl (wk + i)).2) 1) (((fz_close T nt nc nl (wk + i)).2) 2) (((fz_close T nt nc nl (wk + i)).2) 4) (((fz_close T nt nc nl (wk + i)).2) 5) (((fz_close T nt nc nl (wk + i)).2) 6) (((fz_close T nt nc nl (wk + i)).2) 7) (((fz_close T nt nc nl (wk + i)).2) 9) (((fz_close T nt nc nl (wk + i)).2) 10) (((fz_close T nt nc nl (wk + i)).2) 11) (((fz_close T nt nc nl (wk + i)).2) 12) (((fz_close T nt nc nl (wk + i)).2) 13) (((fz_close T nt nc nl (wk + i)).2) 14) (((fz_close T nt nc nl (wk + i)).2) 15) (((fz_close T nt nc nl (wk + i)).2) 16) (((fz_close T nt nc nl (wk + i)).2) 18) (((fz_close T nt nc nl (wk + i)).2) 19) (((fz_close T nt nc nl (wk + i)).2) 20) (((fz_close T nt nc nl (wk + i)).2) 21) (((fz_close T nt nc nl (wk + i)).2) 22) (((fz_close T nt nc nl (wk + i)).2) 23)))) H := hP
          have hD : va_D A ((FW f a t h x) ++ ((CW cy a V) ++ (CE cy t (((fz_close T nt nc nl (wk + i)).2) 0 0) (((fz_close T nt nc nl (wk + i)).2) 3 0) (((fz_close T nt nc nl (wk + i)).2) 8 0) (((fz_close T nt nc nl (wk + i)).2) 8 1) (((fz_close T nt nc nl (wk + i)).2) 17 0) (((fz_close T nt nc nl (wk + i)).2) 1) (((fz_close T nt nc nl (wk + i)).2) 2) (((fz_close T nt nc nl (wk + i)).2) 4) (((fz_close T nt nc nl (wk + i)).2) 5) (((fz_close T nt nc nl (wk + i)).2) 6) (((fz_close T nt nc nl (wk + i)).2) 7) (((fz_close T nt nc nl (wk + i)).2) 9) (((fz_close T nt nc nl (wk + i)).2) 10) (((fz_close T nt nc nl (wk + i)).2) 11) (((fz_close T nt nc nl (wk + i)).2) 12) (((fz_close T nt nc nl (wk + i)).2) 13) (((fz_close T nt nc nl (wk + i)).2) 14) (((fz_close T nt nc nl (wk + i)).2) 15) (((fz_close T nt nc nl (wk + i)).2) 16) (((fz_close T nt nc nl (wk + i)).2) 18) (((fz_close T nt nc nl (wk + i)).2) 19) (((fz_close T nt nc nl (wk + i)).2) 20) (((fz_close T nt nc nl (wk + i)).2) 21) (((fz_close T nt nc nl (wk + i)).2) 22) (((fz_close T nt nc nl (wk + i)).2) 23)))) := hD
          refine lv_pop hx hb dX8_inBeing_61 rfl ?_
          refine lv_iinc (v := nI (i + 1)) (lv' := [(2, .int (nI (i + 1))), (0, .ref (f 0)), (1, .int (nI y.toNatClampNeg))]) hx hb dX8_inBeing_62 hl (k := 2) rfl (fz_inc rfl) (by decide) rfl (fun ls hl => ?_)
          refine lv_goto (tgt := 49) hx hb dX8_inBeing_65 (by decide) ?_
          exact ih49 (i + 1, ((fz_close T nt nc nl (wk + i)).2)) (show ((i + 1) ≤ y.toNatClampNeg) ∧ (((fz_close T nt nc nl (wk + i)).2) = fz_its V nt nc nl wk (i + 1)) from ⟨(by omega), (by rw [fz_its, ← eT])⟩) (by show y.toNatClampNeg - (i + 1) < y.toNatClampNeg - i; omega) _ _ ls hP hD hS (lv_sub hl [1, 2, 0] rfl)
      · skip
        refine lv_iconst (v := (-1)) hx hb dX8_inBeing_34 (by decide) ?_
        have eF : cx_ib V N nt nc nl wk y = ((-1), N) := by rw [cx_ib, if_neg (by omega)]
        refine fz_wd (k := 1) (n := 6) (Nat.le_of_ble_eq_true rfl) (Nat.le_of_ble_eq_true rfl) ?_
        refine vx_ret ?_
        subst hAe
        exact W.iret (v := (-1)) hx hb hr (fun t9 ht9 hW9 => ⟨⟨_, (), rfl, ⟨(by rw [eF] <;> rfl), (fz_vo_40 c_1 c_2)⟩, fz_to ht9 (by rw [eF]; exact hP)⟩, hS.F ht9⟩) hS.2.2 dX8_inBeing_35
    · skip
      subst hAe
      exact fz_throw (text := "the number of weeks is out of range") (cls := xIA) (ik := 117) (is := 179) (ic := 121) hx hb hst (hl.1.trans hml.symm) ht hlocks hown hts hE.1 (by decide +kernel) (by decide +kernel) (by decide +kernel) (by decide +kernel) (by decide +kernel) (by decide +kernel) (by decide +kernel) (fz_vo_40n c_2) hP hS dX8_inBeing_10 dX8_inBeing_13 dX8_inBeing_14 dX8_inBeing_16 dX8_inBeing_19 (Nat.le_of_ble_eq_true rfl) (Nat.le_of_ble_eq_true rfl) (Nat.le_of_ble_eq_true rfl) (Nat.le_of_ble_eq_true rfl) (Nat.le_of_ble_eq_true rfl) (Nat.le_of_ble_eq_true rfl)
set_option maxHeartbeats 4000000 in
set_option maxRecDepth 100000 in
/-- FreezeCredits.weeksUntil -/
theorem c_X8_weeksUntil (l : Launch) (hst : l.stackTraces = false) (D : va_G) (cy : Nat → ClassId) (f h x : Nat → Nat) (a : Nat → Nat) (V : Nat → Nat → Int32) (t : Nat → Nat) (N : Nat → Nat → Int32) (nt nc nq nl wk : Nat) (wf : fz_wf V nt nc nq nl wk) (y z : Int32) (hz : fz_zo (V 2) 40) : fz_XI l yX8_weeksUntil wsX8_weeksUntil 7 103 2 12 D cy [.ref (f 0), .int y, .int z] ((FW f a t h x) ++ ((CW cy a V) ++ (CW cy t N))) (fz_Ev (fz_in ((FW f a t h x) ++ ((CW cy a V) ++ (CW cy t N))))) ((cx_wu V nt nc nl wk y z).1) ((FW f a t h x) ++ ((CW cy a V) ++ (CW cy t ((cx_wu V nt nc nl wk y z).2)))) (fz_ix y (V 3 0) && fz_risk z) (bif fz_ix y (V 3 0) then xIA else xIO) ((FW f a t h x) ++ ((CW cy a V) ++ (CW cy t N))) := by
  refine vx_ofW (cc := cX8_weeksUntil) (maxL := 6) (ret := (some .int)) (by decide) rfl ?_
  intro p e s m args below meth c s₁ B hml ht hv
  obtain ⟨rfl, hP, hK, hD0, hE⟩ := hv
  have hx := B.exec
  have hb := B.bytes
  have hr := B.returns
  have hts := atoms_spec (ws := wsX8_weeksUntil) B.pre
  have hown : s.vm.findClass RX8 = some m.cls := findClass_of_methodNamed B.named
  have hlocks := B.notSynchronized
  have hD := fz_self hD0
  obtain ⟨A, hAe⟩ : ∃ A : Nat → Prop, A = fz_in ((FW f a t h x) ++ ((CW cy a V) ++ (CW cy t N))) := ⟨_, rfl⟩
  rw [← hAe] at hD
  have hE : fz_Ev A s := by rw [hAe]; exact hE
  have hS : va_S A s.heap s.heap [] := va_S.rf
  have hl := lv_entry ([.ref (f 0), .int y, .int z]) (n := 6) (Nat.le_of_ble_eq_true rfl)
  rw [lg_entry_eq]
  generalize (lg_sl ([.ref (f 0), .int y, .int z]) ++ List.replicate (6 - (lg_sl ([.ref (f 0), .int y, .int z])).length) Slot.unset).toArray = ls at hl ⊢
  have hl : lv_has ls 6 [(0, .ref (f 0)), (1, .int y), (2, .int z)] := hl
  have k_12 := hts (.fieldLink RX8 12 "FreezeCredits" "now" "LFreezeCredits$Calendar;") (by decide +kernel)
  have inX8 : ∀ w ∈ u_ws RX8 TX8 4, w ∈ wsX8_weeksUntil := by decide +kernel
  have k_155 := hts (.fieldLink RX8 155 "FreezeCredits$Calendar" "week" "I") (by decide +kernel)
  have inX1 : ∀ w ∈ u_ws RX1 TX1 6, w ∈ wsX8_weeksUntil := by decide +kernel
  have k_16 := hts (.fieldLink RX8 16 "FreezeCredits" "trial" "LFreezeCredits$Calendar;") (by decide +kernel)
  have k_161 := hts (.fieldLink RX8 161 "FreezeCredits$Calendar" "teams" "LFreezeCredits$Teams;") (by decide +kernel)
  have k_165 := hts (.fieldLink RX8 165 "FreezeCredits$Teams" "free" "[I") (by decide +kernel)
  have inX6 : ∀ w ∈ u_ws RX6 TX6 5, w ∈ wsX8_weeksUntil := by decide +kernel
  obtain ⟨hnt, hnt6, hnc, hnc30, hnq, hqc, hnl, hnl12, hwk, hwk39, hT, hQ, hG, hB⟩ := id wf
  refine lv_aload_n hx hb dX8_weeksUntil_0 rfl (lv_at hl 0 rfl) ?_
  refine lv_iload_n hx hb dX8_weeksUntil_1 rfl (lv_at hl 1 rfl) ?_
  refine fz_xretV (P := ([] : va_W)) (S := (CW cy t N)) (Wc := ((FW f a t h x) ++ (CW cy a V))) (Wc' := ((FW f a t h x) ++ (CW cy a V))) (WX := ((FW f a t h x) ++ (CW cy a V))) (vx_runV (As := [.int y]) (rest := []) ⟨hx, hb, hml, hown, hts⟩ (c_X8_needTeam l hst D cy f t h x a V y) (cwV 1 hts gX8_weeksUntil_X8_needTeam rfl rfl rfl (by decide +kernel) ⟨Nat.le_of_ble_eq_true rfl, Nat.le_of_ble_eq_true rfl⟩) (fz_preMV (ci := 6) (q0 := 0) hK (hP.sub (ws' := (FW f a t h x) ++ (CW cy a V)) [0, 1, 2, 3, 4, 5, 6, 7, 8, 9, 10, 11, 12, 13, 14, 15, 16, 17, 18, 19, 20, 21, 22, 23, 24] rfl) (hD.sub (ws' := (FW f a t h x) ++ (CW cy a V)) [0, 1, 2, 3, 4, 5, 6, 7, 8, 9, 10, 11, 12, 13, 14, 15, 16, 17, 18, 19, 20, 21, 22, 23, 24] (by decide) rfl) rfl rfl rfl fz_Ev_bl (fun U hU hW => hE.up hU hS hW (fun q h9 => fz_inD (hD.sub (ws' := (FW f a t h x) ++ (CW cy a V)) [0, 1, 2, 3, 4, 5, 6, 7, 8, 9, 10, 11, 12, 13, 14, 15, 16, 17, 18, 19, 20, 21, 22, 23, 24] (by decide) rfl) h9))) rfl rfl hl.1 rfl (lv_room (Nat.le_of_ble_eq_true rfl)) dX8_weeksUntil_2 ⟨Nat.le_of_ble_eq_true rfl, Nat.le_of_ble_eq_true rfl⟩) hP hD hS rfl rfl (fun c_1 H locs q9 ce hP hD hS h7 h8 h9 => ?_) (fun c_1 H locs hP hD hS => ?_)
  · skip
    subst hAe
    exact fz_xout ht hlocks (by simp [c_1]) (by simp [c_1]) hP hS h7 h8 h9 (Nat.le_of_ble_eq_true rfl) (Nat.le_of_ble_eq_true rfl)
  have hP : va_P D vwCl ((FW f a t h x) ++ ((CW cy a V) ++ (CW cy t N))) H := hP
  have hD : va_D A ((FW f a t h x) ++ ((CW cy a V) ++ (CW cy t N))) := hD
  refine lv_aload_n hx hb dX8_weeksUntil_5 rfl (lv_at hl 0 rfl) ?_
  refine lv_iload_n hx hb dX8_weeksUntil_6 rfl (lv_at hl 2 rfl) ?_
  refine fz_xretV (P := ([] : va_W)) (S := (CW cy t N)) (Wc := ((FW f a t h x) ++ (CW cy a V))) (Wc' := ((FW f a t h x) ++ (CW cy a V))) (WX := ((FW f a t h x) ++ (CW cy a V))) (vx_runV (As := [.int z]) (rest := []) ⟨hx, hb, hml, hown, hts⟩ (c_X8_needRisk l hst D cy f t h x a V z) (cwV 1 hts gX8_weeksUntil_X8_needRisk rfl rfl rfl (by decide +kernel) ⟨Nat.le_of_ble_eq_true rfl, Nat.le_of_ble_eq_true rfl⟩) (fz_preMV (ci := 6) (q0 := 0) hK (hP.sub (ws' := (FW f a t h x) ++ (CW cy a V)) [0, 1, 2, 3, 4, 5, 6, 7, 8, 9, 10, 11, 12, 13, 14, 15, 16, 17, 18, 19, 20, 21, 22, 23, 24] rfl) (hD.sub (ws' := (FW f a t h x) ++ (CW cy a V)) [0, 1, 2, 3, 4, 5, 6, 7, 8, 9, 10, 11, 12, 13, 14, 15, 16, 17, 18, 19, 20, 21, 22, 23, 24] (by decide) rfl) rfl rfl rfl fz_Ev_bl (fun U hU hW => hE.up hU hS hW (fun q h9 => fz_inD (hD.sub (ws' := (FW f a t h x) ++ (CW cy a V)) [0, 1, 2, 3, 4, 5, 6, 7, 8, 9, 10, 11, 12, 13, 14, 15, 16, 17, 18, 19, 20, 21, 22, 23, 24] (by decide) rfl) h9))) rfl rfl hl.1 rfl (lv_room (Nat.le_of_ble_eq_true rfl)) dX8_weeksUntil_7 ⟨Nat.le_of_ble_eq_true rfl, Nat.le_of_ble_eq_true rfl⟩) hP hD hS rfl rfl (fun c_2 H locs q9 ce hP hD hS h7 h8 h9 => ?_) (fun c_2 H locs hP hD hS => ?_)
  · skip
    subst hAe
    exact fz_xout ht hlocks (by simp [c_1, c_2]) (by simp [c_1]) hP hS h7 h8 h9 (Nat.le_of_ble_eq_true rfl) (Nat.le_of_ble_eq_true rfl)
  have hP : va_P D vwCl ((FW f a t h x) ++ ((CW cy a V) ++ (CW cy t N))) H := hP
  have hD : va_D A ((FW f a t h x) ++ ((CW cy a V) ++ (CW cy t N))) := hD
  refine lv_aload_n hx hb dX8_weeksUntil_10 rfl (lv_at hl 0 rfl) ?_
  refine va_get (D := D) (ci := 6) (v := .ref (a 0)) (C := RX8) (T := TX8) (N := 4) hx hb hts inX8 hown hK hP 0 rfl rfl 0 (by decide) k_12 (fun _ h9 => h9) rfl dX8_weeksUntil_11 ?_
  refine lv_iload_n hx hb dX8_weeksUntil_14 rfl (lv_at hl 2 rfl) ?_
  refine fz_retR (va_runV (As := [.int z]) (rest := []) ⟨hx, hb, hml, hown, hts⟩ (c_X1_creditsOf l D cy a V nt nc nq nl wk wf z) (cwV 1 hts gX8_weeksUntil_X1_creditsOf rfl rfl rfl (by decide +kernel) ⟨Nat.le_of_ble_eq_true rfl, Nat.le_of_ble_eq_true rfl⟩) (fz_preV (ci := 0) (q0 := 0) hK (hP.sub (ws' := CW cy a V) [1, 2, 3, 4, 5, 6, 7, 8, 9, 10, 11, 12, 13, 14, 15, 16, 17, 18, 19, 20, 21, 22, 23, 24] rfl) rfl rfl rfl fz_T_bl (fun _ _ _ => trivial)) rfl rfl hl.1 rfl (lv_room (Nat.le_of_ble_eq_true rfl)) dX8_weeksUntil_15 ⟨Nat.le_of_ble_eq_true rfl, Nat.le_of_ble_eq_true rfl⟩) ?_
  refine lv_istore_n (lv' := [(3, .int (z * V 1 0)), (0, .ref (f 0)), (1, .int y), (2, .int z)]) hx hb dX8_weeksUntil_18 rfl hl (by decide) rfl (fun ls hl => ?_)
  refine lv_bipush (v := 39) hx hb dX8_weeksUntil_19 (by decide) ?_
  refine lv_aload_n hx hb dX8_weeksUntil_21 rfl (lv_at hl 1 rfl) ?_
  refine va_get (D := D) (ci := 6) (v := .ref (a 0)) (C := RX8) (T := TX8) (N := 4) hx hb hts inX8 hown hK hP 0 rfl rfl 0 (by decide) k_12 (fun _ h9 => h9) rfl dX8_weeksUntil_22 ?_
  refine va_get (D := D) (ci := 0) (v := .int (V 0 0)) (C := RX1) (T := TX1) (N := 6) hx hb hts inX1 hown hK hP 1 rfl rfl 0 (by decide) k_155 (fun _ h9 => h9) rfl dX8_weeksUntil_25 ?_
  have hy := fz_ix_s c_1 hnt (by omega)
  refine fz_isubN hx hb 39 wk rfl hwk (by omega) dX8_weeksUntil_28 ?_
  refine lv_istore (lv' := [(4, .int (nI (39 - wk))), (3, .int (z * V 1 0)), (0, .ref (f 0)), (1, .int y), (2, .int z)]) hx hb dX8_weeksUntil_29 hl (by decide) rfl (fun ls hl => ?_)
  refine lv_aload_n hx hb dX8_weeksUntil_31 rfl (lv_at hl 2 rfl) ?_
  refine va_get (D := D) (ci := 6) (v := .ref (t 0)) (C := RX8) (T := TX8) (N := 4) hx hb hts inX8 hown hK hP 0 rfl rfl 1 (by decide) k_16 (fun _ h9 => h9) rfl dX8_weeksUntil_32 ?_
  refine lv_aload_n hx hb dX8_weeksUntil_35 rfl (lv_at hl 2 rfl) ?_
  refine va_get (D := D) (ci := 6) (v := .ref (a 0)) (C := RX8) (T := TX8) (N := 4) hx hb hts inX8 hown hK hP 0 rfl rfl 0 (by decide) k_12 (fun _ h9 => h9) rfl dX8_weeksUntil_36 ?_
  refine fz_retMV (ws' := (FW f a t h x) ++ ((CW cy a V) ++ (CW cy t V))) (va_runV (As := [.ref (a 0)]) (rest := []) ⟨hx, hb, hml, hown, hts⟩ (c_X1_copyFrom l D cy t N a V hz) (cwV 1 hts gX8_weeksUntil_X1_copyFrom rfl rfl rfl (by decide +kernel) ⟨Nat.le_of_ble_eq_true rfl, Nat.le_of_ble_eq_true rfl⟩) (fz_preMV (ci := 0) (q0 := 0) hK (hP.sub (ws' := (CW cy t N) ++ (CW cy a V)) [25, 26, 27, 28, 29, 30, 31, 32, 33, 34, 35, 36, 37, 38, 39, 40, 41, 42, 43, 44, 45, 46, 47, 48, 1, 2, 3, 4, 5, 6, 7, 8, 9, 10, 11, 12, 13, 14, 15, 16, 17, 18, 19, 20, 21, 22, 23, 24] rfl) (hD.sub (ws' := (CW cy t N) ++ (CW cy a V)) [25, 26, 27, 28, 29, 30, 31, 32, 33, 34, 35, 36, 37, 38, 39, 40, 41, 42, 43, 44, 45, 46, 47, 48, 1, 2, 3, 4, 5, 6, 7, 8, 9, 10, 11, 12, 13, 14, 15, 16, 17, 18, 19, 20, 21, 22, 23, 24] (by decide) rfl) rfl rfl rfl fz_T_bl (fun _ _ _ => trivial)) rfl rfl hl.1 rfl (lv_room (Nat.le_of_ble_eq_true rfl)) dX8_weeksUntil_39 ⟨Nat.le_of_ble_eq_true rfl, Nat.le_of_ble_eq_true rfl⟩) hP hD hS [25, 26, 27, 28, 29, 30, 31, 32, 33, 34, 35, 36, 37, 38, 39, 40, 41, 42, 43, 44, 45, 46, 47, 48, 1, 2, 3, 4, 5, 6, 7, 8, 9, 10, 11, 12, 13, 14, 15, 16, 17, 18, 19, 20, 21, 22, 23, 24] [0] rfl rfl [false, true, true, true, true, true, true, true, true, true, true, true, true, true, true, true, true, true, true, true, true, true, true, true, true, true, true, true, true, true, true, true, true, true, true, true, true, true, true, true, true, true, true, true, true, true, true, true, true] (And.intro rfl (And.intro rfl (And.intro rfl (And.intro rfl (And.intro rfl (And.intro rfl (And.intro rfl (And.intro rfl (And.intro rfl (And.intro rfl (And.intro rfl (And.intro rfl (And.intro rfl (And.intro rfl (And.intro rfl (And.intro rfl (And.intro rfl (And.intro rfl (And.intro rfl (And.intro rfl (And.intro rfl (And.intro rfl (And.intro rfl (And.intro rfl (And.intro rfl (And.intro rfl (And.intro rfl (And.intro rfl (And.intro rfl (And.intro rfl (And.intro rfl (And.intro rfl (And.intro rfl (And.intro rfl (And.intro rfl (And.intro rfl (And.intro rfl (And.intro rfl (And.intro rfl (And.intro rfl (And.intro rfl (And.intro rfl (And.intro rfl (And.intro rfl (And.intro rfl (And.intro rfl (And.intro rfl (And.intro rfl (And.intro rfl trivial))))))))))))))))))))))))))))))))))))))))))))))))) rfl rfl (fun H locs hP hD hS => ?_)
  have hP : va_P D vwCl ((FW f a t h x) ++ ((CW cy a V) ++ (CW cy t V))) H := hP
  have hD : va_D A ((FW f a t h x) ++ ((CW cy a V) ++ (CW cy t V))) := hD
  refine lv_iconst (v := 0) hx hb dX8_weeksUntil_42 (by decide) ?_
  refine lv_istore (lv' := [(5, .int 0), (4, .int (nI (39 - wk))), (3, .int (z * V 1 0)), (0, .ref (f 0)), (1, .int y), (2, .int z)]) hx hb dX8_weeksUntil_43 hl (by decide) rfl (fun ls hl => ?_)
  rw [show y = nI y.toNatClampNeg from hy.1] at hl
  refine fz_loopM (σ := Nat × (Nat → Nat → Int32)) (pc := 45) (nL := 6) (fun x9 => match x9 with | (i, T) => [(0, .ref (f 0)), (1, .int (nI y.toNatClampNeg)), (2, .int z), (3, .int (z * V 1 0)), (4, .int (nI (39 - wk))), (5, .int (nI i))]) (fun x9 => match x9 with | (i, T) => (FW f a t h x) ++ ((CW cy a V) ++ (CW cy t T))) (fun x9 => match x9 with | (i, T) => (i ≤ 40 - wk) ∧ (wk + i ≤ 39 → fz_wf T nt nc nq nl (wk + i)) ∧ (T = fz_its V nt nc nl wk i) ∧ (wk + i ≤ 39 → fz_wu (fun u9 => fz_its V nt nc nl wk u9 4 y.toNatClampNeg) (z * V 1 0) (39 - (wk + i)) i = fz_wu (fun u9 => fz_its V nt nc nl wk u9 4 y.toNatClampNeg) (z * V 1 0) (39 - wk) 0 ∧ fz_wn (fun u9 => fz_its V nt nc nl wk u9 4 y.toNatClampNeg) (z * V 1 0) (39 - (wk + i)) i = fz_wn (fun u9 => fz_its V nt nc nl wk u9 4 y.toNatClampNeg) (z * V 1 0) (39 - wk) 0) ∧ (39 < wk + i → fz_wu (fun u9 => fz_its V nt nc nl wk u9 4 y.toNatClampNeg) (z * V 1 0) (39 - wk) 0 = -1 ∧ fz_wn (fun u9 => fz_its V nt nc nl wk u9 4 y.toNatClampNeg) (z * V 1 0) (39 - wk) 0 = i)) (fun x9 => match x9 with | (i, T) => 40 - i) ?_ (0, V) (show (0 ≤ 40 - wk) ∧ (wk + 0 ≤ 39 → fz_wf V nt nc nq nl (wk + 0)) ∧ (V = fz_its V nt nc nl wk 0) ∧ (wk + 0 ≤ 39 → fz_wu (fun u9 => fz_its V nt nc nl wk u9 4 y.toNatClampNeg) (z * V 1 0) (39 - (wk + 0)) 0 = fz_wu (fun u9 => fz_its V nt nc nl wk u9 4 y.toNatClampNeg) (z * V 1 0) (39 - wk) 0 ∧ fz_wn (fun u9 => fz_its V nt nc nl wk u9 4 y.toNatClampNeg) (z * V 1 0) (39 - (wk + 0)) 0 = fz_wn (fun u9 => fz_its V nt nc nl wk u9 4 y.toNatClampNeg) (z * V 1 0) (39 - wk) 0) ∧ (39 < wk + 0 → fz_wu (fun u9 => fz_its V nt nc nl wk u9 4 y.toNatClampNeg) (z * V 1 0) (39 - wk) 0 = -1 ∧ fz_wn (fun u9 => fz_its V nt nc nl wk u9 4 y.toNatClampNeg) (z * V 1 0) (39 - wk) 0 = 0) from ⟨(by omega), (fun _ => wf), rfl, (fun _ => ⟨rfl, rfl⟩), (fun h9 => absurd h9 (by omega))⟩) _ _ ls hP hD hS (lv_sub hl [3, 4, 5, 2, 1, 0] rfl)
  rintro ⟨i, T⟩ ⟨hi, hwf, eT, eW, eZ⟩ ih45 H locs ls hP hD hS hl
  have hP : va_P D vwCl ((FW f a t h x) ++ ((CW cy a V) ++ (CW cy t T))) H := hP
  have hD : va_D A ((FW f a t h x) ++ ((CW cy a V) ++ (CW cy t T))) := hD
  have hi : i ≤ 40 - wk := hi
  have hwf : wk + i ≤ 39 → fz_wf T nt nc nq nl (wk + i) := hwf
  have eT : T = fz_its V nt nc nl wk i := eT
  have eW : wk + i ≤ 39 → fz_wu (fun u9 => fz_its V nt nc nl wk u9 4 y.toNatClampNeg) (z * V 1 0) (39 - (wk + i)) i = fz_wu (fun u9 => fz_its V nt nc nl wk u9 4 y.toNatClampNeg) (z * V 1 0) (39 - wk) 0 ∧ fz_wn (fun u9 => fz_its V nt nc nl wk u9 4 y.toNatClampNeg) (z * V 1 0) (39 - (wk + i)) i = fz_wn (fun u9 => fz_its V nt nc nl wk u9 4 y.toNatClampNeg) (z * V 1 0) (39 - wk) 0 := eW
  have eZ : 39 < wk + i → fz_wu (fun u9 => fz_its V nt nc nl wk u9 4 y.toNatClampNeg) (z * V 1 0) (39 - wk) 0 = -1 ∧ fz_wn (fun u9 => fz_its V nt nc nl wk u9 4 y.toNatClampNeg) (z * V 1 0) (39 - wk) 0 = i := eZ
  have hl : lv_has ls 6 [(0, .ref (f 0)), (1, .int (nI y.toNatClampNeg)), (2, .int z), (3, .int (z * V 1 0)), (4, .int (nI (39 - wk))), (5, .int (nI i))] := hl
  refine lv_iload hx hb dX8_weeksUntil_45 (lv_at hl 5 rfl) ?_
  refine lv_iload hx hb dX8_weeksUntil_47 (lv_at hl 4 rfl) ?_
  refine fz_gtN (tgt := 85) hx hb i (39 - wk) rfl rfl dX8_weeksUntil_49 (by decide) (by omega) (by omega) (fun c_3 => ?_) (fun c_3 => ?_)
  · skip
    refine lv_iconst (v := (-1)) hx hb dX8_weeksUntil_85 (by decide) ?_
    have eF : cx_wu V nt nc nl wk y z = ((-1), T) := by rw [cx_wu, (eZ (by omega)).1, (eZ (by omega)).2, ← eT]
    refine fz_wd (k := 2) (n := 12) (Nat.le_of_ble_eq_true rfl) (Nat.le_of_ble_eq_true rfl) ?_
    refine vx_ret ?_
    subst hAe
    exact W.iret (v := (-1)) hx hb hr (fun t9 ht9 hW9 => ⟨⟨_, (), rfl, ⟨(by rw [eF] <;> rfl), (by rw [c_1, c_2]; rfl)⟩, fz_to ht9 (by rw [eF]; exact hP)⟩, hS.F ht9⟩) hS.2.2 dX8_weeksUntil_86
  · skip
    refine lv_aload_n hx hb dX8_weeksUntil_52 rfl (lv_at hl 0 rfl) ?_
    refine va_get (D := D) (ci := 6) (v := .ref (t 0)) (C := RX8) (T := TX8) (N := 4) hx hb hts inX8 hown hK hP 0 rfl rfl 1 (by decide) k_16 (fun _ h9 => h9) rfl dX8_weeksUntil_53 ?_
    refine va_get (D := D) (ci := 0) (v := .ref (t 3)) (C := RX1) (T := TX1) (N := 6) hx hb hts inX1 hown hK hP 25 rfl rfl 3 (by decide) k_161 (fun _ h9 => h9) rfl dX8_weeksUntil_56 ?_
    refine va_get (D := D) (ci := 5) (v := .ref (t 4)) (C := RX6) (T := TX6) (N := 5) hx hb hts inX6 hown hK hP 28 rfl rfl 1 (by decide) k_165 (fun _ h9 => h9) rfl dX8_weeksUntil_59 ?_
    refine lv_iload_n hx hb dX8_weeksUntil_62 rfl (lv_at hl 1 rfl) ?_
    refine fz_iald (f := T 4) hx hb hK hP 29 0 rfl rfl y.toNatClampNeg rfl (by omega) (by decide) dX8_weeksUntil_63 ?_
    refine lv_iload_n hx hb dX8_weeksUntil_64 rfl (lv_at hl 3 rfl) ?_
    refine lv_icmp_lt (tgt := 71) hx hb dX8_weeksUntil_65 (by decide) (fun c_4 => ?_) (fun c_4 => ?_)
    · skip
      refine lv_aload_n hx hb dX8_weeksUntil_71 rfl (lv_at hl 0 rfl) ?_
      refine va_get (D := D) (ci := 6) (v := .ref (t 0)) (C := RX8) (T := TX8) (N := 4) hx hb hts inX8 hown hK hP 0 rfl rfl 1 (by decide) k_16 (fun _ h9 => h9) rfl dX8_weeksUntil_72 ?_
      have hwT := hwf (by omega)
      refine fz_retM (ws' := (FW f a t h x) ++ ((CW cy a V) ++ (CE cy t (((fz_close T nt nc nl (wk + i)).2) 0 0) (((fz_close T nt nc nl (wk + i)).2) 3 0) (((fz_close T nt nc nl (wk + i)).2) 8 0) (((fz_close T nt nc nl (wk + i)).2) 8 1) (((fz_close T nt nc nl (wk + i)).2) 17 0) (((fz_close T nt nc nl (wk + i)).2) 1) (((fz_close T nt nc nl (wk + i)).2) 2) (((fz_close T nt nc nl (wk + i)).2) 4) (((fz_close T nt nc nl (wk + i)).2) 5) (((fz_close T nt nc nl (wk + i)).2) 6) (((fz_close T nt nc nl (wk + i)).2) 7) (((fz_close T nt nc nl (wk + i)).2) 9) (((fz_close T nt nc nl (wk + i)).2) 10) (((fz_close T nt nc nl (wk + i)).2) 11) (((fz_close T nt nc nl (wk + i)).2) 12) (((fz_close T nt nc nl (wk + i)).2) 13) (((fz_close T nt nc nl (wk + i)).2) 14) (((fz_close T nt nc nl (wk + i)).2) 15) (((fz_close T nt nc nl (wk + i)).2) 16) (((fz_close T nt nc nl (wk + i)).2) 18) (((fz_close T nt nc nl (wk + i)).2) 19) (((fz_close T nt nc nl (wk + i)).2) 20) (((fz_close T nt nc nl (wk + i)).2) 21) (((fz_close T nt nc nl (wk + i)).2) 22) (((fz_close T nt nc nl (wk + i)).2) 23)))) (va_runV (As := []) (rest := []) ⟨hx, hb, hml, hown, hts⟩ (c_X1_closeWeek l D cy t T nt nc nq nl (wk + i) hwT) (cwV 0 hts gX8_weeksUntil_X1_closeWeek rfl rfl rfl (by decide +kernel) ⟨Nat.le_of_ble_eq_true rfl, Nat.le_of_ble_eq_true rfl⟩) (fz_preMV (ci := 0) (q0 := 0) hK (hP.sub (ws' := CW cy t T) [25, 26, 27, 28, 29, 30, 31, 32, 33, 34, 35, 36, 37, 38, 39, 40, 41, 42, 43, 44, 45, 46, 47, 48] rfl) (hD.sub (ws' := CW cy t T) [25, 26, 27, 28, 29, 30, 31, 32, 33, 34, 35, 36, 37, 38, 39, 40, 41, 42, 43, 44, 45, 46, 47, 48] (by decide) rfl) rfl rfl rfl fz_T_bl (fun _ _ _ => trivial)) rfl rfl hl.1 rfl (lv_room (Nat.le_of_ble_eq_true rfl)) dX8_weeksUntil_75 ⟨Nat.le_of_ble_eq_true rfl, Nat.le_of_ble_eq_true rfl⟩) hP hD hS [25, 26, 27, 28, 29, 30, 31, 32, 33, 34, 35, 36, 37, 38, 39, 40, 41, 42, 43, 44, 45, 46, 47, 48] [0, 1, 2, 3, 4, 5, 6, 7, 8, 9, 10, 11, 12, 13, 14, 15, 16, 17, 18, 19, 20, 21, 22, 23, 24] rfl rfl [false, false, false, false, false, false, false, false, false, false, false, false, false, false, false, false, false, false, false, false, false, false, false, false, false, true, true, true, true, true, true, true, true, true, true, true, true, true, true, true, true, true, true, true, true, true, true, true, true] (And.intro rfl (And.intro rfl (And.intro rfl (And.intro rfl (And.intro rfl (And.intro rfl (And.intro rfl (And.intro rfl (And.intro rfl (And.intro rfl (And.intro rfl (And.intro rfl (And.intro rfl (And.intro rfl (And.intro rfl (And.intro rfl (And.intro rfl (And.intro rfl (And.intro rfl (And.intro rfl (And.intro rfl (And.intro rfl (And.intro rfl (And.intro rfl (And.intro rfl (And.intro rfl (And.intro rfl (And.intro rfl (And.intro rfl (And.intro rfl (And.intro rfl (And.intro rfl (And.intro rfl (And.intro rfl (And.intro rfl (And.intro rfl (And.intro rfl (And.intro rfl (And.intro rfl (And.intro rfl (And.intro rfl (And.intro rfl (And.intro rfl (And.intro rfl (And.intro rfl (And.intro rfl (And.intro rfl (And.intro rfl (And.intro rfl trivial))))))))))))))))))))))))))))))))))))))))))))))))) rfl rfl (fun H locs hP hD hS => ?_)
      have hP : va_P D vwCl ((FW f a t h x) ++ ((CW cy a V) ++ (CE cy t (((fz_close T nt nc nl (wk + i)).2) 0 0) (((fz_close T nt nc nl (wk + i)).2) 3 0) (((fz_close T nt nc nl (wk + i)).2) 8 0) (((fz_close T nt nc nl (wk + i)).2) 8 1) (((fz_close T nt nc nl (wk + i)).2) 17 0) (((fz_close T nt nc nl (wk + i)).2) 1) (((fz_close T nt nc nl (wk + i)).2) 2) (((fz_close T nt nc nl (wk + i)).2) 4) (((fz_close T nt nc nl (wk + i)).2) 5) (((fz_close T nt nc nl (wk + i)).2) 6) (((fz_close T nt nc nl (wk + i)).2) 7) (((fz_close T nt nc nl (wk + i)).2) 9) (((fz_close T nt nc nl (wk + i)).2) 10) (((fz_close T nt nc nl (wk + i)).2) 11) (((fz_close T nt nc nl (wk + i)).2) 12) (((fz_close T nt nc nl (wk + i)).2) 13) (((fz_close T nt nc nl (wk + i)).2) 14) (((fz_close T nt nc nl (wk + i)).2) 15) (((fz_close T nt nc nl (wk + i)).2) 16) (((fz_close T nt nc nl (wk + i)).2) 18) (((fz_close T nt nc nl (wk + i)).2) 19) (((fz_close T nt nc nl (wk + i)).2) 20) (((fz_close T nt nc nl (wk + i)).2) 21) (((fz_close T nt nc nl (wk + i)).2) 22) (((fz_close T nt nc nl (wk + i)).2) 23)))) H := hP
      have hD : va_D A ((FW f a t h x) ++ ((CW cy a V) ++ (CE cy t (((fz_close T nt nc nl (wk + i)).2) 0 0) (((fz_close T nt nc nl (wk + i)).2) 3 0) (((fz_close T nt nc nl (wk + i)).2) 8 0) (((fz_close T nt nc nl (wk + i)).2) 8 1) (((fz_close T nt nc nl (wk + i)).2) 17 0) (((fz_close T nt nc nl (wk + i)).2) 1) (((fz_close T nt nc nl (wk + i)).2) 2) (((fz_close T nt nc nl (wk + i)).2) 4) (((fz_close T nt nc nl (wk + i)).2) 5) (((fz_close T nt nc nl (wk + i)).2) 6) (((fz_close T nt nc nl (wk + i)).2) 7) (((fz_close T nt nc nl (wk + i)).2) 9) (((fz_close T nt nc nl (wk + i)).2) 10) (((fz_close T nt nc nl (wk + i)).2) 11) (((fz_close T nt nc nl (wk + i)).2) 12) (((fz_close T nt nc nl (wk + i)).2) 13) (((fz_close T nt nc nl (wk + i)).2) 14) (((fz_close T nt nc nl (wk + i)).2) 15) (((fz_close T nt nc nl (wk + i)).2) 16) (((fz_close T nt nc nl (wk + i)).2) 18) (((fz_close T nt nc nl (wk + i)).2) 19) (((fz_close T nt nc nl (wk + i)).2) 20) (((fz_close T nt nc nl (wk + i)).2) 21) (((fz_close T nt nc nl (wk + i)).2) 22) (((fz_close T nt nc nl (wk + i)).2) 23)))) := hD
      refine lv_pop hx hb dX8_weeksUntil_78 rfl ?_
      refine lv_iinc (v := nI (i + 1)) (lv' := [(5, .int (nI (i + 1))), (0, .ref (f 0)), (1, .int (nI y.toNatClampNeg)), (2, .int z), (3, .int (z * V 1 0)), (4, .int (nI (39 - wk)))]) hx hb dX8_weeksUntil_79 hl (k := 5) rfl (fz_inc rfl) (by decide) rfl (fun ls hl => ?_)
      refine lv_goto (tgt := 45) hx hb dX8_weeksUntil_82 (by decide) ?_
      exact ih45 (i + 1, ((fz_close T nt nc nl (wk + i)).2)) (show ((i + 1) ≤ 40 - wk) ∧ (wk + (i + 1) ≤ 39 → fz_wf ((fz_close T nt nc nl (wk + i)).2) nt nc nq nl (wk + (i + 1))) ∧ (((fz_close T nt nc nl (wk + i)).2) = fz_its V nt nc nl wk (i + 1)) ∧ (wk + (i + 1) ≤ 39 → fz_wu (fun u9 => fz_its V nt nc nl wk u9 4 y.toNatClampNeg) (z * V 1 0) (39 - (wk + (i + 1))) (i + 1) = fz_wu (fun u9 => fz_its V nt nc nl wk u9 4 y.toNatClampNeg) (z * V 1 0) (39 - wk) 0 ∧ fz_wn (fun u9 => fz_its V nt nc nl wk u9 4 y.toNatClampNeg) (z * V 1 0) (39 - (wk + (i + 1))) (i + 1) = fz_wn (fun u9 => fz_its V nt nc nl wk u9 4 y.toNatClampNeg) (z * V 1 0) (39 - wk) 0) ∧ (39 < wk + (i + 1) → fz_wu (fun u9 => fz_its V nt nc nl wk u9 4 y.toNatClampNeg) (z * V 1 0) (39 - wk) 0 = -1 ∧ fz_wn (fun u9 => fz_its V nt nc nl wk u9 4 y.toNatClampNeg) (z * V 1 0) (39 - wk) 0 = (i + 1)) from ⟨(by omega), (fun h9 => fz_close_wf hwT (by omega)), (by rw [fz_its, ← eT]), (fun h9 => by rw [← (eW (by omega)).1, ← (eW (by omega)).2, fz_wu_s (k := 39 - (wk + i)) (by show ¬ z * V 1 0 ≤ fz_its V nt nc nl wk i 4 y.toNatClampNeg; rw [← eT]; exact Int32.not_le.mpr c_4) (by omega), fz_wn_s (k := 39 - (wk + i)) (by show ¬ z * V 1 0 ≤ fz_its V nt nc nl wk i 4 y.toNatClampNeg; rw [← eT]; exact Int32.not_le.mpr c_4) (by omega), show 39 - (wk + (i + 1)) = 39 - (wk + i) - 1 by omega]; exact ⟨rfl, rfl⟩), (fun h9 => by rw [← (eW (by omega)).1, ← (eW (by omega)).2, fz_wu_n (by show ¬ z * V 1 0 ≤ fz_its V nt nc nl wk i 4 y.toNatClampNeg; rw [← eT]; exact Int32.not_le.mpr c_4) (by omega), fz_wn_n (by show ¬ z * V 1 0 ≤ fz_its V nt nc nl wk i 4 y.toNatClampNeg; rw [← eT]; exact Int32.not_le.mpr c_4) (by omega)]; exact ⟨rfl, rfl⟩)⟩) (by show 40 - (i + 1) < 40 - i; omega) _ _ ls hP hD hS (lv_sub hl [1, 2, 3, 4, 5, 0] rfl)
    · skip
      refine lv_iload hx hb dX8_weeksUntil_68 (lv_at hl 5 rfl) ?_
      have eF : cx_wu V nt nc nl wk y z = (nI i, T) := by rw [cx_wu, ← (eW (by omega)).1, ← (eW (by omega)).2, fz_wu_y (by show z * V 1 0 ≤ fz_its V nt nc nl wk i 4 y.toNatClampNeg; rw [← eT]; exact Int32.not_lt.mp c_4), fz_wn_y (by show z * V 1 0 ≤ fz_its V nt nc nl wk i 4 y.toNatClampNeg; rw [← eT]; exact Int32.not_lt.mp c_4), ← eT]
      refine fz_wd (k := 2) (n := 12) (Nat.le_of_ble_eq_true rfl) (Nat.le_of_ble_eq_true rfl) ?_
      refine vx_ret ?_
      subst hAe
      exact W.iret (v := (nI i)) hx hb hr (fun t9 ht9 hW9 => ⟨⟨_, (), rfl, ⟨(by rw [eF] <;> rfl), (by rw [c_1, c_2]; rfl)⟩, fz_to ht9 (by rw [eF]; exact hP)⟩, hS.F ht9⟩) hS.2.2 dX8_weeksUntil_70
