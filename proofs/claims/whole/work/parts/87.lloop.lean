/-! the law's loop -/
theorem and31 (y : Int32) : ∃ k, k < 32 ∧ y &&& 31 = nI k := by
  have hlt : y.toBitVec.toNat &&& 31 < 32 := Nat.lt_of_le_of_lt Nat.and_le_right (by decide)
  refine ⟨y.toBitVec.toNat &&& 31, hlt, ?_⟩
  apply Int32.toBitVec_inj.mp
  apply BitVec.eq_of_toNat_eq
  show (y.toBitVec &&& (31 : Int32).toBitVec).toNat = (BitVec.ofNat 32 (y.toBitVec.toNat &&& 31)).toNat
  rw [BitVec.toNat_and, BitVec.toNat_ofNat, Nat.mod_eq_of_lt (by omega)]
  rfl
theorem sub5 {q L : Nat} (hL : L ≤ 2560) (h5 : 5 * q ≤ L) (h : ¬ nI (5 * q) > Int32.ofNat L - 5) : 5 * q + 4 < L := by
  by_cases c : 5 ≤ L
  · have e : Int32.ofNat L - 5 = nI (L - 5) := by
      have e1 : nI L = nI (L - 5) + nI 5 := by rw [nI_add]; congr 1; omega
      show nI L - nI 5 = nI (L - 5)
      rw [e1]
      exact Int32.add_sub_cancel _ _
    rw [e] at h
    have h2 : ¬ (L - 5 < 5 * q) := fun z => h ((nI_ltI (by omega) (by omega)).mpr z)
    omega
  · exfalso
    have h0 : Int32.ofNat L - 5 < 0 := by
      have : L = 0 ∨ L = 1 ∨ L = 2 ∨ L = 3 ∨ L = 4 := by omega
      rcases this with rfl | rfl | rfl | rfl | rfl <;> decide
    exact h (Int32.lt_of_lt_of_le h0 (nI_pos' (by omega)))
set_option maxHeartbeats 4000000 in
set_option maxRecDepth 100000 in
/-- at its head, with q calls done, the class and the model agree -/
theorem law_loop {p : Program} {l : Launch} {e : Env} {s : State} {m : MethodId} {below : List Frame} {meth : Method} {c : Code} {D : va_G} {cy : Nat → ClassId} {sc L o : Nat} {xs : Nat → Int32} {f a t h x b ad adK adV : Nat → Nat} (C0 : lw_At p s m meth c sc L xs) (hst : l.stackTraces = false) (hK : va_K D vwCl (fz_TY cy) s) (hE : fz_Ew (fun q : Nat => s.heap.size ≤ q) s) (hEr : fz_Er ad adK adV (fun q : Nat => s.heap.size ≤ q) s) (hNw : fz_Nw s) (hL : L ≤ 2560) :
    ∀ (n q : Nat), q + n = 513 → 5 * q ≤ L → ∀ (r : Nat → Int64) (sl : Nat → Nat → Nat) (g : Nat → Option Nat) (cn : Nat) (V T X : Nat → Nat → Int32) (vb : Option Nat) (S : Nat → Nat → Nat → Int32) (M : Nat → Nat → Int32) (hh : Int64) (H : Heap) (locs : List Loc) (ls : Array Slot), lR (1000000 * q) V X M S g sl cn → va_P D vwCl (lwW cy o f a t h x b ad r sl g cn V T X vb S M hh) H → va_D (fun q : Nat => s.heap.size ≤ q) (lwW cy o f a t h x b ad r sl g cn V T X vb S M hh) → va_S (fun q : Nat => s.heap.size ≤ q) s.heap H locs → lv_has ls 7 [(0, .ref sc), (1, .ref (f 0)), (2, .ref (b 0)), (3, .ref o), (4, .int (nI (5 * q)))] →
      W p l e room_1 s m #[Value.ref sc] below meth c H locs (200 + 2 * q) (8000 + 12 * q) (lw_Z below #[Value.ref sc] s) (F0 m 23 ls []) := by
  obtain ⟨hx, hb, hr, hml, hown, hts0, hX, hbl, hlocks, -⟩ := id C0
  have hb' : c.code = cL_law := hb
  have hbA : ¬ s.heap.size ≤ sc := Nat.not_le.mpr hbl
  intro n
  induction n with
  | zero =>
    intro q h1 h2
    exact absurd h2 (by omega)
  | succ n ih =>
    intro q hqn h5 r sl g cn V T X vb S M hh H locs ls R hP hD hS hl
    refine lv_iload hx hb' dL_law_23 (lv_at hl 4 rfl) ?_
    refine lv_aload_n hx hb' dL_law_25 rfl (lv_at hl 0 rfl) ?_
    refine va_slen hx hb' hX hbl hbA hS dL_law_26 ?_
    refine lv_iconst (v := 5) hx hb' dL_law_27 (by decide) ?_
    refine lv_isub hx hb' dL_law_28 ?_
    refine lv_icmp_gt (tgt := 1683) hx hb' dL_law_29 (by decide) (fun c9 => ?_) (fun c9 => ?_)
    · refine lv_iconst (v := 1) hx hb' dL_law_1683 (by decide) ?_
      refine va_forget (fun q hq => hS.2.2 q hq) ?_
      refine W.widen (k := 601024) (n := 7293034) (by omega) (by omega) ?_
      exact lw_ret hx hb hr hlocks dL_law_1684
    have hi : 5 * q + 4 < L := sub5 hL h5 c9
    have hB : 1000000 * q < 1990000000 := by omega
    have hcells : 200 + 2 * q + 2 ≤ 601024 := by omega
    have hslots : 8000 + 12 * q + 12 ≤ 7293034 := by omega
    have kk : lw_K p l e s m below meth c D cy o f a t h x b ad sc (5 * q) (1000000 * q + 1000000) (200 + 2 * q + 2) (8000 + 12 * q + 12) (lw_Z below #[Value.ref sc] s) := by
      intro r sl g cn V T X vb S M hh H locs ls R hP hD hS hl
      refine lv_iinc (v := nI (5 * (q + 1))) (k := 4) (lv' := [(4, .int (nI (5 * (q + 1)))), (0, .ref sc), (1, .ref (f 0)), (2, .ref (b 0)), (3, .ref o)]) hx hb' dL_law_1677 hl rfl (nI_add (5 * q) 5) (by decide) rfl (fun ls hl => ?_)
      refine lv_goto (tgt := 23) hx hb' dL_law_1680 (by decide) ?_
      have e1 : 200 + 2 * q + 2 = 200 + 2 * (q + 1) := by omega
      have e2 : 8000 + 12 * q + 12 = 8000 + 12 * (q + 1) := by omega
      rw [e1, e2]
      exact ih (q + 1) (by omega) (by omega) r sl g cn V T X vb S M hh H locs ls (R.mono (by omega)) hP hD hS (lv_sub hl [1, 2, 3, 4, 0] rfl)
    refine lv_aload_n hx hb' dL_law_32 rfl (lv_at hl 0 rfl) ?_
    refine lv_iload hx hb' dL_law_33 (lv_at hl 4 rfl) ?_
    refine va_sld hx hb' hX hbl hbA hS (vp_in_nI (by omega) (by omega)) dL_law_35 ?_
    refine lv_bipush (v := 31) hx hb' dL_law_36 (by decide) ?_
    refine lv_iand hx hb' dL_law_38 ?_
    obtain ⟨k, hk, ek⟩ := and31 (xs (nI (5 * q)).toNatClampNeg)
    rw [ek]
    have hb := hb'
    match k, hk with
    | 0, _ => exact lv_tableIn (off := 121) (tgt := 160) hx hb dL_law_39 (by decide) (by decide) (by decide) (by decide) (lk_addTeam (adK := adK) (adV := adV) C0 hst hK hE hEr hNw hi hL R hB hP hD hS hl hcells hslots kk)
    | 1, _ => exact lv_tableIn (off := 177) (tgt := 216) hx hb dL_law_39 (by decide) (by decide) (by decide) (by decide) (lk_freeze (adK := adK) (adV := adV) C0 hst hK hE hEr hNw hi hL R hB hP hD hS hl hcells hslots kk)
    | 2, _ => exact lv_tableIn (off := 273) (tgt := 312) hx hb dL_law_39 (by decide) (by decide) (by decide) (by decide) (lk_set (adK := adK) (adV := adV) C0 hst hK hE hEr hNw hi hL R hB hP hD hS hl hcells hslots kk)
    | 3, _ => exact lv_tableIn (off := 341) (tgt := 380) hx hb dL_law_39 (by decide) (by decide) (by decide) (by decide) (lk_endWeek (adK := adK) (adV := adV) C0 hst hK hE hEr hNw hi hL R hB hP hD hS hl hcells hslots kk)
    | 4, _ => exact lv_tableIn (off := 385) (tgt := 424) hx hb dL_law_39 (by decide) (by decide) (by decide) (by decide) (lk_ask (adK := adK) (adV := adV) C0 hst hK hE hEr hNw hi hL R hB hP hD hS hl hcells hslots kk)
    | 5, _ => exact lv_tableIn (off := 453) (tgt := 492) hx hb dL_law_39 (by decide) (by decide) (by decide) (by decide) (lk_exempt (adK := adK) (adV := adV) C0 hst hK hE hEr hNw hi hL R hB hP hD hS hl hcells hslots kk)
    | 6, _ => exact lv_tableIn (off := 509) (tgt := 548) hx hb dL_law_39 (by decide) (by decide) (by decide) (by decide) (lk_make (adK := adK) (adV := adV) C0 hst hK hE hEr hNw hi hL R hB hP hD hS hl hcells hslots kk)
    | 7, _ => exact lv_tableIn (off := 593) (tgt := 632) hx hb dL_law_39 (by decide) (by decide) (by decide) (by decide) (lk_giveUp (adK := adK) (adV := adV) C0 hst hK hE hEr hNw hi hL R hB hP hD hS hl hcells hslots kk)
    | 8, _ => exact lv_tableIn (off := 649) (tgt := 688) hx hb dL_law_39 (by decide) (by decide) (by decide) (by decide) (lk_lend (adK := adK) (adV := adV) C0 hst hK hE hEr hNw hi hL R hB hP hD hS hl hcells hslots kk)
    | 9, _ => exact lv_tableIn (off := 741) (tgt := 780) hx hb dL_law_39 (by decide) (by decide) (by decide) (by decide) (lk_repay (adK := adK) (adV := adV) C0 hst hK hE hEr hNw hi hL R hB hP hD hS hl hcells hslots kk)
    | 10, _ => exact lv_tableIn (off := 809) (tgt := 848) hx hb dL_law_39 (by decide) (by decide) (by decide) (by decide) (lk_team (adK := adK) (adV := adV) C0 hst hK hE hEr hNw hi hL R hB hP hD hS hl hcells hslots kk)
    | 11, _ => exact lv_tableIn (off := 877) (tgt := 916) hx hb dL_law_39 (by decide) (by decide) (by decide) (by decide) (lk_change (adK := adK) (adV := adV) C0 hst hK hE hEr hNw hi hL R hB hP hD hS hl hcells hslots kk)
    | 12, _ => exact lv_tableIn (off := 945) (tgt := 984) hx hb dL_law_39 (by decide) (by decide) (by decide) (by decide) (lk_loan (adK := adK) (adV := adV) C0 hst hK hE hEr hNw hi hL R hB hP hD hS hl hcells hslots kk)
    | 13, _ => exact lv_tableIn (off := 1013) (tgt := 1052) hx hb dL_law_39 (by decide) (by decide) (by decide) (by decide) (lk_waiting (adK := adK) (adV := adV) C0 hst hK hE hEr hNw hi hL R hB hP hD hS hl hcells hslots kk)
    | 14, _ => exact lv_tableIn (off := 1069) (tgt := 1108) hx hb dL_law_39 (by decide) (by decide) (by decide) (by decide) (lk_frozen (adK := adK) (adV := adV) C0 hst hK hE hEr hNw hi hL R hB hP hD hS hl hcells hslots kk)
    | 15, _ => exact lv_tableIn (off := 1125) (tgt := 1164) hx hb dL_law_39 (by decide) (by decide) (by decide) (by decide) (lk_whole (adK := adK) (adV := adV) C0 hst hK hE hEr hNw hi hL R hB hP hD hS hl hcells hslots kk)
    | 16, _ => exact lv_tableIn (off := 1181) (tgt := 1220) hx hb dL_law_39 (by decide) (by decide) (by decide) (by decide) (lk_reason (adK := adK) (adV := adV) C0 hst hK hE hEr hNw hi hL R hB hP hD hS hl hcells hslots kk)
    | 17, _ => exact lv_tableIn (off := 1237) (tgt := 1276) hx hb dL_law_39 (by decide) (by decide) (by decide) (by decide) (lk_exemptible (adK := adK) (adV := adV) C0 hst hK hE hEr hNw hi hL R hB hP hD hS hl hcells hslots kk)
    | 18, _ => exact lv_tableIn (off := 1293) (tgt := 1332) hx hb dL_law_39 (by decide) (by decide) (by decide) (by decide) (lk_weeksUntil (adK := adK) (adV := adV) C0 hst hK hE hEr hNw hi hL R hB hP hD hS hl hcells hslots kk)
    | 19, _ => exact lv_tableIn (off := 1361) (tgt := 1400) hx hb dL_law_39 (by decide) (by decide) (by decide) (by decide) (lk_lender (adK := adK) (adV := adV) C0 hst hK hE hEr hNw hi hL R hB hP hD hS hl hcells hslots kk)
    | 20, _ => exact lv_tableIn (off := 1429) (tgt := 1468) hx hb dL_law_39 (by decide) (by decide) (by decide) (by decide) (lk_nextThaw (adK := adK) (adV := adV) C0 hst hK hE hEr hNw hi hL R hB hP hD hS hl hcells hslots kk)
    | 21, _ => exact lv_tableIn (off := 1442) (tgt := 1481) hx hb dL_law_39 (by decide) (by decide) (by decide) (by decide) (lk_inBeing (adK := adK) (adV := adV) C0 hst hK hE hEr hNw hi hL R hB hP hD hS hl hcells hslots kk)
    | 22, _ => exact lv_tableIn (off := 1498) (tgt := 1537) hx hb dL_law_39 (by decide) (by decide) (by decide) (by decide) (lk_type (adK := adK) (adV := adV) C0 hst hK hE hEr hNw hi hL R hB hP hD hS hl hcells hslots kk)
    | 23, _ => exact lv_tableIn (off := 1554) (tgt := 1593) hx hb dL_law_39 (by decide) (by decide) (by decide) (by decide) (lk_clearCommands (adK := adK) (adV := adV) C0 hst hK hE hEr hNw hi hL R hB hP hD hS hl hcells hslots kk)
    | 24, _ => exact lv_tableIn (off := 1567) (tgt := 1606) hx hb dL_law_39 (by decide) (by decide) (by decide) (by decide) (lk_runCommands (adK := adK) (adV := adV) C0 hst hK hE hEr hNw hi hL R hB hP hD hS hl hcells hslots kk)
    | 25, _ => exact lv_tableIn (off := 1580) (tgt := 1619) hx hb dL_law_39 (by decide) (by decide) (by decide) (by decide) (lk_undo (adK := adK) (adV := adV) C0 hst hK hE hEr hNw hi hL R hB hP hD hS hl hcells hslots kk)
    | 26, _ => exact lv_tableIn (off := 1624) (tgt := 1663) hx hb dL_law_39 (by decide) (by decide) (by decide) (by decide) (lk_digest (adK := adK) (adV := adV) C0 hst hK hE hEr hNw hi hL R hB hP hD hS hl hcells hslots kk)
    | k + 27, hk27 => exact lv_tableOut (tgt := 1677) hx hb dL_law_39 (Or.inr (by rw [nI_toInt (by omega)]; omega)) (by decide) (W.widen (by omega) (by omega) (kk _ _ _ _ _ _ _ _ _ _ _ _ _ _ (R.mono (by omega)) hP hD hS hl))
