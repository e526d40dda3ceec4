/-! the law from its entry -/
theorem cR_new : cRx v1 (mV 1) 0 := by
  have h0 : ∀ i, 9 ≤ i → mV 1 i = 0 := fun i hi => by
    show upd (upd (upd (upd (fun _ => 0) 4 3) 5 4) 6 2) 7 100 i = 0
    rw [pk_un (by omega), pk_un (by omega), pk_un (by omega), pk_un (by omega)]
  refine ⟨0, 0, 0, 0, 0, cR_mk ⟨rfl, by omega, rfl, by omega, rfl, by omega, rfl, by omega, rfl, by omega, fun i hi => absurd hi (Nat.not_lt_zero i), fun i hi => absurd hi (Nat.not_lt_zero i), fun i hi => absurd hi (Nat.not_lt_zero i), fun i hi => absurd hi (Nat.not_lt_zero i)⟩ (fun i _ => Or.inl rfl)
    (ag_mk rfl rfl rfl rfl (fun i hi => by rcases (show i = 0 ∨ i = 1 ∨ i = 2 ∨ i = 3 by omega) with rfl | rfl | rfl | rfl <;> rfl) (fun i hi => (h0 (9 + i) (by omega)).symm) (fun i hi => absurd hi (Nat.not_lt_zero i)) (fun i hi => absurd hi (Nat.not_lt_zero i)) (fun i hi => absurd hi (Nat.not_lt_zero i)) (fun _ _ i hi => absurd hi (Nat.not_lt_zero i)) (fun _ _ i hi => absurd hi (Nat.not_lt_zero i)))
    rfl (fun i hi => by rcases (show i = 0 ∨ i = 1 ∨ i = 2 ∨ i = 3 by omega) with rfl | rfl | rfl | rfl <;> decide) (fun i hi => absurd hi (Nat.not_lt_zero i)) (fun i hi => absurd hi (Nat.not_lt_zero i)) ⟨by rw [cwl_0]; rfl, fun i hi => absurd hi (Nat.not_lt_zero i)⟩, fun i hi => absurd hi (Nat.not_lt_zero i), fun i hi => absurd hi (Nat.not_lt_zero i), fun i hi => absurd hi (Nat.not_lt_zero i)⟩
theorem lR_new {sl : Nat → Nat → Nat} : lR 0 v1 zV mV (fun _ => v1) (fun k => some (sl k 0)) sl 0 :=
  ⟨cR_new, ⟨by omega, fun k hk => absurd hk (Nat.not_lt_zero k)⟩, rfl, ⟨0, by omega, rfl, rfl⟩, rfl, fun k _ => rfl⟩
theorem lwW_first {cy : Nat → ClassId} {o : Nat} {f a t h x b ad : Nat → Nat} {r : Nat → Int64} {sl : Nat → Nat → Nat} {g : Nat → Option Nat} {V T X : Nat → Nat → Int32} {vb : Option Nat} {S : Nat → Nat → Nat → Int32} {M : Nat → Nat → Int32} {hh : Int64} :
    (((((((FW f a t h x ++ CW cy a V) ++ CW cy t T) ++ (HW cy h g (nI 0) ++ (CW cy (sl 0) (S 0) ++ (CW cy (sl 1) (S 1) ++ (CW cy (sl 2) (S 2) ++ (CW cy (sl 3) (S 3) ++ CW cy (sl 4) (S 4))))))) ++ XW cy ad x X vb) ++ MW cy b M hh) ++ OW cy o r)).Perm (lwW cy o f a t h x b ad r sl g 0 V T X vb S M hh) := by
  have e := fz_cat_P (lwB cy o f a t h x b ad r sl g 0 V T X vb S M hh) (L := [1, 3, 4, 2, 7, 8, 9, 10, 11, 5, 6, 0]) (L' := [0, 1, 2, 3, 4, 5, 6, 7, 8, 9, 10, 11]) (by decide)
  refine List.Perm.trans (List.Perm.of_eq ?_) e
  show _ = FW f a t h x ++ (CW cy a V ++ (CW cy t T ++ (HW cy h g (nI 0) ++ (CW cy (sl 0) (S 0) ++ (CW cy (sl 1) (S 1) ++ (CW cy (sl 2) (S 2) ++ (CW cy (sl 3) (S 3) ++ (CW cy (sl 4) (S 4) ++ (XW cy ad x X vb ++ (MW cy b M hh ++ (OW cy o r ++ [])))))))))))
  generalize FW f a t h x = w1
  generalize CW cy a V = w2
  generalize CW cy t T = w3
  generalize HW cy h g (nI 0) = w4
  generalize CW cy (sl 0) (S 0) = w5
  generalize CW cy (sl 1) (S 1) = w6
  generalize CW cy (sl 2) (S 2) = w7
  generalize CW cy (sl 3) (S 3) = w8
  generalize CW cy (sl 4) (S 4) = w9
  generalize XW cy ad x X vb = w10
  generalize MW cy b M hh = w11
  generalize OW cy o r = w12
  simp only [List.append_assoc, List.append_nil]
set_option maxHeartbeats 4000000 in
set_option maxRecDepth 100000 in
theorem whole_start {p : Program} {e : Env} {s : State} {m : MethodId} {below : List Frame} {meth : Method} {c : Code} (l : Launch) (hflags : l.flags = flags0) {b L : Nat} {xs : Nat → Int32} (hL : L ≤ 2560) (C0 : lw_At p s m meth c b L xs) : W p l e room_1 s m #[Value.ref b] below meth c s.heap [] 0 0 (lw_Z below #[Value.ref b] s) (entryFrame m ([Value.ref b] : List Value).toArray 7) := by
  obtain ⟨hx, hb, hr, hml, hown, hts0, hX, hbl, hlocks, hgv⟩ := id C0
  have hst : l.stackTraces = false := by
    unfold Launch.stackTraces
    rw [hflags]
    decide
  have hs : ∀ w ∈ lw_fl, w.before #[Value.ref b] s = true := flat_of_before _ hgv
  obtain ⟨D, cy, hK⟩ := env_K hts0
  obtain ⟨ad, adK, adV, hVb⟩ := env_Vb hs hts0
  have hEw : fz_Ew (fun q : Nat => s.heap.size ≤ q) s := env_Ew hs hts0
  have hEn : fz_En (fun q : Nat => s.heap.size ≤ q) s := env_En hs hts0
  have hNw := env_Nw hts0
  have hEr : fz_Er ad adK adV (fun q : Nat => s.heap.size ≤ q) s := ⟨hEw.1, hVb⟩
  have hb' : c.code = cL_law := hb
  have hown' : s.vm.findClass RL = some m.cls := hown
  have hts : ∀ w ∈ wsL_law, w.before #[Value.ref b] s = true := fun w z9 => hts0 w (wsL_law_in w z9)
  have hA : ∀ q : Nat, s.heap.size ≤ q → (fun q : Nat => s.heap.size ≤ q) q := fun _ h => h
  have hS : va_S (fun q : Nat => s.heap.size ≤ q) s.heap s.heap [] := va_S.rf
  have hP : va_P D vwCl [] s.heap := fun k q h => by simp at h
  have hD : va_D (fun q : Nat => s.heap.size ≤ q) [] := ⟨fun i j p q h => by simp at h, fun k q h => by simp at h⟩
  have hl := lv_entry ([.ref b]) (n := 7) (Nat.le_of_ble_eq_true rfl)
  rw [lg_entry_eq]
  generalize (lg_sl ([.ref b]) ++ List.replicate (7 - (lg_sl ([.ref b])).length) Slot.unset).toArray = ls at hl ⊢
  have hl : lv_has ls 7 [(0, .ref b)] := hl
  refine va_new (ci := 6) (fs := [.null, .null, .null, .null]) (C := RX8) (T := TX8) (N := 4) hx hb' hts0 (by decide +kernel) tyX8 tyX8_ok hown' (hts0 (.classLink RL 8 RX8) (by decide +kernel)) (hts0 (.instantiable RX8 4) (by decide +kernel)) (hts0 (.initialized RX8) (by decide +kernel)) hK hP hD hS hA rfl (fun j hj => by rcases (show j = 0 ∨ j = 1 ∨ j = 2 ∨ j = 3 from by omega) with rfl | rfl | rfl | rfl <;> rfl) (Nat.le_of_ble_eq_true rfl) (Nat.le_of_ble_eq_true rfl) dL_law_0 (fun px H hP hD hS => ?_)
  refine lv_dup hx hb' dL_law_3 rfl ?_
  refine fz_retN (pre := []) (va_runI (As := []) (rest := [.ref px]) ⟨hx, hb', hml, hown', hts⟩ (c_X8_init l D cy px H.size) (cwI 0 hts gL_law_X8_init rfl rfl rfl (hts0 (.initialized RX8) (by decide +kernel)) (hts0 (.methodLink RL 90 yX8_init) (by decide +kernel)) (hts0 (.instanceMethod yX8_init) (by decide +kernel)) rfl (by decide +kernel) ⟨Nat.le_of_ble_eq_true rfl, Nat.le_of_ble_eq_true rfl⟩) (fz_preN hK hP hD fz_En_bl (fun U hU hW => hEn.up hU hS hW (fz_lastA hD hS hA))) rfl rfl hl.1 rfl (lv_room (Nat.le_of_ble_eq_true rfl)) dL_law_4 ⟨Nat.le_of_ble_eq_true rfl, Nat.le_of_ble_eq_true rfl⟩) hP hD hS hA (fun o8 H locs ha hP8 hD8 hS8 => ?_)
  obtain ⟨f, a, t, ⟨h, sl⟩, x⟩ := o8
  obtain rfl : f 0 = px := ha
  have hP : va_P D vwCl ((((FW f a t h x ++ CW cy a v1) ++ CW cy t v1) ++ (HW cy h (fun k => some (sl k 0)) 0 ++ (CW cy (sl 0) v1 ++ (CW cy (sl 1) v1 ++ (CW cy (sl 2) v1 ++ (CW cy (sl 3) v1 ++ CW cy (sl 4) v1)))))) ++ XW cy (fun _ => 0) x zV none) H := hP8
  have hD : va_D (fun q : Nat => s.heap.size ≤ q) ((((FW f a t h x ++ CW cy a v1) ++ CW cy t v1) ++ (HW cy h (fun k => some (sl k 0)) 0 ++ (CW cy (sl 0) v1 ++ (CW cy (sl 1) v1 ++ (CW cy (sl 2) v1 ++ (CW cy (sl 3) v1 ++ CW cy (sl 4) v1)))))) ++ XW cy (fun _ => 0) x zV none) := hD8
  have hS := hS8
  obtain ⟨W8, hW8⟩ : ∃ W8 : va_W, W8 = (((FW f a t h x ++ CW cy a v1) ++ CW cy t v1) ++ (HW cy h (fun k => some (sl k 0)) 0 ++ (CW cy (sl 0) v1 ++ (CW cy (sl 1) v1 ++ (CW cy (sl 2) v1 ++ (CW cy (sl 3) v1 ++ CW cy (sl 4) v1)))))) ++ XW cy (fun _ => 0) x zV none := ⟨_, rfl⟩
  rw [← hW8] at hP hD
  refine lv_astore_n (lv' := [(1, .ref (f 0)), (0, .ref b)]) hx hb' dL_law_7 rfl hl (by decide) rfl (fun ls hl => ?_)
  refine va_new (ci := 7) (fs := [.null, .null, .int 0, .null, .null, .int 0, .int 0, .int 0, .int 0, .int 0, .null, .int 0, .long 0]) (C := RX9) (T := TX9) (N := 13) hx hb' hts0 (by decide +kernel) tyX9 tyX9_ok hown' (hts0 (.classLink RL 91 RX9) (by decide +kernel)) (hts0 (.instantiable RX9 13) (by decide +kernel)) (hts0 (.initialized RX9) (by decide +kernel)) hK hP hD hS hA rfl (fun j hj => by rcases (show j = 0 ∨ j = 1 ∨ j = 2 ∨ j = 3 ∨ j = 4 ∨ j = 5 ∨ j = 6 ∨ j = 7 ∨ j = 8 ∨ j = 9 ∨ j = 10 ∨ j = 11 ∨ j = 12 from by omega) with rfl | rfl | rfl | rfl | rfl | rfl | rfl | rfl | rfl | rfl | rfl | rfl | rfl <;> rfl) (Nat.le_of_ble_eq_true rfl) (Nat.le_of_ble_eq_true rfl) dL_law_8 (fun pm H hP hD hS => ?_)
  refine lv_dup hx hb' dL_law_11 rfl ?_
  refine fz_retN (pre := W8) (va_runI (As := []) (rest := [.ref pm]) ⟨hx, hb', hml, hown', hts⟩ (c_X9_init l D cy pm H.size) (cwI 0 hts gL_law_X9_init rfl rfl rfl (hts0 (.initialized RX9) (by decide +kernel)) (hts0 (.methodLink RL 93 yX9_init) (by decide +kernel)) (hts0 (.instanceMethod yX9_init) (by decide +kernel)) rfl (by decide +kernel) ⟨Nat.le_of_ble_eq_true rfl, Nat.le_of_ble_eq_true rfl⟩) (fz_preN hK hP hD fz_T_bl (fun _ _ _ => trivial)) rfl rfl hl.1 rfl (lv_room (Nat.le_of_ble_eq_true rfl)) dL_law_12 ⟨Nat.le_of_ble_eq_true rfl, Nat.le_of_ble_eq_true rfl⟩) hP hD hS hA (fun bm H locs ha hP8 hD8 hS8 => ?_)
  obtain rfl := ha
  have hP := hP8
  have hD := hD8
  have hS := hS8
  refine lv_astore_n (lv' := [(2, .ref (bm 0)), (1, .ref (f 0)), (0, .ref b)]) hx hb' dL_law_15 rfl hl (by decide) rfl (fun ls hl => ?_)
  refine lv_iconst (v := 1) hx hb' dL_law_16 (by decide) ?_
  refine va_newa (atype := .long) (N' := 1) (a0 := (1, .inr (.inl (fun _ => 0)))) hx hb' (hts0 (.arrayClass .long) (by decide +kernel)) rfl hK hP hD hS hA (fun _ => rfl) (by decide) rfl (Nat.le_of_ble_eq_true rfl) (Nat.le_of_ble_eq_true rfl) (Nat.le_of_ble_eq_true rfl) dL_law_17 (fun o cA H hK2 hP hD hS => ?_)
  obtain rfl := fz_cyL hK2
  have hP : va_P D vwCl ((W8 ++ MW cy bm mV 0) ++ OW cy o (fun _ => 0)) H := hP
  have hD : va_D (fun q : Nat => s.heap.size ≤ q) ((W8 ++ MW cy bm mV 0) ++ OW cy o (fun _ => 0)) := hD
  refine lv_astore_n (lv' := [(3, .ref o), (2, .ref (bm 0)), (1, .ref (f 0)), (0, .ref b)]) hx hb' dL_law_19 rfl hl (by decide) rfl (fun ls hl => ?_)
  refine lv_iconst (v := 0) hx hb' dL_law_20 (by decide) ?_
  refine lv_istore (lv' := [(4, .int 0), (3, .ref o), (2, .ref (bm 0)), (1, .ref (f 0)), (0, .ref b)]) hx hb' dL_law_21 hl (by decide) rfl (fun ls hl => ?_)
  refine W.widen (k := 200 + 2 * 0) (n := 8000 + 12 * 0) (Nat.le_of_ble_eq_true rfl) (Nat.le_of_ble_eq_true rfl) ?_
  have hZ : (HW cy h (fun k => some (sl k 0)) 0 : va_W) = HW cy h (fun k => some (sl k 0)) (nI 0) := by rw [nI_0]
  rw [hZ] at hW8
  have hXW : (XW cy (fun _ => 0) x zV none : va_W) = XW cy ad x zV none := rfl
  rw [hXW] at hW8
  subst hW8
  have e := lwW_first (cy := cy) (o := o) (f := f) (a := a) (t := t) (h := h) (x := x) (b := bm) (ad := ad) (r := fun _ => 0) (sl := sl) (g := fun k => some (sl k 0)) (V := v1) (T := v1) (X := zV) (vb := none) (S := fun _ => v1) (M := mV) (hh := 0)
  exact law_loop (adK := adK) (adV := adV) C0 hst hK hEw hEr hNw hL 513 0 (by omega) (by omega) (fun _ => 0) sl (fun k => some (sl k 0)) 0 v1 v1 zV none (fun _ => v1) mV 0 H locs ls lR_new (fz_permP (fun q hq => e.mem_iff.mpr hq) hP) (fz_permD e hD) hS (lv_sub hl [4, 3, 2, 1, 0] rfl)
