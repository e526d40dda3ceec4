/-! the law from its entry -/
theorem pw_first {cy : Nat → ClassId} {f a t h x ad : Nat → Nat} {sl : Nat → Nat → Nat} {g : Nat → Option Nat} {V T X : Nat → Nat → Int32} {vb : Option Nat} {S : Nat → Nat → Nat → Int32} :
    ((((FW f a t h x ++ CW cy a V) ++ CW cy t T) ++ (HW cy h g (nI 0) ++ (CW cy (sl 0) (S 0) ++ (CW cy (sl 1) (S 1) ++ (CW cy (sl 2) (S 2) ++ (CW cy (sl 3) (S 3) ++ CW cy (sl 4) (S 4))))))) ++ XW cy ad x X vb).Perm (pwW cy f a t h x ad sl g 0 V T X vb S) := by
  have e := fz_cat_P (pwB cy f a t h x ad sl g 0 V T X vb S) (L := [0, 2, 3, 1, 5, 6, 7, 8, 9, 4]) (L' := [0, 1, 2, 3, 4, 5, 6, 7, 8, 9]) (by decide)
  refine List.Perm.trans (List.Perm.of_eq ?_) e
  show _ = FW f a t h x ++ (CW cy a V ++ (CW cy t T ++ (HW cy h g (nI 0) ++ (CW cy (sl 0) (S 0) ++ (CW cy (sl 1) (S 1) ++ (CW cy (sl 2) (S 2) ++ (CW cy (sl 3) (S 3) ++ (CW cy (sl 4) (S 4) ++ (XW cy ad x X vb ++ [])))))))))
  generalize FW f a t h x = w1
  generalize CW cy a V = w2
  generalize CW cy t T = w3
  generalize HW cy h g (nI 0) = w4
  generalize CW cy (sl 0) (S 0) = w5
  generalize CW cy (sl 1) (S 1) = w6
  generalize CW cy (sl 2) (S 2) = w7
  generalize CW cy (sl 3) (S 3) = w8
  generalize CW cy (sl 4) (S 4) = w9
  generalize XW cy ad x X vb = w10
  simp only [List.append_assoc, List.append_nil]
set_option maxHeartbeats 4000000 in
set_option maxRecDepth 100000 in
theorem whole_start {p : Program} {e : Env} {s : State} {m : MethodId} {below : List Frame} {meth : Method} {c : Code} (l : Launch) (hflags : l.flags = flags0) {b L : Nat} {xs : Nat → Int32} (hL : L ≤ 260) (C0 : lw_At p s m meth c b L xs) : W p l e room_1 s m #[Value.ref b] below meth c s.heap [] 0 0 (lw_Z below #[Value.ref b] s) (entryFrame m ([Value.ref b] : List Value).toArray 4) := by
  obtain ⟨hx, hb, hr, hml, hown, hts0, hX, hbl, hlocks, hgv⟩ := id C0
  have hst : l.stackTraces = false := by
    unfold Launch.stackTraces
    rw [hflags]
    decide
  have hs : ∀ w ∈ lw_fl, w.before #[Value.ref b] s = true := flat_of_before _ hgv
  obtain ⟨D, cy, hK⟩ := env_K hts0
  obtain ⟨ad, adK, adV, hVb⟩ := env_Vb hs hts0
  have hEw : fz_Ew (fun q : Nat => s.heap.size ≤ q) s := env_Ew hs hts0
  have hEn : fz_En (fun q : Nat => s.heap.size ≤ q) s := env_En hs hts0
  have hNw := env_Nw hts0
  have hEr : fz_Er ad adK adV (fun q : Nat => s.heap.size ≤ q) s := ⟨hEw.1, hVb⟩
  have hb' : c.code = cL_law := hb
  have hown' : s.vm.findClass RL = some m.cls := hown
  have hts : ∀ w ∈ wsL_law, w.before #[Value.ref b] s = true := fun w z9 => hts0 w (wsL_law_in w z9)
  have hA : ∀ q : Nat, s.heap.size ≤ q → (fun q : Nat => s.heap.size ≤ q) q := fun _ h => h
  have hS : va_S (fun q : Nat => s.heap.size ≤ q) s.heap s.heap [] := va_S.rf
  have hP : va_P D vwCl [] s.heap := fun k q h => by simp at h
  have hD : va_D (fun q : Nat => s.heap.size ≤ q) [] := ⟨fun i j p q h => by simp at h, fun k q h => by simp at h⟩
  have hl := lv_entry ([.ref b]) (n := 4) (Nat.le_of_ble_eq_true rfl)
  rw [lg_entry_eq]
  generalize (lg_sl ([.ref b]) ++ List.replicate (4 - (lg_sl ([.ref b])).length) Slot.unset).toArray = ls at hl ⊢
  have hl : lv_has ls 4 [(0, .ref b)] := hl
  refine va_new (ci := 6) (fs := [.null, .null, .null, .null]) (C := RX8) (T := TX8) (N := 4) hx hb' hts0 (by decide +kernel) tyX8 tyX8_ok hown' (hts0 (.classLink RL 10 RX8) (by decide +kernel)) (hts0 (.instantiable RX8 4) (by decide +kernel)) (hts0 (.initialized RX8) (by decide +kernel)) hK hP hD hS hA rfl (fun j hj => by rcases (show j = 0 ∨ j = 1 ∨ j = 2 ∨ j = 3 from by omega) with rfl | rfl | rfl | rfl <;> rfl) (Nat.le_of_ble_eq_true rfl) (Nat.le_of_ble_eq_true rfl) dL_law_0 (fun px H hP hD hS => ?_)
  refine lv_dup hx hb' dL_law_3 rfl ?_
  refine fz_retN (pre := []) (va_runI (As := []) (rest := [.ref px]) ⟨hx, hb', hml, hown', hts⟩ (c_X8_init l D cy px H.size) (cwI 0 hts gL_law_X8_init rfl rfl rfl (hts0 (.initialized RX8) (by decide +kernel)) (hts0 (.methodLink RL 171 yX8_init) (by decide +kernel)) (hts0 (.instanceMethod yX8_init) (by decide +kernel)) rfl (by decide +kernel) ⟨Nat.le_of_ble_eq_true rfl, Nat.le_of_ble_eq_true rfl⟩) (fz_preN hK hP hD fz_En_bl (fun U hU hW => hEn.up hU hS hW (fz_lastA hD hS hA))) rfl rfl hl.1 rfl (lv_room (Nat.le_of_ble_eq_true rfl)) dL_law_4 ⟨Nat.le_of_ble_eq_true rfl, Nat.le_of_ble_eq_true rfl⟩) hP hD hS hA (fun o8 H locs ha hP8 hD8 hS8 => ?_)
  obtain ⟨f, a, t, ⟨h, sl⟩, x⟩ := o8
  obtain rfl : f 0 = px := ha
  have hP : va_P D vwCl ((((FW f a t h x ++ CW cy a v1) ++ CW cy t v1) ++ (HW cy h (fun k => some (sl k 0)) 0 ++ (CW cy (sl 0) v1 ++ (CW cy (sl 1) v1 ++ (CW cy (sl 2) v1 ++ (CW cy (sl 3) v1 ++ CW cy (sl 4) v1)))))) ++ XW cy (fun _ => 0) x zV none) H := hP8
  have hD : va_D (fun q : Nat => s.heap.size ≤ q) ((((FW f a t h x ++ CW cy a v1) ++ CW cy t v1) ++ (HW cy h (fun k => some (sl k 0)) 0 ++ (CW cy (sl 0) v1 ++ (CW cy (sl 1) v1 ++ (CW cy (sl 2) v1 ++ (CW cy (sl 3) v1 ++ CW cy (sl 4) v1)))))) ++ XW cy (fun _ => 0) x zV none) := hD8
  have hS := hS8
  have hZ : (HW cy h (fun k => some (sl k 0)) 0 : va_W) = HW cy h (fun k => some (sl k 0)) (nI 0) := by rw [nI_0]
  have hXW : (XW cy (fun _ => 0) x zV none : va_W) = XW cy ad x zV none := rfl
  rw [hZ, hXW] at hP hD
  refine lv_astore_n (lv' := [(1, .ref (f 0)), (0, .ref b)]) hx hb' dL_law_7 rfl hl (by decide) rfl (fun ls hl => ?_)
  refine W.widen (k := 1000) (n := 10000) (Nat.le_of_ble_eq_true rfl) (Nat.le_of_ble_eq_true rfl) ?_
  have e := pw_first (cy := cy) (f := f) (a := a) (t := t) (h := h) (x := x) (ad := ad) (sl := sl) (g := fun k => some (sl k 0)) (V := v1) (T := v1) (X := zV) (vb := none) (S := fun _ => v1)
  have hG : pG D (fun q : Nat => s.heap.size ≤ q) (pS cy f a t h x ad 0 v1 []) H := ⟨_, ⟨zV, sl, fun k => some (sl k 0), v1, none, fun _ => v1, ⟨rfl, by decide, fun i hi => absurd hi (Nat.not_lt_zero i)⟩, fun k _ => rfl, by decide, trivial, rfl⟩, fz_permP (fun q hq => e.mem_iff.mpr hq) hP, fz_permD e hD⟩
  exact law_from8 (adK := adK) (adV := adV) C0 hst hL (fun _ h => h) hK ⟨hEw, hEr, hNw⟩ hG hS hl
