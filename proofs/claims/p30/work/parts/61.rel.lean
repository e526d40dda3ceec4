/-! a class's rows and the model's row say the same -/
/-- two states of rows agree where they are read -/
abbrev ag (V U : Nat → Nat → Int32) (nt nc nl : Nat) : Prop := (V 0 0 = U 0 0) ∧ (V 3 0 = U 3 0) ∧ (V 8 0 = U 8 0) ∧ (V 17 0 = U 17 0) ∧ (∀ i, i < 4 → V 1 i = U 1 i) ∧ (∀ i, i < 40 → V 2 i = U 2 i) ∧ (∀ r, (r = 4 ∨ r = 6 ∨ r = 7) → ∀ i, i < nt → V r i = U r i) ∧ (∀ r, 9 ≤ r → r < 16 → ∀ i, i < nc → V r i = U r i) ∧ (∀ r, 18 ≤ r → r < 24 → ∀ i, i < nl → V r i = U r i)
theorem ag.a0 {V U : Nat → Nat → Int32} {nt nc nl : Nat} (h : ag V U nt nc nl) : V 0 0 = U 0 0 := h.1
theorem ag.a3 {V U : Nat → Nat → Int32} {nt nc nl : Nat} (h : ag V U nt nc nl) : V 3 0 = U 3 0 := h.2.1
theorem ag.a8 {V U : Nat → Nat → Int32} {nt nc nl : Nat} (h : ag V U nt nc nl) : V 8 0 = U 8 0 := h.2.2.1
theorem ag.a17 {V U : Nat → Nat → Int32} {nt nc nl : Nat} (h : ag V U nt nc nl) : V 17 0 = U 17 0 := h.2.2.2.1
theorem ag.a1 {V U : Nat → Nat → Int32} {nt nc nl : Nat} (h : ag V U nt nc nl) : ∀ i, i < 4 → V 1 i = U 1 i := h.2.2.2.2.1
theorem ag.a2 {V U : Nat → Nat → Int32} {nt nc nl : Nat} (h : ag V U nt nc nl) : ∀ i, i < 40 → V 2 i = U 2 i := h.2.2.2.2.2.1
theorem ag.at_ {V U : Nat → Nat → Int32} {nt nc nl : Nat} (h : ag V U nt nc nl) : ∀ r, (r = 4 ∨ r = 6 ∨ r = 7) → ∀ i, i < nt → V r i = U r i := h.2.2.2.2.2.2.1
theorem ag.ac {V U : Nat → Nat → Int32} {nt nc nl : Nat} (h : ag V U nt nc nl) : ∀ r, 9 ≤ r → r < 16 → ∀ i, i < nc → V r i = U r i := h.2.2.2.2.2.2.2.1
theorem ag.al {V U : Nat → Nat → Int32} {nt nc nl : Nat} (h : ag V U nt nc nl) : ∀ r, 18 ≤ r → r < 24 → ∀ i, i < nl → V r i = U r i := h.2.2.2.2.2.2.2.2
theorem ag.c {V U : Nat → Nat → Int32} {nt nc nl r i : Nat} (h : ag V U nt nc nl) (hi : i < nc) (h1 : 9 ≤ r := by decide) (h2 : r < 16 := by decide) : V r i = U r i := h.ac r h1 h2 i hi
theorem ag.l {V U : Nat → Nat → Int32} {nt nc nl r i : Nat} (h : ag V U nt nc nl) (hi : i < nl) (h1 : 18 ≤ r := by decide) (h2 : r < 24 := by decide) : V r i = U r i := h.al r h1 h2 i hi
theorem ag.t {V U : Nat → Nat → Int32} {nt nc nl r i : Nat} (h : ag V U nt nc nl) (hi : i < nt) (h1 : r = 4 ∨ r = 6 ∨ r = 7 := by decide) : V r i = U r i := h.at_ r h1 i hi
section AG
variable {V U : Nat → Nat → Int32} {nt nc nl wk : Nat}
theorem ag_owes (h : ag V U nt nc nl) (t : Int32) : fz_owes (V 19) (V 21) (V 22) (V 0 0) nl t = fz_owes (U 19) (U 21) (U 22) (U 0 0) nl t := by
  unfold fz_owes
  exact fz_any_cong (fun i hi => by rw [h.l (r := 19) hi, h.l (r := 21) hi, h.l (r := 22) hi, h.a0])
theorem ag_flt (h : ag V U nt nc nl) (t : Int32) : fz_flt (V 9) (V 11) (V 14) nc t (V 0 0) = fz_flt (U 9) (U 11) (U 14) nc t (U 0 0) := by
  unfold fz_flt
  exact fz_any_cong (fun i hi => by rw [h.c (r := 9) hi, h.c (r := 11) hi, h.c (r := 14) hi, h.a0])
theorem ag_frz {f g : Nat → Int32} (h : ∀ i, i < 40 → f i = g i) : ∀ n k, k + n = 40 → fz_frz f k = fz_frz g k
  | 0, k, hk => by rw [show k = 40 by omega, fz_frz_e, fz_frz_e]
  | n + 1, k, hk => by rw [fz_frz_s (f := f) (show k < 40 by omega), fz_frz_s (f := g) (show k < 40 by omega), ag_frz h n (k + 1) (by omega), h k (by omega)]
theorem ag_thaw {f g : Nat → Int32} (h : ∀ i, i < 40 → f i = g i) : ∀ n k, k + n = 40 → fz_thaw f k = fz_thaw g k
  | 0, k, hk => by rw [fz_thaw_e (f := f) (by omega), fz_thaw_e (f := g) (by omega)]
  | n + 1, k, hk => by
    by_cases q : f k = 0
    · rw [fz_thaw_y (f := f) (by omega) q, fz_thaw_y (f := g) (by omega) (by rw [← h k (by omega)]; exact q)]
    · rw [fz_thaw_n (f := f) (by omega) q, fz_thaw_n (f := g) (by omega) (by rw [← h k (by omega)]; exact q), ag_thaw h n (k + 1) (by omega)]
theorem ag_reason (h : ag V U nt nc nl) {z : Nat} (hz : z < nc) (hj : (V 9 z).toNatClampNeg < nt) : fz_reason V nl z = fz_reason U nl z := by
  unfold fz_reason
  rw [ag_owes h, h.t (r := 4) hj, h.c (r := 11) hz, h.c (r := 9) hz, h.c (r := 10) hz, h.a1 0 (by decide)]
theorem ag_tval (h : ag V U nt nc nl) {t : Nat} (ht : t < nt) : ∀ w, fz_tval V nc nl t w = fz_tval U nc nl t w
  | 0 => h.t (r := 4) ht
  | 1 => fz_sum_cong (fun i hi => by rw [h.c (r := 9) hi, h.c (r := 12) hi])
  | 2 => h.t (r := 6) ht
  | 3 => h.t (r := 7) ht
  | 4 => by
    show nI (_ + _) = nI (_ + _)
    rw [fz_ct_cong (f := fun i => decide (V 9 i = nI t) && decide (V 11 i = 0)) (g := fun i => decide (U 9 i = nI t) && decide (U 11 i = 0)) (fun i hi => by rw [h.c (r := 9) hi, h.c (r := 11) hi]), fz_ct_cong (f := fun i => decide (V 9 i = nI t) && decide (V 11 i = 1)) (g := fun i => decide (U 9 i = nI t) && decide (U 11 i = 1)) (fun i hi => by rw [h.c (r := 9) hi, h.c (r := 11) hi])]
  | 5 => congrArg nI (fz_ct_cong (fun i hi => by rw [h.c (r := 9) hi, h.c (r := 11) hi]))
  | 6 => congrArg nI (fz_ct_cong (fun i hi => by rw [h.c (r := 9) hi, h.c (r := 11) hi]))
  | 7 => fz_sum_cong (fun i hi => by rw [h.l (r := 18) hi, h.l (r := 21) hi])
  | 8 => fz_sum_cong (fun i hi => by rw [h.l (r := 19) hi, h.l (r := 21) hi])
  | 9 => by
    show fz_nz (fz_b _) = fz_nz (fz_b _)
    rw [ag_owes h]
  | _ + 10 => by
    show fz_nz (fz_b _) = fz_nz (fz_b _)
    rw [ag_flt h]
theorem ag_wval (h : ag V U nt nc nl) (hwk : wk ≤ 39) : ∀ w, w ≠ 12 → fz_wval V nt nc nl wk w = fz_wval U nt nc nl wk w
  | 0, _ => h.a3
  | 1, _ => h.a8
  | 2, _ => h.a17
  | 3, _ => congrArg nI (fz_ct_cong (fun i hi => by rw [h.l (r := 21) hi]))
  | 4, _ => h.a1 0 (by decide)
  | 5, _ => h.a1 1 (by decide)
  | 6, _ => h.a1 2 (by decide)
  | 7, _ => h.a1 3 (by decide)
  | 8, _ => h.a0
  | 9, _ => ag_frz h.a2 (40 - wk) wk (by omega)
  | 10, _ => fz_sum_cong (fun i hi => h.t (r := 4) hi)
  | 11, _ => fz_sum_cong (fun i hi => h.c (r := 12) hi)
  | 12, q => absurd rfl q
  | 13, _ => fz_sum_cong (fun i hi => h.t (r := 6) hi)
  | 14, _ => fz_sum_cong (fun i hi => h.t (r := 7) hi)
  | 15, _ => congrArg nI (fz_ct_cong (fun i hi => by rw [h.c (r := 11) hi]))
  | _ + 16, _ => fz_sum_cong (fun i hi => by rw [ag_owes h])
theorem ag_rich {f g : Nat → Int32} {t en : Int32} {n : Nat} (hn : n < 2 ^ 31) (h : ∀ i, i < n → f i = g i) : ∀ k, k ≤ n → fz_rich f t en k = fz_rich g t en k
  | 0, _ => rfl
  | k + 1, hk => by
    have ih := ag_rich (t := t) (en := en) hn h k (by omega)
    have hf := fz_rich_or g t en k
    unfold fz_rich
    rw [ih, h k (by omega)]
    rcases hf with e | ⟨j, hj, e⟩
    · have h1 : fz_rich g t en k < 0 := by rw [e]; decide
      rw [if_pos h1, if_pos h1]
    · rw [e, nI_clamp (by omega), h j (by omega)]
end AG
/-- the class's rows V and the model's row N: the same state -/
abbrev cR (V : Nat → Nat → Int32) (N : Nat → Int32) (nt nc nq nl wk : Nat) : Prop := (fz_wf V nt nc nq nl wk) ∧ (fm_wf N nt nc nl wk) ∧ (ag V (fm_V N) nt nc nl) ∧ (N 8 = fz_sum (V 5) nt) ∧ (∀ i, i < 4 → fz_from i ≤ V 1 i ∧ V 1 i ≤ fz_upto i) ∧ (∀ i, i < nc → ∃ j, j ≤ 4 ∧ V 11 i = nI j) ∧ (∀ i, i < nc → ∃ j, 1 ≤ j ∧ j ≤ 9 ∧ V 10 i = nI j) ∧ (cq (V 10) (fun c => fz_open (V 11 c)) nc (V 16) nq)
theorem cR.wf {V : Nat → Nat → Int32} {N : Nat → Int32} {nt nc nq nl wk : Nat} (h : cR V N nt nc nq nl wk) : fz_wf V nt nc nq nl wk := h.1
theorem cR.mf {V : Nat → Nat → Int32} {N : Nat → Int32} {nt nc nq nl wk : Nat} (h : cR V N nt nc nq nl wk) : fm_wf N nt nc nl wk := h.2.1
theorem cR.eq {V : Nat → Nat → Int32} {N : Nat → Int32} {nt nc nq nl wk : Nat} (h : cR V N nt nc nq nl wk) : ag V (fm_V N) nt nc nl := h.2.2.1
theorem cR.bro {V : Nat → Nat → Int32} {N : Nat → Int32} {nt nc nq nl wk : Nat} (h : cR V N nt nc nq nl wk) : N 8 = fz_sum (V 5) nt := h.2.2.2.1
theorem cR.sb {V : Nat → Nat → Int32} {N : Nat → Int32} {nt nc nq nl wk : Nat} (h : cR V N nt nc nq nl wk) : ∀ i, i < 4 → fz_from i ≤ V 1 i ∧ V 1 i ≤ fz_upto i := h.2.2.2.2.1
theorem cR.st {V : Nat → Nat → Int32} {N : Nat → Int32} {nt nc nq nl wk : Nat} (h : cR V N nt nc nq nl wk) : ∀ i, i < nc → ∃ j, j ≤ 4 ∧ V 11 i = nI j := h.2.2.2.2.2.1
theorem cR.rk {V : Nat → Nat → Int32} {N : Nat → Int32} {nt nc nq nl wk : Nat} (h : cR V N nt nc nq nl wk) : ∀ i, i < nc → ∃ j, 1 ≤ j ∧ j ≤ 9 ∧ V 10 i = nI j := h.2.2.2.2.2.2.1
theorem cR.que {V : Nat → Nat → Int32} {N : Nat → Int32} {nt nc nq nl wk : Nat} (h : cR V N nt nc nq nl wk) : cq (V 10) (fun c => fz_open (V 11 c)) nc (V 16) nq := h.2.2.2.2.2.2.2
theorem cR.wval {V : Nat → Nat → Int32} {M : Nat → Nat → Int32} {nt nc nq nl wk : Nat} {x : Int32} (h : cR V (M 1) nt nc nq nl wk) (hx : M 0 1 = x) {z : Nat} (hz : z < 18) : (if z = 17 then x else fz_wval V nt nc nl wk z) = fm_num M nt nc nl wk z := by
  by_cases e : z = 17
  · subst e
    rw [if_pos rfl, ← hx]
    rfl
  · rw [if_neg e]
    by_cases e2 : z = 12
    · subst e2
      exact h.bro.symm
    · rw [ag_wval h.eq h.wf.2.2.2.2.2.2.2.2.2.1 z e2]
      match z, hz, e, e2 with
      | 0, _, _, _ => rfl
      | 1, _, _, _ => rfl
      | 2, _, _, _ => rfl
      | 3, _, _, _ => rfl
      | 4, _, _, _ => rfl
      | 5, _, _, _ => rfl
      | 6, _, _, _ => rfl
      | 7, _, _, _ => rfl
      | 8, _, _, _ => rfl
      | 9, _, _, _ => rfl
      | 10, _, _, _ => rfl
      | 11, _, _, _ => rfl
      | 12, _, _, e2 => exact absurd rfl e2
      | 13, _, _, _ => rfl
      | 14, _, _, _ => rfl
      | 15, _, _, _ => rfl
      | 16, _, _, _ => rfl
      | 17, _, e, _ => exact absurd rfl e
      | n + 18, hz, _, _ => exact absurd hz (by omega)
/-- who waits, as the model lists them -/
theorem cR.wl {V : Nat → Nat → Int32} {N : Nat → Int32} {nt nc nq nl wk : Nat} (h : cR V N nt nc nq nl wk) : cwl (V 10) (fun c => fz_open (V 11 c)) nc = fm_wl N nc (-1) 1 1 9 := by
  unfold cwl fm_wl
  rw [List.flatMap_def, List.flatMap_def]
  refine congrArg List.flatten (List.map_congr_left (fun r _ => ?_))
  rw [← List.range_eq_range']
  refine List.filter_congr (fun c hc => ?_)
  have hc' := List.mem_range.mp hc
  obtain ⟨j, hj, e⟩ := h.st c hc'
  have h1 : V 10 c = fm_c N 1 c := h.eq.c (r := 10) hc'
  have h2 : V 11 c = fm_c N 2 c := h.eq.c (r := 11) hc'
  rw [fm_sel, ← h1, ← h2, e]
  have h3 : fz_open (nI j) = decide (nI j ≤ 1) := by
    rcases (show j = 0 ∨ j = 1 ∨ j = 2 ∨ j = 3 ∨ j = 4 by omega) with rfl | rfl | rfl | rfl | rfl <;> decide
  show (decide (V 10 c = nI r) && fz_open (V 11 c)) = _
  rw [e, h3]
  simp
theorem cR.wait {V : Nat → Nat → Int32} {N : Nat → Int32} {nt nc nq nl wk : Nat} (h : cR V N nt nc nq nl wk) (i : Nat) : (if i < nq then V 16 i else -1) = fm_pick (fm_wl N nc (-1) 1 1 9) i := by
  rw [← h.wl]
  by_cases q : i < nq
  · rw [if_pos q]
    exact h.que.2 i q
  · rw [if_neg q, fm_pick_out (by rw [← h.que.1]; omega)]
