/-! whom a team could exempt; weeks -/
theorem cx_neg : ∀ a, a < 10 → ∀ b, b < 21 → ¬ (0 : Int32) ≤ (-1) - nI a * nI b := by decide +kernel
section CXR
variable {V : Nat → Nat → Int32} {N : Nat → Int32} {nt nc nq nl wk : Nat}
theorem cR.price (h : cR V N nt nc nq nl wk) : ∃ b, 1 ≤ b ∧ b ≤ 20 ∧ V 1 0 = nI b := by
  obtain ⟨h1, h2⟩ := h.sb 0 (by decide)
  rcases pk_ix (V 1 0) (n := 21) (by decide) with q | q | ⟨j, hj, e⟩
  · exact absurd (Int32.lt_of_le_of_lt h1 q) (by decide)
  · exact absurd (Int32.le_trans q h2) (by decide)
  · refine ⟨j, ?_, by omega, e⟩
    rcases Nat.eq_zero_or_pos j with z | z
    · rw [e, z] at h1
      exact absurd h1 (by decide)
    · exact z
theorem cR.at9 (h : cR V N nt nc nq nl wk) {c : Nat} (hc : c < nc) : ∃ j, j < nt ∧ V 9 c = nI j := h.wf.2.2.2.2.2.2.2.2.2.2.1 c hc
theorem cR.wlt (h : cR V N nt nc nq nl wk) {t : Nat} (ht : t < nt) : fm_wl N nc (nI t) 0 1 9 = (cwl (V 10) (fun c => fz_open (V 11 c)) nc).filter (fun c => decide (V 9 c = nI t) && decide (V 11 c = 0)) := by
  unfold cwl fm_wl
  rw [List.filter_flatMap, List.flatMap_def, List.flatMap_def]
  refine congrArg List.flatten (List.map_congr_left (fun r _ => ?_))
  rw [← List.range_eq_range', List.filter_filter]
  refine List.filter_congr (fun c hc => ?_)
  have hc' := List.mem_range.mp hc
  obtain ⟨j, hj, e⟩ := h.st c hc'
  have h1 : V 10 c = fm_c N 1 c := h.eq.c (r := 10) hc'
  have h2 : V 11 c = fm_c N 2 c := h.eq.c (r := 11) hc'
  have h3 : V 9 c = fm_c N 0 c := h.eq.c (r := 9) hc'
  have ht6 := h.wf.2.1
  have h4 : decide ((nI t : Int32) = -1) = false := decide_eq_false (fun z => absurd (nI_pos (n := t) (by omega)) (by rw [z]; decide))
  rw [fm_sel, ← h1, ← h2, ← h3, h4, Bool.false_or, e]
  have h5 : decide (nI j ≤ 0) = (decide (nI j = 0) && fz_open (nI j)) := by
    rcases (show j = 0 ∨ j = 1 ∨ j = 2 ∨ j = 3 ∨ j = 4 by omega) with rfl | rfl | rfl | rfl | rfl <;> decide
  show _ = (decide (V 9 c = nI t) && decide (nI j = 0) && (decide (V 10 c = nI r) && fz_open (V 11 c)))
  rw [h5, e]
  cases decide (V 10 c = nI r) <;> cases decide (V 9 c = nI t) <;> cases decide (nI j = 0) <;> cases fz_open (nI j) <;> rfl
theorem cR.cx (h : cR V N nt nc nq nl wk) {t : Nat} : ∀ n k (fr : Int32) (u : Nat), k + n = nq → fz_cx V (nI t) n k fr (nI u) = fm_cx N (((cwl (V 10) (fun c => fz_open (V 11 c)) nc).drop k).filter (fun c => decide (V 9 c = nI t) && decide (V 11 c = 0))) fr u
  | 0, k, fr, u, hk => by
    rw [List.drop_eq_nil_of_le (by rw [← h.que.1]; omega)]
    rfl
  | n + 1, k, fr, u, hk => by
    obtain ⟨W, eW⟩ : ∃ W, W = cwl (V 10) (fun c => fz_open (V 11 c)) nc := ⟨_, rfl⟩
    have hl : k < W.length := by rw [eW, ← h.que.1]; omega
    have hq : V 16 k = nI W[k] := by rw [h.que.2 k (by omega), ← eW, cw_get hl]
    have hm : W[k] ∈ W := List.getElem_mem hl
    have hc : W[k] < nc := (cwl_mem (by rw [← eW]; exact hm : W[k] ∈ cwl (V 10) (fun c => fz_open (V 11 c)) nc)).1
    have hnc := h.wf.2.2.2.1
    have ih := fun fr u => cR.cx h (t := t) n (k + 1) fr u (by omega)
    rw [← eW] at ih ⊢
    rw [List.drop_eq_getElem_cons hl, fz_cx, hq, nI_clamp (by omega)]
    by_cases c1 : V 9 W[k] = nI t
    · rw [if_pos c1]
      by_cases c2 : V 11 W[k] = 0
      · rw [if_pos c2, List.filter_cons_of_pos (by simp [c1, c2]), fm_cx]
        have e1 : V 10 W[k] * V 1 0 = fm_c N 1 W[k] * N 4 := by rw [h.eq.c (r := 10) hc, h.eq.a1 0 (by decide)]; rfl
        rw [e1]
        by_cases c3 : 0 ≤ fr - fm_c N 1 W[k] * N 4
        · rw [if_pos c3, if_pos c3, ← ih, nI_1]
        · rw [if_neg c3, if_neg c3]
      · rw [if_neg c2, List.filter_cons_of_neg (by simp [c2]), ih]
    · rw [if_neg c1, List.filter_cons_of_neg (by simp [c1]), ih]
theorem cR.xc (h : cR V N nt nc nq nl wk) {t : Nat} (ht : t < nt) : fz_xc V nl nq t = fm_xc N nc nl t := by
  have e0 : fz_owes (V 19) (V 21) (V 22) (V 0 0) nl (nI t) = fz_owes (fm_l N 1) (fm_l N 3) (fm_l N 4) (N 0) nl (nI t) := ag_owes h.eq (nI t)
  have hcx := h.cx (t := t) nq 0 (V 4 t) 0 (by omega)
  rw [List.drop_zero, ← h.wlt ht] at hcx
  unfold fz_xc fm_xc
  rw [e0]
  cases fz_owes (fm_l N 1) (fm_l N 3) (fm_l N 4) (N 0) nl (nI t) with
  | false =>
    show fz_cx V (nI t) nq 0 (V 4 t) 0 = fm_cx N _ (fm_t N 0 t) 0
    rw [show (0 : Int32) = nI 0 from rfl, hcx, h.eq.t (r := 4) ht]
    rfl
  | true =>
    show (0 : Int32) = fm_cx N _ (-1) 0
    cases hw : fm_wl N nc (nI t) 0 1 9 with
    | nil => rfl
    | cons c L =>
      have hm : c ∈ fm_wl N nc (nI t) 0 1 9 := by rw [hw]; exact List.mem_cons_self
      rw [h.wlt ht] at hm
      have hc := (cwl_mem (List.mem_filter.mp hm).1).1
      obtain ⟨j, hj1, hj9, e1⟩ := h.rk c hc
      obtain ⟨b, hb1, hb2, e2⟩ := h.price
      have e3 : fm_c N 1 c = nI j := (h.eq.c (r := 10) hc).symm.trans e1
      have e4 : N 4 = nI b := (h.eq.a1 0 (by decide)).symm.trans e2
      rw [fm_cx, e3, e4, if_neg (cx_neg j (by omega) b (by omega))]
      rfl
end CXR
