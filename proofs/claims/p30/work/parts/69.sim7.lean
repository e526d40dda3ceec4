/-! simulation: a week ends -/
theorem earn_eq {ea d : Int32} (h : 0 ≤ ea) : fz_max 0 (fz_min ea d) = if d < 0 then 0 else if ea ≤ d then ea else d := by
  unfold fz_max fz_min
  by_cases c1 : d < 0
  · have c2 : d < ea := Int32.lt_of_lt_of_le c1 h
    rw [if_pos c2, if_neg (Int32.not_lt.mpr (Int32.le_of_lt c1)), if_pos c1]
  · rw [if_neg c1]
    by_cases c2 : d < ea
    · rw [if_pos c2, if_neg (Int32.not_le.mpr c2)]
      by_cases c3 : (0 : Int32) < d
      · rw [if_pos c3]
      · rw [if_neg c3]
        exact Int32.le_antisymm (Int32.not_lt.mp c1) (Int32.not_lt.mp c3)
    · rw [if_neg c2, if_pos (Int32.not_lt.mp c2)]
      by_cases c3 : (0 : Int32) < ea
      · rw [if_pos c3]
      · rw [if_neg c3]
        exact Int32.le_antisymm h (Int32.not_lt.mp c3)
theorem earn_n {en : Nat} (he : en ≤ 2000) (d : Int32) : ∃ k, k ≤ en ∧ fz_max 0 (fz_min (nI en) d) = nI k := by
  have h0 : (0 : Int32) ≤ nI en := Int32.not_lt.mp (nI_pos (by omega))
  rw [earn_eq h0]
  by_cases c1 : d < 0
  · exact ⟨0, Nat.zero_le _, by rw [if_pos c1]; rfl⟩
  · rw [if_neg c1]
    by_cases c2 : nI en ≤ d
    · exact ⟨en, Nat.le_refl _, by rw [if_pos c2]⟩
    · rw [if_neg c2]
      rcases pk_ix d (n := en) (by omega) with q | q | ⟨j, hj, e⟩
      · exact absurd q c1
      · exact absurd q c2
      · exact ⟨j, by omega, e⟩
theorem pst_cong {N Z F4 F6 G4 G6 L : Nat → Int32} {nt nl C : Nat} (h : pst N Z F4 F6 L nt nl C) (h4 : ∀ i, i < nt → G4 i = F4 i) (h6 : ∀ i, i < nt → G6 i = F6 i) : pst N Z G4 G6 L nt nl C := by
  obtain ⟨hf, e4, e6, e7, eL, a, b, ha, hbb, hs⟩ := h
  exact ⟨hf, fun i hi => (h4 i hi).trans (e4 i hi), fun i hi => (h6 i hi).trans (e6 i hi), e7, eL, a, b, fun i hi => (h4 i hi).trans (ha i hi), hbb, hs⟩
theorem pst_earn {N Z F4 F6 L : Nat → Int32} {nt nl C k en : Nat} (hnt : nt ≤ 6) (h : pst N Z F4 F6 L nt nl C) (hk : k < nt) (hC : C < 2147000000) (he : en ≤ 50) : pst N (fm_ta (fm_ta Z 0 k (nI en)) 1 k (nI en)) (upd F4 k (F4 k + nI en)) (upd F6 k (F6 k + nI en)) L nt nl (C + 50) := by
  obtain ⟨hf, e4, e6, e7, eL, a, b, ha, hbb, hs⟩ := h
  refine ⟨fm_fr_ta (by omega) (by omega) (fm_fr_ta (by omega) (by omega) hf), fun i hi => ?_, fun i hi => ?_, fun i hi => ?_, fun q hq => ?_, fun i => if i = k then a i + en else a i, b, fun i hi => ?_, hbb, fun i hi => ?_⟩
  · show _ = fm_ta (fm_ta Z 0 k (nI en)) 1 k (nI en) (49 + 3 * i + 0)
    rw [fm_ta_ne (by omega)]
    by_cases c : i = k
    · rw [c, pk_us, e4 k hk]
      exact pk_us.symm
    · rw [pk_un c, fm_ta_ne (by omega)]
      exact e4 i hi
  · show _ = fm_ta (fm_ta Z 0 k (nI en)) 1 k (nI en) (49 + 3 * i + 1)
    by_cases c : i = k
    · rw [c, pk_us, e6 k hk]
      refine Eq.trans ?_ pk_us.symm
      rw [fm_t, fm_t, fm_ta_ne (by omega)]
    · rw [pk_un c, fm_ta_ne (by omega), fm_ta_ne (by omega)]
      exact e6 i hi
  · show fm_ta (fm_ta Z 0 k (nI en)) 1 k (nI en) (49 + 3 * i + 2) = _
    rw [fm_ta_ne (by omega), fm_ta_ne (by omega)]
    exact e7 i hi
  · show _ = fm_ta (fm_ta Z 0 k (nI en)) 1 k (nI en) (277 + 6 * q + 3)
    rw [fm_ta_ne (by omega), fm_ta_ne (by omega)]
    exact eL q hq
  · show upd F4 k (F4 k + nI en) i = nI (if i = k then a i + en else a i)
    by_cases c : i = k
    · rw [c, pk_us, if_pos rfl, ha k hk, nI_add]
    · rw [pk_un c, if_neg c]
      exact ha i hi
  · show (if i = k then a i + en else a i) + sN b nl ≤ C + 50
    have := hs i hi
    split <;> omega
section SIM7
variable {V M : Nat → Nat → Int32} {nt nc nq nl wk B : Nat}
theorem cR.ea (h : cR V (M 1) nt nc nq nl wk) (hb : cB V nt nc nl B) (hB : B < 2000000000) : ∀ k, k ≤ nt → (fz_ea V nc wk k).1 = (fm_ea (M 1) nc k).1 ∧ (∃ s, s ≤ 50 * k ∧ (fz_ea V nc wk k).1 = nI s) ∧ pst (M 1) (fm_ea (M 1) nc k).2 (fz_ea V nc wk k).2.1 (fz_ea V nc wk k).2.2 (V 21) nt nl (B + 6000 + 50 * k)
  | 0, _ => ⟨rfl, ⟨0, by omega, rfl⟩, h.pst0 hb hB⟩
  | k + 1, hk => by
    obtain ⟨i1, ⟨s, hs, es⟩, i3⟩ := cR.ea h hb hB k (by omega)
    have hnt := h.wf.2.1
    have hnc := h.wf.2.2.2.1
    have hf := i3.1
    have hwk : V 0 0 = nI wk := h.wf.2.2.2.2.2.2.2.2.1
    obtain ⟨Z, eZ⟩ : ∃ Z, Z = (fm_ea (M 1) nc k).2 := ⟨_, rfl⟩
    rw [← eZ] at i3 hf
    have z7 : Z 7 = V 1 3 := (hf 7 (by omega)).trans (h.eq.a1 3 (by decide)).symm
    have z5 : Z 5 = V 1 1 := (hf 5 (by omega)).trans (h.eq.a1 1 (by decide)).symm
    have z0 : Z 0 = V 0 0 := (hf 0 (by omega)).trans h.eq.a0.symm
    have zf : fz_flt (fm_c Z 0) (fm_c Z 2) (fm_c Z 5) nc (nI k) (Z 0) = fz_flt (V 9) (V 11) (V 14) nc (nI k) (nI wk) := by
      rw [z0, hwk]
      unfold fz_flt
      exact fz_any_cong (fun i hi => by rw [hf.c (w := 0) (by omega) (by decide), hf.c (w := 2) (by omega) (by decide), hf.c (w := 5) (by omega) (by decide), h.eq.cw (w := 0) (by decide) hi, h.eq.cw (w := 2) (by decide) hi, h.eq.cw (w := 5) (by decide) hi])
    obtain ⟨en, hen, een⟩ : ∃ en, en ≤ 50 ∧ V 1 1 = nI en := by
      obtain ⟨b, hb2, eb⟩ := h.setn (i := 1) (by decide)
      have h2 := (h.sb 1 (by decide)).2
      rw [eb] at h2
      exact ⟨b, (nI_leI (by omega) (by decide : 50 < 2 ^ 31)).mp h2, eb⟩
    have e4 : fm_t Z 0 k = (fz_ea V nc wk k).2.1 k := (i3.2.1 k (by omega)).symm
    have eern : fm_ern Z nc k = bif fz_flt (V 9) (V 11) (V 14) nc (nI k) (nI wk) then 0 else fz_earn ((fz_ea V nc wk k).2.1 k) (V 1 1) (V 1 3) := by
      rw [fm_ern, zf, z7, z5, e4, fz_earn, een, earn_eq (Int32.not_lt.mp (nI_pos (by omega)))]
      cases fz_flt (V 9) (V 11) (V 14) nc (nI k) (nI wk) with
      | true =>
        show (if _ then (0 : Int32) else 0) = 0
        split <;> rfl
      | false => rfl
    rw [fz_ea, fm_ea, ← eZ, eern]
    cases hfl : fz_flt (V 9) (V 11) (V 14) nc (nI k) (nI wk) with
    | true =>
      rw [cond_true, cond_true]
      refine ⟨?_, ⟨s, by omega, es⟩, ?_⟩
      · show _ = (fm_ea (M 1) nc k).1 + 0
        rw [Int32.add_zero]
        exact i1
      · have r := pst_earn hnt i3 (show k < nt by omega) (by omega) (show 0 ≤ 50 by omega)
        refine pst_cong (F4 := upd (fz_ea V nc wk k).2.1 k ((fz_ea V nc wk k).2.1 k + nI 0)) (F6 := upd (fz_ea V nc wk k).2.2 k ((fz_ea V nc wk k).2.2 k + nI 0)) r (fun i _ => ?_) (fun i _ => ?_)
        · rw [show nI 0 = (0 : Int32) from rfl, Int32.add_zero, upd_self]
        · rw [show nI 0 = (0 : Int32) from rfl, Int32.add_zero, upd_self]
    | false =>
      rw [cond_false, cond_false]
      obtain ⟨m, hm, em⟩ := earn_n (en := en) (by omega) (V 1 3 - (fz_ea V nc wk k).2.1 k)
      have em' : fz_earn ((fz_ea V nc wk k).2.1 k) (V 1 1) (V 1 3) = nI m := by
        rw [fz_earn, een]
        exact em
      rw [em']
      have r := pst_earn (en := m) hnt i3 (show k < nt by omega) (by omega) (show m ≤ 50 by omega)
      refine ⟨?_, ⟨s + m, by omega, ?_⟩, r⟩
      · show _ + nI m = _ + nI m
        rw [i1]
      · show (fz_ea V nc wk k).1 + nI m = _
        rw [es, nI_add]
theorem cR.c1 (h : cR V (M 1) nt nc nq nl wk) {Z F6 : Nat → Int32} {q : (Nat → Int32) × (Nat → Int32)} {C d : Nat} (hC : C < 2147000000) (hp : pst (M 1) Z q.1 F6 q.2 nt nl C) : ∀ k, k ≤ nl → pst (M 1) (fm_c1 Z d k) (fz_c1 (V 18) (V 19) (V 22) d q k).1 F6 (fz_c1 (V 18) (V 19) (V 22) d q k).2 nt nl C
  | 0, _ => hp
  | k + 1, hk => by
    have ih := cR.c1 h hC hp (d := d) k (by omega)
    have hnt := h.wf.2.1
    have hnl := h.wf.2.2.2.2.2.2.2.1
    obtain ⟨j, hj, ej, ej2⟩ := h.taker (show k < nl by omega)
    obtain ⟨g, hg, eg, eg2⟩ := h.giver (show k < nl by omega)
    have hf := ih.1
    have e22 : fm_l (fm_c1 Z d k) 4 k = V 22 k := (hf.l (by omega) (by decide) (by decide)).trans (h.eq.lw (w := 4) (by decide) (by omega)).symm
    have e19 : fm_l (fm_c1 Z d k) 1 k = nI j := (hf.l (by omega) (by decide) (by decide)).trans ej2
    rw [fz_c1, fm_c1, e22, e19, ej, nI_clamp (by omega)]
    by_cases c1 : V 22 k = nI d
    · rw [if_pos c1, if_pos c1]
      obtain ⟨a, b, ha, hbb, hs⟩ := ih.2.2.2.2.2
      have eL : fm_l (fm_c1 Z d k) 3 k = (fz_c1 (V 18) (V 19) (V 22) d q k).2 k := (ih.2.2.2.2.1 k (by omega)).symm
      have eF : fm_t (fm_c1 Z d k) 0 j = (fz_c1 (V 18) (V 19) (V 22) d q k).1 j := (ih.2.1 j hj).symm
      have hsj := hs j hj
      have hbk := (hbb k (by omega)).2
      rw [lo_min, eL, eF, (hbb k (by omega)).1, ha j hj, min_n (by omega) (by omega)]
      refine pst_pay hnt hnl hC ih (by omega) hj hg ej eg ej2 eg2 (fun u hu hu2 => ?_) (fun u hu hu2 => ?_)
      · rw [ha j hj] at hu
        rw [← (nI_eq (by omega) hu2).mp hu]
        exact Nat.min_le_right _ _
      · rw [(hbb k (by omega)).1] at hu
        rw [← (nI_eq (by omega) hu2).mp hu]
        exact Nat.min_le_left _ _
    · rw [if_neg c1, if_neg c1]
      exact ih
theorem cR.c2 (h : cR V (M 1) nt nc nq nl wk) {Z F6 : Nat → Int32} {q : (Nat → Int32) × (Nat → Int32)} {C : Nat} (hC : C < 2147000000) (hp : pst (M 1) Z q.1 F6 q.2 nt nl C) : ∀ d, pst (M 1) (fm_c2 Z nl d) (fz_c2 (V 18) (V 19) (V 22) nl q d).1 F6 (fz_c2 (V 18) (V 19) (V 22) nl q d).2 nt nl C
  | 0 => hp
  | d + 1 => cR.c1 h hC (cR.c2 h hC hp d) nl (Nat.le_refl nl)
theorem cR_week {V : Nat → Nat → Int32} {Z : Nat → Int32} (h : cR V Z nt nc nq nl wk) (hw : wk < 39) : cR (fz_up V 0 (upd (V 0) 0 (nI (wk + 1)))) (upd Z 0 (nI (wk + 1))) nt nc nq nl (wk + 1) := by
  have hN : ∀ p, p ≠ 0 → upd Z 0 (nI (wk + 1)) p = Z p := fun p hp => pk_un hp
  have hwf : fz_wf (fz_up V 0 (upd (V 0) 0 (nI (wk + 1)))) nt nc nq nl (wk + 1) := by
    obtain ⟨hnt, hnt6, hnc, hnc30, hnq, hqc, hnl, hnl12, hwk, hwk39, hT, hQ, hG, hB⟩ := h.wf
    exact ⟨hnt, hnt6, hnc, hnc30, hnq, hqc, hnl, hnl12, rfl, by omega, hT, hQ, hG, hB⟩
  refine cR_mk hwf h.zo (ag_mk ?_ ?_ ?_ ?_ (fun i hi => ?_) (fun i hi => ?_) (fun i hi => ?_) (fun i hi => ?_) (fun i hi => ?_) (fun w hw i hi => ?_) (fun w hw i hi => ?_)) ?_ h.sb h.st h.rk h.que
  · show upd (V 0) 0 (nI (wk + 1)) 0 = _
    rw [pk_us, pk_us]
  · exact h.eq.a3.trans (hN 1 (by omega)).symm
  · exact h.eq.a8.trans (hN 2 (by omega)).symm
  · exact h.eq.a17.trans (hN 3 (by omega)).symm
  · exact (h.eq.a1 i hi).trans (hN _ (by omega)).symm
  · exact (h.eq.a2 i hi).trans (hN _ (by omega)).symm
  · exact (h.eq.t (r := 4) hi).trans (hN _ (by omega)).symm
  · exact (h.eq.t (r := 6) hi).trans (hN _ (by omega)).symm
  · exact (h.eq.t (r := 7) hi).trans (hN _ (by omega)).symm
  · show fz_up V 0 (upd (V 0) 0 (nI (wk + 1))) (9 + w) i = _
    rw [fz_up_ne (by omega)]
    exact (h.eq.cw hw hi).trans (hN _ (by omega)).symm
  · show fz_up V 0 (upd (V 0) 0 (nI (wk + 1))) (18 + w) i = _
    rw [fz_up_ne (by omega)]
    exact (h.eq.lw hw hi).trans (hN _ (by omega)).symm
  · exact (hN 8 (by omega)).trans h.bro
theorem close_rel (h : cR V (M 1) nt nc nq nl wk) (hb : cB V nt nc nl B) (hB : B < 2000000000) (hw : wk < 39) : (fz_close V nt nc nl wk).1 = (fm_week (M 1) nt nc nl wk).1 ∧ (∃ s, s ≤ 300 ∧ (fz_close V nt nc nl wk).1 = nI s) ∧ cR (fz_close V nt nc nl wk).2 (fm_week (M 1) nt nc nl wk).2 nt nc nq nl (wk + 1) ∧ cB (fz_close V nt nc nl wk).2 nt nc nl (B + 6600) := by
  obtain ⟨i1, ⟨s, hs, es⟩, i3⟩ := h.ea hb hB nt (Nat.le_refl nt)
  have hnt := h.wf.2.1
  have r := h.c2 (q := ((fz_ea V nc wk nt).2.1, V 21)) (by omega) i3 (wk + 1)
  obtain ⟨r1, r2⟩ := cR_pst h hb (pst_mono r (by omega)) hB
  rw [fz_close, if_neg (by omega), fm_week]
  have ev : fz_up (fz_up (fz_up (fz_up V 0 (upd (V 0) 0 (nI (wk + 1)))) 4 (fz_c2 (V 18) (V 19) (V 22) nl ((fz_ea V nc wk nt).2.1, V 21) (wk + 1)).1) 6 (fz_ea V nc wk nt).2.2) 21 (fz_c2 (V 18) (V 19) (V 22) nl ((fz_ea V nc wk nt).2.1, V 21) (wk + 1)).2 = fz_up (fz_up (fz_up (fz_up V 4 (fz_c2 (V 18) (V 19) (V 22) nl ((fz_ea V nc wk nt).2.1, V 21) (wk + 1)).1) 6 (fz_ea V nc wk nt).2.2) 21 (fz_c2 (V 18) (V 19) (V 22) nl ((fz_ea V nc wk nt).2.1, V 21) (wk + 1)).2) 0 (upd (V 0) 0 (nI (wk + 1))) := by
    rw [fz_up_comm (r := 0) (k := 4) (by decide), fz_up_comm (r := 0) (k := 6) (by decide), fz_up_comm (r := 0) (k := 21) (by decide)]
  refine ⟨i1, ⟨s, by omega, es⟩, ?_, ?_⟩
  · show cR (fz_up _ 21 _) _ nt nc nq nl (wk + 1)
    rw [ev]
    exact cR_week r1 hw
  · show cB (fz_up _ 21 _) nt nc nl (B + 6600)
    exact r2
theorem sim_close (h : cR V (M 1) nt nc nq nl wk) (hb : cB V nt nc nl B) (hB : B < 2000000000) : sim V M B 9 9 1 (fz_close V nt nc nl wk) (fm_ends1 M nt nc nl wk) := by
  have hwk := h.wf.2.2.2.2.2.2.2.2.2.1
  by_cases c : wk < 39
  · obtain ⟨r1, ⟨s, hs, es⟩, r3, r4⟩ := close_rel h hb hB c
    rw [fm_ends1, if_neg (by omega)]
    exact Or.inl ⟨rfl, by rw [es]; exact ok_n (by omega), r1.symm, nt, nc, nq, nl, wk + 1, r3, r4⟩
  · rw [fz_close, if_pos (by omega), fm_ends1, if_pos (by omega)]
    exact Or.inr ⟨rfl, rfl, Or.inr (Or.inr ⟨rfl, rfl⟩)⟩
end SIM7
