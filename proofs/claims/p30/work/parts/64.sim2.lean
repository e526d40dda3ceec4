/-! simulation: teams, weeks, askings -/
theorem frz_n (f : Nat → Int32) : ∀ n k, k + n = 40 → ∃ m, m ≤ n ∧ fz_frz f k = nI m
  | 0, k, hk => ⟨0, Nat.le_refl 0, by rw [show k = 40 by omega, fz_frz_e]; rfl⟩
  | n + 1, k, hk => by
    obtain ⟨m, hm, e⟩ := frz_n f n (k + 1) (by omega)
    rw [fz_frz_s (f := f) (show k < 40 by omega), e]
    unfold fz_nz
    split
    · exact ⟨m, by omega, by rw [Int32.zero_add]⟩
    · exact ⟨m + 1, by omega, by rw [Int32.add_comm]; exact nI_1 m⟩
section SIM2
variable {V M : Nat → Nat → Int32} {nt nc nq nl wk B : Nat}
theorem sim_bring (h : cR V (M 1) nt nc nq nl wk) (hb : cB V nt nc nl B) (x : Int32) : sim V M B 9 1 2 (fz_bring V nt x) (fm_team M nt x) := by
  have hnt6 := h.wf.2.1
  by_cases c1 : x < 0
  · rw [fz_bring, if_pos c1, fm_team, if_neg (by simp [fm_in, c1])]
    exact Or.inr ⟨rfl, rfl, Or.inr (Or.inl ⟨rfl, rfl⟩)⟩
  · by_cases c2 : x ≤ 999
    · have i1 : fm_in x 0 999 = true := by simp [fm_in, c1, c2]
      rw [fz_bring, if_neg c1, if_pos c2, fm_team, if_pos i1]
      by_cases c3 : 6 ≤ nt
      · rw [if_pos c3, if_pos (by omega)]
        exact Or.inr ⟨rfl, rfl, Or.inr (Or.inr ⟨rfl, rfl⟩)⟩
      · rw [if_neg c3, if_neg (by omega)]
        obtain ⟨j, hj, ej⟩ : ∃ j, j < 1000 ∧ x = nI j := by
          rcases pk_ix x (n := 1000) (by decide) with q | q | q
          · exact absurd q c1
          · exact absurd (Int32.le_trans q c2) (by decide)
          · exact q
        have hN : ∀ p, p ≠ 49 + 3 * nt → p ≠ 49 + 3 * nt + 1 → p ≠ 49 + 3 * nt + 2 → p ≠ 8 → p ≠ 1 → fm_tm (M 1) nt x p = M 1 p := fun p h1 h2 h3 h4 h5 => by rw [fm_tm, pk_un h5, pk_un h4, pk_un h3, pk_un h2, pk_un h1]
        have hwf : fz_wf (fz_up (fz_up (fz_up (fz_up (fz_up V 3 (upd (V 3) 0 (nI (nt + 1)))) 4 (upd (V 4) nt x)) 5 (upd (V 5) nt x)) 6 (upd (V 6) nt 0)) 7 (upd (V 7) nt 0)) (nt + 1) nc nq nl wk := by
          obtain ⟨hnt, hnt6, hnc, hnc30, hnq, hqc, hnl, hnl12, hwk, hwk39, hT, hQ, hG, hB⟩ := h.wf
          refine ⟨rfl, by omega, hnc, hnc30, hnq, hqc, hnl, hnl12, hwk, hwk39, fun i hi => ?_, hQ, fun i hi => ?_, fun i hi => ?_⟩
          · obtain ⟨j, h1, h2⟩ := hT i hi
            exact ⟨j, by omega, h2⟩
          · obtain ⟨j, h1, h2⟩ := hG i hi
            exact ⟨j, by omega, h2⟩
          · obtain ⟨j, h1, h2⟩ := hB i hi
            exact ⟨j, by omega, h2⟩
        refine Or.inl ⟨rfl, ok_n (by omega), ?_, nt + 1, nc, nq, nl, wk, ?_, fun i hi => ?_, hb.2.1, hb.2.2⟩
        · show M 1 1 = nI nt
          exact h.mf.1
        · refine cR_mk hwf h.zo (ag_mk ?_ ?_ ?_ ?_ (fun i hi => ?_) (fun i hi => ?_) (fun i hi => ?_) (fun i hi => ?_) (fun i hi => ?_) (fun w hw i hi => ?_) (fun w hw i hi => ?_)) ?_ h.sb h.st h.rk h.que
          · exact h.eq.a0.trans (hN 0 (by omega) (by omega) (by omega) (by omega) (by omega)).symm
          · show nI (nt + 1) = fm_tm (M 1) nt x 1
            rw [fm_tm, pk_us]
          · exact h.eq.a8.trans (hN 2 (by omega) (by omega) (by omega) (by omega) (by omega)).symm
          · exact h.eq.a17.trans (hN 3 (by omega) (by omega) (by omega) (by omega) (by omega)).symm
          · exact (h.eq.a1 i hi).trans (hN _ (by omega) (by omega) (by omega) (by omega) (by omega)).symm
          · exact (h.eq.a2 i hi).trans (hN _ (by omega) (by omega) (by omega) (by omega) (by omega)).symm
          · show upd (V 4) nt x i = fm_tm (M 1) nt x (49 + 3 * i + 0)
            by_cases e : i = nt
            · rw [e, pk_us, fm_tm, pk_un (by omega), pk_un (by omega), pk_un (by omega), pk_un (by omega)]
              exact pk_us.symm
            · rw [pk_un e, hN _ (by omega) (by omega) (by omega) (by omega) (by omega)]
              exact h.eq.t (r := 4) (by omega)
          · show upd (V 6) nt 0 i = fm_tm (M 1) nt x (49 + 3 * i + 1)
            by_cases e : i = nt
            · rw [e, pk_us, fm_tm, pk_un (by omega), pk_un (by omega), pk_un (by omega), pk_us]
            · rw [pk_un e, hN _ (by omega) (by omega) (by omega) (by omega) (by omega)]
              exact h.eq.t (r := 6) (by omega)
          · show upd (V 7) nt 0 i = fm_tm (M 1) nt x (49 + 3 * i + 2)
            by_cases e : i = nt
            · rw [e, pk_us, fm_tm, pk_un (by omega), pk_un (by omega), pk_us]
            · rw [pk_un e, hN _ (by omega) (by omega) (by omega) (by omega) (by omega)]
              exact h.eq.t (r := 7) (by omega)
          · show fz_up (fz_up (fz_up (fz_up (fz_up V 3 (upd (V 3) 0 (nI (nt + 1)))) 4 (upd (V 4) nt x)) 5 (upd (V 5) nt x)) 6 (upd (V 6) nt 0)) 7 (upd (V 7) nt 0) (9 + w) i = fm_tm (M 1) nt x (67 + 7 * i + w)
            rw [fz_up_ne (by omega), fz_up_ne (by omega), fz_up_ne (by omega), fz_up_ne (by omega), fz_up_ne (by omega), hN _ (by omega) (by omega) (by omega) (by omega) (by omega)]
            exact h.eq.cw hw hi
          · show fz_up (fz_up (fz_up (fz_up (fz_up V 3 (upd (V 3) 0 (nI (nt + 1)))) 4 (upd (V 4) nt x)) 5 (upd (V 5) nt x)) 6 (upd (V 6) nt 0)) 7 (upd (V 7) nt 0) (18 + w) i = fm_tm (M 1) nt x (277 + 6 * i + w)
            rw [fz_up_ne (by omega), fz_up_ne (by omega), fz_up_ne (by omega), fz_up_ne (by omega), fz_up_ne (by omega), hN _ (by omega) (by omega) (by omega) (by omega) (by omega)]
            exact h.eq.lw hw hi
          · show fm_tm (M 1) nt x 8 = fz_sum (upd (V 5) nt x) nt + upd (V 5) nt x nt
            rw [fm_tm, pk_un (by omega), pk_us, pk_us, fz_sum_cong (f := upd (V 5) nt x) (g := V 5) (fun k hk => pk_un (by omega)), h.bro]
        · show ∃ j, j ≤ B + 6600 ∧ upd (V 4) nt x i = nI j
          by_cases e : i = nt
          · rw [e, pk_us]
            exact ⟨j, by omega, ej⟩
          · rw [pk_un e]
            obtain ⟨j2, g1, g2⟩ := hb.1 i (by omega)
            exact ⟨j2, by omega, g2⟩
    · rw [fz_bring, if_neg c1, if_neg c2, fm_team, if_neg (by simp [fm_in, c1, c2])]
      exact Or.inr ⟨rfl, rfl, Or.inr (Or.inl ⟨rfl, rfl⟩)⟩
theorem sim_markw (h : cR V (M 1) nt nc nq nl wk) (hb : cB V nt nc nl B) (f g : Int32) (fr : Bool) : sim V M B 9 1 2 (fz_markw V wk f g fr) (fm_frees M f g fr) := by
  have bad : ¬ (fm_in f 0 39 = true ∧ fm_in g f 39 = true) → sim V M B 9 1 2 (-2, V) (fm_frees M f g fr) := fun hn => by
    rw [fm_frees]
    by_cases c1 : fm_in f 0 39 = true
    · rw [if_pos c1, if_neg (fun z => hn ⟨c1, z⟩)]
      exact Or.inr ⟨rfl, rfl, Or.inr (Or.inl ⟨rfl, rfl⟩)⟩
    · rw [if_neg c1]
      exact Or.inr ⟨rfl, rfl, Or.inr (Or.inl ⟨rfl, rfl⟩)⟩
  rw [fz_markw]
  by_cases c1 : f < 0
  · rw [if_pos c1]
    exact bad (fun z => by simp [fm_in, c1] at z)
  · rw [if_neg c1]
    by_cases c2 : g < f
    · rw [if_pos c2]
      exact bad (fun z => by simp [fm_in, c2] at z)
    · rw [if_neg c2]
      by_cases c3 : g ≤ 39
      · rw [if_pos c3]
        have hf39 : f ≤ 39 := Int32.le_trans (Int32.not_lt.mp c2) c3
        have i1 : fm_in f 0 39 = true := by simp [fm_in, c1, hf39]
        have i2 : fm_in g f 39 = true := by simp [fm_in, c2, c3]
        obtain ⟨i, j, hij, hj, rfl, rfl⟩ := fm_rng i1 i2
        rw [fm_frees, if_pos i1, if_pos i2, h.eq.a0]
        by_cases c4 : fm_V (M 1) 0 0 ≤ nI i
        · have c4' : M 1 0 ≤ nI i := c4
          rw [if_pos c4, if_pos c4']
          rw [nI_clamp (by omega), nI_clamp (by omega)]
          have hmk : ∀ q, q < 40 → fz_mark (V 2) i (fz_b fr) (j + 1) q = fm_mkw (M 1) i (fz_b fr) (j + 1) (9 + q) := fun q hq => by
            rw [fz_mark, fm_mkw]
            by_cases z : i ≤ q ∧ q < j + 1
            · rw [if_pos z, if_pos (by omega)]
            · rw [if_neg z, if_neg (by omega)]
              exact h.eq.a2 q hq
          have hN : ∀ p, p < 9 ∨ 49 ≤ p → fm_mkw (M 1) i (fz_b fr) (j + 1) p = M 1 p := fun p hp => by rw [fm_mkw, if_neg (by omega)]
          obtain ⟨m, hm, em⟩ := frz_n (fz_mark (V 2) i (fz_b fr) (j + 1)) 40 0 rfl
          refine Or.inl ⟨rfl, by rw [em]; exact ok_n (by omega), ?_, nt, nc, nq, nl, wk, ?_, hb.mono (by omega)⟩
          · show fz_frz (fun q => fm_mkw (M 1) i (fz_b fr) (j + 1) (9 + q)) 0 = fz_frz (fz_mark (V 2) i (fz_b fr) (j + 1)) 0
            exact (ag_frz (fun q hq => hmk q hq) 40 0 rfl).symm
          · refine cR_mk h.wf (fun q hq => ?_) (ag_mk ?_ ?_ ?_ ?_ (fun q hq => ?_) (fun q hq => ?_) (fun q hq => ?_) (fun q hq => ?_) (fun q hq => ?_) (fun w hw q hq => ?_) (fun w hw q hq => ?_)) ?_ h.sb h.st h.rk h.que
            · show fz_mark (V 2) i (fz_b fr) (j + 1) q = 0 ∨ fz_mark (V 2) i (fz_b fr) (j + 1) q = 1
              rw [fz_mark]
              split
              · cases fr
                · exact Or.inl rfl
                · exact Or.inr rfl
              · exact h.zo q hq
            · exact h.eq.a0.trans (hN 0 (by omega)).symm
            · exact h.eq.a3.trans (hN 1 (by omega)).symm
            · exact h.eq.a8.trans (hN 2 (by omega)).symm
            · exact h.eq.a17.trans (hN 3 (by omega)).symm
            · exact (h.eq.a1 q hq).trans (hN _ (by omega)).symm
            · exact hmk q hq
            · exact (h.eq.t (r := 4) hq).trans (hN _ (by omega)).symm
            · exact (h.eq.t (r := 6) hq).trans (hN _ (by omega)).symm
            · exact (h.eq.t (r := 7) hq).trans (hN _ (by omega)).symm
            · show fz_up V 2 (fz_mark (V 2) i (fz_b fr) (j + 1)) (9 + w) q = fm_mkw (M 1) i (fz_b fr) (j + 1) (67 + 7 * q + w)
              rw [fz_up_ne (by omega), hN _ (by omega)]
              exact h.eq.cw hw hq
            · show fz_up V 2 (fz_mark (V 2) i (fz_b fr) (j + 1)) (18 + w) q = fm_mkw (M 1) i (fz_b fr) (j + 1) (277 + 6 * q + w)
              rw [fz_up_ne (by omega), hN _ (by omega)]
              exact h.eq.lw hw hq
            · exact (hN 8 (by omega)).trans h.bro
        · have c4' : ¬ M 1 0 ≤ nI i := c4
          rw [if_neg c4, if_neg c4']
          exact Or.inr ⟨rfl, rfl, Or.inr (Or.inr ⟨rfl, rfl⟩)⟩
      · rw [if_neg c3]
        exact bad (fun z => by simp [fm_in, c3] at z)
theorem sim_enter (h : cR V (M 1) nt nc nq nl wk) (hb : cB V nt nc nl B) (t x : Int32) : sim V M B 1 2 3 (fz_enter V nc nq t x) (fm_asks M nc t x) := by
  have ea3 : V 3 0 = M 1 1 := h.eq.a3
  rw [fz_enter, fm_asks, ea3]
  by_cases c1 : fz_ix t (M 1 1) = true
  · rw [if_pos c1, if_pos c1]
    by_cases c2 : fz_risk x = true
    · have c2' : fm_in x 1 9 = true := c2
      rw [if_pos c2, if_pos c2']
      have hnc30 := h.wf.2.2.2.1
      by_cases c3 : 30 ≤ nc
      · rw [if_pos c3, if_pos (by omega)]
        exact Or.inr ⟨rfl, rfl, Or.inr (Or.inr ⟨rfl, rfl⟩)⟩
      · rw [if_neg c3, if_neg (by omega)]
        obtain ⟨s, hs1, hs9, es⟩ : ∃ s, 1 ≤ s ∧ s ≤ 9 ∧ x = nI s := by
          simp only [fz_risk, Bool.and_eq_true, Bool.not_eq_true', decide_eq_false_iff_not] at c2
          rcases pk_ix x (n := 10) (by decide) with q | q | ⟨j, hj, e⟩
          · exact absurd (Int32.lt_of_lt_of_le q (by decide : (0 : Int32) ≤ 1)) c2.1
          · exact absurd (Int32.lt_of_lt_of_le (by decide : (9 : Int32) < 10) q) c2.2
          · refine ⟨j, ?_, by omega, e⟩
            rcases Nat.eq_zero_or_pos j with z | z
            · rw [e, z] at c2
              exact absurd (by decide) c2.1
            · exact z
        have hN : ∀ p, (p < 67 ∨ 67 + 7 * nc + 7 ≤ p ∨ p < 67 + 7 * nc) → p ≠ 2 → fm_ask (M 1) nc t x p = M 1 p := fun p h1 h2 => by
          rw [fm_ask, pk_un h2, fm_cs_ne (by omega), fm_cs_ne (by omega), fm_cs_ne (by omega), fm_cs_ne (by omega), fm_cs_ne (by omega), fm_cs_ne (by omega), fm_cs_ne (by omega)]
        have hW := fz_W_enter h.wf t x
        obtain ⟨hnt, hnt6, hnc, hnc30', hnq, hqc, hnl, hnl12, hwk, hwk39, hT, hQ, hG, hB⟩ := h.wf
        obtain ⟨et, hj⟩ := fz_ix_s c1 h.mf.1 (by omega)
        have hwf : fz_wf (fz_app V t x (V 0 0) nc nq) nt (nc + 1) (nq + 1) nl wk := by
          refine ⟨hnt, hnt6, rfl, by omega, rfl, by omega, hnl, hnl12, hwk, hwk39, fun i hi => ?_, ?_, hG, hB⟩
          · show ∃ j, j < nt ∧ upd (V 9) nc t i = nI j
            by_cases e : i = nc
            · rw [e, pk_us]
              exact ⟨_, hj, et⟩
            · rw [pk_un e]
              exact hT i (by omega)
          · refine fz_enq_P (P := fun y => ∃ j, j < nc + 1 ∧ y = nI j) ⟨nc, by omega, rfl⟩ nq (V 16) (fun i hi => ?_)
            obtain ⟨j, h1, h2⟩ := hQ i hi
            exact ⟨j, by omega, h2⟩
        refine Or.inl ⟨rfl, ok_n (by omega), ?_, nt, nc + 1, nq + 1, nl, wk, ?_, fun i hi => ?_, fun i hi => ?_, hb.2.2⟩
        · show M 1 2 = nI nc
          exact h.mf.2.2.1
        · refine cR_mk hwf h.zo (ag_mk ?_ ?_ ?_ ?_ (fun i hi => ?_) (fun i hi => ?_) (fun i hi => ?_) (fun i hi => ?_) (fun i hi => ?_) (fun w hw i hi => ?_) (fun w hw i hi => ?_)) ?_ h.sb (fun i hi => ?_) (fun i hi => ?_) ?_
          · exact h.eq.a0.trans (hN 0 (by omega) (by omega)).symm
          · exact h.eq.a3.trans (hN 1 (by omega) (by omega)).symm
          · show nI (nc + 1) = fm_ask (M 1) nc t x 2
            rw [fm_ask, pk_us]
          · exact h.eq.a17.trans (hN 3 (by omega) (by omega)).symm
          · exact (h.eq.a1 i hi).trans (hN _ (by omega) (by omega)).symm
          · exact (h.eq.a2 i hi).trans (hN _ (by omega) (by omega)).symm
          · exact (h.eq.t (r := 4) hi).trans (hN _ (by omega) (by omega)).symm
          · exact (h.eq.t (r := 6) hi).trans (hN _ (by omega) (by omega)).symm
          · exact (h.eq.t (r := 7) hi).trans (hN _ (by omega) (by omega)).symm
          · by_cases e : i = nc
            · subst e
              show _ = fm_ask (M 1) i t x (67 + 7 * i + w)
              rw [fm_ask, pk_un (by omega)]
              rcases (show w = 0 ∨ w = 1 ∨ w = 2 ∨ w = 3 ∨ w = 4 ∨ w = 5 ∨ w = 6 by omega) with rfl | rfl | rfl | rfl | rfl | rfl | rfl
              · show upd (V 9) i t i = _
                rw [pk_us, fm_cs_ne (by omega), fm_cs_ne (by omega), fm_cs_ne (by omega), fm_cs_ne (by omega), fm_cs_ne (by omega), fm_cs_ne (by omega)]
                exact pk_us.symm
              · show upd (V 10) i x i = _
                rw [pk_us, fm_cs_ne (by omega), fm_cs_ne (by omega), fm_cs_ne (by omega), fm_cs_ne (by omega), fm_cs_ne (by omega)]
                exact pk_us.symm
              · show upd (V 11) i 0 i = _
                rw [pk_us, fm_cs_ne (by omega), fm_cs_ne (by omega), fm_cs_ne (by omega), fm_cs_ne (by omega)]
                exact pk_us.symm
              · show upd (V 12) i 0 i = _
                rw [pk_us, fm_cs_ne (by omega), fm_cs_ne (by omega), fm_cs_ne (by omega)]
                exact pk_us.symm
              · show upd (V 13) i (V 0 0) i = _
                rw [pk_us, fm_cs_ne (by omega), fm_cs_ne (by omega)]
                exact h.eq.a0.trans pk_us.symm
              · show upd (V 14) i (-1) i = _
                rw [pk_us, fm_cs_ne (by omega)]
                exact pk_us.symm
              · show upd (V 15) i 0 i = _
                rw [pk_us]
                exact pk_us.symm
            · show _ = fm_ask (M 1) nc t x (67 + 7 * i + w)
              rw [hN _ (by omega) (by omega)]
              have e1 := h.eq.cw hw (show i < nc by omega)
              rcases (show w = 0 ∨ w = 1 ∨ w = 2 ∨ w = 3 ∨ w = 4 ∨ w = 5 ∨ w = 6 by omega) with rfl | rfl | rfl | rfl | rfl | rfl | rfl
              · exact (pk_un e).trans e1
              · exact (pk_un e).trans e1
              · exact (pk_un e).trans e1
              · exact (pk_un e).trans e1
              · exact (pk_un e).trans e1
              · exact (pk_un e).trans e1
              · exact (pk_un e).trans e1
          · have e1 := h.eq.lw hw hi
            show _ = fm_ask (M 1) nc t x (277 + 6 * i + w)
            rw [hN _ (by omega) (by omega)]
            rcases (show w = 0 ∨ w = 1 ∨ w = 2 ∨ w = 3 ∨ w = 4 ∨ w = 5 by omega) with rfl | rfl | rfl | rfl | rfl | rfl <;> exact e1
          · exact (hN 8 (by omega) (by omega)).trans h.bro
          · show ∃ j, j ≤ 4 ∧ upd (V 11) nc 0 i = nI j
            by_cases e : i = nc
            · rw [e, pk_us]
              exact ⟨0, by omega, rfl⟩
            · rw [pk_un e]
              exact h.st i (by omega)
          · show ∃ j, 1 ≤ j ∧ j ≤ 9 ∧ upd (V 10) nc x i = nI j
            by_cases e : i = nc
            · rw [e, pk_us]
              exact ⟨s, hs1, hs9, es⟩
            · rw [pk_un e]
              exact h.rk i (by omega)
          · refine cq_enq (s := s) (by omega) h.que (fun c hc => pk_un (by omega)) (fun c hc => ?_) (show upd (V 10) nc x nc = nI s by rw [pk_us]; exact es) ?_ hs1 hs9
            · show fz_open (upd (V 11) nc 0 c) = _
              rw [pk_un (by omega)]
            · show fz_open (upd (V 11) nc 0 nc) = true
              rw [pk_us]
              rfl
        · obtain ⟨j2, g1, g2⟩ := hb.1 i hi
          exact ⟨j2, by omega, g2⟩
        · show ∃ j, j ≤ 180 ∧ upd (V 12) nc 0 i = nI j
          by_cases e : i = nc
          · rw [e, pk_us]
            exact ⟨0, by omega, rfl⟩
          · rw [pk_un e]
            exact hb.2.1 i (by omega)
    · have c2' : ¬ fm_in x 1 9 = true := c2
      rw [if_neg c2, if_neg c2']
      exact Or.inr ⟨rfl, rfl, Or.inr (Or.inl ⟨rfl, rfl⟩)⟩
  · rw [if_neg c1, if_neg c1]
    exact Or.inr ⟨rfl, rfl, Or.inl ⟨rfl, rfl⟩⟩
end SIM2
