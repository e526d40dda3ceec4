/-! simulation: lending -/
section SIM5
variable {V M : Nat → Nat → Int32} {nt nc nq nl wk B : Nat}
theorem amount {y : Int32} (h1 : ¬ y < 1) (h2 : y ≤ 500) : ∃ k, 1 ≤ k ∧ k ≤ 500 ∧ y = nI k := by
  rcases pk_ix y (n := 501) (by decide) with q | q | ⟨j, hj, e⟩
  · exact absurd (Int32.lt_of_lt_of_le q (by decide : (0 : Int32) ≤ 1)) h1
  · exact absurd (Int32.le_trans q h2) (by decide)
  · refine ⟨j, ?_, by omega, e⟩
    rcases Nat.eq_zero_or_pos j with z | z
    · rw [e, z] at h1
      exact absurd (by decide) h1
    · exact z
theorem sim_lend2 (h : cR V (M 1) nt nc nq nl wk) (hb : cB V nt nc nl B) (hB : B < 2000000000) {i j k : Nat} (hi : i < nt) (hj : j < nt) (hij : i ≠ j) (hk : k ≤ 500) (hnl : nl < 12) (hf : ¬ V 4 i < nI k) (w : Int32) : sim V M B 1 2 3 (nI nl, fz_lent V nl (nI i) (nI j) i j (nI k) w) (0, fz_up (fz_up M 0 (upd (M 0) 3 (M 1 3))) 1 (fm_lnt (M 1) nl (nI i) (nI j) i j (nI k) w)) := by
  have hnt := h.wf.2.1
  obtain ⟨fi, hfi, efi⟩ := hb.1 i hi
  obtain ⟨fj, hfj, efj⟩ := hb.1 j hj
  have hle : k ≤ fi := by
    rw [efi] at hf
    exact (nI_leI (by omega) (by omega)).mp (Int32.not_lt.mp hf)
  have e4i : V 4 i = M 1 (49 + 3 * i + 0) := h.eq.t (r := 4) hi
  have e4j : V 4 j = M 1 (49 + 3 * j + 0) := h.eq.t (r := 4) hj
  have hN : ∀ p, p ≠ 49 + 3 * i + 0 → p ≠ 49 + 3 * j + 0 → (p < 277 + 6 * nl ∨ 277 + 6 * nl + 6 ≤ p) → p ≠ 3 → fm_lnt (M 1) nl (nI i) (nI j) i j (nI k) w p = M 1 p := fun p h1 h2 h3 h4 => by
    rw [fm_lnt, pk_un h4, fm_ta_ne h2, fm_ta_ne h1, pk_un (by omega), pk_un (by omega), pk_un (by omega), pk_un (by omega), pk_un (by omega), pk_un (by omega)]
  have hL : ∀ q, q < 6 → fm_lnt (M 1) nl (nI i) (nI j) i j (nI k) w (277 + 6 * nl + q) = upd (upd (upd (upd (upd (upd (M 1) (277 + (6 * nl)) (nI i)) (277 + (6 * nl) + 1) (nI j)) (277 + (6 * nl) + 2) (nI k)) (277 + (6 * nl) + 3) (nI k)) (277 + (6 * nl) + 4) w) (277 + (6 * nl) + 5) (M 1 0) (277 + 6 * nl + q) := fun q hq => by
    rw [fm_lnt, pk_un (by omega), fm_ta_ne (by omega), fm_ta_ne (by omega)]
  have hwf : fz_wf (fz_lent V nl (nI i) (nI j) i j (nI k) w) nt nc nq (nl + 1) wk := by
    obtain ⟨hnt, hnt6, hnc, hnc30, hnq, hqc, hnl', hnl12, hwk, hwk39, hT, hQ, hG, hB⟩ := h.wf
    refine ⟨hnt, hnt6, hnc, hnc30, hnq, hqc, rfl, by omega, hwk, hwk39, hT, hQ, fun q hq => ?_, fun q hq => ?_⟩
    · show ∃ r, r < nt ∧ upd (V 18) nl (nI i) q = nI r
      by_cases e : q = nl
      · rw [e, pk_us]
        exact ⟨i, hi, rfl⟩
      · rw [pk_un e]
        exact hG q (by omega)
    · show ∃ r, r < nt ∧ upd (V 19) nl (nI j) q = nI r
      by_cases e : q = nl
      · rw [e, pk_us]
        exact ⟨j, hj, rfl⟩
      · rw [pk_un e]
        exact hB q (by omega)
  refine Or.inl ⟨rfl, ok_n (by omega), h.mf.2.2.2.2.1, nt, nc, nq, nl + 1, wk, ?_, fun q hq => ?_, hb.2.1, fun q hq => ?_⟩
  · refine cR_mk hwf h.zo (ag_mk ?_ ?_ ?_ ?_ (fun q hq => ?_) (fun q hq => ?_) (fun q hq => ?_) (fun q hq => ?_) (fun q hq => ?_) (fun u hu q hq => ?_) (fun u hu q hq => ?_)) ?_ h.sb h.st h.rk h.que
    · exact h.eq.a0.trans (hN 0 (by omega) (by omega) (by omega) (by omega)).symm
    · exact h.eq.a3.trans (hN 1 (by omega) (by omega) (by omega) (by omega)).symm
    · exact h.eq.a8.trans (hN 2 (by omega) (by omega) (by omega) (by omega)).symm
    · show nI (nl + 1) = fm_lnt (M 1) nl (nI i) (nI j) i j (nI k) w 3
      rw [fm_lnt, pk_us]
    · exact (h.eq.a1 q hq).trans (hN _ (by omega) (by omega) (by omega) (by omega)).symm
    · exact (h.eq.a2 q hq).trans (hN _ (by omega) (by omega) (by omega) (by omega)).symm
    · show upd (upd (V 4) i (V 4 i - nI k)) j (upd (V 4) i (V 4 i - nI k) j + nI k) q = fm_lnt (M 1) nl (nI i) (nI j) i j (nI k) w (49 + 3 * q + 0)
      by_cases e : q = j
      · rw [e, pk_us, pk_un (Ne.symm hij), fm_lnt, pk_un (by omega), e4j]
        refine Eq.trans ?_ pk_us.symm
        rw [fm_t, fm_ta_ne (by omega), pk_un (by omega), pk_un (by omega), pk_un (by omega), pk_un (by omega), pk_un (by omega), pk_un (by omega)]
      · rw [pk_un e]
        by_cases e2 : q = i
        · rw [e2, pk_us, fm_lnt, pk_un (by omega), fm_ta_ne (by omega), Int32.sub_eq_add_neg, e4i]
          refine Eq.trans ?_ pk_us.symm
          rw [fm_t, pk_un (by omega), pk_un (by omega), pk_un (by omega), pk_un (by omega), pk_un (by omega), pk_un (by omega)]
        · rw [pk_un e2, hN _ (by omega) (by omega) (by omega) (by omega)]
          exact h.eq.t (r := 4) hq
    · exact (h.eq.t (r := 6) hq).trans (hN _ (by omega) (by omega) (by omega) (by omega)).symm
    · exact (h.eq.t (r := 7) hq).trans (hN _ (by omega) (by omega) (by omega) (by omega)).symm
    · have e1 : V (9 + u) q = M 1 (67 + 7 * q + u) := h.eq.cw hu hq
      have hnc := h.wf.2.2.2.1
      show fz_lent V nl (nI i) (nI j) i j (nI k) w (9 + u) q = fm_lnt (M 1) nl (nI i) (nI j) i j (nI k) w (67 + 7 * q + u)
      rw [hN _ (by omega) (by omega) (by omega) (by omega), ← e1, fz_lent, fz_up_ne (by omega), fz_up_ne (by omega), fz_up_ne (by omega), fz_up_ne (by omega), fz_up_ne (by omega), fz_up_ne (by omega), fz_up_ne (by omega), fz_up_ne (by omega)]
    · show _ = fm_lnt (M 1) nl (nI i) (nI j) i j (nI k) w (277 + 6 * q + u)
      by_cases e : q = nl
      · subst e
        rw [hL u hu]
        rcases (show u = 0 ∨ u = 1 ∨ u = 2 ∨ u = 3 ∨ u = 4 ∨ u = 5 by omega) with rfl | rfl | rfl | rfl | rfl | rfl
        · show upd (V 18) q (nI i) q = _
          rw [pk_us, pk_un (by omega), pk_un (by omega), pk_un (by omega), pk_un (by omega), pk_un (by omega)]
          exact pk_us.symm
        · show upd (V 19) q (nI j) q = _
          rw [pk_us, pk_un (by omega), pk_un (by omega), pk_un (by omega), pk_un (by omega)]
          exact pk_us.symm
        · show upd (V 20) q (nI k) q = _
          rw [pk_us, pk_un (by omega), pk_un (by omega), pk_un (by omega)]
          exact pk_us.symm
        · show upd (V 21) q (nI k) q = _
          rw [pk_us, pk_un (by omega), pk_un (by omega)]
          exact pk_us.symm
        · show upd (V 22) q w q = _
          rw [pk_us, pk_un (by omega)]
          exact pk_us.symm
        · show upd (V 23) q (V 0 0) q = _
          rw [pk_us]
          exact h.eq.a0.trans pk_us.symm
      · have e1 : V (18 + u) q = M 1 (277 + 6 * q + u) := h.eq.lw hu (by omega)
        rw [hN _ (by omega) (by omega) (by omega) (by omega), ← e1]
        rcases (show u = 0 ∨ u = 1 ∨ u = 2 ∨ u = 3 ∨ u = 4 ∨ u = 5 by omega) with rfl | rfl | rfl | rfl | rfl | rfl
        · exact pk_un e
        · exact pk_un e
        · exact pk_un e
        · exact pk_un e
        · exact pk_un e
        · exact pk_un e
    · exact (hN 8 (by omega) (by omega) (by omega) (by omega)).trans h.bro
  · show ∃ r, r ≤ B + 6600 ∧ upd (upd (V 4) i (V 4 i - nI k)) j (upd (V 4) i (V 4 i - nI k) j + nI k) q = nI r
    by_cases e : q = j
    · rw [e, pk_us, pk_un (Ne.symm hij), efj, nI_add]
      exact ⟨fj + k, by omega, rfl⟩
    · rw [pk_un e]
      by_cases e2 : q = i
      · rw [e2, pk_us, efi, pk_sub hle]
        exact ⟨fi - k, by omega, rfl⟩
      · rw [pk_un e2]
        obtain ⟨r, h1, h2⟩ := hb.1 q hq
        exact ⟨r, by omega, h2⟩
  · show ∃ r, r ≤ 500 ∧ upd (V 21) nl (nI k) q = nI r
    by_cases e : q = nl
    · rw [e, pk_us]
      exact ⟨k, hk, rfl⟩
    · rw [pk_un e]
      exact hb.2.2 q (by omega)
theorem sim_lend (h : cR V (M 1) nt nc nq nl wk) (hb : cB V nt nc nl B) (hB : B < 2000000000) (f g y w : Int32) : sim V M B 1 2 3 (fz_lend V nt nl f g y w) (fm_lend M nl f g y w) := by
  have ea3 : V 3 0 = M 1 1 := h.eq.a3
  have ea0 : V 0 0 = M 1 0 := h.eq.a0
  have R1 : sim V M B 1 2 3 (-1, V) (1, M) := Or.inr ⟨rfl, rfl, Or.inl ⟨rfl, rfl⟩⟩
  have R2 : sim V M B 1 2 3 (-2, V) (2, M) := Or.inr ⟨rfl, rfl, Or.inr (Or.inl ⟨rfl, rfl⟩)⟩
  have R3 : sim V M B 1 2 3 (-3, V) (3, M) := Or.inr ⟨rfl, rfl, Or.inr (Or.inr ⟨rfl, rfl⟩)⟩
  have ow : fz_owes (fm_l (M 1) 1) (fm_l (M 1) 3) (fm_l (M 1) 4) (M 1 0) nl g = fz_owes (V 19) (V 21) (V 22) (V 0 0) nl g := (ag_owes h.eq g).symm
  rw [fz_lend, fm_lend, ow, ea3]
  by_cases c1 : fz_ix f (M 1 1) = true
  · rw [if_pos c1, if_pos c1]
    by_cases c2 : fz_ix g (M 1 1) = true
    · rw [if_pos c2, if_pos c2]
      by_cases c3 : f = g
      · rw [if_pos c3, if_pos c3]
        exact R2
      · rw [if_neg c3, if_neg c3]
        by_cases c4 : y < 1
        · have i1 : ¬ fm_in y 1 500 = true := by simp [fm_in, c4]
          rw [if_pos c4, if_neg i1]
          exact R2
        · rw [if_neg c4]
          by_cases c5 : 500 < y
          · have i1 : ¬ fm_in y 1 500 = true := by simp [fm_in, c5]
            rw [if_pos c5, if_neg i1]
            exact R2
          · have i1 : fm_in y 1 500 = true := by simp [fm_in, c4, c5]
            rw [if_neg c5, if_pos i1]
            by_cases c6 : w < 0
            · have i2 : ¬ fm_in w 0 39 = true := by simp [fm_in, c6]
              rw [if_pos c6, if_neg i2]
              exact R2
            · rw [if_neg c6]
              by_cases c7 : w ≤ 39
              · have i2 : fm_in w 0 39 = true := by simp [fm_in, c6, c7]
                rw [if_pos c7, if_pos i2, ea0]
                by_cases c8 : w < M 1 0
                · rw [if_pos c8, if_pos c8]
                  exact R3
                · rw [if_neg c8, if_neg c8]
                  have hnl := h.wf.2.2.2.2.2.2.2.1
                  have hnt := h.wf.2.1
                  by_cases c9 : 12 ≤ nl
                  · have i3 : nl = 12 := by omega
                    rw [if_pos c9, if_pos i3]
                    exact R3
                  · have i3 : ¬ nl = 12 := by omega
                    rw [if_neg c9, if_neg i3]
                    obtain ⟨ef, hf⟩ := fz_ix_s c1 h.mf.1 (by omega)
                    obtain ⟨eg, hg⟩ := fz_ix_s c2 h.mf.1 (by omega)
                    have e4 : fm_t (M 1) 0 f.toNatClampNeg = V 4 f.toNatClampNeg := (h.eq.t (r := 4) hf).symm
                    rw [e4]
                    by_cases c10 : V 4 f.toNatClampNeg < y
                    · rw [if_pos c10, if_pos c10]
                      exact R3
                    · rw [if_neg c10, if_neg c10]
                      by_cases c11 : fz_owes (V 19) (V 21) (V 22) (M 1 0) nl g = true
                      · rw [if_pos c11, if_pos c11]
                        exact R3
                      · rw [if_neg c11, if_neg c11]
                        obtain ⟨k, hk1, hk5, ek⟩ := amount c4 (Int32.not_lt.mp c5)
                        have hne : f.toNatClampNeg ≠ g.toNatClampNeg := fun z => c3 (by rw [ef, eg, z])
                        rw [ek] at c10
                        have r := sim_lend2 h hb hB hf hg hne hk5 (by omega) c10 w
                        rw [← ef, ← eg, ← ek] at r
                        exact r
              · have i2 : ¬ fm_in w 0 39 = true := by simp [fm_in, c7]
                rw [if_neg c7, if_neg i2]
                exact R2
    · rw [if_neg c2, if_neg c2]
      exact R1
  · rw [if_neg c1, if_neg c1]
    exact R1
end SIM5
