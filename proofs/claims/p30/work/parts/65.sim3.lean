/-! simulation: one change, its team's credits -/
theorem upd_self (f : Nat → Int32) (j i : Nat) : upd f j (f j) i = f i := by
  by_cases e : i = j
  · rw [e, pk_us]
  · rw [pk_un e]
theorem cR_chg {V V' : Nat → Nat → Int32} {N N' : Nat → Int32} {nt nc nq nq' nl wk z j : Nat} {a4 a7 a11 a12 a14 a15 : Int32} (h : cR V N nt nc nq nl wk) (hz : z < nc) (hj : j < nt)
    (wf : fz_wf V' nt nc nq' nl wk) (que : cq (V' 10) (fun c => fz_open (V' 11 c)) nc (V' 16) nq')
    (eo : ∀ r, (r < 4 ∨ r = 5 ∨ r = 6 ∨ r = 9 ∨ r = 10 ∨ r = 13 ∨ 17 ≤ r) → V' r = V r) (e8 : V' 8 0 = V 8 0)
    (f4 : ∀ i, i < nt → V' 4 i = upd (V 4) j a4 i) (f7 : ∀ i, i < nt → V' 7 i = upd (V 7) j a7 i) (f11 : ∀ i, i < nc → V' 11 i = upd (V 11) z a11 i) (f12 : ∀ i, i < nc → V' 12 i = upd (V 12) z a12 i) (f14 : ∀ i, i < nc → V' 14 i = upd (V 14) z a14 i) (f15 : ∀ i, i < nc → V' 15 i = upd (V 15) z a15 i)
    (g4 : N' (49 + 3 * j + 0) = a4) (g7 : N' (49 + 3 * j + 2) = a7) (g11 : N' (67 + 7 * z + 2) = a11) (g12 : N' (67 + 7 * z + 3) = a12) (g14 : N' (67 + 7 * z + 5) = a14) (g15 : N' (67 + 7 * z + 6) = a15)
    (gN : ∀ p, p ≠ 49 + 3 * j + 0 → p ≠ 49 + 3 * j + 2 → p ≠ 67 + 7 * z + 2 → p ≠ 67 + 7 * z + 3 → p ≠ 67 + 7 * z + 5 → p ≠ 67 + 7 * z + 6 → N' p = N p) (s11 : ∃ k, k ≤ 4 ∧ a11 = nI k) : cR V' N' nt nc nq' nl wk := by
  have hnc := h.wf.2.2.2.1
  have hnt := h.wf.2.1
  have hN : ∀ p, (p < 49 ∨ 277 ≤ p) → N' p = N p := fun p hp => gN p (by omega) (by omega) (by omega) (by omega) (by omega) (by omega)
  refine cR_mk wf (by rw [eo 2 (by omega)]; exact h.zo) (ag_mk ?_ ?_ ?_ ?_ (fun i hi => ?_) (fun i hi => ?_) (fun i hi => ?_) (fun i hi => ?_) (fun i hi => ?_) (fun w hw i hi => ?_) (fun w hw i hi => ?_)) ?_ (fun i hi => ?_) (fun i hi => ?_) (fun i hi => ?_) que
  · rw [eo 0 (by omega), hN 0 (by omega)]
    exact h.eq.a0
  · rw [eo 3 (by omega), hN 1 (by omega)]
    exact h.eq.a3
  · rw [e8, hN 2 (by omega)]
    exact h.eq.a8
  · rw [eo 17 (by omega), hN 3 (by omega)]
    exact h.eq.a17
  · rw [eo 1 (by omega), hN _ (by omega)]
    exact h.eq.a1 i hi
  · rw [eo 2 (by omega), hN _ (by omega)]
    exact h.eq.a2 i hi
  · show _ = N' (49 + 3 * i + 0)
    rw [f4 i hi]
    by_cases e : i = j
    · rw [e, pk_us, g4]
    · rw [pk_un e, gN _ (by omega) (by omega) (by omega) (by omega) (by omega) (by omega)]
      exact h.eq.t (r := 4) hi
  · show _ = N' (49 + 3 * i + 1)
    rw [eo 6 (by omega), gN _ (by omega) (by omega) (by omega) (by omega) (by omega) (by omega)]
    exact h.eq.t (r := 6) hi
  · show _ = N' (49 + 3 * i + 2)
    rw [f7 i hi]
    by_cases e : i = j
    · rw [e, pk_us, g7]
    · rw [pk_un e, gN _ (by omega) (by omega) (by omega) (by omega) (by omega) (by omega)]
      exact h.eq.t (r := 7) hi
  · have e1 := h.eq.cw hw hi
    show _ = N' (67 + 7 * i + w)
    have e1 : V (9 + w) i = N (67 + 7 * i + w) := e1
    by_cases e : i = z
    · subst e
      rcases (show w = 0 ∨ w = 1 ∨ w = 2 ∨ w = 3 ∨ w = 4 ∨ w = 5 ∨ w = 6 by omega) with rfl | rfl | rfl | rfl | rfl | rfl | rfl
      · rw [eo 9 (by omega), e1, gN _ (by omega) (by omega) (by omega) (by omega) (by omega) (by omega)]
      · rw [eo 10 (by omega), e1, gN _ (by omega) (by omega) (by omega) (by omega) (by omega) (by omega)]
      · rw [f11 i hi, pk_us, g11]
      · rw [f12 i hi, pk_us, g12]
      · rw [eo 13 (by omega), e1, gN _ (by omega) (by omega) (by omega) (by omega) (by omega) (by omega)]
      · rw [f14 i hi, pk_us, g14]
      · rw [f15 i hi, pk_us, g15]
    · rw [gN _ (by omega) (by omega) (by omega) (by omega) (by omega) (by omega), ← e1]
      rcases (show w = 0 ∨ w = 1 ∨ w = 2 ∨ w = 3 ∨ w = 4 ∨ w = 5 ∨ w = 6 by omega) with rfl | rfl | rfl | rfl | rfl | rfl | rfl
      · rw [eo 9 (by omega)]
      · rw [eo 10 (by omega)]
      · rw [f11 i hi, pk_un e]
      · rw [f12 i hi, pk_un e]
      · rw [eo 13 (by omega)]
      · rw [f14 i hi, pk_un e]
      · rw [f15 i hi, pk_un e]
  · show _ = N' (277 + 6 * i + w)
    rw [eo (18 + w) (by omega), hN _ (by omega)]
    exact h.eq.lw hw hi
  · rw [hN 8 (by omega), eo 5 (by omega)]
    exact h.bro
  · rw [eo 1 (by omega)]
    exact h.sb i hi
  · rw [f11 i hi]
    by_cases e : i = z
    · rw [e, pk_us]
      exact s11
    · rw [pk_un e]
      exact h.st i hi
  · rw [eo 10 (by omega)]
    exact h.rk i hi
section SIM3
variable {V M : Nat → Nat → Int32} {nt nc nq nl wk B : Nat}
theorem open_le {s : Int32} (h : ∃ j, j ≤ 4 ∧ s = nI j) : fz_open s = decide (s ≤ 1) := by
  obtain ⟨j, hj, e⟩ := h
  rw [e]
  rcases (show j = 0 ∨ j = 1 ∨ j = 2 ∨ j = 3 ∨ j = 4 by omega) with rfl | rfl | rfl | rfl | rfl <;> decide
theorem fz_reason_0 {nl z : Nat} (h : fz_reason V nl z = 0) : V 11 z = 0 ∧ V 10 z * V 1 0 ≤ V 4 (V 9 z).toNatClampNeg := by
  unfold fz_reason at h
  by_cases c1 : V 11 z = 0
  · rw [if_pos c1] at h
    by_cases c2 : fz_owes (V 19) (V 21) (V 22) (V 0 0) nl (V 9 z) = true
    · rw [if_pos c2] at h
      exact absurd h (by decide)
    · rw [if_neg c2] at h
      by_cases c3 : V 10 z * V 1 0 ≤ V 4 (V 9 z).toNatClampNeg
      · exact ⟨c1, c3⟩
      · rw [if_neg c3] at h
        exact absurd h (by decide)
  · rw [if_neg c1] at h
    exact absurd h (by decide)
theorem sim_exempt (h : cR V (M 1) nt nc nq nl wk) (hb : cB V nt nc nl B) (hB : B < 2000000000) (x : Int32) : sim V M B 1 9 2 (fz_exempt V nc nl x) (fm_exm M nl x) := by
  have ea8 : V 8 0 = M 1 2 := h.eq.a8
  rw [fz_exempt, fm_exm, ea8]
  by_cases c1 : fz_ix x (M 1 2) = true
  · rw [if_pos c1, if_pos c1]
    obtain ⟨ex, hz⟩ := fz_ix_s c1 h.mf.2.2.1 (by have := h.wf.2.2.2.1; omega)
    obtain ⟨z, ez⟩ : ∃ z, z = x.toNatClampNeg := ⟨_, rfl⟩
    rw [← ez] at hz ⊢
    obtain ⟨j, hj, ej⟩ := h.at9 hz
    have hnt := h.wf.2.1
    have ej' : (V 9 z).toNatClampNeg = j := fz_tnat ej (by omega)
    have er := ag_reason h.eq hz (by rw [ej']; exact hj)
    rw [← er]
    by_cases c2 : fz_reason V nl z = 0
    · rw [if_pos c2, if_pos c2]
      obtain ⟨s0, hp⟩ := fz_reason_0 c2
      have e9 : fm_c (M 1) 0 z = V 9 z := (h.eq.cw (w := 0) (by decide) hz).symm
      have ep : fm_c (M 1) 1 z * M 1 4 = V 10 z * V 1 0 := by rw [← h.eq.cw (w := 1) (by decide) hz, h.eq.a1 0 (by decide)]; rfl
      rw [e9, ej'] at *
      obtain ⟨a, ha1, ha9, ea⟩ := h.rk z hz
      obtain ⟨b, hb1, hb20, eb⟩ := h.price
      have hab : a * b ≤ 180 := Nat.le_trans (Nat.mul_le_mul ha9 hb20) (by decide)
      have epv : V 10 z * V 1 0 = nI (a * b) := by rw [ea, eb, pk_mul]
      obtain ⟨fr, hfr, efr⟩ := hb.1 j hj
      rw [epv, efr] at hp
      rw [fz_exempt2, fm_exm2, ep, epv]
      have hle : a * b ≤ fr := (nI_leI (by omega) (by omega)).mp hp
      have hnc := h.wf.2.2.2.1
      have e4 : V 4 j = M 1 (49 + 3 * j + 0) := h.eq.t (r := 4) hj
      have e7 : V 7 j = M 1 (49 + 3 * j + 2) := h.eq.t (r := 7) hj
      have e14 : V 14 z = M 1 (67 + 7 * z + 5) := h.eq.cw (w := 5) (by decide) hz
      have e15 : V 15 z = M 1 (67 + 7 * z + 6) := h.eq.cw (w := 6) (by decide) hz
      refine Or.inl ⟨rfl, ok_n (by omega), rfl, nt, nc, nq, nl, wk, cR_chg (z := z) (j := j) (a4 := V 4 j - nI (a * b)) (a7 := V 7 j) (a11 := 1) (a12 := nI (a * b)) (a14 := V 14 z) (a15 := V 15 z) h hz hj h.wf ?_ (fun r hr => ?_) rfl (fun _ _ => rfl) (fun i _ => (upd_self (V 7) j i).symm) (fun _ _ => rfl) (fun _ _ => rfl) (fun i _ => (upd_self (V 14) z i).symm) (fun i _ => (upd_self (V 15) z i).symm) ?_ ?_ ?_ ?_ ?_ ?_ (fun q h1 h2 h3 h4 h5 h6 => ?_) ⟨1, by omega, rfl⟩, fun i hi => ?_, fun i hi => ?_, hb.2.2⟩
      · show cq (V 10) (fun c => fz_open (upd (V 11) z 1 c)) nc (V 16) nq
        rw [cq, cwl_cong (rk' := V 10) (op' := fun c => fz_open (V 11 c)) (fun _ _ => rfl) (fun c _ => by
          show fz_open (upd (V 11) z 1 c) = fz_open (V 11 c)
          by_cases e : c = z
          · rw [e, pk_us, s0]
            rfl
          · rw [pk_un e])]
        exact h.que
      · show fz_up (fz_up (fz_up V 4 (upd (V 4) j (V 4 j - nI (a * b)))) 11 (upd (V 11) z 1)) 12 (upd (V 12) z (nI (a * b))) r = V r
        rw [fz_up_ne (by omega), fz_up_ne (by omega), fz_up_ne (by omega)]
      · show fm_cs (fm_cs (fm_ta (M 1) 0 j (-nI (a * b))) 3 z (nI (a * b))) 2 z 1 (49 + 3 * j + 0) = _
        rw [fm_cs_ne (by omega), fm_cs_ne (by omega), Int32.sub_eq_add_neg, e4]
        exact pk_us
      · show fm_cs (fm_cs (fm_ta (M 1) 0 j (-nI (a * b))) 3 z (nI (a * b))) 2 z 1 (49 + 3 * j + 2) = _
        rw [fm_cs_ne (by omega), fm_cs_ne (by omega), fm_ta_ne (by omega), e7]
      · exact pk_us
      · show fm_cs (fm_cs (fm_ta (M 1) 0 j (-nI (a * b))) 3 z (nI (a * b))) 2 z 1 (67 + 7 * z + 3) = _
        rw [fm_cs_ne (by omega)]
        exact pk_us
      · show fm_cs (fm_cs (fm_ta (M 1) 0 j (-nI (a * b))) 3 z (nI (a * b))) 2 z 1 (67 + 7 * z + 5) = _
        rw [fm_cs_ne (by omega), fm_cs_ne (by omega), fm_ta_ne (by omega), e14]
      · show fm_cs (fm_cs (fm_ta (M 1) 0 j (-nI (a * b))) 3 z (nI (a * b))) 2 z 1 (67 + 7 * z + 6) = _
        rw [fm_cs_ne (by omega), fm_cs_ne (by omega), fm_ta_ne (by omega), e15]
      · show fm_cs (fm_cs (fm_ta (M 1) 0 j (-nI (a * b))) 3 z (nI (a * b))) 2 z 1 q = _
        rw [fm_cs_ne (by omega), fm_cs_ne (by omega), fm_ta_ne (by omega)]
      · show ∃ k, k ≤ B + 6600 ∧ upd (V 4) j (V 4 j - nI (a * b)) i = nI k
        by_cases e : i = j
        · rw [e, pk_us, efr, pk_sub hle]
          exact ⟨fr - a * b, by omega, rfl⟩
        · rw [pk_un e]
          obtain ⟨k, h1, h2⟩ := hb.1 i hi
          exact ⟨k, by omega, h2⟩
      · show ∃ k, k ≤ 180 ∧ upd (V 12) z (nI (a * b)) i = nI k
        by_cases e : i = z
        · rw [e, pk_us]
          exact ⟨a * b, hab, rfl⟩
        · rw [pk_un e]
          exact hb.2.1 i hi
    · rw [if_neg c2, if_neg c2]
      exact Or.inr ⟨rfl, rfl, Or.inr (Or.inr ⟨rfl, rfl⟩)⟩
  · rw [if_neg c1, if_neg c1]
    exact Or.inr ⟨rfl, rfl, Or.inl ⟨rfl, rfl⟩⟩
theorem fz_wf_q {U : Nat → Nat → Int32} {z : Int32} (wf : fz_wf V nt nc nq nl wk) (h3 : U 3 0 = V 3 0) (h8 : U 8 0 = V 8 0) (h17 : U 17 0 = V 17 0) (h0 : U 0 0 = V 0 0) (h9 : U 9 = V 9) (h18 : U 18 = V 18) (h19 : U 19 = V 19) (hq : U 8 1 = nI (fz_deq z (V 16) nq).1) (h16 : U 16 = (fz_deq z (V 16) nq).2) : fz_wf U nt nc (fz_deq z (V 16) nq).1 nl wk := by
  obtain ⟨hnt, hnt6, hnc, hnc30, hnq, hqc, hnl, hnl12, hwk, hwk39, hT, hQ, hG, hB⟩ := wf
  obtain ⟨g1, g2, -⟩ := fz_deq_P (P := fun y => ∃ j, j < nc ∧ y = nI j) (z := z) nq hQ
  exact ⟨h3.trans hnt, hnt6, h8.trans hnc, hnc30, hq, Nat.le_trans g1 hqc, h17.trans hnl, hnl12, h0.trans hwk, hwk39, by rw [h9]; exact hT, by rw [h16]; exact g2, by rw [h18]; exact hG, by rw [h19]; exact hB⟩
/-- a change that no longer waits -/
theorem que_del (h : cR V (M 1) nt nc nq nl wk) {z : Nat} (hz : z < nc) {e : Int32} (he : fz_open e = false) : cq (V 10) (fun c => fz_open (upd (V 11) z e c)) nc (fz_deq (nI z) (V 16) nq).2 (fz_deq (nI z) (V 16) nq).1 := by
  have hnc := h.wf.2.2.2.1
  refine cq_deq (by omega) hz h.que (fun c _ => ?_)
  show fz_open (upd (V 11) z e c) = (fz_open (V 11 c) && decide (c ≠ z))
  by_cases q : c = z
  · rw [q, pk_us, he]
    simp
  · rw [pk_un q]
    simp [q]
theorem sim_drop (h : cR V (M 1) nt nc nq nl wk) (hb : cB V nt nc nl B) (hB : B < 2000000000) (x : Int32) : sim V M B 1 9 2 (fz_drop V nc nq x) (fm_give M x) := by
  have ea8 : V 8 0 = M 1 2 := h.eq.a8
  rw [fz_drop, fm_give, ea8]
  by_cases c1 : fz_ix x (M 1 2) = true
  · rw [if_pos c1, if_pos c1]
    obtain ⟨ex, hz⟩ := fz_ix_s c1 h.mf.2.2.1 (by have := h.wf.2.2.2.1; omega)
    obtain ⟨z, ez⟩ : ∃ z, z = x.toNatClampNeg := ⟨_, rfl⟩
    rw [← ez] at hz ⊢
    obtain ⟨j, hj, ej⟩ := h.at9 hz
    have hnt := h.wf.2.1
    have hnc := h.wf.2.2.2.1
    have ej' : (V 9 z).toNatClampNeg = j := fz_tnat ej (by omega)
    have e9 : fm_c (M 1) 0 z = V 9 z := (h.eq.cw (w := 0) (by decide) hz).symm
    have e11 : fm_c (M 1) 2 z = V 11 z := (h.eq.cw (w := 2) (by decide) hz).symm
    have e12 : fm_c (M 1) 3 z = V 12 z := (h.eq.cw (w := 3) (by decide) hz).symm
    rw [e9, e11, ej', open_le (h.st z hz)]
    by_cases c2 : V 11 z ≤ 1
    · rw [if_pos (decide_eq_true c2), if_pos c2]
      obtain ⟨hd, hhd, ehd⟩ := hb.2.1 z hz
      obtain ⟨fr, hfr, efr⟩ := hb.1 j hj
      rw [fz_drop2, fm_give2, e12]
      have e4 : V 4 j = M 1 (49 + 3 * j + 0) := h.eq.t (r := 4) hj
      have e7 : V 7 j = M 1 (49 + 3 * j + 2) := h.eq.t (r := 7) hj
      have e14 : V 14 z = M 1 (67 + 7 * z + 5) := h.eq.cw (w := 5) (by decide) hz
      have e15 : V 15 z = M 1 (67 + 7 * z + 6) := h.eq.cw (w := 6) (by decide) hz
      refine Or.inl ⟨rfl, by rw [ehd]; exact ok_n (by omega), rfl, nt, nc, (fz_deq (nI z) (V 16) nq).1, nl, wk, cR_chg (z := z) (j := j) (a4 := V 4 j + V 12 z) (a7 := V 7 j) (a11 := 4) (a12 := 0) (a14 := V 14 z) (a15 := V 15 z) h hz hj (fz_wf_q h.wf rfl rfl rfl rfl rfl rfl rfl rfl rfl) (que_del h hz rfl) (fun r hr => ?_) rfl (fun _ _ => rfl) (fun i _ => (upd_self (V 7) j i).symm) (fun _ _ => rfl) (fun _ _ => rfl) (fun i _ => (upd_self (V 14) z i).symm) (fun i _ => (upd_self (V 15) z i).symm) ?_ ?_ ?_ ?_ ?_ ?_ (fun q h1 h2 h3 h4 h5 h6 => ?_) ⟨4, by omega, rfl⟩, fun i hi => ?_, fun i hi => ?_, hb.2.2⟩
      · show fz_up (fz_cls V z 4 nq) 4 (upd (V 4) j (V 4 j + V 12 z)) r = V r
        rw [fz_up_ne (by omega), fz_cls, fz_up_ne (by omega), fz_up_ne (by omega), fz_up_ne (by omega), fz_up_ne (by omega)]
      · show fm_cs (fm_cs (fm_ta (M 1) 0 j (V 12 z)) 3 z 0) 2 z 4 (49 + 3 * j + 0) = _
        rw [fm_cs_ne (by omega), fm_cs_ne (by omega), e4]
        exact pk_us
      · show fm_cs (fm_cs (fm_ta (M 1) 0 j (V 12 z)) 3 z 0) 2 z 4 (49 + 3 * j + 2) = _
        rw [fm_cs_ne (by omega), fm_cs_ne (by omega), fm_ta_ne (by omega), e7]
      · exact pk_us
      · show fm_cs (fm_cs (fm_ta (M 1) 0 j (V 12 z)) 3 z 0) 2 z 4 (67 + 7 * z + 3) = _
        rw [fm_cs_ne (by omega)]
        exact pk_us
      · show fm_cs (fm_cs (fm_ta (M 1) 0 j (V 12 z)) 3 z 0) 2 z 4 (67 + 7 * z + 5) = _
        rw [fm_cs_ne (by omega), fm_cs_ne (by omega), fm_ta_ne (by omega), e14]
      · show fm_cs (fm_cs (fm_ta (M 1) 0 j (V 12 z)) 3 z 0) 2 z 4 (67 + 7 * z + 6) = _
        rw [fm_cs_ne (by omega), fm_cs_ne (by omega), fm_ta_ne (by omega), e15]
      · show fm_cs (fm_cs (fm_ta (M 1) 0 j (V 12 z)) 3 z 0) 2 z 4 q = _
        rw [fm_cs_ne (by omega), fm_cs_ne (by omega), fm_ta_ne (by omega)]
      · show ∃ k, k ≤ B + 6600 ∧ upd (V 4) j (V 4 j + V 12 z) i = nI k
        by_cases e : i = j
        · rw [e, pk_us, efr, ehd, nI_add]
          exact ⟨fr + hd, by omega, rfl⟩
        · rw [pk_un e]
          obtain ⟨k, h1, h2⟩ := hb.1 i hi
          exact ⟨k, by omega, h2⟩
      · show ∃ k, k ≤ 180 ∧ upd (V 12) z 0 i = nI k
        by_cases e : i = z
        · rw [e, pk_us]
          exact ⟨0, by omega, rfl⟩
        · rw [pk_un e]
          exact hb.2.1 i hi
    · rw [if_neg (by simp [c2]), if_neg c2]
      exact Or.inr ⟨rfl, rfl, Or.inr (Or.inr ⟨rfl, rfl⟩)⟩
  · rw [if_neg c1, if_neg c1]
    exact Or.inr ⟨rfl, rfl, Or.inl ⟨rfl, rfl⟩⟩
end SIM3
