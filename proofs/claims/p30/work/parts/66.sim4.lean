/-! simulation: making -/
theorem lo_min (x y : Int32) : fm_lo x y = fz_min x y := by
  unfold fm_lo fz_min
  by_cases c1 : y < x
  · rw [if_pos (Int32.le_of_lt c1), if_pos c1]
  · rw [if_neg c1]
    by_cases c2 : y ≤ x
    · rw [if_pos c2]
      exact Int32.le_antisymm c2 (Int32.not_lt.mp c1)
    · rw [if_neg c2]
theorem min_n {a b : Nat} (ha : a < 2 ^ 31) (hb : b < 2 ^ 31) : fz_min (nI a) (nI b) = nI (min a b) := by
  unfold fz_min
  by_cases c : b < a
  · rw [if_pos ((nI_ltI hb ha).mpr c), Nat.min_eq_right (Nat.le_of_lt c)]
  · rw [if_neg (fun z => c ((nI_ltI hb ha).mp z)), Nat.min_eq_left (Nat.le_of_not_lt c)]
section SIM4
variable {V M : Nat → Nat → Int32} {nt nc nq nl wk B : Nat}
theorem sim_make2 (h : cR V (M 1) nt nc nq nl wk) (hb : cB V nt nc nl B) (hB : B < 2000000000) {z j : Nat} (hz : z < nc) (hj : j < nt) (fr : Bool) : sim V M B 1 9 2 (fz_make2 V nq z j fr (V 11 z)) (fm_make2 M z j fr) := by
  have hnt := h.wf.2.1
  have hnc := h.wf.2.2.2.1
  have e11 : fm_c (M 1) 2 z = V 11 z := (h.eq.cw (w := 2) (by decide) hz).symm
  have e12 : fm_c (M 1) 3 z = V 12 z := (h.eq.cw (w := 3) (by decide) hz).symm
  have e4 : V 4 j = M 1 (49 + 3 * j + 0) := h.eq.t (r := 4) hj
  have e7 : V 7 j = M 1 (49 + 3 * j + 2) := h.eq.t (r := 7) hj
  have e0 : M 1 0 = V 0 0 := h.eq.a0.symm
  obtain ⟨hd, hhd, ehd⟩ := hb.2.1 z hz
  obtain ⟨fc, hfc, efc⟩ := hb.1 j hj
  obtain ⟨b, hb2, eb⟩ := h.setn (i := 2) (by decide)
  obtain ⟨a, ha1, ha9, ea⟩ := h.rk z hz
  have hba : b * a ≤ 18000 := Nat.le_trans (Nat.mul_le_mul hb2 ha9) (by decide)
  have efi : fm_fine (M 1) z j = fz_fine V z j := by
    rw [fm_fine, fz_fine, lo_min, ← h.eq.cw (w := 1) (by decide) hz, h.eq.a1 2 (by decide), e4]
    rfl
  obtain ⟨fi, hfi, hfi2, efn⟩ : ∃ fi, fi ≤ 18000 ∧ fi ≤ fc ∧ fz_fine V z j = nI fi := ⟨min (b * a) fc, Nat.le_trans (Nat.min_le_left _ _) hba, Nat.min_le_right _ _, by rw [fz_fine, eb, ea, efc, pk_mul, min_n (by omega) (by omega)]⟩
  cases fr with
  | true =>
    rw [fz_make2, fm_make2, cond_true, cond_true, efi, e12, e11, e0]
    refine Or.inl ⟨rfl, by rw [ehd, efn, nI_add]; exact ok_n (by omega), rfl, nt, nc, (fz_deq (nI z) (V 16) nq).1, nl, wk, cR_chg (z := z) (j := j) (a4 := V 4 j - fz_fine V z j) (a7 := V 7 j + (V 12 z + fz_fine V z j)) (a11 := 3) (a12 := 0) (a14 := V 0 0) (a15 := V 11 z) h hz hj (fz_wf_q h.wf rfl rfl rfl rfl rfl rfl rfl rfl rfl) (que_del h hz rfl) (fun r hr => ?_) rfl (fun _ _ => rfl) (fun _ _ => rfl) (fun _ _ => rfl) (fun _ _ => rfl) (fun _ _ => rfl) (fun _ _ => rfl) ?_ ?_ ?_ ?_ ?_ ?_ (fun q h1 h2 h3 h4 h5 h6 => ?_) ⟨3, by omega, rfl⟩, fun i hi => ?_, fun i hi => ?_, hb.2.2⟩
    · show fz_up (fz_up (fz_mk V z nq 3 (V 0 0) (V 11 z)) 4 (upd (V 4) j (V 4 j - fz_fine V z j))) 7 (upd (V 7) j (V 7 j + (V 12 z + fz_fine V z j))) r = V r
      rw [fz_up_ne (by omega), fz_up_ne (by omega), fz_mk, fz_up_ne (by omega), fz_up_ne (by omega), fz_up_ne (by omega), fz_up_ne (by omega), fz_up_ne (by omega), fz_up_ne (by omega)]
    · show fm_mk (fm_ta (fm_ta (M 1) 0 j (-fz_fine V z j)) 2 j (V 12 z + fz_fine V z j)) z 3 (V 0 0) (V 11 z) (49 + 3 * j + 0) = _
      rw [fm_mk, fm_cs_ne (by omega), fm_cs_ne (by omega), fm_cs_ne (by omega), fm_cs_ne (by omega), fm_ta_ne (by omega), Int32.sub_eq_add_neg, e4]
      exact pk_us
    · show fm_mk (fm_ta (fm_ta (M 1) 0 j (-fz_fine V z j)) 2 j (V 12 z + fz_fine V z j)) z 3 (V 0 0) (V 11 z) (49 + 3 * j + 2) = _
      rw [fm_mk, fm_cs_ne (by omega), fm_cs_ne (by omega), fm_cs_ne (by omega), fm_cs_ne (by omega)]
      refine pk_us.trans ?_
      rw [fm_t, fm_ta_ne (by omega), e7]
    · rw [show ∀ q, (0, fz_up (fz_up M 0 (upd (M 0) 3 (V 12 z + fz_fine V z j))) 1 (fm_mk (fm_ta (fm_ta (M 1) 0 j (-fz_fine V z j)) 2 j (V 12 z + fz_fine V z j)) z 3 (V 0 0) (V 11 z))).2 1 q = fm_mk (fm_ta (fm_ta (M 1) 0 j (-fz_fine V z j)) 2 j (V 12 z + fz_fine V z j)) z 3 (V 0 0) (V 11 z) q from fun _ => rfl, fm_mk, fm_cs_ne (by omega), fm_cs_ne (by omega), fm_cs_ne (by omega)]
      exact pk_us
    · show fm_mk (fm_ta (fm_ta (M 1) 0 j (-fz_fine V z j)) 2 j (V 12 z + fz_fine V z j)) z 3 (V 0 0) (V 11 z) (67 + 7 * z + 3) = _
      rw [fm_mk, fm_cs_ne (by omega), fm_cs_ne (by omega)]
      exact pk_us
    · show fm_mk (fm_ta (fm_ta (M 1) 0 j (-fz_fine V z j)) 2 j (V 12 z + fz_fine V z j)) z 3 (V 0 0) (V 11 z) (67 + 7 * z + 5) = _
      rw [fm_mk, fm_cs_ne (by omega)]
      exact pk_us
    · show fm_mk (fm_ta (fm_ta (M 1) 0 j (-fz_fine V z j)) 2 j (V 12 z + fz_fine V z j)) z 3 (V 0 0) (V 11 z) (67 + 7 * z + 6) = _
      exact pk_us
    · show fm_mk (fm_ta (fm_ta (M 1) 0 j (-fz_fine V z j)) 2 j (V 12 z + fz_fine V z j)) z 3 (V 0 0) (V 11 z) q = _
      rw [fm_mk, fm_cs_ne (by omega), fm_cs_ne (by omega), fm_cs_ne (by omega), fm_cs_ne (by omega), fm_ta_ne (by omega), fm_ta_ne (by omega)]
    · show ∃ k, k ≤ B + 6600 ∧ upd (V 4) j (V 4 j - fz_fine V z j) i = nI k
      by_cases e : i = j
      · rw [e, pk_us, efc, efn, pk_sub hfi2]
        exact ⟨fc - fi, by omega, rfl⟩
      · rw [pk_un e]
        obtain ⟨k, h1, h2⟩ := hb.1 i hi
        exact ⟨k, by omega, h2⟩
    · show ∃ k, k ≤ 180 ∧ upd (V 12) z 0 i = nI k
      by_cases e : i = z
      · rw [e, pk_us]
        exact ⟨0, by omega, rfl⟩
      · rw [pk_un e]
        exact hb.2.1 i hi
  | false =>
    rw [fz_make2, fm_make2, cond_false, cond_false, e12, e11, e0]
    refine Or.inl ⟨rfl, ok_n (n := 0) (by decide), rfl, nt, nc, (fz_deq (nI z) (V 16) nq).1, nl, wk, cR_chg (z := z) (j := j) (a4 := V 4 j + V 12 z) (a7 := V 7 j) (a11 := 2) (a12 := 0) (a14 := V 0 0) (a15 := V 11 z) h hz hj (fz_wf_q h.wf rfl rfl rfl rfl rfl rfl rfl rfl rfl) (que_del h hz rfl) (fun r hr => ?_) rfl (fun _ _ => rfl) (fun i _ => (upd_self (V 7) j i).symm) (fun _ _ => rfl) (fun _ _ => rfl) (fun _ _ => rfl) (fun _ _ => rfl) ?_ ?_ ?_ ?_ ?_ ?_ (fun q h1 h2 h3 h4 h5 h6 => ?_) ⟨2, by omega, rfl⟩, fun i hi => ?_, fun i hi => ?_, hb.2.2⟩
    · show fz_up (fz_mk V z nq 2 (V 0 0) (V 11 z)) 4 (upd (V 4) j (V 4 j + V 12 z)) r = V r
      rw [fz_up_ne (by omega), fz_mk, fz_up_ne (by omega), fz_up_ne (by omega), fz_up_ne (by omega), fz_up_ne (by omega), fz_up_ne (by omega), fz_up_ne (by omega)]
    · show fm_mk (fm_ta (M 1) 0 j (V 12 z)) z 2 (V 0 0) (V 11 z) (49 + 3 * j + 0) = _
      rw [fm_mk, fm_cs_ne (by omega), fm_cs_ne (by omega), fm_cs_ne (by omega), fm_cs_ne (by omega), e4]
      exact pk_us
    · show fm_mk (fm_ta (M 1) 0 j (V 12 z)) z 2 (V 0 0) (V 11 z) (49 + 3 * j + 2) = _
      rw [fm_mk, fm_cs_ne (by omega), fm_cs_ne (by omega), fm_cs_ne (by omega), fm_cs_ne (by omega), fm_ta_ne (by omega), e7]
    · show fm_mk (fm_ta (M 1) 0 j (V 12 z)) z 2 (V 0 0) (V 11 z) (67 + 7 * z + 2) = _
      rw [fm_mk, fm_cs_ne (by omega), fm_cs_ne (by omega), fm_cs_ne (by omega)]
      exact pk_us
    · show fm_mk (fm_ta (M 1) 0 j (V 12 z)) z 2 (V 0 0) (V 11 z) (67 + 7 * z + 3) = _
      rw [fm_mk, fm_cs_ne (by omega), fm_cs_ne (by omega)]
      exact pk_us
    · show fm_mk (fm_ta (M 1) 0 j (V 12 z)) z 2 (V 0 0) (V 11 z) (67 + 7 * z + 5) = _
      rw [fm_mk, fm_cs_ne (by omega)]
      exact pk_us
    · show fm_mk (fm_ta (M 1) 0 j (V 12 z)) z 2 (V 0 0) (V 11 z) (67 + 7 * z + 6) = _
      exact pk_us
    · show fm_mk (fm_ta (M 1) 0 j (V 12 z)) z 2 (V 0 0) (V 11 z) q = _
      rw [fm_mk, fm_cs_ne (by omega), fm_cs_ne (by omega), fm_cs_ne (by omega), fm_cs_ne (by omega), fm_ta_ne (by omega)]
    · show ∃ k, k ≤ B + 6600 ∧ upd (V 4) j (V 4 j + V 12 z) i = nI k
      by_cases e : i = j
      · rw [e, pk_us, efc, ehd, nI_add]
        exact ⟨fc + hd, by omega, rfl⟩
      · rw [pk_un e]
        obtain ⟨k, h1, h2⟩ := hb.1 i hi
        exact ⟨k, by omega, h2⟩
    · show ∃ k, k ≤ 180 ∧ upd (V 12) z 0 i = nI k
      by_cases e : i = z
      · rw [e, pk_us]
        exact ⟨0, by omega, rfl⟩
      · rw [pk_un e]
        exact hb.2.1 i hi
theorem sim_make (h : cR V (M 1) nt nc nq nl wk) (hb : cB V nt nc nl B) (hB : B < 2000000000) (x : Int32) (fr : Bool) : sim V M B 1 9 2 (fz_make V nc nq wk x fr) (fm_make M wk x fr) := by
  have ea8 : V 8 0 = M 1 2 := h.eq.a8
  rw [fz_make, fm_make, ea8]
  by_cases c1 : fz_ix x (M 1 2) = true
  · rw [if_pos c1, if_pos c1]
    obtain ⟨ex, hz⟩ := fz_ix_s c1 h.mf.2.2.1 (by have := h.wf.2.2.2.1; omega)
    obtain ⟨z, ez⟩ : ∃ z, z = x.toNatClampNeg := ⟨_, rfl⟩
    rw [← ez] at hz ⊢
    obtain ⟨j, hj, ej⟩ := h.at9 hz
    have hnt := h.wf.2.1
    have ej' : (V 9 z).toNatClampNeg = j := fz_tnat ej (by omega)
    have e9 : fm_c (M 1) 0 z = V 9 z := (h.eq.cw (w := 0) (by decide) hz).symm
    have e11 : fm_c (M 1) 2 z = V 11 z := (h.eq.cw (w := 2) (by decide) hz).symm
    have hwk : wk < 40 := by have := h.wf.2.2.2.2.2.2.2.2.2.1; omega
    have e2 : V 2 wk = M 1 (9 + wk) := h.eq.a2 wk hwk
    have hzo := h.zo wk hwk
    have hs := h.st z hz
    rw [e9, e11, ej', open_le hs]
    have hmk := sim_make2 h hb hB hz hj fr
    by_cases c2 : V 11 z ≤ 1
    · rw [if_pos (decide_eq_true c2), if_neg (Int32.not_lt.mpr c2)]
      obtain ⟨s, hs4, es⟩ := hs
      have hs1 : s ≤ 1 := (nI_leI (by omega) (by decide : 1 < 2 ^ 31)).mp (by rw [← es]; exact c2)
      rcases (show s = 0 ∨ s = 1 by omega) with rfl | rfl
      · have s0 : V 11 z = 0 := es
        rw [if_neg (by rw [s0]; decide), if_pos s0]
        by_cases c3 : V 2 wk = 0
        · rw [if_pos c3, if_neg (by rw [← e2, c3]; decide)]
          rw [s0] at hmk
          exact hmk
        · have c4 : V 2 wk = 1 := hzo.resolve_left c3
          rw [if_neg c3, if_pos (by rw [← e2, c4]; decide)]
          exact Or.inr ⟨rfl, rfl, Or.inr (Or.inr ⟨rfl, rfl⟩)⟩
      · have s1 : V 11 z = 1 := es
        rw [if_pos s1, if_neg (by rw [s1]; decide)]
        rw [s1] at hmk
        exact hmk
    · rw [if_neg (by simp [c2]), if_pos (Int32.not_le.mp c2)]
      exact Or.inr ⟨rfl, rfl, Or.inr (Or.inr ⟨rfl, rfl⟩)⟩
  · rw [if_neg c1, if_neg c1]
    exact Or.inr ⟨rfl, rfl, Or.inl ⟨rfl, rfl⟩⟩
end SIM4
