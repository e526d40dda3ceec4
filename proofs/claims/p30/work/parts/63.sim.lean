/-! a call of a class and the model's: simulation -/
theorem fz_up_ne {V : Nat → Nat → Int32} {r k : Nat} {f : Nat → Int32} (h : k ≠ r) : fz_up V r f k = V k := by
  have : Nat.beq k r = false := by
    cases e : Nat.beq k r with
    | false => rfl
    | true => exact absurd (Nat.eq_of_beq_eq_true e) h
  rw [fz_up, this]
  rfl
theorem fz_up_eq {V : Nat → Nat → Int32} {r : Nat} {f : Nat → Int32} : fz_up V r f r = f := by
  have : Nat.beq r r = true := Nat.beq_refl r
  rw [fz_up, this]
  rfl
/-- an answer, not a refusal -/
def okn (x : Int32) : Prop := fz_ok x = true ∧ 0 ≤ x
theorem ok_n {n : Nat} (h : n < 2 ^ 31) : okn (nI n) := by
  have h1 := nI_pos h
  have n1 : nI n ≠ -1 := fun z => h1 (by rw [z]; decide)
  have n2 : nI n ≠ -2 := fun z => h1 (by rw [z]; decide)
  have n3 : nI n ≠ -3 := fun z => h1 (by rw [z]; decide)
  exact ⟨by simp [fz_ok, n1, n2, n3], Int32.not_lt.mp h1⟩
theorem ag_mk {V : Nat → Nat → Int32} {N : Nat → Int32} {nt nc nl : Nat} (h0 : V 0 0 = N 0) (h3 : V 3 0 = N 1) (h8 : V 8 0 = N 2) (h17 : V 17 0 = N 3) (h1 : ∀ i, i < 4 → V 1 i = N (4 + i)) (h2 : ∀ i, i < 40 → V 2 i = N (9 + i)) (h4 : ∀ i, i < nt → V 4 i = fm_t N 0 i) (h6 : ∀ i, i < nt → V 6 i = fm_t N 1 i) (h7 : ∀ i, i < nt → V 7 i = fm_t N 2 i)
    (hc : ∀ w, w < 7 → ∀ i, i < nc → V (9 + w) i = fm_c N w i) (hl : ∀ w, w < 6 → ∀ i, i < nl → V (18 + w) i = fm_l N w i) : ag V (fm_V N) nt nc nl := by
  refine ⟨h0, h3, h8, h17, h1, h2, fun r hr i hi => ?_, fun r hr1 hr2 i hi => ?_, fun r hr1 hr2 i hi => ?_⟩
  · rcases hr with rfl | rfl | rfl
    · exact h4 i hi
    · exact h6 i hi
    · exact h7 i hi
  · obtain ⟨w, rfl⟩ : ∃ w, r = 9 + w := ⟨r - 9, by omega⟩
    rw [hc w (by omega) i hi]
    rcases (show w = 0 ∨ w = 1 ∨ w = 2 ∨ w = 3 ∨ w = 4 ∨ w = 5 ∨ w = 6 by omega) with rfl | rfl | rfl | rfl | rfl | rfl | rfl <;> rfl
  · obtain ⟨w, rfl⟩ : ∃ w, r = 18 + w := ⟨r - 18, by omega⟩
    rw [hl w (by omega) i hi]
    rcases (show w = 0 ∨ w = 1 ∨ w = 2 ∨ w = 3 ∨ w = 4 ∨ w = 5 by omega) with rfl | rfl | rfl | rfl | rfl | rfl <;> rfl
theorem ag.cw {V : Nat → Nat → Int32} {N : Nat → Int32} {nt nc nl w i : Nat} (h : ag V (fm_V N) nt nc nl) (hw : w < 7) (hi : i < nc) : V (9 + w) i = fm_c N w i := by
  rw [h.ac (9 + w) (by omega) (by omega) i hi]
  rcases (show w = 0 ∨ w = 1 ∨ w = 2 ∨ w = 3 ∨ w = 4 ∨ w = 5 ∨ w = 6 by omega) with rfl | rfl | rfl | rfl | rfl | rfl | rfl <;> rfl
theorem ag.lw {V : Nat → Nat → Int32} {N : Nat → Int32} {nt nc nl w i : Nat} (h : ag V (fm_V N) nt nc nl) (hw : w < 6) (hi : i < nl) : V (18 + w) i = fm_l N w i := by
  rw [h.al (18 + w) (by omega) (by omega) i hi]
  rcases (show w = 0 ∨ w = 1 ∨ w = 2 ∨ w = 3 ∨ w = 4 ∨ w = 5 by omega) with rfl | rfl | rfl | rfl | rfl | rfl <;> rfl
theorem cR.zo {V : Nat → Nat → Int32} {N : Nat → Int32} {nt nc nq nl wk : Nat} (h : cR V N nt nc nq nl wk) : fz_zo (V 2) 40 := fun i hi => by
  rw [h.eq.a2 i hi]
  exact h.mf.2.2.2.2.2.2.2.2.2.2.2 i hi
theorem cR_mk {V : Nat → Nat → Int32} {N : Nat → Int32} {nt nc nq nl wk : Nat} (wf : fz_wf V nt nc nq nl wk) (zo : fz_zo (V 2) 40) (eq : ag V (fm_V N) nt nc nl) (bro : N 8 = fz_sum (V 5) nt) (sb : ∀ i, i < 4 → fz_from i ≤ V 1 i ∧ V 1 i ≤ fz_upto i) (st : ∀ i, i < nc → ∃ j, j ≤ 4 ∧ V 11 i = nI j) (rk : ∀ i, i < nc → ∃ j, 1 ≤ j ∧ j ≤ 9 ∧ V 10 i = nI j) (que : cq (V 10) (fun c => fz_open (V 11 c)) nc (V 16) nq) : cR V N nt nc nq nl wk := by
  refine ⟨wf, ?_, eq, bro, sb, st, rk, que⟩
  obtain ⟨hnt, hnt6, hnc, hnc30, hnq, hqc, hnl, hnl12, hwk, hwk39, hT, hQ, hG, hB⟩ := wf
  refine ⟨eq.a3.symm.trans hnt, hnt6, eq.a8.symm.trans hnc, hnc30, eq.a17.symm.trans hnl, hnl12, eq.a0.symm.trans hwk, hwk39, fun i hi => ?_, fun i hi => ?_, fun i hi => ?_, fun i hi => ?_⟩
  · rw [← eq.cw (w := 0) (by decide) hi]
    exact hT i hi
  · rw [← eq.lw (w := 0) (by decide) hi]
    exact hG i hi
  · rw [← eq.lw (w := 1) (by decide) hi]
    exact hB i hi
  · show fm_V N 2 i = 0 ∨ fm_V N 2 i = 1
    rw [← eq.a2 i hi]
    exact zo i hi
/-- bounds: free credits, held ones, what is left of loans -/
abbrev cB (V : Nat → Nat → Int32) (nt nc nl B : Nat) : Prop := (∀ i, i < nt → ∃ j, j ≤ B ∧ V 4 i = nI j) ∧ (∀ i, i < nc → ∃ j, j ≤ 180 ∧ V 12 i = nI j) ∧ (∀ i, i < nl → ∃ j, j ≤ 500 ∧ V 21 i = nI j)
theorem cB.mono {V : Nat → Nat → Int32} {nt nc nl B C : Nat} (h : cB V nt nc nl B) (hC : B ≤ C) : cB V nt nc nl C := ⟨fun i hi => by obtain ⟨j, h1, h2⟩ := h.1 i hi; exact ⟨j, by omega, h2⟩, h.2.1, h.2.2⟩
/-- the class's call and the model's: both do it and answer the same, or both refuse it, the state as it was -/
def sim (V M : Nat → Nat → Int32) (B : Nat) (k1 k2 k3 : Int32) (P Q : Int32 × (Nat → Nat → Int32)) : Prop :=
  (Q.1 = 0 ∧ okn P.1 ∧ Q.2 0 3 = P.1 ∧ ∃ nt nc nq nl wk, cR P.2 (Q.2 1) nt nc nq nl wk ∧ cB P.2 nt nc nl (B + 6600)) ∨
  (P.2 = V ∧ Q.2 = M ∧ ((P.1 = -1 ∧ Q.1 = k1) ∨ (P.1 = -2 ∧ Q.1 = k2) ∨ (P.1 = -3 ∧ Q.1 = k3)))
section SIM
variable {V M : Nat → Nat → Int32} {nt nc nq nl wk B : Nat}
theorem cR.setn {N : Nat → Int32} (h : cR V N nt nc nq nl wk) {i : Nat} (hi : i < 4) : ∃ b, b ≤ 2000 ∧ V 1 i = nI b := by
  obtain ⟨h1, h2⟩ := h.sb i hi
  have hlo : ∀ i, i < 4 → (0 : Int32) ≤ fz_from i := by decide
  have hup : ∀ i, i < 4 → fz_upto i ≤ (2000 : Int32) := by decide
  rcases pk_ix (V 1 i) (n := 2001) (by decide) with q | q | ⟨j, hj, e⟩
  · exact absurd (Int32.lt_of_le_of_lt (Int32.le_trans (hlo i hi) h1) q) (by decide)
  · exact absurd (Int32.le_trans q (Int32.le_trans h2 (hup i hi))) (by decide)
  · exact ⟨j, by omega, e⟩
theorem sok_spec : ∀ z, z < 4 → ∀ y, fm_sok (nI z) y = fm_in y (fz_from z) (fz_upto z) := by
  intro z hz y
  rcases (show z = 0 ∨ z = 1 ∨ z = 2 ∨ z = 3 by omega) with rfl | rfl | rfl | rfl <;> rfl
theorem sim_set (h : cR V (M 1) nt nc nq nl wk) (hb : cB V nt nc nl B) (x y : Int32) : sim V M B 9 1 9 (fz_set V x y) (fm_sets M x y) := by
  rcases pk_ix x (n := 4) (by decide) with q | q | ⟨z, hz, rfl⟩
  · refine Or.inr ?_
    have hm : fm_sok x y = false := by
      have e0 : ¬ x = 0 := fun z => by rw [z] at q; exact absurd q (by decide)
      have e1 : ¬ x = 1 := fun z => by rw [z] at q; exact absurd q (by decide)
      have e2 : ¬ x = 2 := fun z => by rw [z] at q; exact absurd q (by decide)
      have e3 : ¬ x = 3 := fun z => by rw [z] at q; exact absurd q (by decide)
      rw [fm_sok, if_neg e0, if_neg e1, if_neg e2, if_neg e3]
    rw [fz_set, if_pos q, fm_sets, if_neg (by rw [hm]; decide)]
    exact ⟨rfl, rfl, Or.inr (Or.inl ⟨rfl, rfl⟩)⟩
  · refine Or.inr ?_
    have hm : fm_sok x y = false := by
      have e0 : ¬ x = 0 := fun z => by rw [z] at q; exact absurd q (by decide)
      have e1 : ¬ x = 1 := fun z => by rw [z] at q; exact absurd q (by decide)
      have e2 : ¬ x = 2 := fun z => by rw [z] at q; exact absurd q (by decide)
      have e3 : ¬ x = 3 := fun z => by rw [z] at q; exact absurd q (by decide)
      rw [fm_sok, if_neg e0, if_neg e1, if_neg e2, if_neg e3]
    have h0 : ¬ x < 0 := fun z => absurd (Int32.lt_of_le_of_lt q z) (by decide)
    rw [fz_set, if_neg h0, if_neg (Int32.not_lt.mpr (show (4 : Int32) ≤ x from q)), fm_sets, if_neg (by rw [hm]; decide)]
    exact ⟨rfl, rfl, Or.inr (Or.inl ⟨rfl, rfl⟩)⟩
  · have h0 : ¬ nI z < 0 := nI_pos (by omega)
    have h4 : nI z < 4 := nI_lt hz (by decide)
    rw [fz_set, if_neg h0, if_pos h4, nI_clamp (by omega), fm_sets, sok_spec z hz, nI_clamp (by omega)]
    by_cases c1 : y < fz_from z
    · rw [if_pos c1, if_neg (by simp [fm_in, c1])]
      exact Or.inr ⟨rfl, rfl, Or.inr (Or.inl ⟨rfl, rfl⟩)⟩
    · rw [if_neg c1]
      by_cases c2 : y ≤ fz_upto z
      · rw [if_pos c2, if_pos (by simp [fm_in, c1, c2])]
        obtain ⟨b, hb1, hb2⟩ := h.setn hz
        refine Or.inl ⟨rfl, by rw [hb2]; exact ok_n (by omega), ?_, nt, nc, nq, nl, wk, ?_, hb.mono (by omega)⟩
        · show (M 1 (4 + z)) = V 1 z
          exact (h.eq.a1 z hz).symm
        · have hN : ∀ p, p ≠ 4 + z → upd (M 1) (4 + z) y p = M 1 p := fun p hp => pk_un hp
          refine cR_mk h.wf h.zo (ag_mk ?_ ?_ ?_ ?_ (fun i hi => ?_) (fun i hi => ?_) (fun i hi => ?_) (fun i hi => ?_) (fun i hi => ?_) (fun w hw i hi => ?_) (fun w hw i hi => ?_)) ?_ (fun i hi => ?_) h.st h.rk h.que
          · exact h.eq.a0.trans (hN 0 (by omega)).symm
          · exact h.eq.a3.trans (hN 1 (by omega)).symm
          · exact h.eq.a8.trans (hN 2 (by omega)).symm
          · exact h.eq.a17.trans (hN 3 (by omega)).symm
          · show upd (V 1) z y i = upd (M 1) (4 + z) y (4 + i)
            by_cases e : i = z
            · rw [e, pk_us, pk_us]
            · rw [pk_un e, pk_un (by omega)]
              exact h.eq.a1 i hi
          · exact (h.eq.a2 i hi).trans (hN _ (by omega)).symm
          · exact (h.eq.t (r := 4) hi).trans (hN _ (by omega)).symm
          · exact (h.eq.t (r := 6) hi).trans (hN _ (by omega)).symm
          · exact (h.eq.t (r := 7) hi).trans (hN _ (by omega)).symm
          · show fz_up V 1 (upd (V 1) z y) (9 + w) i = fm_c (upd (M 1) (4 + z) y) w i
            rw [fz_up_ne (by omega)]
            exact (h.eq.cw hw hi).trans (hN _ (by omega)).symm
          · show fz_up V 1 (upd (V 1) z y) (18 + w) i = fm_l (upd (M 1) (4 + z) y) w i
            rw [fz_up_ne (by omega)]
            exact (h.eq.lw hw hi).trans (hN _ (by omega)).symm
          · exact (hN 8 (by omega)).trans h.bro
          · show fz_from i ≤ upd (V 1) z y i ∧ upd (V 1) z y i ≤ fz_upto i
            by_cases e : i = z
            · rw [e, pk_us]
              exact ⟨Int32.not_lt.mp c1, c2⟩
            · rw [pk_un e]
              exact h.sb i hi
      · rw [if_neg c2, if_neg (by simp [fm_in, c1, c2])]
        exact Or.inr ⟨rfl, rfl, Or.inr (Or.inl ⟨rfl, rfl⟩)⟩
end SIM
