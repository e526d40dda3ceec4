/-! what the law's methods ask of the rows -/
section FACTS
variable {V : Nat → Nat → Int32} {nt nc nq nl wk B : Nat}
theorem pJ.wf (J : pJ V nt nc nq nl wk B) : fz_wf V nt nc nq nl wk := by
  obtain ⟨⟨N, h⟩, -⟩ := J
  exact h.wf
theorem pJ.zo (J : pJ V nt nc nq nl wk B) : fz_zo (V 2) 40 := by
  obtain ⟨⟨N, h⟩, -⟩ := J
  exact h.zo
theorem pJ.nt6 (J : pJ V nt nc nq nl wk B) : nt ≤ 6 := J.wf.2.1
theorem pJ.nc30 (J : pJ V nt nc nq nl wk B) : nc ≤ 30 := J.wf.2.2.2.1
theorem pJ.nqc (J : pJ V nt nc nq nl wk B) : nq ≤ nc := J.wf.2.2.2.2.2.1
theorem pJ.nl12 (J : pJ V nt nc nq nl wk B) : nl ≤ 12 := J.wf.2.2.2.2.2.2.2.1
theorem pJ.wk39 (J : pJ V nt nc nq nl wk B) : wk ≤ 39 := J.wf.2.2.2.2.2.2.2.2.2.1
theorem pJ.e3 (J : pJ V nt nc nq nl wk B) : V 3 0 = nI nt := J.wf.1
theorem pJ.e8 (J : pJ V nt nc nq nl wk B) : V 8 0 = nI nc := J.wf.2.2.1
theorem pJ.e81 (J : pJ V nt nc nq nl wk B) : V 8 1 = nI nq := J.wf.2.2.2.2.1
theorem pJ.e17 (J : pJ V nt nc nq nl wk B) : V 17 0 = nI nl := J.wf.2.2.2.2.2.2.1
theorem pJ.e0 (J : pJ V nt nc nq nl wk B) : V 0 0 = nI wk := J.wf.2.2.2.2.2.2.2.2.1
theorem pJ.free (J : pJ V nt nc nq nl wk B) : ∀ i, i < nt → ∃ j, j ≤ B ∧ V 4 i = nI j := J.2.1.1
theorem pJ.held (J : pJ V nt nc nq nl wk B) : ∀ i, i < nc → ∃ j, j ≤ 180 ∧ V 12 i = nI j := J.2.1.2.1
theorem pJ.left (J : pJ V nt nc nq nl wk B) : ∀ i, i < nl → ∃ j, j ≤ 500 ∧ V 21 i = nI j := J.2.1.2.2
theorem pJ.acc (J : pJ V nt nc nq nl wk B) : fz_sum (V 5) nt + fz_sum (V 6) nt = fz_sum (V 7) nt + fz_sum (V 4) nt + fz_sum (V 12) nc := J.2.2.1
theorem pJ.loans (J : pJ V nt nc nq nl wk B) : pL V nl := J.2.2.2.1
theorem pJ.chg (J : pJ V nt nc nq nl wk B) : pC V nc := J.2.2.2.2
theorem not_not_p {p : Prop} (h : p) : ¬ ¬ p := fun z => z h
theorem sd_free (J : pJ V nt nc nq nl wk B) (hB : B < 2000000000) {t : Nat} (ht : t < nt) : ¬ V 4 t < 0 := by
  obtain ⟨j, hj, e⟩ := J.free t ht
  rw [e]
  exact nI_pos (by omega)
theorem sd_xc0 (J : pJ V nt nc nq nl wk B) {t : Nat} (ht : t < nt) : ¬ fz_xc V nl nq t < 0 := by
  have h30 := J.nc30
  obtain ⟨⟨N, h⟩, -⟩ := J
  obtain ⟨r, e, hr⟩ := snd_xc h ht
  have := fz_ct_le (fun i => decide (V 9 i = nI t) && fz_open (V 11 i)) nc
  rw [e]
  exact nI_pos (by omega)
theorem sd_xc4 (J : pJ V nt nc nq nl wk B) {t : Nat} (ht : t < nt) : ¬ fz_tval V nc nl t 4 < fz_xc V nl nq t := by
  have h30 := J.nc30
  obtain ⟨⟨N, h⟩, -⟩ := J
  obtain ⟨r, e, hr⟩ := snd_xc h ht
  have h2 := fz_ct_le (fun i => decide (V 9 i = nI t) && fz_open (V 11 i)) nc
  rw [e, tv4]
  exact fun z => absurd ((nI_ltI (by omega) (by omega)).mp z) (by omega)
theorem sd_owe {t : Nat} (h : ¬ fz_tval V nc nl t 9 = 0) : fz_owes (V 19) (V 21) (V 22) (V 0 0) nl (nI t) = true := by
  cases e : fz_owes (V 19) (V 21) (V 22) (V 0 0) nl (nI t) with
  | true => rfl
  | false =>
    refine absurd ?_ h
    show fz_nz (fz_b (fz_owes (V 19) (V 21) (V 22) (V 0 0) nl (nI t))) = 0
    rw [e]
    decide
theorem sd_owe_xc {t : Nat} (h : ¬ fz_tval V nc nl t 9 = 0) : fz_xc V nl nq t = 0 := by
  rw [fz_xc, sd_owe h]
  rfl
theorem sd_owe_ldr {t : Nat} (h : ¬ fz_tval V nc nl t 9 = 0) : fz_ldr V nt nl (nI t) 9 = -1 := by
  rw [fz_ldr, sd_owe h]
  split <;> rfl
theorem sd_held (J : pJ V nt nc nq nl wk B) : fz_sum (fun t => fz_tval V nc nl t 1) nt = fz_sum (V 12) nc := snd_held J.wf
theorem sd_lent (J : pJ V nt nc nq nl wk B) : fz_sum (fun t => fz_tval V nc nl t 7) nt = fz_sum (fun t => fz_tval V nc nl t 8) nt := snd_lent J.wf
theorem sd_wait (J : pJ V nt nc nq nl wk B) : fz_sum (fun t => fz_tval V nc nl t 4) nt = nI nq := by
  obtain ⟨⟨N, h⟩, -⟩ := J
  exact snd_wait h
theorem sd_owing : fz_sum (fun t => fz_tval V nc nl t 9) nt = fz_wval V nt nc nl wk 16 := snd_owe
theorem sd_state (J : pJ V nt nc nq nl wk B) {c : Nat} (hc : c < nc) : V 11 c = 0 ∨ V 11 c = 1 ∨ V 11 c = 2 ∨ V 11 c = 3 ∨ V 11 c = 4 := by
  obtain ⟨⟨N, h⟩, -⟩ := J
  obtain ⟨j, hj, e⟩ := h.st c hc
  rw [e]
  rcases (show j = 0 ∨ j = 1 ∨ j = 2 ∨ j = 3 ∨ j = 4 by omega) with rfl | rfl | rfl | rfl | rfl
  · exact Or.inl rfl
  · exact Or.inr (Or.inl rfl)
  · exact Or.inr (Or.inr (Or.inl rfl))
  · exact Or.inr (Or.inr (Or.inr (Or.inl rfl)))
  · exact Or.inr (Or.inr (Or.inr (Or.inr rfl)))
theorem sd_h0 (J : pJ V nt nc nq nl wk B) {c : Nat} (hc : c < nc) (h : ¬ V 11 c = 1) : V 12 c = 0 := (J.chg c hc).1.resolve_left h
theorem sd_made (J : pJ V nt nc nq nl wk B) {c : Nat} (hc : c < nc) (h : V 11 c = 2 ∨ V 11 c = 3) : ¬ V 14 c < 0 := Int32.not_lt.mpr ((J.chg c hc).2.1.mp h)
theorem sd_unmade (J : pJ V nt nc nq nl wk B) {c : Nat} (hc : c < nc) (h2 : ¬ V 11 c = 2) (h3 : ¬ V 11 c = 3) : V 14 c < 0 := Int32.not_le.mp fun z => by
  rcases (J.chg c hc).2.1.mpr z with q | q
  · exact h2 q
  · exact h3 q
theorem sd_why {c : Nat} (h : ¬ V 11 c = 0) : fz_reason V nl c = 1 := by rw [fz_reason, if_neg h]
theorem sd_asked (J : pJ V nt nc nq nl wk B) {c : Nat} (hc : c < nc) : ¬ V 0 0 < V 13 c := Int32.not_lt.mpr (J.chg c hc).2.2
theorem sd_at (J : pJ V nt nc nq nl wk B) {k : Nat} (hk : k < nq) : ∃ a, a < nc ∧ V 16 k = nI a ∧ (V 11 a = 0 ∨ V 11 a = 1) := by
  obtain ⟨⟨N, h⟩, -⟩ := J
  exact snd_at h hk
/-- two neighbours in the queue -/
theorem sd_next (J : pJ V nt nc nq nl wk B) {k a : Nat} (hk : k + 1 < nq) (ha : a < nc) (ea : V 16 k = nI a) : ∃ b, b < nc ∧ V 16 (k + 1) = nI b ∧ (V 10 a < V 10 b ∨ (V 10 b = V 10 a ∧ a < b)) := by
  have h30 := J.nc30
  obtain ⟨⟨N, h⟩, -⟩ := J
  obtain ⟨a', b, ha', hb, e1, e2, r, s, f1, f2, hs, hrs⟩ := snd_next h hk
  have e : a' = a := (nI_eq (by omega) (by omega)).mp (e1.symm.trans ea)
  subst e
  refine ⟨b, hb, e2, ?_⟩
  rcases hrs with q | ⟨q, q2⟩
  · left
    rw [f1, f2]
    exact nI_lt q (by omega)
  · right
    rw [f1, f2, q]
    exact ⟨rfl, q2⟩
theorem sd_m1 {n : Nat} (h : n < 2 ^ 31) : ¬ nI n = -1 := fun z => absurd (nI_pos h) (by rw [z]; decide)
theorem sd_last {k q : Nat} (hk : k < q) (h1 : ¬ k + 1 < q) (hq : q ≤ 30) : nI k = nI q - 1 := by
  have e : q = k + 1 := by omega
  rw [e, ← nI_1]
  exact (Int32.add_sub_cancel _ _).symm
theorem sd_nlast {k q : Nat} (h1 : k + 1 < q) (hq : q ≤ 30) : ¬ nI k = nI q - 1 := by
  have e : nI q - 1 = nI (q - 1) := by
    have : nI q = nI (q - 1) + 1 := by rw [nI_1]; congr 1; omega
    rw [this]
    exact Int32.add_sub_cancel _ _
  rw [e]
  exact fun z => absurd ((nI_eq (by omega) (by omega)).mp z) (by omega)
theorem sd_left0 (J : pJ V nt nc nq nl wk B) {q : Nat} (hq : q < nl) : ¬ V 21 q < 0 := by
  obtain ⟨j, hj, e⟩ := J.left q hq
  rw [e]
  exact nI_pos (by omega)
theorem sd_ct {f : Nat → Bool} {q : Nat} : nI (fz_ct f (q + 1)) = nI (fz_ct f q) + (if f q = true then 1 else 0) := by
  rw [fz_ct]
  cases f q with
  | true => exact (nI_1 _).symm
  | false => exact (Int32.add_zero _).symm
end FACTS
