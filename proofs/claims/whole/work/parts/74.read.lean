/-! a command is read -/
theorem sk_all {f : Nat → Bool} : ∀ (k p q : Nat), p ≤ q → q < tx_sk f k p → f q = true ∧ q < p + k
  | 0, p, q, h1, h2 => by
    have : q < p := h2
    omega
  | k + 1, p, q, h1, h2 => by
    rw [tx_sk] at h2
    cases e : f p with
    | false =>
      rw [e, cond_false] at h2
      omega
    | true =>
      rw [e, cond_true] at h2
      by_cases c : q = p
      · rw [c]
        exact ⟨e, by omega⟩
      · obtain ⟨g1, g2⟩ := sk_all k (p + 1) q (by omega) h2
        exact ⟨g1, by omega⟩
theorem let_n {x : Int32} (h : fm_in x 97 122 = true) : ∃ t : Nat, 97 ≤ t ∧ t ≤ 122 ∧ x = nI t := by
  simp only [fm_in, Bool.and_eq_true, Bool.not_eq_true', decide_eq_false_iff_not] at h
  rcases pk_ix x (n := 123) (by decide) with q | q | ⟨j, hj, e⟩
  · exact absurd (Int32.lt_of_lt_of_le q (by decide : (0 : Int32) ≤ 97)) h.1
  · exact absurd (Int32.lt_of_lt_of_le (by decide : (122 : Int32) < 123) q) h.2
  · refine ⟨j, ?_, by omega, e⟩
    refine Nat.le_of_not_lt fun z => h.1 ?_
    rw [e]
    exact (nI_ltI (by omega) (by decide : 97 < 2 ^ 31)).mpr z
theorem le_letters (T : Nat → Int32) (n p : Nat) : ∃ t : Nat → Nat, ∀ i, i < tx_le T n p - p → 97 ≤ t i ∧ t i ≤ 122 ∧ T (p + i) = nI (t i) ∧ p + i < n := by
  refine ⟨fun i => (T (p + i)).toNatClampNeg, fun i hi => ?_⟩
  obtain ⟨g1, g2⟩ := sk_all (f := fun q => fm_in (T q) 97 122) (n - p) p (p + i) (by omega) (by show p + i < tx_le T n p; omega)
  obtain ⟨t, h1, h2, h3⟩ := let_n g1
  show 97 ≤ (T (p + i)).toNatClampNeg ∧ (T (p + i)).toNatClampNeg ≤ 122 ∧ T (p + i) = nI (T (p + i)).toNatClampNeg ∧ p + i < n
  rw [fz_tnat h3 (by omega)]
  exact ⟨h1, h2, h3, by omega⟩
theorem rd2_1 {T : Nat → Int32} {n w : Nat} {r : Bool × Nat × (Nat → Int32)} : (cx_rd2 T n w r).1 = endC T n r := by
  unfold cx_rd2 endC
  cases r.1 with
  | false => rfl
  | true =>
    show (if _ then ((-1 : Int32), tx_sp T n r.2.1 + 1, some w, r.2.2) else (nI (tx_sp T n r.2.1), tx_sp T n r.2.1, some w, r.2.2)).1 = if _ then (-1 : Int32) else nI (tx_sp T n r.2.1)
    split <;> rfl
theorem rd_rel {T : Nat → Int32} {n p : Nat} (hn : n ≤ 150) (hp : p < n) (w0 : Int32) (Z Y : Nat → Int32) :
    (cx_rd T n p Z).1 = (tx_rd T n p w0 Y).2.2.1 ∧ ((cx_rd T n p Z).1 = -1 → ∃ w, w < 12 ∧ (cx_rd T n p Z).2.2.1 = some w ∧ (tx_rd T n p w0 Y).2.1 = nI w ∧ (cx_rd T n p Z).2.1 = (tx_rd T n p w0 Y).1 ∧ ∀ j, j < tx_many w → (cx_rd T n p Z).2.2.2 j = (tx_rd T n p w0 Y).2.2.2 j) := by
  obtain ⟨t, ht⟩ := le_letters T n p
  have hge := tx_le_ge T n p
  have hR := tx_R_le T n p
  unfold tx_R at hR
  rcases word_eq hge ht with ⟨e1, e2⟩ | ⟨w, hw, e1, e2⟩
  · have eM : (tx_rd T n p w0 Y).2.2.1 = nI p := by
      rw [tx_rd]
      by_cases c : tx_le T n p = p
      · rw [if_pos c]
      · rw [if_neg c, if_pos (show tx_wd T n p = -1 from e2)]
    rw [cx_rd_none e1, eM]
    exact ⟨rfl, fun z => absurd z (nI_m1 (by omega))⟩
  · have c : ¬ tx_le T n p = p := fun z => by
      rw [z, Nat.sub_self] at e2
      exact absurd e2 (by
        show ¬ tx_word (tx_lw T n p 0) = nI w
        rw [show tx_lw T n p 0 = 0 from rfl, show tx_word 0 = -1 by decide +kernel]
        exact fun z => nI_m1 (by omega) z.symm)
    have e2' : tx_wd T n p = nI w := e2
    have n1 : ¬ tx_wd T n p = -1 := by rw [e2']; exact nI_m1 (by omega)
    have eT : tx_rd T n p w0 Y = tx_rd2 T n (nI w) (tx_ns T n (tx_many w) 0 (tx_le T n p) (-1) Y) := by
      rw [tx_rd, if_neg c, if_neg n1, e2', nI_clamp (by omega)]
    obtain ⟨g1, g2⟩ := ns_rel hn (tx_many w) 0 (tx_le T n p) Z Y (by omega)
    rw [cx_rd_some e1, eT, rd2_1]
    refine ⟨g1, fun z => ?_⟩
    obtain ⟨g3, g4, g5⟩ := g2 (g1.symm.trans z)
    generalize cx_ns T n (tx_many w) 0 (tx_le T n p) Z = r at z g3 g4 g5
    have c59 : tx_at T n (tx_sp T n r.2.1) = 59 := by
      rw [endC, g3, cond_true] at z
      by_cases q : tx_at T n (tx_sp T n r.2.1) = 59
      · exact q
      · rw [if_neg q] at z
        have hb := tx_R_ns T n (tx_many w) 0 (tx_le T n p) (-1) Y
        unfold tx_R at hb
        exact absurd z (nI_m1 (by have := sp_lt T n r.2.1 (by omega) hn; omega))
    have eC : cx_rd2 T n w r = (-1, tx_sp T n r.2.1 + 1, some w, r.2.2) := by rw [cx_rd2, g3, cond_true, if_pos c59]
    rw [eC]
    refine ⟨w, hw, rfl, rfl, ?_, fun j hj => g5 (fun q hq => absurd hq (Nat.not_lt_zero q)) j (by omega)⟩
    show tx_sp T n r.2.1 + 1 = tx_sp T n _ + 1
    rw [g4]
