/-! simulation: any command; kept states -/
def simw (V M : Nat → Nat → Int32) (B : Nat) (P Q : Int32 × (Nat → Nat → Int32)) : Prop :=
  (Q.1 = 0 ∧ 0 ≤ P.1 ∧ ∃ nt nc nq nl wk, cR P.2 (Q.2 1) nt nc nq nl wk ∧ cB P.2 nt nc nl (B + 6600)) ∨ (P.2 = V ∧ Q.2 = M ∧ P.1 < 0 ∧ ¬ Q.1 = 0)
theorem sim.w {V M : Nat → Nat → Int32} {B : Nat} {k1 k2 k3 : Int32} {P Q : Int32 × (Nat → Nat → Int32)} (h : sim V M B k1 k2 k3 P Q) (h1 : ¬ k1 = 0) (h2 : ¬ k2 = 0) (h3 : ¬ k3 = 0) : simw V M B P Q := by
  rcases h with ⟨a, b, _, d⟩ | ⟨a, b, c⟩
  · exact Or.inl ⟨a, b.2, d⟩
  · refine Or.inr ⟨a, b, ?_⟩
    rcases c with ⟨c, d⟩ | ⟨c, d⟩ | ⟨c, d⟩
    · rw [c, d]
      exact ⟨by decide, h1⟩
    · rw [c, d]
      exact ⟨by decide, h2⟩
    · rw [c, d]
      exact ⟨by decide, h3⟩
theorem sim_does {V M : Nat → Nat → Int32} {Z : Nat → Int32} {nt nc nq nl wk B : Nat} (h : cR V (M 1) nt nc nq nl wk) (hb : cB V nt nc nl B) (hB : B < 2000000000) (w : Nat) (hZ : ∀ i, i < tx_many w → M 5 i = Z i) : simw V M B (cx_does V Z nt nc nq nl wk w) (fm_does M nt nc nl wk w) := by
  match w, hZ with
  | 0, hZ =>
    have z0 := hZ 0 (by decide)
    exact (z0 ▸ sim_bring h hb (Z 0) : sim V M B 9 1 2 (fz_bring V nt (Z 0)) (fm_team M nt (M 5 0))).w (by decide) (by decide) (by decide)
  | 1, hZ =>
    have z0 := hZ 0 (by decide)
    have z1 := hZ 1 (by decide)
    show simw V M B (fz_markw V wk (Z 0) (Z 1) true) (fm_frees M (M 5 0) (M 5 1) true)
    rw [z0, z1]
    exact (sim_markw h hb (Z 0) (Z 1) true).w (by decide) (by decide) (by decide)
  | 2, hZ =>
    have z0 := hZ 0 (by decide)
    have z1 := hZ 1 (by decide)
    show simw V M B (fz_markw V wk (Z 0) (Z 1) false) (fm_frees M (M 5 0) (M 5 1) false)
    rw [z0, z1]
    exact (sim_markw h hb (Z 0) (Z 1) false).w (by decide) (by decide) (by decide)
  | 3, hZ =>
    have z0 := hZ 0 (by decide)
    have z1 := hZ 1 (by decide)
    show simw V M B (fz_enter V nc nq (Z 0) (Z 1)) (fm_asks M nc (M 5 0) (M 5 1))
    rw [z0, z1]
    exact (sim_enter h hb (Z 0) (Z 1)).w (by decide) (by decide) (by decide)
  | 4, hZ =>
    have z0 := hZ 0 (by decide)
    show simw V M B (fz_exempt V nc nl (Z 0)) (fm_exm M nl (M 5 0))
    rw [z0]
    exact (sim_exempt h hb hB (Z 0)).w (by decide) (by decide) (by decide)
  | 5, hZ =>
    have z0 := hZ 0 (by decide)
    show simw V M B (fz_make V nc nq wk (Z 0) false) (fm_make M wk (M 5 0) false)
    rw [z0]
    exact (sim_make h hb hB (Z 0) false).w (by decide) (by decide) (by decide)
  | 6, hZ =>
    have z0 := hZ 0 (by decide)
    show simw V M B (fz_make V nc nq wk (Z 0) true) (fm_make M wk (M 5 0) true)
    rw [z0]
    exact (sim_make h hb hB (Z 0) true).w (by decide) (by decide) (by decide)
  | 7, hZ =>
    have z0 := hZ 0 (by decide)
    show simw V M B (fz_drop V nc nq (Z 0)) (fm_give M (M 5 0))
    rw [z0]
    exact (sim_drop h hb hB (Z 0)).w (by decide) (by decide) (by decide)
  | 8, hZ =>
    have z0 := hZ 0 (by decide)
    have z1 := hZ 1 (by decide)
    have z2 := hZ 2 (by decide)
    have z3 := hZ 3 (by decide)
    show simw V M B (fz_lend V nt nl (Z 0) (Z 1) (Z 2) (Z 3)) (fm_lend M nl (M 5 0) (M 5 1) (M 5 2) (M 5 3))
    rw [z0, z1, z2, z3]
    exact (sim_lend h hb hB (Z 0) (Z 1) (Z 2) (Z 3)).w (by decide) (by decide) (by decide)
  | 9, hZ =>
    have z0 := hZ 0 (by decide)
    have z1 := hZ 1 (by decide)
    show simw V M B (fz_repay V nl (Z 0) (Z 1)) (fm_rep M (M 5 0) (M 5 1))
    rw [z0, z1]
    exact (sim_repay h hb hB (Z 0) (Z 1)).w (by decide) (by decide) (by decide)
  | 10, hZ =>
    have z0 := hZ 0 (by decide)
    have z1 := hZ 1 (by decide)
    show simw V M B (fz_set V (Z 0) (Z 1)) (fm_sets M (M 5 0) (M 5 1))
    rw [z0, z1]
    exact (sim_set h hb (Z 0) (Z 1)).w (by decide) (by decide) (by decide)
  | n + 11, _ =>
    show simw V M B (fz_close V nt nc nl wk) (fm_ends1 M nt nc nl wk)
    exact (sim_close h hb hB).w (by decide) (by decide) (by decide)
/-- only the first 349 numbers count -/
theorem cR_congN {V : Nat → Nat → Int32} {N N' : Nat → Int32} {nt nc nq nl wk : Nat} (h : cR V N nt nc nq nl wk) (e : ∀ i, i < 349 → N' i = N i) : cR V N' nt nc nq nl wk := by
  have hnt := h.wf.2.1
  have hnc := h.wf.2.2.2.1
  have hnl := h.wf.2.2.2.2.2.2.2.1
  refine cR_mk h.wf h.zo (ag_mk ?_ ?_ ?_ ?_ (fun q hq => ?_) (fun q hq => ?_) (fun q hq => ?_) (fun q hq => ?_) (fun q hq => ?_) (fun u hu q hq => ?_) (fun u hu q hq => ?_)) ?_ h.sb h.st h.rk h.que
  · exact h.eq.a0.trans (e 0 (by omega)).symm
  · exact h.eq.a3.trans (e 1 (by omega)).symm
  · exact h.eq.a8.trans (e 2 (by omega)).symm
  · exact h.eq.a17.trans (e 3 (by omega)).symm
  · exact (h.eq.a1 q hq).trans (e _ (by omega)).symm
  · exact (h.eq.a2 q hq).trans (e _ (by omega)).symm
  · exact (h.eq.t (r := 4) hq).trans (e _ (by omega)).symm
  · exact (h.eq.t (r := 6) hq).trans (e _ (by omega)).symm
  · exact (h.eq.t (r := 7) hq).trans (e _ (by omega)).symm
  · exact (h.eq.cw hu hq).trans (e _ (by omega)).symm
  · exact (h.eq.lw hu hq).trans (e _ (by omega)).symm
  · exact (e 8 (by omega)).trans h.bro
/-- the same state, whatever its counts, within bounds -/
def cRx (V : Nat → Nat → Int32) (N : Nat → Int32) (B : Nat) : Prop := ∃ nt nc nq nl wk, cR V N nt nc nq nl wk ∧ cB V nt nc nl B
theorem cRx.mono {V : Nat → Nat → Int32} {N : Nat → Int32} {B C : Nat} (h : cRx V N B) (hC : B ≤ C) : cRx V N C := by
  obtain ⟨nt, nc, nq, nl, wk, h1, h2⟩ := h
  exact ⟨nt, nc, nq, nl, wk, h1, h2.mono hC⟩
theorem cRx.congN {V : Nat → Nat → Int32} {N N' : Nat → Int32} {B : Nat} (h : cRx V N B) (e : ∀ i, i < 349 → N' i = N i) : cRx V N' B := by
  obtain ⟨nt, nc, nq, nl, wk, h1, h2⟩ := h
  exact ⟨nt, nc, nq, nl, wk, cR_congN h1 e, h2⟩
/-- the kept states: slot k is the model's k-th -/
def hR (S : Nat → Nat → Nat → Int32) (K : Nat → Int32) (n B : Nat) : Prop := n ≤ 4 ∧ ∀ k, k < n → cRx (S k) (fun i => K (349 * k + i)) B
/-- the slots behind keep, V being in slot n -/
def hs_S (S : Nat → Nat → Nat → Int32) (V : Nat → Nat → Int32) (n : Nat) : Nat → Nat → Nat → Int32 := if n < 4 then fun k => if k = n then V else S k else fun k => if k < 3 then S (k + 1) else if k = 3 then V else S 0
theorem hR_keep {S : Nat → Nat → Nat → Int32} {K A : Nat → Int32} {V : Nat → Nat → Int32} {n B : Nat} (h : hR S K n B) (hV : cRx V A B) : hR (hs_S S V n) (fm_sv K A n) (hs_n n) B := by
  obtain ⟨hn, hk⟩ := h
  unfold hs_S fm_sv hs_n
  by_cases c : n < 4
  · rw [if_pos c, if_pos c, if_neg (by omega)]
    refine ⟨by omega, fun k hkn => ?_⟩
    by_cases e : k = n
    · show cRx (if k = n then V else S k) _ B
      rw [if_pos e]
      refine hV.congN (fun i hi => ?_)
      show fm_put K A n 349 (349 * k + i) = A i
      rw [fm_put, if_pos (by rw [e]; omega), e, show 349 * n + i - 349 * n = i by omega]
    · show cRx (if k = n then V else S k) _ B
      rw [if_neg e]
      refine (hk k (by omega)).congN (fun i hi => ?_)
      show fm_put K A n 349 (349 * k + i) = K (349 * k + i)
      rw [fm_put, if_neg (by omega)]
  · rw [if_neg c, if_neg c, if_pos (by omega)]
    refine ⟨by omega, fun k hkn => ?_⟩
    show cRx (if k < 3 then S (k + 1) else if k = 3 then V else S 0) _ B
    by_cases e : k < 3
    · rw [if_pos e]
      refine (hk (k + 1) (by omega)).congN (fun i hi => ?_)
      show fm_put (fm_sh K 1396) A 3 349 (349 * k + i) = K (349 * (k + 1) + i)
      rw [fm_put, if_neg (by omega), fm_sh, if_pos (by omega)]
      congr 1
      omega
    · rw [if_neg e, if_pos (by omega)]
      refine hV.congN (fun i hi => ?_)
      show fm_put (fm_sh K 1396) A 3 349 (349 * k + i) = A i
      rw [fm_put, if_pos (by omega), show 349 * k + i - 349 * 3 = i by omega]
theorem hs_ns {n : Nat} (h : n ≤ 4) : hs_n n = fm_ns n := by
  unfold hs_n fm_ns
  by_cases c : n < 4
  · rw [if_pos c, if_neg (by omega)]
  · rw [if_neg c, if_pos (by omega)]
    omega
