/-! simulation: digests, trials -/
theorem cwl_none {rk : Nat → Int32} {op : Nat → Bool} {n : Nat} (h : op n = false) : cwl rk op (n + 1) = cwl rk op n := by
  unfold cwl
  rw [List.flatMap_def, List.flatMap_def]
  refine congrArg List.flatten (List.map_congr_left (fun r _ => ?_))
  rw [List.range_succ, List.filter_append]
  have : [n].filter (fun c => decide (rk c = nI r) && op c) = [] := by simp [h]
  rw [this, List.append_nil]
theorem cwl_0 (rk : Nat → Int32) (op : Nat → Bool) : cwl rk op 0 = [] := by
  unfold cwl
  simp
theorem cwl_len {rk : Nat → Int32} {op : Nat → Bool} : ∀ n, (∀ c, c < n → ∃ s, 1 ≤ s ∧ s ≤ 9 ∧ rk c = nI s) → (cwl rk op n).length = fz_ct op n
  | 0, _ => by rw [cwl_0]; rfl
  | n + 1, h => by
    have ih := cwl_len (rk := rk) (op := op) n (fun c hc => h c (by omega))
    cases ho : op n with
    | false =>
      rw [cwl_none ho, ih, fz_ct, ho]
      rfl
    | true =>
      obtain ⟨s, h1, h9, e⟩ := h n (by omega)
      obtain ⟨A, B, e1, e2, -, -⟩ := cwl_ins (rk := rk) (rk' := rk) (op := op) (op' := op) (n := n) (s := s) (fun _ _ => rfl) (fun _ _ => rfl) e ho h1 h9
      rw [e1, List.length_append] at ih
      rw [e2, List.length_append, List.length_cons, fz_ct, ho, ← ih]
      show _ = _ + 1
      omega
theorem ct_add {f g k : Nat → Bool} : ∀ n, (∀ c, c < n → (k c = (f c || g c)) ∧ ¬ (f c = true ∧ g c = true)) → fz_ct k n = fz_ct f n + fz_ct g n
  | 0, _ => rfl
  | n + 1, h => by
    have ih := ct_add (f := f) (g := g) (k := k) n (fun c hc => h c (by omega))
    obtain ⟨h1, h2⟩ := h n (by omega)
    rw [fz_ct, fz_ct, fz_ct, ih, h1]
    cases hf : f n <;> cases hg : g n
    · rfl
    · show _ + _ + 1 = _ + 0 + (_ + 1); omega
    · show _ + _ + 1 = _ + 1 + (_ + 0); omega
    · exact absurd ⟨hf, hg⟩ h2
section SIM9
variable {V M : Nat → Nat → Int32} {nt nc nq nl wk B : Nat}
theorem cR.wtn (h : cR V (M 1) nt nc nq nl wk) : fm_wtn (M 1) nc = nq := by
  rw [h.que.1, cwl_len nc (fun c hc => h.rk c hc)]
  unfold fm_wtn
  refine (ct_add nc (fun c hc => ?_)).symm
  have e : fm_c (M 1) 2 c = V 11 c := (h.eq.cw (w := 2) (by decide) hc).symm
  rw [e]
  constructor
  · unfold fz_open
    simp
  · intro z
    simp only [Bool.and_eq_true, decide_eq_true_eq] at z
    rw [z.1.1] at z
    exact absurd z.2.1 (by decide)
theorem cR.dg (h : cR V (M 1) nt nc nq nl wk) {x0 cn : Int32} (hx : M 0 1 = x0) (hc : M 0 0 = cn) : cx_dg V x0 cn nt nc nq nl wk = fm_dg M nt nc nl wk := by
  have hwk := h.wf.2.2.2.2.2.2.2.2.2.1
  have hnc := h.wf.2.2.2.1
  have e1 : fz_hs (cx_num V x0 nt nc nl wk) 18 (fz_mix 43672 cn) = fz_hs (fm_num M nt nc nl wk) 18 (fz_mix 43672 (M 0 0)) := by
    rw [hc]
    exact fz_hs_cong (fun k hk => h.wval hx hk)
  have e2 : ∀ a, fz_hs (fun w => fz_nz (V 2 w)) 40 a = fz_hs (fun w => M 1 (9 + w)) 40 a := fun a => fz_hs_cong (fun k hk => by
    rw [fm_nz (h.zo k hk)]
    exact h.eq.a2 k hk)
  have e3 : ∀ a, fz_ht (fun t w => fz_tval V nc nl t w) 11 (fun t h => fz_mix h (fz_xc V nl nq t)) nt a = fz_ht (fun t w => fz_tval (fm_V (M 1)) nc nl t w) 11 (fun t h => fz_mix h (fm_xc (M 1) nc nl t)) nt a := fun a => fz_ht_cong (fun t ht => ⟨fun w _ => ag_tval h.eq ht w, fun a => by rw [h.xc ht]⟩)
  have e4 : ∀ a, fz_ht (fun c w => V (9 + w) c) 7 (fun _ h => h) nc a = fz_ht (fun c w => fm_c (M 1) w c) 7 (fun _ h => h) nc a := fun a => fz_ht_cong (fun c hc => ⟨fun w hw => h.eq.cw hw hc, fun _ => rfl⟩)
  have e5 : ∀ a, fz_hs (V 16) nq a = fz_hs (fm_pick (fm_wl (M 1) nc (-1) 1 1 9)) (fm_wtn (M 1) nc) a := fun a => by
    rw [h.wtn]
    exact fz_hs_cong (fun k hk => by rw [← h.wait k, if_pos hk])
  have e6 : ∀ a, fz_ht (fun q w => V (18 + w) q) 6 (fun _ h => h) nl a = fz_ht (fun q w => fm_l (M 1) w q) 6 (fun _ h => h) nl a := fun a => fz_ht_cong (fun q hq => ⟨fun w hw => h.eq.lw hw hq, fun _ => rfl⟩)
  have e7 : fz_thaw (V 2) wk = fz_thaw (fun i => M 1 (9 + i)) wk := ag_thaw (fun i hi => h.eq.a2 i hi) (40 - wk) wk (by omega)
  unfold cx_dg fm_dg fm_dg3 fm_dg2 fm_dg1
  rw [e1, e2, e3, e4, e5, e6, e7]
theorem its_rel (h : cR V (M 1) nt nc nq nl wk) (hb : cB V nt nc nl B) (hB : B + 6600 * 40 < 2000000000) : ∀ i, wk + i ≤ 39 → cR (fz_its V nt nc nl wk i) (fm_it (M 1) nt nc nl wk i) nt nc nq nl (wk + i) ∧ cB (fz_its V nt nc nl wk i) nt nc nl (B + 6600 * i)
  | 0, _ => ⟨h, hb⟩
  | i + 1, hi => by
    obtain ⟨r1, r2⟩ := its_rel h hb hB i (by omega)
    obtain ⟨-, -, g3, g4⟩ := close_rel (M := fun _ => fm_it (M 1) nt nc nl wk i) r1 r2 (by omega) (by omega)
    exact ⟨g3, g4.mono (by omega)⟩
theorem wu_cong {f g : Nat → Int32} {c : Int32} : ∀ k n, (∀ j, n ≤ j → j ≤ n + k → f j = g j) → fz_wu f c k n = fz_wu g c k n
  | 0, n, h => by rw [fz_wu, fz_wu, h n (Nat.le_refl n) (by omega)]
  | k + 1, n, h => by rw [fz_wu, fz_wu, h n (Nat.le_refl n) (by omega), wu_cong k (n + 1) (fun j h1 h2 => h j (by omega) (by omega))]
theorem cR.wu (h : cR V (M 1) nt nc nq nl wk) (hb : cB V nt nc nl B) (hB : B + 6600 * 40 < 2000000000) {y : Nat} (hy : y < nt) (c : Int32) : fz_wu (fun i => fz_its V nt nc nl wk i 4 y) c (39 - wk) 0 = fz_wu (fun n => fm_t (fm_it (M 1) nt nc nl wk n) 0 y) c (39 - wk) 0 := by
  have hwk := h.wf.2.2.2.2.2.2.2.2.2.1
  exact wu_cong _ _ (fun j h1 h2 => ((its_rel h hb hB j (by omega)).1.eq.t (r := 4) hy))
theorem cR.ib (h : cR V (M 1) nt nc nq nl wk) (hb : cB V nt nc nl B) (hB : B + 6600 * 40 < 2000000000) {y : Nat} (hy : wk + y ≤ 39) : fz_sum (fz_its V nt nc nl wk y 4) nt + fz_sum (fz_its V nt nc nl wk y 12) nc = fz_sum (fm_t (fm_it (M 1) nt nc nl wk y) 0) nt + fz_sum (fm_c (fm_it (M 1) nt nc nl wk y) 3) nc := by
  obtain ⟨r1, -⟩ := its_rel h hb hB y hy
  rw [fz_sum_cong (f := fz_its V nt nc nl wk y 4) (g := fm_t (fm_it (M 1) nt nc nl wk y) 0) (fun i hi => r1.eq.t (r := 4) hi), fz_sum_cong (f := fz_its V nt nc nl wk y 12) (g := fm_c (fm_it (M 1) nt nc nl wk y) 3) (fun i hi => r1.eq.cw (w := 3) (by decide) hi)]
end SIM9
