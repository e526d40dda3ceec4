/-! a text is run -/
theorem rl_rel {T : Nat → Int32} {n : Nat} (hn : n ≤ 150) : ∀ (k a : Nat) (v : Option Nat) (Z : Nat → Int32) (V M : Nat → Nat → Int32) (c k2 B : Nat), a ≤ n + 1 → n + 2 - a ≤ 2 * k → n + 2 - a ≤ k2 → tx_gd T n k2 (tx_sp T n a) → M 4 = T → cRx V (M 1) B → B + 6600 * k < 2000000000 →
    (cx_rl T n k a v Z V c).1 = (fm_rl n k2 (decide (tx_sp T n a < n)) (tx_sp T n a) M c).1 ∧ cRx (cx_rl T n k a v Z V c).2.1 ((fm_rl n k2 (decide (tx_sp T n a < n)) (tx_sp T n a) M c).2 1) (B + 6600 * k) ∧ (∀ r, (r = 2 ∨ r = 3 ∨ r = 4) → (fm_rl n k2 (decide (tx_sp T n a < n)) (tx_sp T n a) M c).2 r = M r) ∧ (∀ i, i < 3 → (fm_rl n k2 (decide (tx_sp T n a < n)) (tx_sp T n a) M c).2 0 i = M 0 i)
  | 0, a, v, Z, V, M, c, k2, B, h1, h2, _, _, _, _, _ => by omega
  | k + 1, a, v, Z, V, M, c, k2, B, h1, h2, h3, hgd, hT, hr, hB => by
    have hge := tx_sp_ge T n a
    rw [cx_rl]
    by_cases c1 : tx_sp T n a < n
    · rw [if_pos c1, decide_eq_true c1]
      obtain ⟨nt, nc, nq, nl, wk, hR, hb⟩ := hr
      obtain ⟨d1, d2⟩ := tx_gd_s (w := M 0 5) (Z := M 5) hgd (by omega) c1
      obtain ⟨g1, g2⟩ := rd_rel hn c1 (M 0 5) Z (M 5)
      have c2 : (cx_rd T n (tx_sp T n a) Z).1 = -1 := g1.trans d1
      obtain ⟨w, hw, e1, e2, e3, e4⟩ := g2 c2
      have hadv := cx_rd_adv (T := T) (Z := Z) (n := n) (p := tx_sp T n a) (by omega) (by omega) c2
      have hle := cx_rd_le (T := T) (Z := Z) c1
      obtain ⟨M1, eM1⟩ : ∃ M1, M1 = fm_nx M n (tx_sp T n a) := ⟨_, rfl⟩
      have m1 : M1 1 = M 1 := by rw [eM1]; rfl
      have m4 : M1 4 = T := by rw [eM1, ← hT]; rfl
      have mr : ∀ r, (r = 2 ∨ r = 3 ∨ r = 4) → M1 r = M r := fun r hr => by
        rw [eM1]
        rcases hr with rfl | rfl | rfl <;> rfl
      have ms : ∀ i, i < 3 → M1 0 i = M 0 i := fun i hi => by
        rw [eM1]
        rcases (show i = 0 ∨ i = 1 ∨ i = 2 by omega) with rfl | rfl | rfl <;> rfl
      have mw : M1 0 5 = nI w := by
        rw [eM1, ← e2, ← hT]
        rfl
      have m5 : M1 5 = (tx_rd T n (tx_sp T n a) (M 0 5) (M 5)).2.2.2 := by
        rw [eM1, ← hT]
        rfl
      have hna : fm_na M n (tx_sp T n a) = tx_sp T n (cx_rd T n (tx_sp T n a) Z).2.1 := by
        rw [fm_na, hT, e3]
      have hR1 : cR V (M1 1) nt nc nq nl wk := by rw [m1]; exact hR
      have hsim := sim_does (M := M1) (Z := (cx_rd T n (tx_sp T n a) Z).2.2.2) hR1 hb (by omega) w (fun i hi => by rw [m5]; exact (e4 i hi).symm)
      have hK := fm_K_does M1 nt nc nl wk w
      have eD := cx_dm_eq (Z := (cx_rd T n (tx_sp T n a) Z).2.2.2) (w := w) hR.wf
      have eQ : fm_dm (fm_nx M n (tx_sp T n a)) = fm_does M1 nt nc nl wk w := by
        rw [← eM1]
        exact fm_dm_eq hR1.mf mw hw
      rw [if_pos c2, e1, Option.getD_some, eD]
      rcases hsim with ⟨q1, q2, nt', nc', nq', nl', wk', q3, q4⟩ | ⟨q1, q2, q3, q4⟩
      · rw [if_pos q2, fm_rl_y (by omega) (by rw [eQ]; exact q1), hna, eQ]
        have ih := rl_rel hn k (cx_rd T n (tx_sp T n a) Z).2.1 (some w) (cx_rd T n (tx_sp T n a) Z).2.2.2 (cx_does V (cx_rd T n (tx_sp T n a) Z).2.2.2 nt nc nq nl wk w).2 (fm_does M1 nt nc nl wk w).2 (c + 1) (k2 - 1) (B + 6600) hle (by omega) (by omega) (by rw [e3]; exact d2) ((hK.row (r := 4) rfl rfl).trans m4) ⟨_, _, _, _, _, q3, q4⟩ (by omega)
        refine ⟨ih.1, ih.2.1.mono (by omega), fun r hr => (ih.2.2.1 r hr).trans ?_, fun i hi => (ih.2.2.2 i hi).trans ((hK.sc (by omega)).trans (ms i hi))⟩
        rcases hr with rfl | rfl | rfl
        · exact (hK.row (r := 2) rfl rfl).trans (mr 2 (by omega))
        · exact (hK.row (r := 3) rfl rfl).trans (mr 3 (by omega))
        · exact (hK.row (r := 4) rfl rfl).trans (mr 4 (by omega))
      · rw [if_neg (Int32.not_le.mpr q3), fm_rl_x (by omega) (by rw [eQ]; exact q4), eQ, q1, q2]
        exact ⟨rfl, ⟨nt, nc, nq, nl, wk, hR1, hb.mono (by omega)⟩, mr, ms⟩
    · rw [if_neg c1, decide_eq_false c1, fm_rl_n]
      exact ⟨rfl, hr.mono (by omega), fun _ _ => rfl, fun _ _ => rfl⟩
