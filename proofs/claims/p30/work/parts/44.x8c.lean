/-! commands on a class -/
def fz_wfx (V : Nat → Nat → Int32) : Prop := ∃ nt nc nq nl wk, fz_wf V nt nc nq nl wk
theorem fz_enq_hi {rk : Nat → Int32} {z : Nat} : ∀ (k : Nat) (Z : Nat → Int32) (i : Nat), k < i → fz_enq rk z k Z i = Z i
  | 0, Z, i, h => by
    show (if i = 0 then nI z else Z i) = Z i
    rw [if_neg (by omega)]
  | k + 1, Z, i, h => by
    rw [fz_enq]
    split
    · show (if i = k + 1 then nI z else Z i) = Z i
      rw [if_neg (by omega)]
    · rw [fz_enq_hi k _ i (by omega)]
      show (if i = k + 1 then Z k else Z i) = Z i
      rw [if_neg (by omega)]
theorem fz_enq_P {P : Int32 → Prop} {rk : Nat → Int32} {z : Nat} (hz : P (nI z)) : ∀ (k : Nat) (Z : Nat → Int32), (∀ i, i < k → P (Z i)) → ∀ i, i < k + 1 → P (fz_enq rk z k Z i)
  | 0, Z, _, i, hi => by
    show P (if i = 0 then nI z else Z i)
    rw [if_pos (by omega)]
    exact hz
  | k + 1, Z, h, i, hi => by
    rw [fz_enq]
    split
    · show P (if i = k + 1 then nI z else Z i)
      split
      · exact hz
      · exact h i (by omega)
    · by_cases q : i < k + 1
      · refine fz_enq_P hz k _ (fun j hj => ?_) i q
        show P (if j = k + 1 then Z k else Z j)
        rw [if_neg (by omega)]
        exact h j (by omega)
      · rw [fz_enq_hi k _ i (by omega)]
        show P (if i = k + 1 then Z k else Z i)
        rw [if_pos (by omega)]
        exact h k (by omega)
theorem fz_deq_P {P : Int32 → Prop} {z : Int32} {Q : Nat → Int32} : ∀ k, (∀ i, i < k → P (Q i)) → (fz_deq z Q k).1 ≤ k ∧ (∀ i, i < (fz_deq z Q k).1 → P ((fz_deq z Q k).2 i)) ∧ ∀ j, (fz_deq z Q k).1 ≤ j → (fz_deq z Q k).2 j = Q j
  | 0, _ => ⟨Nat.le_refl 0, fun i hi => absurd hi (Nat.not_lt_zero i), fun _ _ => rfl⟩
  | k + 1, h => by
    obtain ⟨h1, h2, h3⟩ := fz_deq_P (P := P) (z := z) (Q := Q) k (fun i hi => h i (Nat.lt_succ_of_lt hi))
    rw [fz_deq]
    split
    · exact ⟨Nat.le_succ_of_le h1, h2, h3⟩
    · refine ⟨Nat.succ_le_succ h1, fun i hi => ?_, fun j hj => ?_⟩
      · show P (if i = (fz_deq z Q k).1 then (fz_deq z Q k).2 k else (fz_deq z Q k).2 i)
        split
        · rw [h3 k h1]
          exact h k (Nat.lt_succ_self k)
        · exact h2 i (by have : i < (fz_deq z Q k).1 + 1 := hi; omega)
      · have hj' : (fz_deq z Q k).1 + 1 ≤ j := hj
        show (if j = (fz_deq z Q k).1 then (fz_deq z Q k).2 k else (fz_deq z Q k).2 j) = Q j
        rw [if_neg (by omega)]
        exact h3 j (by omega)
theorem fz_W_bring {V : Nat → Nat → Int32} {nt nc nq nl wk : Nat} (wf : fz_wf V nt nc nq nl wk) (x : Int32) : fz_wfx (fz_bring V nt x).2 := by
  have w0 : fz_wfx V := ⟨_, _, _, _, _, wf⟩
  obtain ⟨hnt, hnt6, hnc, hnc30, hnq, hqc, hnl, hnl12, hwk, hwk39, hT, hQ, hG, hB⟩ := wf
  rw [fz_bring]
  split
  · exact w0
  · split
    · split
      · exact w0
      · refine ⟨nt + 1, nc, nq, nl, wk, rfl, by omega, hnc, hnc30, hnq, hqc, hnl, hnl12, hwk, hwk39, fun i hi => ?_, hQ, fun i hi => ?_, fun i hi => ?_⟩
        · obtain ⟨j, h1, h2⟩ := hT i hi
          exact ⟨j, by omega, h2⟩
        · obtain ⟨j, h1, h2⟩ := hG i hi
          exact ⟨j, by omega, h2⟩
        · obtain ⟨j, h1, h2⟩ := hB i hi
          exact ⟨j, by omega, h2⟩
    · exact w0
theorem fz_W_markw {V : Nat → Nat → Int32} {nt nc nq nl wk : Nat} (wf : fz_wf V nt nc nq nl wk) (f g : Int32) (fr : Bool) : fz_wfx (fz_markw V wk f g fr).2 := by
  have w0 : fz_wfx V := ⟨_, _, _, _, _, wf⟩
  rw [fz_markw]
  split
  · exact w0
  · split
    · exact w0
    · split
      · split
        · exact ⟨nt, nc, nq, nl, wk, wf⟩
        · exact w0
      · exact w0
theorem fz_W_enter {V : Nat → Nat → Int32} {nt nc nq nl wk : Nat} (wf : fz_wf V nt nc nq nl wk) (t x : Int32) : fz_wfx (fz_enter V nc nq t x).2 := by
  have w0 : fz_wfx V := ⟨_, _, _, _, _, wf⟩
  obtain ⟨hnt, hnt6, hnc, hnc30, hnq, hqc, hnl, hnl12, hwk, hwk39, hT, hQ, hG, hB⟩ := wf
  rw [fz_enter]
  split
  · rename_i ht
    split
    · split
      · exact w0
      · rename_i hn
        obtain ⟨e, hj⟩ := fz_ix_s ht hnt (by omega)
        refine ⟨nt, nc + 1, nq + 1, nl, wk, hnt, hnt6, rfl, by omega, rfl, by omega, hnl, hnl12, hwk, hwk39, fun i hi => ?_, ?_, hG, hB⟩
        · show ∃ j, j < nt ∧ (if i = nc then t else V 9 i) = nI j
          split
          · exact ⟨_, hj, e⟩
          · exact hT i (by omega)
        · refine fz_enq_P (P := fun y => ∃ j, j < nc + 1 ∧ y = nI j) ⟨nc, by omega, rfl⟩ nq (V 16) (fun i hi => ?_)
          obtain ⟨j, h1, h2⟩ := hQ i hi
          exact ⟨j, by omega, h2⟩
    · exact w0
  · exact w0
theorem fz_W_exempt {V : Nat → Nat → Int32} {nt nc nq nl wk : Nat} (wf : fz_wf V nt nc nq nl wk) (x : Int32) : fz_wfx (fz_exempt V nc nl x).2 := by
  have w0 : fz_wfx V := ⟨_, _, _, _, _, wf⟩
  rw [fz_exempt]
  split
  · split
    · exact ⟨nt, nc, nq, nl, wk, wf⟩
    · exact w0
  · exact w0
/-- rows whose queue is one shorter at most -/
theorem fz_W_q {V U : Nat → Nat → Int32} {nt nc nq nl wk : Nat} {z : Int32} (wf : fz_wf V nt nc nq nl wk) (h3 : U 3 0 = V 3 0) (h8 : U 8 0 = V 8 0) (h17 : U 17 0 = V 17 0) (h0 : U 0 0 = V 0 0) (h9 : U 9 = V 9) (h18 : U 18 = V 18) (h19 : U 19 = V 19) (hq : U 8 1 = nI (fz_deq z (V 16) nq).1) (h16 : U 16 = (fz_deq z (V 16) nq).2) : fz_wfx U := by
  obtain ⟨hnt, hnt6, hnc, hnc30, hnq, hqc, hnl, hnl12, hwk, hwk39, hT, hQ, hG, hB⟩ := wf
  obtain ⟨g1, g2, -⟩ := fz_deq_P (P := fun y => ∃ j, j < nc ∧ y = nI j) (z := z) nq hQ
  exact ⟨nt, nc, (fz_deq z (V 16) nq).1, nl, wk, h3.trans hnt, hnt6, h8.trans hnc, hnc30, hq, Nat.le_trans g1 hqc, h17.trans hnl, hnl12, h0.trans hwk, hwk39, by rw [h9]; exact hT, by rw [h16]; exact g2, by rw [h18]; exact hG, by rw [h19]; exact hB⟩
theorem fz_W_make2 {V : Nat → Nat → Int32} {nt nc nq nl wk z j : Nat} (wf : fz_wf V nt nc nq nl wk) (fr : Bool) (ex : Int32) : fz_wfx (fz_make2 V nq z j fr ex).2 := by
  rw [fz_make2]
  cases fr
  · exact fz_W_q (z := nI z) wf rfl rfl rfl rfl rfl rfl rfl rfl rfl
  · exact fz_W_q (z := nI z) wf rfl rfl rfl rfl rfl rfl rfl rfl rfl
theorem fz_W_make {V : Nat → Nat → Int32} {nt nc nq nl wk : Nat} (wf : fz_wf V nt nc nq nl wk) (x : Int32) (fr : Bool) : fz_wfx (fz_make V nc nq wk x fr).2 := by
  have w0 : fz_wfx V := ⟨_, _, _, _, _, wf⟩
  rw [fz_make]
  split
  · split
    · split
      · exact fz_W_make2 wf fr 1
      · split
        · exact fz_W_make2 wf fr 0
        · exact w0
    · exact w0
  · exact w0
theorem fz_W_drop {V : Nat → Nat → Int32} {nt nc nq nl wk : Nat} (wf : fz_wf V nt nc nq nl wk) (x : Int32) : fz_wfx (fz_drop V nc nq x).2 := by
  have w0 : fz_wfx V := ⟨_, _, _, _, _, wf⟩
  rw [fz_drop]
  split
  · split
    · exact fz_W_q (z := nI x.toNatClampNeg) wf rfl rfl rfl rfl rfl rfl rfl rfl rfl
    · exact w0
  · exact w0
theorem fz_W_lend {V : Nat → Nat → Int32} {nt nc nq nl wk : Nat} (wf : fz_wf V nt nc nq nl wk) (f g y w : Int32) : fz_wfx (fz_lend V nt nl f g y w).2 := by
  have w0 : fz_wfx V := ⟨_, _, _, _, _, wf⟩
  obtain ⟨hnt, hnt6, hnc, hnc30, hnq, hqc, hnl, hnl12, hwk, hwk39, hT, hQ, hG, hB⟩ := wf
  rw [fz_lend]
  repeat' split
  all_goals try exact w0
  rename_i hf hg _ _ _ _ _ _ hn _ _
  obtain ⟨e1, h1⟩ := fz_ix_s hf hnt (by omega)
  obtain ⟨e2, h2⟩ := fz_ix_s hg hnt (by omega)
  refine ⟨nt, nc, nq, nl + 1, wk, hnt, hnt6, hnc, hnc30, hnq, hqc, rfl, by omega, hwk, hwk39, hT, hQ, fun i hi => ?_, fun i hi => ?_⟩
  · show ∃ j, j < nt ∧ (if i = nl then f else V 18 i) = nI j
    split
    · exact ⟨_, h1, e1⟩
    · exact hG i (by omega)
  · show ∃ j, j < nt ∧ (if i = nl then g else V 19 i) = nI j
    split
    · exact ⟨_, h2, e2⟩
    · exact hB i (by omega)
theorem fz_W_repay {V : Nat → Nat → Int32} {nt nc nq nl wk : Nat} (wf : fz_wf V nt nc nq nl wk) (x y : Int32) : fz_wfx (fz_repay V nl x y).2 := by
  have w0 : fz_wfx V := ⟨_, _, _, _, _, wf⟩
  rw [fz_repay]
  repeat' split
  all_goals exact w0
theorem fz_W_set {V : Nat → Nat → Int32} {nt nc nq nl wk : Nat} (wf : fz_wf V nt nc nq nl wk) (x y : Int32) : fz_wfx (fz_set V x y).2 := by
  have w0 : fz_wfx V := ⟨_, _, _, _, _, wf⟩
  rw [fz_set]
  repeat' split
  all_goals exact w0
theorem fz_W_close {V : Nat → Nat → Int32} {nt nc nq nl wk : Nat} (wf : fz_wf V nt nc nq nl wk) : fz_wfx (fz_close V nt nc nl wk).2 := by
  by_cases h : wk < 39
  · exact ⟨_, _, _, _, _, fz_close_wf wf h⟩
  · rw [fz_close, if_pos (by omega)]
    exact ⟨_, _, _, _, _, wf⟩
/-- verb w with the numbers Z -/
def cx_does (V : Nat → Nat → Int32) (Z : Nat → Int32) (nt nc nq nl wk : Nat) : Nat → Int32 × (Nat → Nat → Int32)
  | 0 => fz_bring V nt (Z 0)
  | 1 => fz_markw V wk (Z 0) (Z 1) true
  | 2 => fz_markw V wk (Z 0) (Z 1) false
  | 3 => fz_enter V nc nq (Z 0) (Z 1)
  | 4 => fz_exempt V nc nl (Z 0)
  | 5 => fz_make V nc nq wk (Z 0) false
  | 6 => fz_make V nc nq wk (Z 0) true
  | 7 => fz_drop V nc nq (Z 0)
  | 8 => fz_lend V nt nl (Z 0) (Z 1) (Z 2) (Z 3)
  | 9 => fz_repay V nl (Z 0) (Z 1)
  | 10 => fz_set V (Z 0) (Z 1)
  | _ + 11 => fz_close V nt nc nl wk
theorem cx_W_does {V : Nat → Nat → Int32} {Z : Nat → Int32} {nt nc nq nl wk : Nat} (wf : fz_wf V nt nc nq nl wk) : ∀ w, fz_wfx (cx_does V Z nt nc nq nl wk w).2
  | 0 => fz_W_bring wf _
  | 1 => fz_W_markw wf _ _ _
  | 2 => fz_W_markw wf _ _ _
  | 3 => fz_W_enter wf _ _
  | 4 => fz_W_exempt wf _
  | 5 => fz_W_make wf _ _
  | 6 => fz_W_make wf _ _
  | 7 => fz_W_drop wf _
  | 8 => fz_W_lend wf _ _ _ _
  | 9 => fz_W_repay wf _ _
  | 10 => fz_W_set wf _ _
  | _ + 11 => fz_W_close wf
/-- the same, the counts read off the rows -/
def cx_dm (V : Nat → Nat → Int32) (Z : Nat → Int32) (w : Nat) : Int32 × (Nat → Nat → Int32) := cx_does V Z (V 3 0).toNatClampNeg (V 8 0).toNatClampNeg (V 8 1).toNatClampNeg (V 17 0).toNatClampNeg (V 0 0).toNatClampNeg w
theorem cx_dm_eq {V : Nat → Nat → Int32} {Z : Nat → Int32} {nt nc nq nl wk w : Nat} (wf : fz_wf V nt nc nq nl wk) : cx_dm V Z w = cx_does V Z nt nc nq nl wk w := by
  obtain ⟨hnt, hnt6, hnc, hnc30, hnq, hqc, hnl, hnl12, hwk, hwk39, hT, hQ, hG, hB⟩ := wf
  rw [cx_dm, fz_tnat hnt (by omega), fz_tnat hnc (by omega), fz_tnat hnq (by omega), fz_tnat hnl (by omega), fz_tnat hwk (by omega)]
theorem cx_rd_w {T : Nat → Int32} {n p : Nat} {Z : Nat → Int32} (h : (cx_rd T n p Z).1 = -1) (hp : p < 2000) : ∃ w, w < 12 ∧ (cx_rd T n p Z).2.2.1 = some w := by
  cases hf : vb_find T p (tx_le T n p) with
  | none =>
    rw [cx_rd_none hf] at h
    exact absurd (show nI p = -1 from h) (fun z => absurd (nI_pos (n := p) (by omega)) (by rw [z]; decide))
  | some w =>
    refine ⟨w, vb_find_lt hf, ?_⟩
    rw [cx_rd_some hf, cx_rd2]
    cases (cx_ns T n (tx_many w) 0 (tx_le T n p) Z).1
    · rfl
    · rw [cond_true]
      split <;> rfl
/-- the text is carried out from a on: how many commands, the rows, where it stops, the verb and the numbers read last -/
def cx_rl (T : Nat → Int32) (n : Nat) : Nat → Nat → Option Nat → (Nat → Int32) → (Nat → Nat → Int32) → Nat → Nat × (Nat → Nat → Int32) × Nat × Option Nat × (Nat → Int32)
  | 0, a, v, Z, V, c => (c, V, a, v, Z)
  | k + 1, a, v, Z, V, c => if tx_sp T n a < n then (if (cx_rd T n (tx_sp T n a) Z).1 = -1 then (if 0 ≤ (cx_dm V (cx_rd T n (tx_sp T n a) Z).2.2.2 ((cx_rd T n (tx_sp T n a) Z).2.2.1.getD 0)).1 then cx_rl T n k (cx_rd T n (tx_sp T n a) Z).2.1 (cx_rd T n (tx_sp T n a) Z).2.2.1 (cx_rd T n (tx_sp T n a) Z).2.2.2 (cx_dm V (cx_rd T n (tx_sp T n a) Z).2.2.2 ((cx_rd T n (tx_sp T n a) Z).2.2.1.getD 0)).2 (c + 1) else (c, (cx_dm V (cx_rd T n (tx_sp T n a) Z).2.2.2 ((cx_rd T n (tx_sp T n a) Z).2.2.1.getD 0)).2, (cx_rd T n (tx_sp T n a) Z).2.1, (cx_rd T n (tx_sp T n a) Z).2.2.1, (cx_rd T n (tx_sp T n a) Z).2.2.2)) else (c, V, (cx_rd T n (tx_sp T n a) Z).2.1, (cx_rd T n (tx_sp T n a) Z).2.2.1, (cx_rd T n (tx_sp T n a) Z).2.2.2)) else (c, V, tx_sp T n a, v, Z)
