/-! the model: public changes, runs of commands, digest -/
theorem fm_does_11 {M : Nat → Nat → Int32} {nt nc nl wk : Nat} : fm_does M nt nc nl wk 11 = fm_ends1 M nt nc nl wk := rfl
-- a run's texts
theorem tx_ns_ind (T : Nat → Int32) (n : Nat) : ∀ k i p f Z Z', (tx_ns T n k i p f Z).1 = (tx_ns T n k i p f Z').1 ∧ (tx_ns T n k i p f Z).2.1 = (tx_ns T n k i p f Z').2.1
  | 0, _, _, _, _, _ => ⟨rfl, rfl⟩
  | k + 1, i, p, f, Z, Z' => by
    rw [tx_ns, tx_ns]
    split
    · exact tx_ns_ind T n k (i + 1) _ _ _ _
    · exact ⟨rfl, rfl⟩
theorem tx_rd_ind (T : Nat → Int32) (n p : Nat) (w w' : Int32) (Z Z' : Nat → Int32) : (tx_rd T n p w Z).1 = (tx_rd T n p w' Z').1 ∧ (tx_rd T n p w Z).2.2.1 = (tx_rd T n p w' Z').2.2.1 := by
  rw [tx_rd, tx_rd]
  split
  · exact ⟨rfl, rfl⟩
  · split
    · exact ⟨rfl, rfl⟩
    · obtain ⟨h1, h2⟩ := tx_ns_ind T n (tx_many (tx_wd T n p).toNatClampNeg) 0 (tx_le T n p) (-1) Z Z'
      rw [tx_rd2, tx_rd2, h1, h2]
      exact ⟨rfl, rfl⟩
theorem tx_rd_w {T : Nat → Int32} {n p : Nat} {w : Int32} {Z : Nat → Int32} (hp : p < 2000) (h : (tx_rd T n p w Z).2.2.1 = -1) : ∃ j : Nat, j < 12 ∧ (tx_rd T n p w Z).2.1 = nI j := by
  rw [tx_rd] at h ⊢
  split at h
  · exact absurd h (fm_m1 (by show p < 2 ^ 31; omega))
  · next h1 =>
    rw [if_neg h1]
    split at h
    · exact absurd h (fm_m1 (by show p < 2 ^ 31; omega))
    · next h2 =>
      rw [if_neg h2]
      exact (tx_word_or _).resolve_left h2
/-- from place a on all is well, k commands at most -/
def tx_gd (T : Nat → Int32) (n : Nat) : Nat → Nat → Prop
  | 0, _ => True
  | k + 1, a => a < n → ((tx_rd T n a 0 (fun _ => 0)).2.2.1 = -1 ∧ tx_gd T n k (tx_sp T n (tx_rd T n a 0 (fun _ => 0)).1))
theorem tx_fo_gd {T : Nat → Int32} {n : Nat} : ∀ (k : Nat) (S : Nat × Int32 × Int32 × (Nat → Int32)), S.2.2.1 = -1 → (tx_fo T n k S).2.2.1 = -1 → tx_gd T n k S.1
  | 0, _, _, _ => trivial
  | k + 1, S, h0, h => fun hn => by
    rw [tx_fo_s h0 hn (by omega)] at h
    have e := tx_rd_ind T n S.1 S.2.1 0 S.2.2.2 (fun _ => 0)
    have hf : (tx_fs T n S).2.2.1 = -1 := by
      by_cases q : (tx_fs T n S).2.2.1 = -1
      · exact q
      · rw [tx_fo_f q] at h
        exact h
    have r := tx_fo_gd k (tx_fs T n S) hf h
    rw [← e.1, ← e.2]
    exact ⟨hf, r⟩
theorem tx_gd_s {T : Nat → Int32} {n k a : Nat} {w : Int32} {Z : Nat → Int32} (h : tx_gd T n k a) (hk : 0 < k) (ha : a < n) : (tx_rd T n a w Z).2.2.1 = -1 ∧ tx_gd T n (k - 1) (tx_sp T n (tx_rd T n a w Z).1) := by
  obtain ⟨j, rfl⟩ : ∃ j, k = j + 1 := ⟨k - 1, by omega⟩
  have e := tx_rd_ind T n a w 0 Z (fun _ => 0)
  rw [e.1, e.2]
  exact h ha
/-- the model behind the reading of a command from place a on, and of the spaces behind it -/
def fm_nx (M : Nat → Nat → Int32) (n a : Nat) : Nat → Nat → Int32 := fm_st M (tx_fs (M 4) n (a, M 0 5, M 0 6, M 5))
def fm_na (M : Nat → Nat → Int32) (n a : Nat) : Nat := tx_sp (M 4) n (tx_rd (M 4) n a (M 0 5) (M 5)).1
/-- a command is done, the state's counts read off the state -/
def fm_dm (M : Nat → Nat → Int32) : Int32 × (Nat → Nat → Int32) := fm_does M (M 1 1).toNatClampNeg (M 1 2).toNatClampNeg (M 1 3).toNatClampNeg (M 1 0).toNatClampNeg (M 0 5).toNatClampNeg
theorem fm_dm_eq {M : Nat → Nat → Int32} {nt nc nl wk w : Nat} (wf : fm_wf (M 1) nt nc nl wk) (hw : M 0 5 = nI w) (hw12 : w < 12) : fm_dm M = fm_does M nt nc nl wk w := by
  obtain ⟨hnt, hnt6, hnc, hnc30, hnl, hnl12, hwk, hwk39, hT, hG, hB, hZo⟩ := wf
  rw [fm_dm, fz_tnat hnt (by omega), fz_tnat hnc (by omega), fz_tnat hnl (by omega), fz_tnat hwk (by omega), fz_tnat hw (by omega)]
/-- commands are done as long as they may: how many, and the model then -/
def fm_rl (n : Nat) : Nat → Bool → Nat → (Nat → Nat → Int32) → Nat → Nat × (Nat → Nat → Int32)
  | 0, _, _, M, c => (c, M)
  | k + 1, go, a, M, c => bif go then (if (fm_dm (fm_nx M n a)).1 = 0 then fm_rl n k (decide (fm_na M n a < n)) (fm_na M n a) (fm_dm (fm_nx M n a)).2 (c + 1) else (c, (fm_dm (fm_nx M n a)).2)) else (c, M)
theorem fm_rl_n {n k a : Nat} {M : Nat → Nat → Int32} {c : Nat} : fm_rl n k false a M c = (c, M) := by
  cases k
  · rfl
  · rw [fm_rl, cond_false]
theorem fm_rl_y {n k a : Nat} {M : Nat → Nat → Int32} {c : Nat} (hk : 0 < k) (h : (fm_dm (fm_nx M n a)).1 = 0) : fm_rl n k true a M c = fm_rl n (k - 1) (decide (fm_na M n a < n)) (fm_na M n a) (fm_dm (fm_nx M n a)).2 (c + 1) := by
  obtain ⟨j, rfl⟩ : ∃ j, k = j + 1 := ⟨k - 1, by omega⟩
  rw [fm_rl, cond_true, if_pos h]
  rfl
theorem fm_rl_x {n k a : Nat} {M : Nat → Nat → Int32} {c : Nat} (hk : 0 < k) (h : ¬ (fm_dm (fm_nx M n a)).1 = 0) : fm_rl n k true a M c = (c, (fm_dm (fm_nx M n a)).2) := by
  obtain ⟨j, rfl⟩ : ∃ j, k = j + 1 := ⟨k - 1, by omega⟩
  rw [fm_rl, cond_true, if_neg h]
/-- the state from before is saved; the text from its start on -/
def fm_svd (M : Nat → Nat → Int32) (ns : Nat) : Nat → Nat → Int32 := fz_up (fz_up (fz_up M 3 (M 1)) 0 (upd (M 0) 0 (nI (fm_ns ns)))) 2 (fm_sv (M 2) (M 1) ns)
def fm_r0 (M : Nat → Nat → Int32) (n ns : Nat) : Nat → Nat → Int32 := fz_up (fm_svd M ns) 0 (upd (fm_svd M ns 0) 4 (nI (tx_sp (M 4) n 0)))
def fm_run1 (M : Nat → Nat → Int32) (n ns : Nat) : Nat × (Nat → Nat → Int32) := fm_rl n 200 (decide (tx_sp (M 4) n 0 < n)) (tx_sp (M 4) n 0) (fm_r0 M n ns) 0
def fm_run (M : Nat → Nat → Int32) (n ns : Nat) : Int32 × (Nat → Nat → Int32) :=
  if (tx_fa (M 4) n (M 0 5) (M 5)).2.2.1 = -1 then (nI (fm_run1 (fm_st M (tx_fa (M 4) n (M 0 5) (M 5))) n ns).1, fz_up (fm_run1 (fm_st M (tx_fa (M 4) n (M 0 5) (M 5))) n ns).2 0 (upd ((fm_run1 (fm_st M (tx_fa (M 4) n (M 0 5) (M 5))) n ns).2 0) 2 0))
  else ((-10) - (tx_fa (M 4) n (M 0 5) (M 5)).2.2.1, fz_up (fm_st M (tx_fa (M 4) n (M 0 5) (M 5))) 0 (upd (fm_st M (tx_fa (M 4) n (M 0 5) (M 5)) 0) 2 0))
theorem fm_na_le {M : Nat → Nat → Int32} {n a : Nat} (ha : a < n) : fm_na M n a ≤ n + 1 := by
  have h := tx_rd_le (w0 := M 0 5) (Z := M 5) (T := M 4) ha
  have h2 := tx_sp_le (M 4) n (tx_rd (M 4) n a (M 0 5) (M 5)).1
  show tx_sp (M 4) n (tx_rd (M 4) n a (M 0 5) (M 5)).1 ≤ n + 1
  omega
theorem fm_na_ge {M : Nat → Nat → Int32} {n a : Nat} (ha : a < 1000) (h : (tx_rd (M 4) n a (M 0 5) (M 5)).2.2.1 = -1) : a + 1 ≤ fm_na M n a := Nat.le_trans (tx_rd_adv ha h) (tx_sp_ge _ _ _)
-- digests
def fz_mix (h : Int64) (v : Int32) : Int64 := 31 * h + v.toInt64
def fz_hs (f : Nat → Int32) : Nat → Int64 → Int64
  | 0, h => h
  | k + 1, h => fz_mix (fz_hs f k h) (f k)
theorem fz_hs_cong {f g : Nat → Int32} {h : Int64} : ∀ {n : Nat}, (∀ k, k < n → f k = g k) → fz_hs f n h = fz_hs g n h
  | 0, _ => rfl
  | n + 1, e => by rw [fz_hs, fz_hs, fz_hs_cong (fun k hk => e k (Nat.lt_succ_of_lt hk)), e n (Nat.lt_succ_self n)]
/-- rows of w numbers, and what x says of each -/
def fz_ht (f : Nat → Nat → Int32) (w : Nat) (x : Nat → Int64 → Int64) : Nat → Int64 → Int64
  | 0, h => h
  | k + 1, h => x k (fz_hs (f k) w (fz_ht f w x k h))
theorem fz_ht_cong {f g : Nat → Nat → Int32} {w : Nat} {x y : Nat → Int64 → Int64} {h : Int64} : ∀ {n : Nat}, (∀ k, k < n → (∀ i, i < w → f k i = g k i) ∧ ∀ h, x k h = y k h) → fz_ht f w x n h = fz_ht g w y n h
  | 0, _ => rfl
  | n + 1, e => by rw [fz_ht, fz_ht, fz_ht_cong (fun k hk => e k (Nat.lt_succ_of_lt hk)), (e n (Nat.lt_succ_self n)).2, fz_hs_cong (e n (Nat.lt_succ_self n)).1]
def fm_wtn (N : Nat → Int32) (nc : Nat) : Nat := fz_ct (fun i => decide (fm_c N 2 i = 0) && (decide ((-1 : Int32) = -1) || decide (fm_c N 0 i = -1))) nc + fz_ct (fun i => decide (fm_c N 2 i = 1) && (decide ((-1 : Int32) = -1) || decide (fm_c N 0 i = -1))) nc
def fm_dg1 (M : Nat → Nat → Int32) (nt nc nl wk : Nat) : Int64 := fz_hs (fun w => M 1 (9 + w)) 40 (fz_hs (fm_num M nt nc nl wk) 18 (fz_mix 43672 (M 0 0)))
def fm_dg2 (M : Nat → Nat → Int32) (nt nc nl wk : Nat) : Int64 := fz_ht (fun t w => fz_tval (fm_V (M 1)) nc nl t w) 11 (fun t h => fz_mix h (fm_xc (M 1) nc nl t)) nt (fm_dg1 M nt nc nl wk)
def fm_dg3 (M : Nat → Nat → Int32) (nt nc nl wk : Nat) : Int64 := fz_hs (fm_pick (fm_wl (M 1) nc (-1) 1 1 9)) (fm_wtn (M 1) nc) (fz_ht (fun c w => fm_c (M 1) w c) 7 (fun _ h => h) nc (fm_dg2 M nt nc nl wk))
def fm_dg (M : Nat → Nat → Int32) (nt nc nl wk : Nat) : Int64 := fz_mix (fz_ht (fun q w => fm_l (M 1) w q) 6 (fun _ h => h) nl (fm_dg3 M nt nc nl wk)) (fz_thaw (fun i => M 1 (9 + i)) wk)
