/-! the model: what reads it -/
theorem fm_m1 {t : Nat} (h : t < 2 ^ 31) : ¬ nI t = -1 := fun e => absurd (show (-1 : Int32) < 0 by decide) (e ▸ nI_pos h)
theorem fm_sel_t {N : Nat → Int32} {t : Nat} (h : t < 2 ^ 31) (i : Nat) : (decide (nI t = -1) || decide (fm_c N 0 i = nI t)) = decide (fm_c N 0 i = nI t) := by
  rw [decide_eq_false (fm_m1 h), Bool.false_or]
theorem fm_inst {N : Nat → Int32} {t n : Nat} {s : Int32} (h : t < 2 ^ 31) : fz_ct (fun i => decide (fm_c N 2 i = s) && (decide (nI t = -1) || decide (fm_c N 0 i = nI t))) n = fz_ct (fun i => decide (fm_c N 0 i = nI t) && decide (fm_c N 2 i = s)) n :=
  fz_ct_cong fun i _ => by
    show (decide (fm_c N 2 i = s) && (decide (nI t = -1) || decide (fm_c N 0 i = nI t))) = (decide (fm_c N 0 i = nI t) && decide (fm_c N 2 i = s))
    rw [fm_sel_t h, Bool.and_comm]
theorem fm_instA {N : Nat → Int32} {n : Nat} {s : Int32} : fz_ct (fun i => decide (fm_c N 2 i = s) && (decide ((-1 : Int32) = -1) || decide (fm_c N 0 i = -1))) n = fz_ct (fun i => decide (fm_c N 2 i = s)) n :=
  fz_ct_cong fun i _ => by
    show (decide (fm_c N 2 i = s) && (decide ((-1 : Int32) = -1) || decide (fm_c N 0 i = -1))) = decide (fm_c N 2 i = s)
    rw [decide_eq_true (rfl : (-1 : Int32) = -1), Bool.true_or, Bool.and_true]
theorem fm_held {N : Nat → Int32} {t n : Nat} (h : t < 2 ^ 31) : fz_sum (fun i => if (decide (nI t = -1) || decide (fm_c N 0 i = nI t)) = true then fm_c N 3 i else 0) n = fz_sum (fun i => if fm_c N 0 i = nI t then fm_c N 3 i else 0) n :=
  fz_sum_cong fun i _ => by
    show (if (decide (nI t = -1) || decide (fm_c N 0 i = nI t)) = true then fm_c N 3 i else 0) = (if fm_c N 0 i = nI t then fm_c N 3 i else 0)
    rw [fm_sel_t h]
    by_cases e : fm_c N 0 i = nI t
    · rw [if_pos e, if_pos (decide_eq_true e)]
    · rw [if_neg e, if_neg (by rw [decide_eq_false e]; exact Bool.false_ne_true)]
theorem fm_heldA {N : Nat → Int32} {n : Nat} : fz_sum (fun i => if (decide ((-1 : Int32) = -1) || decide (fm_c N 0 i = -1)) = true then fm_c N 3 i else 0) n = fz_sum (fm_c N 3) n :=
  fz_sum_cong fun i _ => by
    show (if (decide ((-1 : Int32) = -1) || decide (fm_c N 0 i = -1)) = true then fm_c N 3 i else 0) = fm_c N 3 i
    rw [decide_eq_true (rfl : (-1 : Int32) = -1), Bool.true_or, if_pos rfl]
theorem fm_tv1 {N : Nat → Int32} {nc nl t : Nat} (h : t < 2 ^ 31) : fz_sum (fun i => if (decide (nI t = -1) || decide (fm_c N 0 i = nI t)) = true then fm_c N 3 i else 0) nc = fz_tval (fm_V N) nc nl t 1 := fm_held h
theorem fm_tv4 {N : Nat → Int32} {nc nl t : Nat} (h : t < 2 ^ 31) : nI (fz_ct (fun i => decide (fm_c N 2 i = 0) && (decide (nI t = -1) || decide (fm_c N 0 i = nI t))) nc + fz_ct (fun i => decide (fm_c N 2 i = 1) && (decide (nI t = -1) || decide (fm_c N 0 i = nI t))) nc) = fz_tval (fm_V N) nc nl t 4 := by
  rw [fm_inst h, fm_inst h]
  rfl
theorem fm_tv5 {N : Nat → Int32} {nc nl t : Nat} (h : t < 2 ^ 31) : nI (fz_ct (fun i => decide (fm_c N 2 i = nI (5 - 3)) && (decide (nI t = -1) || decide (fm_c N 0 i = nI t))) nc) = fz_tval (fm_V N) nc nl t 5 := by
  rw [fm_inst h]
  rfl
theorem fm_tv6 {N : Nat → Int32} {nc nl t : Nat} (h : t < 2 ^ 31) : nI (fz_ct (fun i => decide (fm_c N 2 i = nI (6 - 3)) && (decide (nI t = -1) || decide (fm_c N 0 i = nI t))) nc) = fz_tval (fm_V N) nc nl t 6 := by
  rw [fm_inst h]
  rfl
theorem fm_tv9 {N : Nat → Int32} {nc nl t : Nat} : fz_tval (fm_V N) nc nl t 9 = fz_nz (fz_b (fz_owes (fm_l N 1) (fm_l N 3) (fm_l N 4) (N 0) nl (nI t))) := rfl
theorem fm_tv10 {N : Nat → Int32} {nc nl t : Nat} : fz_tval (fm_V N) nc nl t 10 = fz_nz (fz_b (fz_flt (fm_c N 0) (fm_c N 2) (fm_c N 5) nc (nI t) (N 0))) := rfl
theorem fm_in_n {x hi : Int32} {m : Nat} (hM : hi = nI m) (hm : m < 2 ^ 31) (h : fm_in x 0 hi = true) : ∃ j : Nat, j ≤ m ∧ x = nI j := by
  simp only [fm_in, Bool.and_eq_true, Bool.not_eq_true', decide_eq_false_iff_not] at h
  obtain ⟨j, hj, rfl⟩ := nI_of h.1
  refine ⟨j, ?_, rfl⟩
  rw [hM] at h
  exact (nI_leI hj hm).mp (Int32.not_lt.mp h.2)
def fm_qteam (M : Nat → Nat → Int32) (nc nl : Nat) (x y : Int32) : Int32 × (Nat → Nat → Int32) := if fz_ix x (M 1 1) = true then (if fm_in y 0 10 = true then (fz_tval (fm_V (M 1)) nc nl x.toNatClampNeg y.toNatClampNeg, fz_up M 0 (upd (M 0) 2 0)) else (0, fz_up M 0 (upd (M 0) 2 2))) else (0, fz_up M 0 (upd (M 0) 2 1))
def fm_qch (M : Nat → Nat → Int32) (x y : Int32) : Int32 × (Nat → Nat → Int32) := if fz_ix x (M 1 2) = true then (if fm_in y 0 6 = true then (fm_c (M 1) y.toNatClampNeg x.toNatClampNeg, fz_up M 0 (upd (M 0) 2 0)) else (0, fz_up M 0 (upd (M 0) 2 2))) else (0, fz_up M 0 (upd (M 0) 2 1))
def fm_qln (M : Nat → Nat → Int32) (x y : Int32) : Int32 × (Nat → Nat → Int32) := if fz_ix x (M 1 3) = true then (if fm_in y 0 5 = true then (fm_l (M 1) y.toNatClampNeg x.toNatClampNeg, fz_up M 0 (upd (M 0) 2 0)) else (0, fz_up M 0 (upd (M 0) 2 2))) else (0, fz_up M 0 (upd (M 0) 2 1))
/-- change c is of risk r, its state at most s, of team x (-1: of any) -/
def fm_sel (N : Nat → Int32) (x s : Int32) (r c : Nat) : Bool := decide (fm_c N 1 c = nI r) && decide (fm_c N 2 c ≤ s) && (decide (x = -1) || decide (fm_c N 0 c = x))
def fm_wl (N : Nat → Int32) (nc : Nat) (x s : Int32) (r k : Nat) : List Nat := (List.range' r k).flatMap (fun r => (List.range' 0 nc).filter (fm_sel N x s r))
def fm_pick : List Nat → Nat → Int32
  | [], _ => -1
  | c :: _, 0 => nI c
  | _ :: L, i + 1 => fm_pick L i
theorem fm_wl_s {N : Nat → Int32} {nc : Nat} {x s : Int32} {r : Nat} (h : r < 10) : fm_wl N nc x s r (10 - r) = (List.range' 0 (nc - 0)).filter (fm_sel N x s r) ++ fm_wl N nc x s (r + 1) (9 - r) := by
  rw [fm_wl, show 10 - r = (9 - r) + 1 by omega, List.range'_succ, List.flatMap_cons]
  rfl
theorem fm_step {N : Nat → Int32} {nc : Nat} {x s : Int32} {r c i : Nat} {L : List Nat} {v : Int32} (hc : c < nc) (h : fm_pick ((List.range' c (nc - c)).filter (fm_sel N x s r) ++ L) i = v) :
    (fm_sel N x s r c = false → fm_pick ((List.range' (c + 1) (nc - (c + 1))).filter (fm_sel N x s r) ++ L) i = v) ∧ (fm_sel N x s r c = true → i = 0 → nI c = v) ∧ (fm_sel N x s r c = true → 0 < i → fm_pick ((List.range' (c + 1) (nc - (c + 1))).filter (fm_sel N x s r) ++ L) (i - 1) = v) := by
  rw [show nc - c = (nc - (c + 1)) + 1 by omega, List.range'_succ] at h
  refine ⟨fun e => ?_, fun e h0 => ?_, fun e h0 => ?_⟩
  · rw [List.filter_cons_of_neg (by rw [e]; exact Bool.false_ne_true)] at h
    exact h
  · rw [List.filter_cons_of_pos e, h0] at h
    exact h
  · rw [List.filter_cons_of_pos e] at h
    obtain ⟨j, rfl⟩ : ∃ j, i = j + 1 := ⟨i - 1, by omega⟩
    exact h
theorem fm_wl_lt {N : Nat → Int32} {nc : Nat} {x s : Int32} {r k c : Nat} (h : c ∈ fm_wl N nc x s r k) : c < nc := by
  obtain ⟨q, -, h2⟩ := List.mem_flatMap.mp h
  have h3 := (List.mem_filter.mp h2).1
  rw [List.mem_range'_1] at h3
  omega
theorem fm_pick_get : ∀ (L : List Nat) (u : Nat), (fm_pick L u = -1 ∧ L.drop u = []) ∨ ∃ c, c ∈ L ∧ fm_pick L u = nI c ∧ L.drop u = c :: L.drop (u + 1)
  | [], u => Or.inl ⟨by cases u <;> rfl, List.drop_nil⟩
  | c :: L, 0 => Or.inr ⟨c, List.mem_cons_self, rfl, rfl⟩
  | c :: L, u + 1 => by
    rcases fm_pick_get L u with h | ⟨d, h1, h2, h3⟩
    · exact Or.inl ⟨h.1, h.2⟩
    · exact Or.inr ⟨d, List.mem_cons_of_mem _ h1, h2, h3⟩
theorem fm_pick_nil {L : List Nat} {u : Nat} (hL : ∀ c ∈ L, c < 30) (h : fm_pick L u = -1) : L.drop u = [] := by
  rcases fm_pick_get L u with q | ⟨c, hc, e, -⟩
  · exact q.2
  · exact absurd (e.symm.trans h) (fm_m1 (Nat.lt_trans (hL c hc) (by decide)))
theorem fm_wl_len {N : Nat → Int32} {nc : Nat} {x s : Int32} : ∀ (k r : Nat), (fm_wl N nc x s r k).length ≤ k * nc
  | 0, r => Nat.zero_le _
  | k + 1, r => by
    have h := fm_wl_len (N := N) (nc := nc) (x := x) (s := s) k (r + 1)
    have h2 := List.length_filter_le (fm_sel N x s r) (List.range' 0 nc)
    rw [List.length_range'] at h2
    rw [fm_wl, List.range'_succ, List.flatMap_cons, List.length_append, Nat.succ_mul]
    exact Nat.le_trans (Nat.add_le_add h2 h) (by omega)
def fm_qwait (M : Nat → Nat → Int32) (nc : Nat) (x : Int32) : Int32 × (Nat → Nat → Int32) := if 0 ≤ x then (fm_pick (fm_wl (M 1) nc (-1) 1 1 9) x.toNatClampNeg, fz_up M 0 (upd (M 0) 2 0)) else (0, fz_up M 0 (upd (M 0) 2 1))
def fm_qfrz (M : Nat → Nat → Int32) (x : Int32) : Int32 × (Nat → Nat → Int32) := if fm_in x 0 39 = true then (M 1 (9 + x.toNatClampNeg), fz_up M 0 (upd (M 0) 2 0)) else (0, fz_up M 0 (upd (M 0) 2 1))
def fm_num (M : Nat → Nat → Int32) (nt nc nl wk : Nat) : Nat → Int32
  | 12 => M 1 8
  | 17 => M 0 1
  | w => fz_wval (fm_V (M 1)) nt nc nl wk w
theorem fm_num11 {M : Nat → Nat → Int32} {nt nc nl wk : Nat} : fz_sum (fun i => if (decide ((-1 : Int32) = -1) || decide (fm_c (M 1) 0 i = -1)) = true then fm_c (M 1) 3 i else 0) nc = fm_num M nt nc nl wk 11 := fm_heldA
theorem fm_num15 {M : Nat → Nat → Int32} {nt nc nl wk : Nat} : nI (fz_ct (fun i => decide (fm_c (M 1) 2 i = 1) && (decide ((-1 : Int32) = -1) || decide (fm_c (M 1) 0 i = -1))) nc) = fm_num M nt nc nl wk 15 := by
  rw [fm_instA]
  rfl
def fm_qwhole (M : Nat → Nat → Int32) (nt nc nl wk : Nat) (x : Int32) : Int32 × (Nat → Nat → Int32) := if fm_in x 0 17 = true then (fm_num M nt nc nl wk x.toNatClampNeg, fz_up M 0 (upd (M 0) 2 0)) else (0, fz_up M 0 (upd (M 0) 2 1))
def fm_qwhy (M : Nat → Nat → Int32) (nl : Nat) (x : Int32) : Int32 × (Nat → Nat → Int32) := if fz_ix x (M 1 2) = true then (fz_reason (fm_V (M 1)) nl x.toNatClampNeg, fz_up M 0 (upd (M 0) 2 0)) else (0, fz_up M 0 (upd (M 0) 2 1))
def fm_cx (N : Nat → Int32) : List Nat → Int32 → Nat → Int32
  | [], _, u => nI u
  | c :: L, fr, u => if 0 ≤ fr - fm_c N 1 c * N 4 then fm_cx N L (fr - fm_c N 1 c * N 4) (u + 1) else nI u
def fm_xc (N : Nat → Int32) (nc nl t : Nat) : Int32 := fm_cx N (fm_wl N nc (nI t) 0 1 9) (bif fz_owes (fm_l N 1) (fm_l N 3) (fm_l N 4) (N 0) nl (nI t) then -1 else fm_t N 0 t) 0
def fm_qxc (M : Nat → Nat → Int32) (nc nl : Nat) (x : Int32) : Int32 × (Nat → Nat → Int32) := if fz_ix x (M 1 1) = true then (fm_xc (M 1) nc nl x.toNatClampNeg, fz_up M 0 (upd (M 0) 2 0)) else (0, fz_up M 0 (upd (M 0) 2 1))
def fm_qlend (M : Nat → Nat → Int32) (nt nl : Nat) (x y : Int32) : Int32 × (Nat → Nat → Int32) := if fz_ix x (M 1 1) = true then (if fm_in y 1 9 = true then (if y * M 1 4 - fm_t (M 1) 0 x.toNatClampNeg ≤ 0 then -1 else bif fz_owes (fm_l (M 1) 1) (fm_l (M 1) 3) (fm_l (M 1) 4) (M 1 0) nl x then -1 else fz_rich (fm_t (M 1) 0) x (y * M 1 4 - fm_t (M 1) 0 x.toNatClampNeg) nt, fz_up M 0 (upd (M 0) 2 0)) else (0, fz_up M 0 (upd (M 0) 2 2))) else (0, fz_up M 0 (upd (M 0) 2 1))
-- weeks to come
theorem fm_ea_fr (N : Nat → Int32) (nc : Nat) : ∀ k, k ≤ 6 → fm_fr N (fm_ea N nc k).2
  | 0, _ => fm_fr_rfl N
  | k + 1, h => fm_fr_ta (by omega) (by omega) (fm_fr_ta (by omega) (by omega) (fm_ea_fr N nc k (by omega)))
theorem fm_c1_fr {N Z : Nat → Int32} {nt nl d : Nat} (hnt : nt ≤ 6) (hnl : nl ≤ 12) (hG : ∀ i, i < nl → ∃ j, j < nt ∧ fm_l N 0 i = nI j) (hB : ∀ i, i < nl → ∃ j, j < nt ∧ fm_l N 1 i = nI j) (hZ : fm_fr N Z) : ∀ k, k ≤ nl → fm_fr N (fm_c1 Z d k)
  | 0, _ => hZ
  | k + 1, h => by
    have ih := fm_c1_fr (d := d) hnt hnl hG hB hZ k (by omega)
    obtain ⟨j, hj, ej⟩ := hB k (by omega)
    obtain ⟨g, hg, eg⟩ := hG k (by omega)
    rw [fm_c1]
    split
    · exact fm_fr_pays ((ih.l (by omega) (by omega) (by omega)).trans ej) ((ih.l (by omega) (by omega) (by omega)).trans eg) (by omega) (by omega) ih
    · exact ih
theorem fm_c2_fr {N Z : Nat → Int32} {nt nl : Nat} (hnt : nt ≤ 6) (hnl : nl ≤ 12) (hG : ∀ i, i < nl → ∃ j, j < nt ∧ fm_l N 0 i = nI j) (hB : ∀ i, i < nl → ∃ j, j < nt ∧ fm_l N 1 i = nI j) (hZ : fm_fr N Z) : ∀ d, fm_fr N (fm_c2 Z nl d)
  | 0 => hZ
  | d + 1 => fm_c1_fr hnt hnl hG hB (fm_c2_fr hnt hnl hG hB hZ d) nl (Nat.le_refl _)
theorem fm_week_fr {N : Nat → Int32} {nt nc nl wk : Nat} (wf : fm_wf N nt nc nl wk) {p : Nat} (h0 : p ≠ 0) (hp : p < 49 ∨ (67 ≤ p ∧ ¬ (277 ≤ p ∧ (p - 277) % 6 = 3))) : (fm_week N nt nc nl wk).2 p = N p := by
  obtain ⟨hnt, hnt6, hnc, hnc30, hnl, hnl12, hwk, hwk39, hT, hG, hB, hZo⟩ := wf
  have e : (fm_week N nt nc nl wk).2 p = upd (fm_c2 (fm_ea N nc nt).2 nl (wk + 1)) 0 (nI (wk + 1)) p := rfl
  rw [e, pk_un h0]
  exact fm_c2_fr hnt6 hnl12 hG hB (fm_ea_fr N nc nt hnt6) (wk + 1) p hp
theorem fm_week_wf {N : Nat → Int32} {nt nc nl wk : Nat} (wf : fm_wf N nt nc nl wk) (h39 : wk < 39) : fm_wf (fm_week N nt nc nl wk).2 nt nc nl (wk + 1) := by
  have hF : ∀ p, p ≠ 0 → (p < 49 ∨ (67 ≤ p ∧ ¬ (277 ≤ p ∧ (p - 277) % 6 = 3))) → (fm_week N nt nc nl wk).2 p = N p := fun p => fm_week_fr wf
  obtain ⟨hnt, hnt6, hnc, hnc30, hnl, hnl12, hwk, hwk39, hT, hG, hB, hZo⟩ := wf
  refine ⟨(hF 1 (by omega) (by omega)).trans hnt, hnt6, (hF 2 (by omega) (by omega)).trans hnc, hnc30, (hF 3 (by omega) (by omega)).trans hnl, hnl12, (show upd (fm_c2 (fm_ea N nc nt).2 nl (wk + 1)) 0 (nI (wk + 1)) 0 = _ from pk_us), by omega, fun i hi => ?_, fun i hi => ?_, fun i hi => ?_, fun i hi => ?_⟩
  · obtain ⟨j, hj, e⟩ := hT i hi
    exact ⟨j, hj, (hF _ (by omega) (by omega)).trans e⟩
  · obtain ⟨j, hj, e⟩ := hG i hi
    exact ⟨j, hj, (hF _ (by omega) (by omega)).trans e⟩
  · obtain ⟨j, hj, e⟩ := hB i hi
    exact ⟨j, hj, (hF _ (by omega) (by omega)).trans e⟩
  · have e := hF (9 + i) (by omega) (by omega)
    show (fm_week N nt nc nl wk).2 (9 + i) = 0 ∨ (fm_week N nt nc nl wk).2 (9 + i) = 1
    rw [e]
    exact hZo i hi
def fm_it (N : Nat → Int32) (nt nc nl wk : Nat) : Nat → (Nat → Int32)
  | 0 => N
  | n + 1 => (fm_week (fm_it N nt nc nl wk n) nt nc nl (wk + n)).2
theorem fm_it_wf {N : Nat → Int32} {nt nc nl wk : Nat} (wf : fm_wf N nt nc nl wk) : ∀ n, wk + n ≤ 39 → fm_wf (fm_it N nt nc nl wk n) nt nc nl (wk + n)
  | 0, _ => wf
  | n + 1, h => fm_week_wf (fm_it_wf wf n (by omega)) (by omega)
theorem fm_it_4 {N : Nat → Int32} {nt nc nl wk : Nat} (wf : fm_wf N nt nc nl wk) : ∀ n, wk + n ≤ 39 → fm_it N nt nc nl wk n 4 = N 4
  | 0, _ => rfl
  | n + 1, h => (fm_week_fr (fm_it_wf wf n (by omega)) (by omega) (by omega)).trans (fm_it_4 wf n (by omega))
/-- the first number from n on, k more at most, at which f is at least c -/
def fz_wu (f : Nat → Int32) (c : Int32) : Nat → Nat → Int32
  | 0, n => if c ≤ f n then nI n else -1
  | k + 1, n => if c ≤ f n then nI n else fz_wu f c k (n + 1)
theorem fz_wu_y {f : Nat → Int32} {c : Int32} {k n : Nat} (h : c ≤ f n) : fz_wu f c k n = nI n := by
  cases k <;> rw [fz_wu, if_pos h]
theorem fz_wu_n {f : Nat → Int32} {c : Int32} {k n : Nat} (h : ¬ c ≤ f n) (hk : k = 0) : fz_wu f c k n = -1 := by
  subst hk
  rw [fz_wu, if_neg h]
theorem fz_wu_s {f : Nat → Int32} {c : Int32} {k n : Nat} (h : ¬ c ≤ f n) (hk : 0 < k) : fz_wu f c k n = fz_wu f c (k - 1) (n + 1) := by
  obtain ⟨j, rfl⟩ : ∃ j, k = j + 1 := ⟨k - 1, by omega⟩
  rw [fz_wu, if_neg h]
  rfl
def fm_bk (M : Nat → Nat → Int32) : Nat → Nat → Int32 := fz_up (fz_up (fz_up M 0 (upd (M 0) 2 0)) 1 (M 1)) 3 (M 1)
def fm_qwu (M : Nat → Nat → Int32) (nt nc nl wk : Nat) (x y : Int32) : Int32 × (Nat → Nat → Int32) := if fz_ix x (M 1 1) = true then (if fm_in y 1 9 = true then (fz_wu (fun n => fm_t (fm_it (M 1) nt nc nl wk n) 0 x.toNatClampNeg) (y * M 1 4) (39 - wk) 0, fm_bk M) else (0, fz_up M 0 (upd (M 0) 2 2))) else (0, fz_up M 0 (upd (M 0) 2 1))
def fm_qib (M : Nat → Nat → Int32) (nt nc nl wk : Nat) (x : Int32) : Int32 × (Nat → Nat → Int32) := if fm_in x 0 39 = true then (if wk + x.toNatClampNeg ≤ 39 then (fz_sum (fm_t (fm_it (M 1) nt nc nl wk x.toNatClampNeg) 0) nt + fz_sum (fm_c (fm_it (M 1) nt nc nl wk x.toNatClampNeg) 3) nc, fm_bk M) else (-1, fz_up M 0 (upd (M 0) 2 0))) else (0, fz_up M 0 (upd (M 0) 2 1))
def fm_type (M : Nat → Nat → Int32) (ln : Nat) (x : Int32) : Int32 × (Nat → Nat → Int32) := if fm_in x 0 127 = true then (if ln = 150 then (0, fz_up M 0 (upd (M 0) 2 2)) else (nI (ln + 1), fz_up (fz_up M 0 (upd (upd (M 0) 1 (nI (ln + 1))) 2 0)) 4 (upd (M 4) ln x))) else (0, fz_up M 0 (upd (M 0) 2 1))
