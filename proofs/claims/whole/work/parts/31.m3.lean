/-! the model: what reads it -/
theorem fm_m1 {t : Nat} (h : t < 2 ^ 31) : ¬ nI t = -1 := fun e => absurd (show (-1 : Int32) < 0 by decide) (e ▸ nI_pos h)
theorem fm_sel_t {N : Nat → Int32} {t : Nat} (h : t < 2 ^ 31) (i : Nat) : (decide (nI t = -1) || decide (fm_c N 0 i = nI t)) = decide (fm_c N 0 i = nI t) := by
  rw [decide_eq_false (fm_m1 h), Bool.false_or]
theorem fm_inst {N : Nat → Int32} {t n : Nat} {s : Int32} (h : t < 2 ^ 31) : fz_ct (fun i => decide (fm_c N 2 i = s) && (decide (nI t = -1) || decide (fm_c N 0 i = nI t))) n = fz_ct (fun i => decide (fm_c N 0 i = nI t) && decide (fm_c N 2 i = s)) n :=
  fz_ct_cong fun i _ => by
    show (decide (fm_c N 2 i = s) && (decide (nI t = -1) || decide (fm_c N 0 i = nI t))) = (decide (fm_c N 0 i = nI t) && decide (fm_c N 2 i = s))
    rw [fm_sel_t h, Bool.and_comm]
theorem fm_instA {N : Nat → Int32} {n : Nat} {s : Int32} : fz_ct (fun i => decide (fm_c N 2 i = s) && (decide ((-1 : Int32) = -1) || decide (fm_c N 0 i = -1))) n = fz_ct (fun i => decide (fm_c N 2 i = s)) n :=
  fz_ct_cong fun i _ => by
    show (decide (fm_c N 2 i = s) && (decide ((-1 : Int32) = -1) || decide (fm_c N 0 i = -1))) = decide (fm_c N 2 i = s)
    rw [decide_eq_true (rfl : (-1 : Int32) = -1), Bool.true_or, Bool.and_true]
theorem fm_held {N : Nat → Int32} {t n : Nat} (h : t < 2 ^ 31) : fz_sum (fun i => if (decide (nI t = -1) || decide (fm_c N 0 i = nI t)) = true then fm_c N 3 i else 0) n = fz_sum (fun i => if fm_c N 0 i = nI t then fm_c N 3 i else 0) n :=
  fz_sum_cong fun i _ => by
    show (if (decide (nI t = -1) || decide (fm_c N 0 i = nI t)) = true then fm_c N 3 i else 0) = (if fm_c N 0 i = nI t then fm_c N 3 i else 0)
    rw [fm_sel_t h]
    by_cases e : fm_c N 0 i = nI t
    · rw [if_pos e, if_pos (decide_eq_true e)]
    · rw [if_neg e, if_neg (by rw [decide_eq_false e]; exact Bool.false_ne_true)]
theorem fm_heldA {N : Nat → Int32} {n : Nat} : fz_sum (fun i => if (decide ((-1 : Int32) = -1) || decide (fm_c N 0 i = -1)) = true then fm_c N 3 i else 0) n = fz_sum (fm_c N 3) n :=
  fz_sum_cong fun i _ => by
    show (if (decide ((-1 : Int32) = -1) || decide (fm_c N 0 i = -1)) = true then fm_c N 3 i else 0) = fm_c N 3 i
    rw [decide_eq_true (rfl : (-1 : Int32) = -1), Bool.true_or, if_pos rfl]
theorem fm_tv1 {N : Nat → Int32} {nc nl t : Nat} (h : t < 2 ^ 31) : fz_sum (fun i => if (decide (nI t = -1) || decide (fm_c N 0 i = nI t)) = true then fm_c N 3 i else 0) nc = fz_tval (fm_V N) nc nl t 1 := fm_held h
theorem fm_tv4 {N : Nat → Int32} {nc nl t : Nat} (h : t < 2 ^ 31) : nI (fz_ct (fun i => decide (fm_c N 2 i = 0) && (decide (nI t = -1) || decide (fm_c N 0 i = nI t))) nc + fz_ct (fun i => decide (fm_c N 2 i = 1) && (decide (nI t = -1) || decide (fm_c N 0 i = nI t))) nc) = fz_tval (fm_V N) nc nl t 4 := by
  rw [fm_inst h, fm_inst h]
  rfl
theorem fm_tv5 {N : Nat → Int32} {nc nl t : Nat} (h : t < 2 ^ 31) : nI (fz_ct (fun i => decide (fm_c N 2 i = nI (5 - 3)) && (decide (nI t = -1) || decide (fm_c N 0 i = nI t))) nc) = fz_tval (fm_V N) nc nl t 5 := by
  rw [fm_inst h]
  rfl
theorem fm_tv6 {N : Nat → Int32} {nc nl t : Nat} (h : t < 2 ^ 31) : nI (fz_ct (fun i => decide (fm_c N 2 i = nI (6 - 3)) && (decide (nI t = -1) || decide (fm_c N 0 i = nI t))) nc) = fz_tval (fm_V N) nc nl t 6 := by
  rw [fm_inst h]
  rfl
theorem fm_tv9 {N : Nat → Int32} {nc nl t : Nat} : fz_tval (fm_V N) nc nl t 9 = fz_nz (fz_b (fz_owes (fm_l N 1) (fm_l N 3) (fm_l N 4) (N 0) nl (nI t))) := rfl
theorem fm_tv10 {N : Nat → Int32} {nc nl t : Nat} : fz_tval (fm_V N) nc nl t 10 = fz_nz (fz_b (fz_flt (fm_c N 0) (fm_c N 2) (fm_c N 5) nc (nI t) (N 0))) := rfl
theorem fm_in_n {x hi : Int32} {m : Nat} (hM : hi = nI m) (hm : m < 2 ^ 31) (h : fm_in x 0 hi = true) : ∃ j : Nat, j ≤ m ∧ x = nI j := by
  simp only [fm_in, Bool.and_eq_true, Bool.not_eq_true', decide_eq_false_iff_not] at h
  obtain ⟨j, hj, rfl⟩ := nI_of h.1
  refine ⟨j, ?_, rfl⟩
  rw [hM] at h
  exact (nI_leI hj hm).mp (Int32.not_lt.mp h.2)
def fm_qteam (M : Nat → Nat → Int32) (nc nl : Nat) (x y : Int32) : Int32 × (Nat → Nat → Int32) := if fz_ix x (M 1 1) = true then (if fm_in y 0 10 = true then (fz_tval (fm_V (M 1)) nc nl x.toNatClampNeg y.toNatClampNeg, fz_up M 0 (upd (M 0) 2 0)) else (0, fz_up M 0 (upd (M 0) 2 2))) else (0, fz_up M 0 (upd (M 0) 2 1))
def fm_qch (M : Nat → Nat → Int32) (x y : Int32) : Int32 × (Nat → Nat → Int32) := if fz_ix x (M 1 2) = true then (if fm_in y 0 6 = true then (fm_c (M 1) y.toNatClampNeg x.toNatClampNeg, fz_up M 0 (upd (M 0) 2 0)) else (0, fz_up M 0 (upd (M 0) 2 2))) else (0, fz_up M 0 (upd (M 0) 2 1))
def fm_qln (M : Nat → Nat → Int32) (x y : Int32) : Int32 × (Nat → Nat → Int32) := if fz_ix x (M 1 3) = true then (if fm_in y 0 5 = true then (fm_l (M 1) y.toNatClampNeg x.toNatClampNeg, fz_up M 0 (upd (M 0) 2 0)) else (0, fz_up M 0 (upd (M 0) 2 2))) else (0, fz_up M 0 (upd (M 0) 2 1))
/-- change c is of risk r, its state at most s, of team x (-1: of any) -/
def fm_sel (N : Nat → Int32) (x s : Int32) (r c : Nat) : Bool := decide (fm_c N 1 c = nI r) && decide (fm_c N 2 c ≤ s) && (decide (x = -1) || decide (fm_c N 0 c = x))
def fm_wl (N : Nat → Int32) (nc : Nat) (x s : Int32) (r k : Nat) : List Nat := (List.range' r k).flatMap (fun r => (List.range' 0 nc).filter (fm_sel N x s r))
def fm_pick : List Nat → Nat → Int32
  | [], _ => -1
  | c :: _, 0 => nI c
  | _ :: L, i + 1 => fm_pick L i
theorem fm_wl_s {N : Nat → Int32} {nc : Nat} {x s : Int32} {r : Nat} (h : r < 10) : fm_wl N nc x s r (10 - r) = (List.range' 0 (nc - 0)).filter (fm_sel N x s r) ++ fm_wl N nc x s (r + 1) (9 - r) := by
  rw [fm_wl, show 10 - r = (9 - r) + 1 by omega, List.range'_succ, List.flatMap_cons]
  rfl
theorem fm_step {N : Nat → Int32} {nc : Nat} {x s : Int32} {r c i : Nat} {L : List Nat} {v : Int32} (hc : c < nc) (h : fm_pick ((List.range' c (nc - c)).filter (fm_sel N x s r) ++ L) i = v) :
    (fm_sel N x s r c = false → fm_pick ((List.range' (c + 1) (nc - (c + 1))).filter (fm_sel N x s r) ++ L) i = v) ∧ (fm_sel N x s r c = true → i = 0 → nI c = v) ∧ (fm_sel N x s r c = true → 0 < i → fm_pick ((List.range' (c + 1) (nc - (c + 1))).filter (fm_sel N x s r) ++ L) (i - 1) = v) := by
  rw [show nc - c = (nc - (c + 1)) + 1 by omega, List.range'_succ] at h
  refine ⟨fun e => ?_, fun e h0 => ?_, fun e h0 => ?_⟩
  · rw [List.filter_cons_of_neg (by rw [e]; exact Bool.false_ne_true)] at h
    exact h
  · rw [List.filter_cons_of_pos e, h0] at h
    exact h
  · rw [List.filter_cons_of_pos e] at h
    obtain ⟨j, rfl⟩ : ∃ j, i = j + 1 := ⟨i - 1, by omega⟩
    exact h
theorem fm_wl_lt {N : Nat → Int32} {nc : Nat} {x s : Int32} {r k c : Nat} (h : c ∈ fm_wl N nc x s r k) : c < nc := by
  obtain ⟨q, -, h2⟩ := List.mem_flatMap.mp h
  have h3 := (List.mem_filter.mp h2).1
  rw [List.mem_range'_1] at h3
  omega
theorem fm_pick_get : ∀ (L : List Nat) (u : Nat), (fm_pick L u = -1 ∧ L.drop u = []) ∨ ∃ c, c ∈ L ∧ fm_pick L u = nI c ∧ L.drop u = c :: L.drop (u + 1)
  | [], u => Or.inl ⟨by cases u <;> rfl, List.drop_nil⟩
  | c :: L, 0 => Or.inr ⟨c, List.mem_cons_self, rfl, rfl⟩
  | c :: L, u + 1 => by
    rcases fm_pick_get L u with h | ⟨d, h1, h2, h3⟩
    · exact Or.inl ⟨h.1, h.2⟩
    · exact Or.inr ⟨d, List.mem_cons_of_mem _ h1, h2, h3⟩
theorem fm_pick_nil {L : List Nat} {u : Nat} (hL : ∀ c ∈ L, c < 30) (h : fm_pick L u = -1) : L.drop u = [] := by
  rcases fm_pick_get L u with q | ⟨c, hc, e, -⟩
  · exact q.2
  · exact absurd (e.symm.trans h) (fm_m1 (Nat.lt_trans (hL c hc) (by decide)))
theorem fm_wl_len {N : Nat → Int32} {nc : Nat} {x s : Int32} : ∀ (k r : Nat), (fm_wl N nc x s r k).length ≤ k * nc
  | 0, r => Nat.zero_le _
  | k + 1, r => by
    have h := fm_wl_len (N := N) (nc := nc) (x := x) (s := s) k (r + 1)
    have h2 := List.length_filter_le (fm_sel N x s r) (List.range' 0 nc)
    rw [List.length_range'] at h2
    rw [fm_wl, List.range'_succ, List.flatMap_cons, List.length_append, Nat.succ_mul]
    exact Nat.le_trans (Nat.add_le_add h2 h) (by omega)
def fm_qwait (M : Nat → Nat → Int32) (nc : Nat) (x : Int32) : Int32 × (Nat → Nat → Int32) := if 0 ≤ x then (fm_pick (fm_wl (M 1) nc (-1) 1 1 9) x.toNatClampNeg, fz_up M 0 (upd (M 0) 2 0)) else (0, fz_up M 0 (upd (M 0) 2 1))
def fm_qfrz (M : Nat → Nat → Int32) (x : Int32) : Int32 × (Nat → Nat → Int32) := if fm_in x 0 39 = true then (M 1 (9 + x.toNatClampNeg), fz_up M 0 (upd (M 0) 2 0)) else (0, fz_up M 0 (upd (M 0) 2 1))
def fm_num (M : Nat → Nat → Int32) (nt nc nl wk : Nat) : Nat → Int32
  | 12 => M 1 8
  | 17 => M 0 1
  | w => fz_wval (fm_V (M 1)) nt nc nl wk w
theorem fm_num11 {M : Nat → Nat → Int32} {nt nc nl wk : Nat} : fz_sum (fun i => if (decide ((-1 : Int32) = -1) || decide (fm_c (M 1) 0 i = -1)) = true then fm_c (M 1) 3 i else 0) nc = fm_num M nt nc nl wk 11 := fm_heldA
theorem fm_num15 {M : Nat → Nat → Int32} {nt nc nl wk : Nat} : nI (fz_ct (fun i => decide (fm_c (M 1) 2 i = 1) && (decide ((-1 : Int32) = -1) || decide (fm_c (M 1) 0 i = -1))) nc) = fm_num M nt nc nl wk 15 := by
  rw [fm_instA]
  rfl
def fm_qwhole (M : Nat → Nat → Int32) (nt nc nl wk : Nat) (x : Int32) : Int32 × (Nat → Nat → Int32) := if fm_in x 0 17 = true then (fm_num M nt nc nl wk x.toNatClampNeg, fz_up M 0 (upd (M 0) 2 0)) else (0, fz_up M 0 (upd (M 0) 2 1))
def fm_qwhy (M : Nat → Nat → Int32) (nl : Nat) (x : Int32) : Int32 × (Nat → Nat → Int32) := if fz_ix x (M 1 2) = true then (fz_reason (fm_V (M 1)) nl x.toNatClampNeg, fz_up M 0 (upd (M 0) 2 0)) else (0, fz_up M 0 (upd (M 0) 2 1))
def fm_cx (N : Nat → Int32) : List Nat → Int32 → Nat → Int32
  | [], _, u => nI u
  | c :: L, fr, u => if 0 ≤ fr - fm_c N 1 c * N 4 then fm_cx N L (fr - fm_c N 1 c * N 4) (u + 1) else nI u
def fm_xc (N : Nat → Int32) (nc nl t : Nat) : Int32 := fm_cx N (fm_wl N nc (nI t) 0 1 9) (bif fz_owes (fm_l N 1) (fm_l N 3) (fm_l N 4) (N 0) nl (nI t) then -1 else fm_t N 0 t) 0
def fm_qxc (M : Nat → Nat → Int32) (nc nl : Nat) (x : Int32) : Int32 × (Nat → Nat → Int32) := if fz_ix x (M 1 1) = true then (fm_xc (M 1) nc nl x.toNatClampNeg, fz_up M 0 (upd (M 0) 2 0)) else (0, fz_up M 0 (upd (M 0) 2 1))
def fm_qlend (M : Nat → Nat → Int32) (nt nl : Nat) (x y : Int32) : Int32 × (Nat → Nat → Int32) := if fz_ix x (M 1 1) = true then (if fm_in y 1 9 = true then (if y * M 1 4 - fm_t (M 1) 0 x.toNatClampNeg ≤ 0 then -1 else bif fz_owes (fm_l (M 1) 1) (fm_l (M 1) 3) (fm_l (M 1) 4) (M 1 0) nl x then -1 else fz_rich (fm_t (M 1) 0) x (y * M 1 4 - fm_t (M 1) 0 x.toNatClampNeg) nt, fz_up M 0 (upd (M 0) 2 0)) else (0, fz_up M 0 (upd (M 0) 2 2))) else (0, fz_up M 0 (upd (M 0) 2 1))
-- weeks to come
theorem fm_ea_fr (N : Nat → Int32) (nc : Nat) : ∀ k, k ≤ 6 → fm_fr N (fm_ea N nc k).2
  | 0, _ => fm_fr_rfl N
  | k + 1, h => fm_fr_ta (by omega) (by omega) (fm_fr_ta (by omega) (by omega) (fm_ea_fr N nc k (by omega)))
theorem fm_c1_fr {N Z : Nat → Int32} {nt nl d : Nat} (hnt : nt ≤ 6) (hnl : nl ≤ 12) (hG : ∀ i, i < nl → ∃ j, j < nt ∧ fm_l N 0 i = nI j) (hB : ∀ i, i < nl → ∃ j, j < nt ∧ fm_l N 1 i = nI j) (hZ : fm_fr N Z) : ∀ k, k ≤ nl → fm_fr N (fm_c1 Z d k)
  | 0, _ => hZ
  | k + 1, h => by
    have ih := fm_c1_fr (d := d) hnt hnl hG hB hZ k (by omega)
    obtain ⟨j, hj, ej⟩ := hB k (by omega)
    obtain ⟨g, hg, eg⟩ := hG k (by omega)
    rw [fm_c1]
    split
    · exact fm_fr_pays ((ih.l (by omega) (by omega) (by omega)).trans ej) ((ih.l (by omega) (by omega) (by omega)).trans eg) (by omega) (by omega) ih
    · exact ih
theorem fm_c2_fr {N Z : Nat → Int32} {nt nl : Nat} (hnt : nt ≤ 6) (hnl : nl ≤ 12) (hG : ∀ i, i < nl → ∃ j, j < nt ∧ fm_l N 0 i = nI j) (hB : ∀ i, i < nl → ∃ j, j < nt ∧ fm_l N 1 i = nI j) (hZ : fm_fr N Z) : ∀ d, fm_fr N (fm_c2 Z nl d)
  | 0 => hZ
  | d + 1 => fm_c1_fr hnt hnl hG hB (fm_c2_fr hnt hnl hG hB hZ d) nl (Nat.le_refl _)
theorem fm_week_fr {N : Nat → Int32} {nt nc nl wk : Nat} (wf : fm_wf N nt nc nl wk) {p : Nat} (h0 : p ≠ 0) (hp : p < 49 ∨ (67 ≤ p ∧ ¬ (277 ≤ p ∧ (p - 277) % 6 = 3))) : (fm_week N nt nc nl wk).2 p = N p := by
  obtain ⟨hnt, hnt6, hnc, hnc30, hnl, hnl12, hwk, hwk39, hT, hG, hB, hZo⟩ := wf
  have e : (fm_week N nt nc nl wk).2 p = upd (fm_c2 (fm_ea N nc nt).2 nl (wk + 1)) 0 (nI (wk + 1)) p := rfl
  rw [e, pk_un h0]
  exact fm_c2_fr hnt6 hnl12 hG hB (fm_ea_fr N nc nt hnt6) (wk + 1) p hp
theorem fm_week_wf {N : Nat → Int32} {nt nc nl wk : Nat} (wf : fm_wf N nt nc nl wk) (h39 : wk < 39) : fm_wf (fm_week N nt nc nl wk).2 nt nc nl (wk + 1) := by
  have hF : ∀ p, p ≠ 0 → (p < 49 ∨ (67 ≤ p ∧ ¬ (277 ≤ p ∧ (p - 277) % 6 = 3))) → (fm_week N nt nc nl wk).2 p = N p := fun p => fm_week_fr wf
  obtain ⟨hnt, hnt6, hnc, hnc30, hnl, hnl12, hwk, hwk39, hT, hG, hB, hZo⟩ := wf
  refine ⟨(hF 1 (by omega) (by omega)).trans hnt, hnt6, (hF 2 (by omega) (by omega)).trans hnc, hnc30, (hF 3 (by omega) (by omega)).trans hnl, hnl12, (show upd (fm_c2 (fm_ea N nc nt).2 nl (wk + 1)) 0 (nI (wk + 1)) 0 = _ from pk_us), by omega, fun i hi => ?_, fun i hi => ?_, fun i hi => ?_, fun i hi => ?_⟩
  · obtain ⟨j, hj, e⟩ := hT i hi
    exact ⟨j, hj, (hF _ (by omega) (by omega)).trans e⟩
  · obtain ⟨j, hj, e⟩ := hG i hi
    exact ⟨j, hj, (hF _ (by omega) (by omega)).trans e⟩
  · obtain ⟨j, hj, e⟩ := hB i hi
    exact ⟨j, hj, (hF _ (by omega) (by omega)).trans e⟩
  · have e := hF (9 + i) (by omega) (by omega)
    show (fm_week N nt nc nl wk).2 (9 + i) = 0 ∨ (fm_week N nt nc nl wk).2 (9 + i) = 1
    rw [e]
    exact hZo i hi
def fm_it (N : Nat → Int32) (nt nc nl wk : Nat) : Nat → (Nat → Int32)
  | 0 => N
  | n + 1 => (fm_week (fm_it N nt nc nl wk n) nt nc nl (wk + n)).2
theorem fm_it_wf {N : Nat → Int32} {nt nc nl wk : Nat} (wf : fm_wf N nt nc nl wk) : ∀ n, wk + n ≤ 39 → fm_wf (fm_it N nt nc nl wk n) nt nc nl (wk + n)
  | 0, _ => wf
  | n + 1, h => fm_week_wf (fm_it_wf wf n (by omega)) (by omega)
theorem fm_it_4 {N : Nat → Int32} {nt nc nl wk : Nat} (wf : fm_wf N nt nc nl wk) : ∀ n, wk + n ≤ 39 → fm_it N nt nc nl wk n 4 = N 4
  | 0, _ => rfl
  | n + 1, h => (fm_week_fr (fm_it_wf wf n (by omega)) (by omega) (by omega)).trans (fm_it_4 wf n (by omega))
/-- the first number from n on, k more at most, at which f is at least c -/
def fz_wu (f : Nat → Int32) (c : Int32) : Nat → Nat → Int32
  | 0, n => if c ≤ f n then nI n else -1
  | k + 1, n => if c ≤ f n then nI n else fz_wu f c k (n + 1)
theorem fz_wu_y {f : Nat → Int32} {c : Int32} {k n : Nat} (h : c ≤ f n) : fz_wu f c k n = nI n := by
  cases k <;> rw [fz_wu, if_pos h]
theorem fz_wu_n {f : Nat → Int32} {c : Int32} {k n : Nat} (h : ¬ c ≤ f n) (hk : k = 0) : fz_wu f c k n = -1 := by
  subst hk
  rw [fz_wu, if_neg h]
theorem fz_wu_s {f : Nat → Int32} {c : Int32} {k n : Nat} (h : ¬ c ≤ f n) (hk : 0 < k) : fz_wu f c k n = fz_wu f c (k - 1) (n + 1) := by
  obtain ⟨j, rfl⟩ : ∃ j, k = j + 1 := ⟨k - 1, by omega⟩
  rw [fz_wu, if_neg h]
  rfl
def fm_bk (M : Nat → Nat → Int32) : Nat → Nat → Int32 := fz_up (fz_up (fz_up M 0 (upd (M 0) 2 0)) 1 (M 1)) 3 (M 1)
def fm_qwu (M : Nat → Nat → Int32) (nt nc nl wk : Nat) (x y : Int32) : Int32 × (Nat → Nat → Int32) := if fz_ix x (M 1 1) = true then (if fm_in y 1 9 = true then (fz_wu (fun n => fm_t (fm_it (M 1) nt nc nl wk n) 0 x.toNatClampNeg) (y * M 1 4) (39 - wk) 0, fm_bk M) else (0, fz_up M 0 (upd (M 0) 2 2))) else (0, fz_up M 0 (upd (M 0) 2 1))
def fm_qib (M : Nat → Nat → Int32) (nt nc nl wk : Nat) (x : Int32) : Int32 × (Nat → Nat → Int32) := if fm_in x 0 39 = true then (if wk + x.toNatClampNeg ≤ 39 then (fz_sum (fm_t (fm_it (M 1) nt nc nl wk x.toNatClampNeg) 0) nt + fz_sum (fm_c (fm_it (M 1) nt nc nl wk x.toNatClampNeg) 3) nc, fm_bk M) else (-1, fz_up M 0 (upd (M 0) 2 0))) else (0, fz_up M 0 (upd (M 0) 2 1))
def fm_type (M : Nat → Nat → Int32) (ln : Nat) (x : Int32) : Int32 × (Nat → Nat → Int32) := if fm_in x 0 127 = true then (if ln = 150 then (0, fz_up M 0 (upd (M 0) 2 2)) else (nI (ln + 1), fz_up (fz_up M 0 (upd (upd (M 0) 1 (nI (ln + 1))) 2 0)) 4 (upd (M 4) ln x))) else (0, fz_up M 0 (upd (M 0) 2 1))
set_option maxHeartbeats 4000000 in
set_option maxRecDepth 100000 in
/-- the model: inState -/
theorem c_X9_inState (l : Launch) (D : va_G) (cy : Nat → ClassId) (b : Nat → Nat) (M : Nat → Nat → Int32) (h : Int64) (x so : Int32) (nc : Nat) (hnc : M 1 2 = nI nc) (hnc30 : nc ≤ 30) : fz_RI l yX9_inState wsX9_inState 1 22 D cy [.ref (b 0), .int x, .int so] (MW cy b M h) fz_T (nI (fz_ct (fun i => decide (fm_c (M 1) 2 i = so) && (decide (x = -1) || decide (fm_c (M 1) 0 i = x))) nc)) := by
  refine Met.ofW (cc := cX9_inState) (maxL := 5) (ret := (some .int)) (by decide) rfl ?_
  intro p e s m args below meth c s₁ B hml hv
  obtain ⟨rfl, hP, hK, hE⟩ := hv
  have hx := B.exec
  have hb := B.bytes
  have hr := B.returns
  have hts := atoms_spec (ws := wsX9_inState) B.pre
  have hown : s.vm.findClass RX9 = some m.cls := findClass_of_methodNamed B.named
  have hlocks := B.notSynchronized
  have hl := lv_entry ([.ref (b 0), .int x, .int so]) (n := 5) (Nat.le_of_ble_eq_true rfl)
  rw [lg_entry_eq]
  generalize (lg_sl ([.ref (b 0), .int x, .int so]) ++ List.replicate (5 - (lg_sl ([.ref (b 0), .int x, .int so])).length) Slot.unset).toArray = ls at hl ⊢
  have hl : lv_has ls 5 [(0, .ref (b 0)), (1, .int x), (2, .int so)] := hl
  have k_7 := hts (.fieldLink RX9 7 "FreezeCreditsModel" "now" "[I") (by decide +kernel)
  have inX9 : ∀ w ∈ u_ws RX9 TX9 13, w ∈ wsX9_inState := by decide +kernel
  refine lv_iconst (v := 0) hx hb dX9_inState_0 (by decide) ?_
  refine lv_istore_n (lv' := [(3, .int 0), (0, .ref (b 0)), (1, .int x), (2, .int so)]) hx hb dX9_inState_1 rfl hl (by decide) rfl (fun ls hl => ?_)
  refine lv_iconst (v := 0) hx hb dX9_inState_2 (by decide) ?_
  refine lv_istore (lv' := [(4, .int 0), (3, .int 0), (0, .ref (b 0)), (1, .int x), (2, .int so)]) hx hb dX9_inState_3 hl (by decide) rfl (fun ls hl => ?_)
  refine fz_loop (σ := Nat × Nat) (pc := 5) (nL := 5) (fun x9 => match x9 with | (k, u) => [(0, .ref (b 0)), (1, .int x), (2, .int so), (3, .int (nI u)), (4, .int (nI k))]) (fun x9 => match x9 with | (k, u) => (k ≤ nc) ∧ (u = fz_ct (fun i => decide (fm_c (M 1) 2 i = so) && (decide (x = -1) || decide (fm_c (M 1) 0 i = x))) k)) (fun x9 => match x9 with | (k, u) => nc - k) ?_ (0, 0) (show (0 ≤ nc) ∧ (0 = fz_ct (fun i => decide (fm_c (M 1) 2 i = so) && (decide (x = -1) || decide (fm_c (M 1) 0 i = x))) 0) from ⟨(by omega), rfl⟩) ls (lv_sub hl [2, 3, 4, 1, 0] rfl)
  rintro ⟨k, u⟩ ⟨hk, eu⟩ ih5 ls hl
  have hk : k ≤ nc := hk
  have eu : u = fz_ct (fun i => decide (fm_c (M 1) 2 i = so) && (decide (x = -1) || decide (fm_c (M 1) 0 i = x))) k := eu
  have hl : lv_has ls 5 [(0, .ref (b 0)), (1, .int x), (2, .int so), (3, .int (nI u)), (4, .int (nI k))] := hl
  refine lv_iload hx hb dX9_inState_5 (lv_at hl 4 rfl) ?_
  refine lv_aload_n hx hb dX9_inState_7 rfl (lv_at hl 0 rfl) ?_
  refine va_get (D := D) (ci := 7) (v := .ref (b 1)) (C := RX9) (T := TX9) (N := 13) hx hb hts inX9 hown hK hP 0 rfl rfl 0 (by decide) k_7 (fun _ h9 => h9) rfl dX9_inState_8 ?_
  refine lv_iconst (v := 2) hx hb dX9_inState_11 (by decide) ?_
  refine fz_iald (f := M 1) hx hb hK hP 1 0 rfl rfl 2 rfl (by omega) (by decide) dX9_inState_12 ?_
  refine fz_geN (tgt := 57) hx hb k nc rfl hnc dX9_inState_13 (by decide) (by omega) (by omega) (fun c_1 => ?_) (fun c_1 => ?_)
  · skip
    refine lv_iload_n hx hb dX9_inState_57 rfl (lv_at hl 3 rfl) ?_
    exact W.iret (v := (nI u)) hx hb hr (fun t9 ht9 hW9 => ⟨_, rfl, (by rw [eu, show k = nc by omega]), ht9⟩) (fun _ h => nomatch h) dX9_inState_58
  · skip
    refine lv_iload_n hx hb dX9_inState_16 rfl (lv_at hl 3 rfl) ?_
    refine lv_aload_n hx hb dX9_inState_17 rfl (lv_at hl 0 rfl) ?_
    refine lv_iload hx hb dX9_inState_18 (lv_at hl 4 rfl) ?_
    refine lv_iconst (v := 2) hx hb dX9_inState_20 (by decide) ?_
    refine fz_retR (va_runV (As := [.int (nI k), .int (nI 2)]) (rest := [.int (nI u)]) ⟨hx, hb, hml, hown, hts⟩ (c_X9_told l D cy b M h k 2 (by omega) (by omega)) (cwV 2 hts gX9_inState_X9_told rfl rfl rfl (by decide +kernel) ⟨Nat.le_of_ble_eq_true rfl, Nat.le_of_ble_eq_true rfl⟩) (fz_preV (ci := 7) (q0 := 0) hK hP rfl rfl rfl fz_T_bl (fun _ _ _ => trivial)) rfl rfl hl.1 rfl (lv_room (Nat.le_of_ble_eq_true rfl)) dX9_inState_21 ⟨Nat.zero_le _, Nat.zero_le _⟩) ?_
    refine lv_iload_n hx hb dX9_inState_24 rfl (lv_at hl 2 rfl) ?_
    refine lv_icmp_ne (tgt := 48) hx hb dX9_inState_25 (by decide) (fun c_2 => ?_) (fun c_2 => ?_)
    · skip
      refine lv_iconst (v := 0) hx hb dX9_inState_48 (by decide) ?_
      refine fz_iaddN hx hb u 0 rfl rfl dX9_inState_49 ?_
      refine lv_istore_n (lv' := [(3, .int (nI (u + 0))), (0, .ref (b 0)), (1, .int x), (2, .int so), (4, .int (nI k))]) hx hb dX9_inState_50 rfl hl (by decide) rfl (fun ls hl => ?_)
      refine lv_iinc (v := nI (k + 1)) (lv' := [(4, .int (nI (k + 1))), (3, .int (nI (u + 0))), (0, .ref (b 0)), (1, .int x), (2, .int so)]) hx hb dX9_inState_51 hl (k := 4) rfl (fz_inc rfl) (by decide) rfl (fun ls hl => ?_)
      refine lv_goto (tgt := 5) hx hb dX9_inState_54 (by decide) ?_
      exact ih5 (k + 1, u + 0) (show ((k + 1) ≤ nc) ∧ ((u + 0) = fz_ct (fun i => decide (fm_c (M 1) 2 i = so) && (decide (x = -1) || decide (fm_c (M 1) 0 i = x))) (k + 1)) from ⟨(by omega), (by simp [fz_ct, eu, c_1, c_2])⟩) (by show nc - (k + 1) < nc - k; omega) ls (lv_sub hl [2, 3, 4, 1, 0] rfl)
    · skip
      refine lv_iload_n hx hb dX9_inState_28 rfl (lv_at hl 1 rfl) ?_
      refine lv_iconst (v := (-1)) hx hb dX9_inState_29 (by decide) ?_
      refine lv_icmp_eq (tgt := 44) hx hb dX9_inState_30 (by decide) (fun c_3 => ?_) (fun c_3 => ?_)
      · skip
        refine lv_iconst (v := 1) hx hb dX9_inState_44 (by decide) ?_
        refine lv_goto (tgt := 49) hx hb dX9_inState_45 (by decide) ?_
        refine fz_iaddN hx hb u 1 rfl rfl dX9_inState_49 ?_
        refine lv_istore_n (lv' := [(3, .int (nI (u + 1))), (0, .ref (b 0)), (1, .int x), (2, .int so), (4, .int (nI k))]) hx hb dX9_inState_50 rfl hl (by decide) rfl (fun ls hl => ?_)
        refine lv_iinc (v := nI (k + 1)) (lv' := [(4, .int (nI (k + 1))), (3, .int (nI (u + 1))), (0, .ref (b 0)), (1, .int x), (2, .int so)]) hx hb dX9_inState_51 hl (k := 4) rfl (fz_inc rfl) (by decide) rfl (fun ls hl => ?_)
        refine lv_goto (tgt := 5) hx hb dX9_inState_54 (by decide) ?_
        exact ih5 (k + 1, u + 1) (show ((k + 1) ≤ nc) ∧ ((u + 1) = fz_ct (fun i => decide (fm_c (M 1) 2 i = so) && (decide (x = -1) || decide (fm_c (M 1) 0 i = x))) (k + 1)) from ⟨(by omega), (by simp [fz_ct, eu, c_1, c_2, c_3])⟩) (by show nc - (k + 1) < nc - k; omega) ls (lv_sub hl [2, 3, 4, 1, 0] rfl)
      · skip
        refine lv_aload_n hx hb dX9_inState_33 rfl (lv_at hl 0 rfl) ?_
        refine lv_iload hx hb dX9_inState_34 (lv_at hl 4 rfl) ?_
        refine lv_iconst (v := 0) hx hb dX9_inState_36 (by decide) ?_
        refine fz_retR (va_runV (As := [.int (nI k), .int (nI 0)]) (rest := [.int (nI u)]) ⟨hx, hb, hml, hown, hts⟩ (c_X9_told l D cy b M h k 0 (by omega) (by omega)) (cwV 2 hts gX9_inState_X9_told rfl rfl rfl (by decide +kernel) ⟨Nat.le_of_ble_eq_true rfl, Nat.le_of_ble_eq_true rfl⟩) (fz_preV (ci := 7) (q0 := 0) hK hP rfl rfl rfl fz_T_bl (fun _ _ _ => trivial)) rfl rfl hl.1 rfl (lv_room (Nat.le_of_ble_eq_true rfl)) dX9_inState_37 ⟨Nat.zero_le _, Nat.zero_le _⟩) ?_
        refine lv_iload_n hx hb dX9_inState_40 rfl (lv_at hl 1 rfl) ?_
        refine lv_icmp_ne (tgt := 48) hx hb dX9_inState_41 (by decide) (fun c_4 => ?_) (fun c_4 => ?_)
        · skip
          refine lv_iconst (v := 0) hx hb dX9_inState_48 (by decide) ?_
          refine fz_iaddN hx hb u 0 rfl rfl dX9_inState_49 ?_
          refine lv_istore_n (lv' := [(3, .int (nI (u + 0))), (0, .ref (b 0)), (1, .int x), (2, .int so), (4, .int (nI k))]) hx hb dX9_inState_50 rfl hl (by decide) rfl (fun ls hl => ?_)
          refine lv_iinc (v := nI (k + 1)) (lv' := [(4, .int (nI (k + 1))), (3, .int (nI (u + 0))), (0, .ref (b 0)), (1, .int x), (2, .int so)]) hx hb dX9_inState_51 hl (k := 4) rfl (fz_inc rfl) (by decide) rfl (fun ls hl => ?_)
          refine lv_goto (tgt := 5) hx hb dX9_inState_54 (by decide) ?_
          exact ih5 (k + 1, u + 0) (show ((k + 1) ≤ nc) ∧ ((u + 0) = fz_ct (fun i => decide (fm_c (M 1) 2 i = so) && (decide (x = -1) || decide (fm_c (M 1) 0 i = x))) (k + 1)) from ⟨(by omega), (by simp [fz_ct, eu, c_1, c_2, c_3, c_4])⟩) (by show nc - (k + 1) < nc - k; omega) ls (lv_sub hl [2, 3, 4, 1, 0] rfl)
        · skip
          refine lv_iconst (v := 1) hx hb dX9_inState_44 (by decide) ?_
          refine lv_goto (tgt := 49) hx hb dX9_inState_45 (by decide) ?_
          refine fz_iaddN hx hb u 1 rfl rfl dX9_inState_49 ?_
          refine lv_istore_n (lv' := [(3, .int (nI (u + 1))), (0, .ref (b 0)), (1, .int x), (2, .int so), (4, .int (nI k))]) hx hb dX9_inState_50 rfl hl (by decide) rfl (fun ls hl => ?_)
          refine lv_iinc (v := nI (k + 1)) (lv' := [(4, .int (nI (k + 1))), (3, .int (nI (u + 1))), (0, .ref (b 0)), (1, .int x), (2, .int so)]) hx hb dX9_inState_51 hl (k := 4) rfl (fz_inc rfl) (by decide) rfl (fun ls hl => ?_)
          refine lv_goto (tgt := 5) hx hb dX9_inState_54 (by decide) ?_
          exact ih5 (k + 1, u + 1) (show ((k + 1) ≤ nc) ∧ ((u + 1) = fz_ct (fun i => decide (fm_c (M 1) 2 i = so) && (decide (x = -1) || decide (fm_c (M 1) 0 i = x))) (k + 1)) from ⟨(by omega), (by simp [fz_ct, eu, c_1, c_2, c_3, c_4])⟩) (by show nc - (k + 1) < nc - k; omega) ls (lv_sub hl [2, 3, 4, 1, 0] rfl)
set_option maxHeartbeats 4000000 in
set_option maxRecDepth 100000 in
/-- the model: held -/
theorem c_X9_held (l : Launch) (D : va_G) (cy : Nat → ClassId) (b : Nat → Nat) (M : Nat → Nat → Int32) (h : Int64) (x : Int32) (nc : Nat) (hnc : M 1 2 = nI nc) (hnc30 : nc ≤ 30) : fz_RI l yX9_held wsX9_held 1 22 D cy [.ref (b 0), .int x] (MW cy b M h) fz_T (fz_sum (fun i => if (decide (x = -1) || decide (fm_c (M 1) 0 i = x)) = true then fm_c (M 1) 3 i else 0) nc) := by
  refine Met.ofW (cc := cX9_held) (maxL := 4) (ret := (some .int)) (by decide) rfl ?_
  intro p e s m args below meth c s₁ B hml hv
  obtain ⟨rfl, hP, hK, hE⟩ := hv
  have hx := B.exec
  have hb := B.bytes
  have hr := B.returns
  have hts := atoms_spec (ws := wsX9_held) B.pre
  have hown : s.vm.findClass RX9 = some m.cls := findClass_of_methodNamed B.named
  have hlocks := B.notSynchronized
  have hl := lv_entry ([.ref (b 0), .int x]) (n := 4) (Nat.le_of_ble_eq_true rfl)
  rw [lg_entry_eq]
  generalize (lg_sl ([.ref (b 0), .int x]) ++ List.replicate (4 - (lg_sl ([.ref (b 0), .int x])).length) Slot.unset).toArray = ls at hl ⊢
  have hl : lv_has ls 4 [(0, .ref (b 0)), (1, .int x)] := hl
  have k_7 := hts (.fieldLink RX9 7 "FreezeCreditsModel" "now" "[I") (by decide +kernel)
  have inX9 : ∀ w ∈ u_ws RX9 TX9 13, w ∈ wsX9_held := by decide +kernel
  refine lv_iconst (v := 0) hx hb dX9_held_0 (by decide) ?_
  refine lv_istore_n (lv' := [(2, .int 0), (0, .ref (b 0)), (1, .int x)]) hx hb dX9_held_1 rfl hl (by decide) rfl (fun ls hl => ?_)
  refine lv_iconst (v := 0) hx hb dX9_held_2 (by decide) ?_
  refine lv_istore_n (lv' := [(3, .int 0), (2, .int 0), (0, .ref (b 0)), (1, .int x)]) hx hb dX9_held_3 rfl hl (by decide) rfl (fun ls hl => ?_)
  refine fz_loop (σ := Nat × Int32) (pc := 4) (nL := 4) (fun x9 => match x9 with | (k, r) => [(0, .ref (b 0)), (1, .int x), (2, .int r), (3, .int (nI k))]) (fun x9 => match x9 with | (k, r) => (k ≤ nc) ∧ (r = fz_sum (fun i => if (decide (x = -1) || decide (fm_c (M 1) 0 i = x)) = true then fm_c (M 1) 3 i else 0) k)) (fun x9 => match x9 with | (k, r) => nc - k) ?_ (0, 0) (show (0 ≤ nc) ∧ (0 = fz_sum (fun i => if (decide (x = -1) || decide (fm_c (M 1) 0 i = x)) = true then fm_c (M 1) 3 i else 0) 0) from ⟨(by omega), rfl⟩) ls (lv_sub hl [2, 3, 1, 0] rfl)
  rintro ⟨k, r⟩ ⟨hk, er⟩ ih4 ls hl
  have hk : k ≤ nc := hk
  have er : r = fz_sum (fun i => if (decide (x = -1) || decide (fm_c (M 1) 0 i = x)) = true then fm_c (M 1) 3 i else 0) k := er
  have hl : lv_has ls 4 [(0, .ref (b 0)), (1, .int x), (2, .int r), (3, .int (nI k))] := hl
  refine lv_iload_n hx hb dX9_held_4 rfl (lv_at hl 3 rfl) ?_
  refine lv_aload_n hx hb dX9_held_5 rfl (lv_at hl 0 rfl) ?_
  refine va_get (D := D) (ci := 7) (v := .ref (b 1)) (C := RX9) (T := TX9) (N := 13) hx hb hts inX9 hown hK hP 0 rfl rfl 0 (by decide) k_7 (fun _ h9 => h9) rfl dX9_held_6 ?_
  refine lv_iconst (v := 2) hx hb dX9_held_9 (by decide) ?_
  refine fz_iald (f := M 1) hx hb hK hP 1 0 rfl rfl 2 rfl (by omega) (by decide) dX9_held_10 ?_
  refine fz_geN (tgt := 48) hx hb k nc rfl hnc dX9_held_11 (by decide) (by omega) (by omega) (fun c_1 => ?_) (fun c_1 => ?_)
  · skip
    refine lv_iload_n hx hb dX9_held_48 rfl (lv_at hl 2 rfl) ?_
    exact W.iret (v := r) hx hb hr (fun t9 ht9 hW9 => ⟨_, rfl, (by rw [er, show k = nc by omega]), ht9⟩) (fun _ h => nomatch h) dX9_held_49
  · skip
    refine lv_iload_n hx hb dX9_held_14 rfl (lv_at hl 2 rfl) ?_
    refine lv_iload_n hx hb dX9_held_15 rfl (lv_at hl 1 rfl) ?_
    refine lv_iconst (v := (-1)) hx hb dX9_held_16 (by decide) ?_
    refine lv_icmp_eq (tgt := 30) hx hb dX9_held_17 (by decide) (fun c_2 => ?_) (fun c_2 => ?_)
    · skip
      refine lv_aload_n hx hb dX9_held_30 rfl (lv_at hl 0 rfl) ?_
      refine lv_iload_n hx hb dX9_held_31 rfl (lv_at hl 3 rfl) ?_
      refine lv_iconst (v := 3) hx hb dX9_held_32 (by decide) ?_
      refine fz_retR (va_runV (As := [.int (nI k), .int (nI 3)]) (rest := [.int r]) ⟨hx, hb, hml, hown, hts⟩ (c_X9_told l D cy b M h k 3 (by omega) (by omega)) (cwV 2 hts gX9_held_X9_told rfl rfl rfl (by decide +kernel) ⟨Nat.le_of_ble_eq_true rfl, Nat.le_of_ble_eq_true rfl⟩) (fz_preV (ci := 7) (q0 := 0) hK hP rfl rfl rfl fz_T_bl (fun _ _ _ => trivial)) rfl rfl hl.1 rfl (lv_room (Nat.le_of_ble_eq_true rfl)) dX9_held_33 ⟨Nat.zero_le _, Nat.zero_le _⟩) ?_
      refine lv_goto (tgt := 40) hx hb dX9_held_36 (by decide) ?_
      refine lv_iadd hx hb dX9_held_40 ?_
      refine lv_istore_n (lv' := [(2, .int (r + (fm_c (M 1) 3 k))), (0, .ref (b 0)), (1, .int x), (3, .int (nI k))]) hx hb dX9_held_41 rfl hl (by decide) rfl (fun ls hl => ?_)
      refine lv_iinc (v := nI (k + 1)) (lv' := [(3, .int (nI (k + 1))), (2, .int (r + (fm_c (M 1) 3 k))), (0, .ref (b 0)), (1, .int x)]) hx hb dX9_held_42 hl (k := 3) rfl (fz_inc rfl) (by decide) rfl (fun ls hl => ?_)
      refine lv_goto (tgt := 4) hx hb dX9_held_45 (by decide) ?_
      exact ih4 (k + 1, r + (fm_c (M 1) 3 k)) (show ((k + 1) ≤ nc) ∧ ((r + (fm_c (M 1) 3 k)) = fz_sum (fun i => if (decide (x = -1) || decide (fm_c (M 1) 0 i = x)) = true then fm_c (M 1) 3 i else 0) (k + 1)) from ⟨(by omega), (by simp [fz_sum, er, c_1, c_2])⟩) (by show nc - (k + 1) < nc - k; omega) ls (lv_sub hl [2, 3, 1, 0] rfl)
    · skip
      refine lv_aload_n hx hb dX9_held_20 rfl (lv_at hl 0 rfl) ?_
      refine lv_iload_n hx hb dX9_held_21 rfl (lv_at hl 3 rfl) ?_
      refine lv_iconst (v := 0) hx hb dX9_held_22 (by decide) ?_
      refine fz_retR (va_runV (As := [.int (nI k), .int (nI 0)]) (rest := [.int r]) ⟨hx, hb, hml, hown, hts⟩ (c_X9_told l D cy b M h k 0 (by omega) (by omega)) (cwV 2 hts gX9_held_X9_told rfl rfl rfl (by decide +kernel) ⟨Nat.le_of_ble_eq_true rfl, Nat.le_of_ble_eq_true rfl⟩) (fz_preV (ci := 7) (q0 := 0) hK hP rfl rfl rfl fz_T_bl (fun _ _ _ => trivial)) rfl rfl hl.1 rfl (lv_room (Nat.le_of_ble_eq_true rfl)) dX9_held_23 ⟨Nat.zero_le _, Nat.zero_le _⟩) ?_
      refine lv_iload_n hx hb dX9_held_26 rfl (lv_at hl 1 rfl) ?_
      refine lv_icmp_ne (tgt := 39) hx hb dX9_held_27 (by decide) (fun c_3 => ?_) (fun c_3 => ?_)
      · skip
        refine lv_iconst (v := 0) hx hb dX9_held_39 (by decide) ?_
        refine lv_iadd hx hb dX9_held_40 ?_
        refine lv_istore_n (lv' := [(2, .int (r + 0)), (0, .ref (b 0)), (1, .int x), (3, .int (nI k))]) hx hb dX9_held_41 rfl hl (by decide) rfl (fun ls hl => ?_)
        refine lv_iinc (v := nI (k + 1)) (lv' := [(3, .int (nI (k + 1))), (2, .int (r + 0)), (0, .ref (b 0)), (1, .int x)]) hx hb dX9_held_42 hl (k := 3) rfl (fz_inc rfl) (by decide) rfl (fun ls hl => ?_)
        refine lv_goto (tgt := 4) hx hb dX9_held_45 (by decide) ?_
        exact ih4 (k + 1, r + 0) (show ((k + 1) ≤ nc) ∧ ((r + 0) = fz_sum (fun i => if (decide (x = -1) || decide (fm_c (M 1) 0 i = x)) = true then fm_c (M 1) 3 i else 0) (k + 1)) from ⟨(by omega), (by simp [fz_sum, er, c_1, c_2, c_3])⟩) (by show nc - (k + 1) < nc - k; omega) ls (lv_sub hl [2, 3, 1, 0] rfl)
      · skip
        refine lv_aload_n hx hb dX9_held_30 rfl (lv_at hl 0 rfl) ?_
        refine lv_iload_n hx hb dX9_held_31 rfl (lv_at hl 3 rfl) ?_
        refine lv_iconst (v := 3) hx hb dX9_held_32 (by decide) ?_
        refine fz_retR (va_runV (As := [.int (nI k), .int (nI 3)]) (rest := [.int r]) ⟨hx, hb, hml, hown, hts⟩ (c_X9_told l D cy b M h k 3 (by omega) (by omega)) (cwV 2 hts gX9_held_X9_told rfl rfl rfl (by decide +kernel) ⟨Nat.le_of_ble_eq_true rfl, Nat.le_of_ble_eq_true rfl⟩) (fz_preV (ci := 7) (q0 := 0) hK hP rfl rfl rfl fz_T_bl (fun _ _ _ => trivial)) rfl rfl hl.1 rfl (lv_room (Nat.le_of_ble_eq_true rfl)) dX9_held_33 ⟨Nat.zero_le _, Nat.zero_le _⟩) ?_
        refine lv_goto (tgt := 40) hx hb dX9_held_36 (by decide) ?_
        refine lv_iadd hx hb dX9_held_40 ?_
        refine lv_istore_n (lv' := [(2, .int (r + (fm_c (M 1) 3 k))), (0, .ref (b 0)), (1, .int x), (3, .int (nI k))]) hx hb dX9_held_41 rfl hl (by decide) rfl (fun ls hl => ?_)
        refine lv_iinc (v := nI (k + 1)) (lv' := [(3, .int (nI (k + 1))), (2, .int (r + (fm_c (M 1) 3 k))), (0, .ref (b 0)), (1, .int x)]) hx hb dX9_held_42 hl (k := 3) rfl (fz_inc rfl) (by decide) rfl (fun ls hl => ?_)
        refine lv_goto (tgt := 4) hx hb dX9_held_45 (by decide) ?_
        exact ih4 (k + 1, r + (fm_c (M 1) 3 k)) (show ((k + 1) ≤ nc) ∧ ((r + (fm_c (M 1) 3 k)) = fz_sum (fun i => if (decide (x = -1) || decide (fm_c (M 1) 0 i = x)) = true then fm_c (M 1) 3 i else 0) (k + 1)) from ⟨(by omega), (by simp [fz_sum, er, c_1, c_2, c_3])⟩) (by show nc - (k + 1) < nc - k; omega) ls (lv_sub hl [2, 3, 1, 0] rfl)
set_option maxHeartbeats 4000000 in
set_option maxRecDepth 100000 in
/-- the model: left -/
theorem c_X9_left (l : Launch) (D : va_G) (cy : Nat → ClassId) (b : Nat → Nat) (M : Nat → Nat → Int32) (h : Int64) (x : Int32) (w : Nat) (hw : w < 6) (nl : Nat) (hnl : M 1 3 = nI nl) (hnl12 : nl ≤ 12) : fz_RI l yX9_left wsX9_left 1 22 D cy [.ref (b 0), .int x, .int (nI w)] (MW cy b M h) fz_T (fz_sum (fun i => if fm_l (M 1) w i = x then fm_l (M 1) 3 i else 0) nl) := by
  refine Met.ofW (cc := cX9_left) (maxL := 5) (ret := (some .int)) (by decide) rfl ?_
  intro p e s m args below meth c s₁ B hml hv
  obtain ⟨rfl, hP, hK, hE⟩ := hv
  have hx := B.exec
  have hb := B.bytes
  have hr := B.returns
  have hts := atoms_spec (ws := wsX9_left) B.pre
  have hown : s.vm.findClass RX9 = some m.cls := findClass_of_methodNamed B.named
  have hlocks := B.notSynchronized
  have hl := lv_entry ([.ref (b 0), .int x, .int (nI w)]) (n := 5) (Nat.le_of_ble_eq_true rfl)
  rw [lg_entry_eq]
  generalize (lg_sl ([.ref (b 0), .int x, .int (nI w)]) ++ List.replicate (5 - (lg_sl ([.ref (b 0), .int x, .int (nI w)])).length) Slot.unset).toArray = ls at hl ⊢
  have hl : lv_has ls 5 [(0, .ref (b 0)), (1, .int x), (2, .int (nI w))] := hl
  have k_7 := hts (.fieldLink RX9 7 "FreezeCreditsModel" "now" "[I") (by decide +kernel)
  have inX9 : ∀ w ∈ u_ws RX9 TX9 13, w ∈ wsX9_left := by decide +kernel
  refine lv_iconst (v := 0) hx hb dX9_left_0 (by decide) ?_
  refine lv_istore_n (lv' := [(3, .int 0), (0, .ref (b 0)), (1, .int x), (2, .int (nI w))]) hx hb dX9_left_1 rfl hl (by decide) rfl (fun ls hl => ?_)
  refine lv_iconst (v := 0) hx hb dX9_left_2 (by decide) ?_
  refine lv_istore (lv' := [(4, .int 0), (3, .int 0), (0, .ref (b 0)), (1, .int x), (2, .int (nI w))]) hx hb dX9_left_3 hl (by decide) rfl (fun ls hl => ?_)
  refine fz_loop (σ := Nat × Int32) (pc := 5) (nL := 5) (fun x9 => match x9 with | (k, r) => [(0, .ref (b 0)), (1, .int x), (2, .int (nI w)), (3, .int r), (4, .int (nI k))]) (fun x9 => match x9 with | (k, r) => (k ≤ nl) ∧ (r = fz_sum (fun i => if fm_l (M 1) w i = x then fm_l (M 1) 3 i else 0) k)) (fun x9 => match x9 with | (k, r) => nl - k) ?_ (0, 0) (show (0 ≤ nl) ∧ (0 = fz_sum (fun i => if fm_l (M 1) w i = x then fm_l (M 1) 3 i else 0) 0) from ⟨(by omega), rfl⟩) ls (lv_sub hl [2, 3, 4, 1, 0] rfl)
  rintro ⟨k, r⟩ ⟨hk, er⟩ ih5 ls hl
  have hk : k ≤ nl := hk
  have er : r = fz_sum (fun i => if fm_l (M 1) w i = x then fm_l (M 1) 3 i else 0) k := er
  have hl : lv_has ls 5 [(0, .ref (b 0)), (1, .int x), (2, .int (nI w)), (3, .int r), (4, .int (nI k))] := hl
  refine lv_iload hx hb dX9_left_5 (lv_at hl 4 rfl) ?_
  refine lv_aload_n hx hb dX9_left_7 rfl (lv_at hl 0 rfl) ?_
  refine va_get (D := D) (ci := 7) (v := .ref (b 1)) (C := RX9) (T := TX9) (N := 13) hx hb hts inX9 hown hK hP 0 rfl rfl 0 (by decide) k_7 (fun _ h9 => h9) rfl dX9_left_8 ?_
  refine lv_iconst (v := 3) hx hb dX9_left_11 (by decide) ?_
  refine fz_iald (f := M 1) hx hb hK hP 1 0 rfl rfl 3 rfl (by omega) (by decide) dX9_left_12 ?_
  refine fz_geN (tgt := 47) hx hb k nl rfl hnl dX9_left_13 (by decide) (by omega) (by omega) (fun c_1 => ?_) (fun c_1 => ?_)
  · skip
    refine lv_iload_n hx hb dX9_left_47 rfl (lv_at hl 3 rfl) ?_
    exact W.iret (v := r) hx hb hr (fun t9 ht9 hW9 => ⟨_, rfl, (by rw [er, show k = nl by omega]), ht9⟩) (fun _ h => nomatch h) dX9_left_48
  · skip
    refine lv_iload_n hx hb dX9_left_16 rfl (lv_at hl 3 rfl) ?_
    refine lv_aload_n hx hb dX9_left_17 rfl (lv_at hl 0 rfl) ?_
    refine lv_iload hx hb dX9_left_18 (lv_at hl 4 rfl) ?_
    refine lv_iload_n hx hb dX9_left_20 rfl (lv_at hl 2 rfl) ?_
    refine fz_retR (va_runV (As := [.int (nI k), .int (nI w)]) (rest := [.int r]) ⟨hx, hb, hml, hown, hts⟩ (c_X9_loanOf l D cy b M h k w (by omega) (by omega)) (cwV 2 hts gX9_left_X9_loanOf rfl rfl rfl (by decide +kernel) ⟨Nat.le_of_ble_eq_true rfl, Nat.le_of_ble_eq_true rfl⟩) (fz_preV (ci := 7) (q0 := 0) hK hP rfl rfl rfl fz_T_bl (fun _ _ _ => trivial)) rfl rfl hl.1 rfl (lv_room (Nat.le_of_ble_eq_true rfl)) dX9_left_21 ⟨Nat.zero_le _, Nat.zero_le _⟩) ?_
    refine lv_iload_n hx hb dX9_left_24 rfl (lv_at hl 1 rfl) ?_
    refine lv_icmp_ne (tgt := 38) hx hb dX9_left_25 (by decide) (fun c_2 => ?_) (fun c_2 => ?_)
    · skip
      refine lv_iconst (v := 0) hx hb dX9_left_38 (by decide) ?_
      refine lv_iadd hx hb dX9_left_39 ?_
      refine lv_istore_n (lv' := [(3, .int (r + 0)), (0, .ref (b 0)), (1, .int x), (2, .int (nI w)), (4, .int (nI k))]) hx hb dX9_left_40 rfl hl (by decide) rfl (fun ls hl => ?_)
      refine lv_iinc (v := nI (k + 1)) (lv' := [(4, .int (nI (k + 1))), (3, .int (r + 0)), (0, .ref (b 0)), (1, .int x), (2, .int (nI w))]) hx hb dX9_left_41 hl (k := 4) rfl (fz_inc rfl) (by decide) rfl (fun ls hl => ?_)
      refine lv_goto (tgt := 5) hx hb dX9_left_44 (by decide) ?_
      exact ih5 (k + 1, r + 0) (show ((k + 1) ≤ nl) ∧ ((r + 0) = fz_sum (fun i => if fm_l (M 1) w i = x then fm_l (M 1) 3 i else 0) (k + 1)) from ⟨(by omega), (by simp [fz_sum, er, c_1, c_2])⟩) (by show nl - (k + 1) < nl - k; omega) ls (lv_sub hl [2, 3, 4, 1, 0] rfl)
    · skip
      refine lv_aload_n hx hb dX9_left_28 rfl (lv_at hl 0 rfl) ?_
      refine lv_iload hx hb dX9_left_29 (lv_at hl 4 rfl) ?_
      refine lv_iconst (v := 3) hx hb dX9_left_31 (by decide) ?_
      refine fz_retR (va_runV (As := [.int (nI k), .int (nI 3)]) (rest := [.int r]) ⟨hx, hb, hml, hown, hts⟩ (c_X9_loanOf l D cy b M h k 3 (by omega) (by omega)) (cwV 2 hts gX9_left_X9_loanOf rfl rfl rfl (by decide +kernel) ⟨Nat.le_of_ble_eq_true rfl, Nat.le_of_ble_eq_true rfl⟩) (fz_preV (ci := 7) (q0 := 0) hK hP rfl rfl rfl fz_T_bl (fun _ _ _ => trivial)) rfl rfl hl.1 rfl (lv_room (Nat.le_of_ble_eq_true rfl)) dX9_left_32 ⟨Nat.zero_le _, Nat.zero_le _⟩) ?_
      refine lv_goto (tgt := 39) hx hb dX9_left_35 (by decide) ?_
      refine lv_iadd hx hb dX9_left_39 ?_
      refine lv_istore_n (lv' := [(3, .int (r + (fm_l (M 1) 3 k))), (0, .ref (b 0)), (1, .int x), (2, .int (nI w)), (4, .int (nI k))]) hx hb dX9_left_40 rfl hl (by decide) rfl (fun ls hl => ?_)
      refine lv_iinc (v := nI (k + 1)) (lv' := [(4, .int (nI (k + 1))), (3, .int (r + (fm_l (M 1) 3 k))), (0, .ref (b 0)), (1, .int x), (2, .int (nI w))]) hx hb dX9_left_41 hl (k := 4) rfl (fz_inc rfl) (by decide) rfl (fun ls hl => ?_)
      refine lv_goto (tgt := 5) hx hb dX9_left_44 (by decide) ?_
      exact ih5 (k + 1, r + (fm_l (M 1) 3 k)) (show ((k + 1) ≤ nl) ∧ ((r + (fm_l (M 1) 3 k)) = fz_sum (fun i => if fm_l (M 1) w i = x then fm_l (M 1) 3 i else 0) (k + 1)) from ⟨(by omega), (by simp [fz_sum, er, c_1, c_2])⟩) (by show nl - (k + 1) < nl - k; omega) ls (lv_sub hl [2, 3, 4, 1, 0] rfl)
set_option maxHeartbeats 4000000 in
set_option maxRecDepth 100000 in
/-- the model: teamNumber -/
theorem c_X9_teamNumber (l : Launch) (D : va_G) (cy : Nat → ClassId) (b : Nat → Nat) (M : Nat → Nat → Int32) (h : Int64) (nt nc nl wk : Nat) (wf : fm_wf (M 1) nt nc nl wk) (t w : Nat) (ht : t < nt) (hw : w < 11) : fz_RI l yX9_teamNumber wsX9_teamNumber 2 46 D cy [.ref (b 0), .int (nI t), .int (nI w)] (MW cy b M h) fz_T (fz_tval (fm_V (M 1)) nc nl t w) := by
  refine Met.ofW (cc := cX9_teamNumber) (maxL := 3) (ret := (some .int)) (by decide) rfl ?_
  intro p e s m args below meth c s₁ B hml hv
  obtain ⟨rfl, hP, hK, hE⟩ := hv
  have hx := B.exec
  have hb := B.bytes
  have hr := B.returns
  have hts := atoms_spec (ws := wsX9_teamNumber) B.pre
  have hown : s.vm.findClass RX9 = some m.cls := findClass_of_methodNamed B.named
  have hlocks := B.notSynchronized
  have hl := lv_entry ([.ref (b 0), .int (nI t), .int (nI w)]) (n := 3) (Nat.le_of_ble_eq_true rfl)
  rw [lg_entry_eq]
  generalize (lg_sl ([.ref (b 0), .int (nI t), .int (nI w)]) ++ List.replicate (3 - (lg_sl ([.ref (b 0), .int (nI t), .int (nI w)])).length) Slot.unset).toArray = ls at hl ⊢
  have hl : lv_has ls 3 [(0, .ref (b 0)), (1, .int (nI t)), (2, .int (nI w))] := hl
  obtain ⟨hnt, hnt6, hnc, hnc30, hnl, hnl12, hwk, hwk39, hT, hG, hB, hZo⟩ := id wf
  refine lv_iload_n hx hb dX9_teamNumber_0 rfl (lv_at hl 2 rfl) ?_
  rcases (show w = 0 ∨ w = 1 ∨ w = 2 ∨ w = 3 ∨ w = 4 ∨ w = 5 ∨ w = 6 ∨ w = 7 ∨ w = 8 ∨ w = 9 ∨ w = 10 from by omega) with rfl | rfl | rfl | rfl | rfl | rfl | rfl | rfl | rfl | rfl | rfl
  · skip
    refine lv_tableIn (tgt := 56) hx hb dX9_teamNumber_1 (by decide) (by decide) rfl (by decide) ?_
    refine lv_aload_n hx hb dX9_teamNumber_56 rfl (lv_at hl 0 rfl) ?_
    refine lv_iload_n hx hb dX9_teamNumber_57 rfl (lv_at hl 1 rfl) ?_
    refine lv_iconst (v := 0) hx hb dX9_teamNumber_58 (by decide) ?_
    refine fz_retR (va_runV (As := [.int (nI t), .int (nI 0)]) (rest := []) ⟨hx, hb, hml, hown, hts⟩ (c_X9_of l D cy b M h t 0 (by omega) (by omega)) (cwV 2 hts gX9_teamNumber_X9_of rfl rfl rfl (by decide +kernel) ⟨Nat.le_of_ble_eq_true rfl, Nat.le_of_ble_eq_true rfl⟩) (fz_preV (ci := 7) (q0 := 0) hK hP rfl rfl rfl fz_T_bl (fun _ _ _ => trivial)) rfl rfl hl.1 rfl (lv_room (Nat.le_of_ble_eq_true rfl)) dX9_teamNumber_59 ⟨Nat.zero_le _, Nat.zero_le _⟩) ?_
    exact W.iret (v := (fm_t (M 1) 0 t)) hx hb hr (fun t9 ht9 hW9 => ⟨_, rfl, rfl, ht9⟩) (fun _ h => nomatch h) dX9_teamNumber_62
  · skip
    refine lv_tableIn (tgt := 63) hx hb dX9_teamNumber_1 (by decide) (by decide) rfl (by decide) ?_
    refine lv_aload_n hx hb dX9_teamNumber_63 rfl (lv_at hl 0 rfl) ?_
    refine lv_iload_n hx hb dX9_teamNumber_64 rfl (lv_at hl 1 rfl) ?_
    refine fz_retR (va_runV (As := [.int (nI t)]) (rest := []) ⟨hx, hb, hml, hown, hts⟩ (c_X9_held l D cy b M h (nI t) nc hnc hnc30) (cwV 1 hts gX9_teamNumber_X9_held rfl rfl rfl (by decide +kernel) ⟨Nat.le_of_ble_eq_true rfl, Nat.le_of_ble_eq_true rfl⟩) (fz_preV (ci := 7) (q0 := 0) hK hP rfl rfl rfl fz_T_bl (fun _ _ _ => trivial)) rfl rfl hl.1 rfl (lv_room (Nat.le_of_ble_eq_true rfl)) dX9_teamNumber_65 ⟨Nat.zero_le _, Nat.zero_le _⟩) ?_
    exact W.iret (v := (fz_sum (fun i => if (decide ((nI t) = -1) || decide (fm_c (M 1) 0 i = (nI t))) = true then fm_c (M 1) 3 i else 0) nc)) hx hb hr (fun t9 ht9 hW9 => ⟨_, rfl, (fm_tv1 (by omega)), ht9⟩) (fun _ h => nomatch h) dX9_teamNumber_68
  · skip
    refine lv_tableIn (tgt := 69) hx hb dX9_teamNumber_1 (by decide) (by decide) rfl (by decide) ?_
    refine lv_aload_n hx hb dX9_teamNumber_69 rfl (lv_at hl 0 rfl) ?_
    refine lv_iload_n hx hb dX9_teamNumber_70 rfl (lv_at hl 1 rfl) ?_
    refine lv_iconst (v := 1) hx hb dX9_teamNumber_71 (by decide) ?_
    refine fz_retR (va_runV (As := [.int (nI t), .int (nI 1)]) (rest := []) ⟨hx, hb, hml, hown, hts⟩ (c_X9_of l D cy b M h t 1 (by omega) (by omega)) (cwV 2 hts gX9_teamNumber_X9_of rfl rfl rfl (by decide +kernel) ⟨Nat.le_of_ble_eq_true rfl, Nat.le_of_ble_eq_true rfl⟩) (fz_preV (ci := 7) (q0 := 0) hK hP rfl rfl rfl fz_T_bl (fun _ _ _ => trivial)) rfl rfl hl.1 rfl (lv_room (Nat.le_of_ble_eq_true rfl)) dX9_teamNumber_72 ⟨Nat.zero_le _, Nat.zero_le _⟩) ?_
    exact W.iret (v := (fm_t (M 1) 1 t)) hx hb hr (fun t9 ht9 hW9 => ⟨_, rfl, rfl, ht9⟩) (fun _ h => nomatch h) dX9_teamNumber_75
  · skip
    refine lv_tableIn (tgt := 76) hx hb dX9_teamNumber_1 (by decide) (by decide) rfl (by decide) ?_
    refine lv_aload_n hx hb dX9_teamNumber_76 rfl (lv_at hl 0 rfl) ?_
    refine lv_iload_n hx hb dX9_teamNumber_77 rfl (lv_at hl 1 rfl) ?_
    refine lv_iconst (v := 2) hx hb dX9_teamNumber_78 (by decide) ?_
    refine fz_retR (va_runV (As := [.int (nI t), .int (nI 2)]) (rest := []) ⟨hx, hb, hml, hown, hts⟩ (c_X9_of l D cy b M h t 2 (by omega) (by omega)) (cwV 2 hts gX9_teamNumber_X9_of rfl rfl rfl (by decide +kernel) ⟨Nat.le_of_ble_eq_true rfl, Nat.le_of_ble_eq_true rfl⟩) (fz_preV (ci := 7) (q0 := 0) hK hP rfl rfl rfl fz_T_bl (fun _ _ _ => trivial)) rfl rfl hl.1 rfl (lv_room (Nat.le_of_ble_eq_true rfl)) dX9_teamNumber_79 ⟨Nat.zero_le _, Nat.zero_le _⟩) ?_
    exact W.iret (v := (fm_t (M 1) 2 t)) hx hb hr (fun t9 ht9 hW9 => ⟨_, rfl, rfl, ht9⟩) (fun _ h => nomatch h) dX9_teamNumber_82
  · skip
    refine lv_tableIn (tgt := 83) hx hb dX9_teamNumber_1 (by decide) (by decide) rfl (by decide) ?_
    refine lv_aload_n hx hb dX9_teamNumber_83 rfl (lv_at hl 0 rfl) ?_
    refine lv_iload_n hx hb dX9_teamNumber_84 rfl (lv_at hl 1 rfl) ?_
    refine lv_iconst (v := 0) hx hb dX9_teamNumber_85 (by decide) ?_
    refine fz_retR (va_runV (As := [.int (nI t), .int 0]) (rest := []) ⟨hx, hb, hml, hown, hts⟩ (c_X9_inState l D cy b M h (nI t) 0 nc hnc hnc30) (cwV 2 hts gX9_teamNumber_X9_inState rfl rfl rfl (by decide +kernel) ⟨Nat.le_of_ble_eq_true rfl, Nat.le_of_ble_eq_true rfl⟩) (fz_preV (ci := 7) (q0 := 0) hK hP rfl rfl rfl fz_T_bl (fun _ _ _ => trivial)) rfl rfl hl.1 rfl (lv_room (Nat.le_of_ble_eq_true rfl)) dX9_teamNumber_86 ⟨Nat.zero_le _, Nat.zero_le _⟩) ?_
    refine lv_aload_n hx hb dX9_teamNumber_89 rfl (lv_at hl 0 rfl) ?_
    refine lv_iload_n hx hb dX9_teamNumber_90 rfl (lv_at hl 1 rfl) ?_
    refine lv_iconst (v := 1) hx hb dX9_teamNumber_91 (by decide) ?_
    refine fz_retR (va_runV (As := [.int (nI t), .int 1]) (rest := [.int (nI (fz_ct (fun i => decide (fm_c (M 1) 2 i = 0) && (decide ((nI t) = -1) || decide (fm_c (M 1) 0 i = (nI t)))) nc))]) ⟨hx, hb, hml, hown, hts⟩ (c_X9_inState l D cy b M h (nI t) 1 nc hnc hnc30) (cwV 2 hts gX9_teamNumber_X9_inState rfl rfl rfl (by decide +kernel) ⟨Nat.le_of_ble_eq_true rfl, Nat.le_of_ble_eq_true rfl⟩) (fz_preV (ci := 7) (q0 := 0) hK hP rfl rfl rfl fz_T_bl (fun _ _ _ => trivial)) rfl rfl hl.1 rfl (lv_room (Nat.le_of_ble_eq_true rfl)) dX9_teamNumber_92 ⟨Nat.zero_le _, Nat.zero_le _⟩) ?_
    refine fz_iaddN hx hb (fz_ct (fun i => decide (fm_c (M 1) 2 i = 0) && (decide ((nI t) = -1) || decide (fm_c (M 1) 0 i = (nI t)))) nc) (fz_ct (fun i => decide (fm_c (M 1) 2 i = 1) && (decide ((nI t) = -1) || decide (fm_c (M 1) 0 i = (nI t)))) nc) rfl rfl dX9_teamNumber_95 ?_
    exact W.iret (v := (nI ((fz_ct (fun i => decide (fm_c (M 1) 2 i = 0) && (decide ((nI t) = -1) || decide (fm_c (M 1) 0 i = (nI t)))) nc) + (fz_ct (fun i => decide (fm_c (M 1) 2 i = 1) && (decide ((nI t) = -1) || decide (fm_c (M 1) 0 i = (nI t)))) nc)))) hx hb hr (fun t9 ht9 hW9 => ⟨_, rfl, (fm_tv4 (by omega)), ht9⟩) (fun _ h => nomatch h) dX9_teamNumber_96
  · skip
    refine lv_tableIn (tgt := 97) hx hb dX9_teamNumber_1 (by decide) (by decide) rfl (by decide) ?_
    refine lv_aload_n hx hb dX9_teamNumber_97 rfl (lv_at hl 0 rfl) ?_
    refine lv_iload_n hx hb dX9_teamNumber_98 rfl (lv_at hl 1 rfl) ?_
    refine lv_iload_n hx hb dX9_teamNumber_99 rfl (lv_at hl 2 rfl) ?_
    refine lv_iconst (v := 3) hx hb dX9_teamNumber_100 (by decide) ?_
    refine fz_isubN hx hb 5 3 rfl rfl (by omega) dX9_teamNumber_101 ?_
    refine fz_retR (va_runV (As := [.int (nI t), .int (nI (5 - 3))]) (rest := []) ⟨hx, hb, hml, hown, hts⟩ (c_X9_inState l D cy b M h (nI t) (nI (5 - 3)) nc hnc hnc30) (cwV 2 hts gX9_teamNumber_X9_inState rfl rfl rfl (by decide +kernel) ⟨Nat.le_of_ble_eq_true rfl, Nat.le_of_ble_eq_true rfl⟩) (fz_preV (ci := 7) (q0 := 0) hK hP rfl rfl rfl fz_T_bl (fun _ _ _ => trivial)) rfl rfl hl.1 rfl (lv_room (Nat.le_of_ble_eq_true rfl)) dX9_teamNumber_102 ⟨Nat.zero_le _, Nat.zero_le _⟩) ?_
    exact W.iret (v := (nI (fz_ct (fun i => decide (fm_c (M 1) 2 i = (nI (5 - 3))) && (decide ((nI t) = -1) || decide (fm_c (M 1) 0 i = (nI t)))) nc))) hx hb hr (fun t9 ht9 hW9 => ⟨_, rfl, (fm_tv5 (by omega)), ht9⟩) (fun _ h => nomatch h) dX9_teamNumber_105
  · skip
    refine lv_tableIn (tgt := 97) hx hb dX9_teamNumber_1 (by decide) (by decide) rfl (by decide) ?_
    refine lv_aload_n hx hb dX9_teamNumber_97 rfl (lv_at hl 0 rfl) ?_
    refine lv_iload_n hx hb dX9_teamNumber_98 rfl (lv_at hl 1 rfl) ?_
    refine lv_iload_n hx hb dX9_teamNumber_99 rfl (lv_at hl 2 rfl) ?_
    refine lv_iconst (v := 3) hx hb dX9_teamNumber_100 (by decide) ?_
    refine fz_isubN hx hb 6 3 rfl rfl (by omega) dX9_teamNumber_101 ?_
    refine fz_retR (va_runV (As := [.int (nI t), .int (nI (6 - 3))]) (rest := []) ⟨hx, hb, hml, hown, hts⟩ (c_X9_inState l D cy b M h (nI t) (nI (6 - 3)) nc hnc hnc30) (cwV 2 hts gX9_teamNumber_X9_inState rfl rfl rfl (by decide +kernel) ⟨Nat.le_of_ble_eq_true rfl, Nat.le_of_ble_eq_true rfl⟩) (fz_preV (ci := 7) (q0 := 0) hK hP rfl rfl rfl fz_T_bl (fun _ _ _ => trivial)) rfl rfl hl.1 rfl (lv_room (Nat.le_of_ble_eq_true rfl)) dX9_teamNumber_102 ⟨Nat.zero_le _, Nat.zero_le _⟩) ?_
    exact W.iret (v := (nI (fz_ct (fun i => decide (fm_c (M 1) 2 i = (nI (6 - 3))) && (decide ((nI t) = -1) || decide (fm_c (M 1) 0 i = (nI t)))) nc))) hx hb hr (fun t9 ht9 hW9 => ⟨_, rfl, (fm_tv6 (by omega)), ht9⟩) (fun _ h => nomatch h) dX9_teamNumber_105
  · skip
    refine lv_tableIn (tgt := 106) hx hb dX9_teamNumber_1 (by decide) (by decide) rfl (by decide) ?_
    refine lv_aload_n hx hb dX9_teamNumber_106 rfl (lv_at hl 0 rfl) ?_
    refine lv_iload_n hx hb dX9_teamNumber_107 rfl (lv_at hl 1 rfl) ?_
    refine lv_iconst (v := 0) hx hb dX9_teamNumber_108 (by decide) ?_
    refine fz_retR (va_runV (As := [.int (nI t), .int (nI 0)]) (rest := []) ⟨hx, hb, hml, hown, hts⟩ (c_X9_left l D cy b M h (nI t) 0 (by omega) nl hnl hnl12) (cwV 2 hts gX9_teamNumber_X9_left rfl rfl rfl (by decide +kernel) ⟨Nat.le_of_ble_eq_true rfl, Nat.le_of_ble_eq_true rfl⟩) (fz_preV (ci := 7) (q0 := 0) hK hP rfl rfl rfl fz_T_bl (fun _ _ _ => trivial)) rfl rfl hl.1 rfl (lv_room (Nat.le_of_ble_eq_true rfl)) dX9_teamNumber_109 ⟨Nat.zero_le _, Nat.zero_le _⟩) ?_
    exact W.iret (v := (fz_sum (fun i => if fm_l (M 1) 0 i = (nI t) then fm_l (M 1) 3 i else 0) nl)) hx hb hr (fun t9 ht9 hW9 => ⟨_, rfl, rfl, ht9⟩) (fun _ h => nomatch h) dX9_teamNumber_112
  · skip
    refine lv_tableIn (tgt := 113) hx hb dX9_teamNumber_1 (by decide) (by decide) rfl (by decide) ?_
    refine lv_aload_n hx hb dX9_teamNumber_113 rfl (lv_at hl 0 rfl) ?_
    refine lv_iload_n hx hb dX9_teamNumber_114 rfl (lv_at hl 1 rfl) ?_
    refine lv_iconst (v := 1) hx hb dX9_teamNumber_115 (by decide) ?_
    refine fz_retR (va_runV (As := [.int (nI t), .int (nI 1)]) (rest := []) ⟨hx, hb, hml, hown, hts⟩ (c_X9_left l D cy b M h (nI t) 1 (by omega) nl hnl hnl12) (cwV 2 hts gX9_teamNumber_X9_left rfl rfl rfl (by decide +kernel) ⟨Nat.le_of_ble_eq_true rfl, Nat.le_of_ble_eq_true rfl⟩) (fz_preV (ci := 7) (q0 := 0) hK hP rfl rfl rfl fz_T_bl (fun _ _ _ => trivial)) rfl rfl hl.1 rfl (lv_room (Nat.le_of_ble_eq_true rfl)) dX9_teamNumber_116 ⟨Nat.zero_le _, Nat.zero_le _⟩) ?_
    exact W.iret (v := (fz_sum (fun i => if fm_l (M 1) 1 i = (nI t) then fm_l (M 1) 3 i else 0) nl)) hx hb hr (fun t9 ht9 hW9 => ⟨_, rfl, rfl, ht9⟩) (fun _ h => nomatch h) dX9_teamNumber_119
  · skip
    refine lv_tableIn (tgt := 120) hx hb dX9_teamNumber_1 (by decide) (by decide) rfl (by decide) ?_
    refine lv_aload_n hx hb dX9_teamNumber_120 rfl (lv_at hl 0 rfl) ?_
    refine lv_iload_n hx hb dX9_teamNumber_121 rfl (lv_at hl 1 rfl) ?_
    refine fz_retR (va_runV (As := [.int (nI t)]) (rest := []) ⟨hx, hb, hml, hown, hts⟩ (c_X9_owes l D cy b M h (nI t) nl hnl hnl12) (cwV 1 hts gX9_teamNumber_X9_owes rfl rfl rfl (by decide +kernel) ⟨Nat.le_of_ble_eq_true rfl, Nat.le_of_ble_eq_true rfl⟩) (fz_preV (ci := 7) (q0 := 0) hK hP rfl rfl rfl fz_T_bl (fun _ _ _ => trivial)) rfl rfl hl.1 rfl (lv_room (Nat.le_of_ble_eq_true rfl)) dX9_teamNumber_122 ⟨Nat.zero_le _, Nat.zero_le _⟩) ?_
    refine fz_ifeqB (tgt := 132) hx hb dX9_teamNumber_125 (by decide) (fun c_1 => ?_) (fun c_1 => ?_)
    · skip
      refine lv_iconst (v := 0) hx hb dX9_teamNumber_132 (by decide) ?_
      exact W.iret (v := 0) hx hb hr (fun t9 ht9 hW9 => ⟨_, rfl, (by rw [fm_tv9, c_1]; rfl), ht9⟩) (fun _ h => nomatch h) dX9_teamNumber_133
    · skip
      refine lv_iconst (v := 1) hx hb dX9_teamNumber_128 (by decide) ?_
      refine lv_goto (tgt := 133) hx hb dX9_teamNumber_129 (by decide) ?_
      exact W.iret (v := 1) hx hb hr (fun t9 ht9 hW9 => ⟨_, rfl, (by rw [fm_tv9, c_1]; rfl), ht9⟩) (fun _ h => nomatch h) dX9_teamNumber_133
  · skip
    refine lv_tableOut (tgt := 134) hx hb dX9_teamNumber_1 (by decide) (by decide) ?_
    refine lv_aload_n hx hb dX9_teamNumber_134 rfl (lv_at hl 0 rfl) ?_
    refine lv_iload_n hx hb dX9_teamNumber_135 rfl (lv_at hl 1 rfl) ?_
    refine fz_retR (va_runV (As := [.int (nI t)]) (rest := []) ⟨hx, hb, hml, hown, hts⟩ (c_X9_wasFaulty l D cy b M h (nI t) nc hnc hnc30) (cwV 1 hts gX9_teamNumber_X9_wasFaulty rfl rfl rfl (by decide +kernel) ⟨Nat.le_of_ble_eq_true rfl, Nat.le_of_ble_eq_true rfl⟩) (fz_preV (ci := 7) (q0 := 0) hK hP rfl rfl rfl fz_T_bl (fun _ _ _ => trivial)) rfl rfl hl.1 rfl (lv_room (Nat.le_of_ble_eq_true rfl)) dX9_teamNumber_136 ⟨Nat.zero_le _, Nat.zero_le _⟩) ?_
    refine fz_ifeqB (tgt := 146) hx hb dX9_teamNumber_139 (by decide) (fun c_2 => ?_) (fun c_2 => ?_)
    · skip
      refine lv_iconst (v := 0) hx hb dX9_teamNumber_146 (by decide) ?_
      exact W.iret (v := 0) hx hb hr (fun t9 ht9 hW9 => ⟨_, rfl, (by rw [fm_tv10, c_2]; rfl), ht9⟩) (fun _ h => nomatch h) dX9_teamNumber_147
    · skip
      refine lv_iconst (v := 1) hx hb dX9_teamNumber_142 (by decide) ?_
      refine lv_goto (tgt := 147) hx hb dX9_teamNumber_143 (by decide) ?_
      exact W.iret (v := 1) hx hb hr (fun t9 ht9 hW9 => ⟨_, rfl, (by rw [fm_tv10, c_2]; rfl), ht9⟩) (fun _ h => nomatch h) dX9_teamNumber_147
set_option maxHeartbeats 4000000 in
set_option maxRecDepth 100000 in
/-- the model: team -/
theorem c_X9_team (l : Launch) (D : va_G) (cy : Nat → ClassId) (b : Nat → Nat) (M : Nat → Nat → Int32) (h : Int64) (nt nc nl wk : Nat) (wf : fm_wf (M 1) nt nc nl wk) (x y : Int32) : fz_MI l yX9_team wsX9_team 3 68 D cy [.ref (b 0), .int x, .int y] (MW cy b M h) fz_T ((fm_qteam M nc nl x y).1) (MW cy b ((fm_qteam M nc nl x y).2) h) := by
  refine Met.ofW (cc := cX9_team) (maxL := 3) (ret := (some .int)) (by decide) rfl ?_
  intro p e s m args below meth c s₁ B hml hv
  obtain ⟨rfl, hP, hK, hD0, hE⟩ := hv
  have hx := B.exec
  have hb := B.bytes
  have hr := B.returns
  have hts := atoms_spec (ws := wsX9_team) B.pre
  have hown : s.vm.findClass RX9 = some m.cls := findClass_of_methodNamed B.named
  have hlocks := B.notSynchronized
  have hD := fz_self hD0
  generalize hAe : fz_in (MW cy b M h) = A at hD ⊢
  have hS : va_S A s.heap s.heap [] := va_S.rf
  have hl := lv_entry ([.ref (b 0), .int x, .int y]) (n := 3) (Nat.le_of_ble_eq_true rfl)
  rw [lg_entry_eq]
  generalize (lg_sl ([.ref (b 0), .int x, .int y]) ++ List.replicate (3 - (lg_sl ([.ref (b 0), .int x, .int y])).length) Slot.unset).toArray = ls at hl ⊢
  have hl : lv_has ls 3 [(0, .ref (b 0)), (1, .int x), (2, .int y)] := hl
  obtain ⟨hnt, hnt6, hnc, hnc30, hnl, hnl12, hwk, hwk39, hT, hG, hB, hZo⟩ := id wf
  refine lv_aload_n hx hb dX9_team_0 rfl (lv_at hl 0 rfl) ?_
  refine lv_iload_n hx hb dX9_team_1 rfl (lv_at hl 1 rfl) ?_
  refine fz_retR (va_runV (As := [.int x]) (rest := []) ⟨hx, hb, hml, hown, hts⟩ (c_X9_isTeam l D cy b M h x nt hnt (by omega)) (cwV 1 hts gX9_team_X9_isTeam rfl rfl rfl (by decide +kernel) ⟨Nat.le_of_ble_eq_true rfl, Nat.le_of_ble_eq_true rfl⟩) (fz_preV (ci := 7) (q0 := 0) hK hP rfl rfl rfl fz_T_bl (fun _ _ _ => trivial)) rfl rfl hl.1 rfl (lv_room (Nat.le_of_ble_eq_true rfl)) dX9_team_2 ⟨Nat.zero_le _, Nat.zero_le _⟩) ?_
  refine fz_ifneB (tgt := 14) hx hb dX9_team_5 (by decide) (fun c_1 => ?_) (fun c_1 => ?_)
  · skip
    obtain ⟨z, hz, ez⟩ := fz_ix_t (by omega) (show fz_ix x (nI nt) = true by rw [← hnt]; exact c_1)
    have ez' := fz_tnat ez (by omega)
    refine lv_iload_n hx hb dX9_team_14 rfl (lv_at hl 2 rfl) ?_
    refine lv_iconst (v := 0) hx hb dX9_team_15 (by decide) ?_
    refine lv_bipush (v := 10) hx hb dX9_team_16 (by decide) ?_
    refine fz_retR (va_runS (As := [.int y, .int 0, .int 10]) (rest := []) ⟨hx, hb, hml, hown, hts⟩ (c_X9_in l D cy y 0 10) (va_cwS 3 hts gX9_team_X9_in rfl rfl rfl (by decide +kernel) ⟨Nat.le_of_ble_eq_true rfl, Nat.le_of_ble_eq_true rfl⟩) (fz_preS hK (fz_nil) fz_T_bl (fun _ _ _ => trivial)) rfl rfl hl.1 rfl (lv_room (Nat.le_of_ble_eq_true rfl)) dX9_team_18 ⟨Nat.zero_le _, Nat.zero_le _⟩) ?_
    refine fz_ifeqB (tgt := 37) hx hb dX9_team_21 (by decide) (fun c_2 => ?_) (fun c_2 => ?_)
    · skip
      refine lv_aload_n hx hb dX9_team_37 rfl (lv_at hl 0 rfl) ?_
      refine lv_iconst (v := 2) hx hb dX9_team_38 (by decide) ?_
      refine fz_retM (ws' := ME cy b (M 0 0) (M 0 1) 2 (M 0 3) (M 0 4) (M 0 5) (M 0 6) (M 1) (M 2) (M 3) (M 4) (M 5) h) (va_runV (As := [.int 2]) (rest := []) ⟨hx, hb, hml, hown, hts⟩ (c_X9_fails l D cy b M h 2) (cwV 1 hts gX9_team_X9_fails rfl rfl rfl (by decide +kernel) ⟨Nat.le_of_ble_eq_true rfl, Nat.le_of_ble_eq_true rfl⟩) (fz_preMV (ci := 7) (q0 := 0) hK hP hD rfl rfl rfl fz_T_bl (fun _ _ _ => trivial)) rfl rfl hl.1 rfl (lv_room (Nat.le_of_ble_eq_true rfl)) dX9_team_39 ⟨Nat.zero_le _, Nat.zero_le _⟩) hP hD hS [0, 1, 2, 3, 4, 5] [] rfl rfl [true, true, true, true, true, true] (And.intro rfl (And.intro rfl (And.intro rfl (And.intro rfl (And.intro rfl (And.intro rfl trivial)))))) rfl rfl (fun H locs hP hD hS => ?_)
      have hP : va_P D vwCl (ME cy b (M 0 0) (M 0 1) 2 (M 0 3) (M 0 4) (M 0 5) (M 0 6) (M 1) (M 2) (M 3) (M 4) (M 5) h) H := hP
      have hD : va_D A (ME cy b (M 0 0) (M 0 1) 2 (M 0 3) (M 0 4) (M 0 5) (M 0 6) (M 1) (M 2) (M 3) (M 4) (M 5) h) := hD
      refine fz_top (show _ = 0 from rfl) ?_
      have eF : fm_qteam M nc nl x y = (0, fz_up M 0 (upd (M 0) 2 2)) := by simp only [fm_qteam, c_1, c_2, ez', ↓reduceIte, Bool.false_eq_true]
      exact W.iret (v := 0) hx hb hr (fun t9 ht9 hW9 => ⟨⟨_, (), rfl, (by rw [eF] <;> rfl), fz_to ht9 (by rw [eF]; exact hP)⟩, hS.F ht9⟩) hS.2.2 dX9_team_42
    · skip
      obtain ⟨w, hw, ew⟩ := fm_in_n (m := 10) rfl (by decide) c_2
      have ew' := fz_tnat ew (by omega)
      refine lv_aload_n hx hb dX9_team_24 rfl (lv_at hl 0 rfl) ?_
      refine lv_aload_n hx hb dX9_team_25 rfl (lv_at hl 0 rfl) ?_
      refine lv_iload_n hx hb dX9_team_26 rfl (lv_at hl 1 rfl) ?_
      refine lv_iload_n hx hb dX9_team_27 rfl (lv_at hl 2 rfl) ?_
      refine fz_at0 (show y = nI w from ew) ?_
      refine fz_at1 (show x = nI z from ez) ?_
      refine fz_retR (va_runV (As := [.int (nI z), .int (nI w)]) (rest := [.ref (b 0)]) ⟨hx, hb, hml, hown, hts⟩ (c_X9_teamNumber l D cy b M h nt nc nl wk wf z w (by omega) (by omega)) (cwV 2 hts gX9_team_X9_teamNumber rfl rfl rfl (by decide +kernel) ⟨Nat.le_of_ble_eq_true rfl, Nat.le_of_ble_eq_true rfl⟩) (fz_preV (ci := 7) (q0 := 0) hK hP rfl rfl rfl fz_T_bl (fun _ _ _ => trivial)) rfl rfl hl.1 rfl (lv_room (Nat.le_of_ble_eq_true rfl)) dX9_team_28 ⟨Nat.zero_le _, Nat.zero_le _⟩) ?_
      refine fz_retM (ws' := ME cy b (M 0 0) (M 0 1) 0 (M 0 3) (M 0 4) (M 0 5) (M 0 6) (M 1) (M 2) (M 3) (M 4) (M 5) h) (va_runV (As := [.int (fz_tval (fm_V (M 1)) nc nl z w)]) (rest := []) ⟨hx, hb, hml, hown, hts⟩ (c_X9_well l D cy b M h (fz_tval (fm_V (M 1)) nc nl z w)) (cwV 1 hts gX9_team_X9_well rfl rfl rfl (by decide +kernel) ⟨Nat.le_of_ble_eq_true rfl, Nat.le_of_ble_eq_true rfl⟩) (fz_preMV (ci := 7) (q0 := 0) hK hP hD rfl rfl rfl fz_T_bl (fun _ _ _ => trivial)) rfl rfl hl.1 rfl (lv_room (Nat.le_of_ble_eq_true rfl)) dX9_team_31 ⟨Nat.zero_le _, Nat.zero_le _⟩) hP hD hS [0, 1, 2, 3, 4, 5] [] rfl rfl [true, true, true, true, true, true] (And.intro rfl (And.intro rfl (And.intro rfl (And.intro rfl (And.intro rfl (And.intro rfl trivial)))))) rfl rfl (fun H locs hP hD hS => ?_)
      have hP : va_P D vwCl (ME cy b (M 0 0) (M 0 1) 0 (M 0 3) (M 0 4) (M 0 5) (M 0 6) (M 1) (M 2) (M 3) (M 4) (M 5) h) H := hP
      have hD : va_D A (ME cy b (M 0 0) (M 0 1) 0 (M 0 3) (M 0 4) (M 0 5) (M 0 6) (M 1) (M 2) (M 3) (M 4) (M 5) h) := hD
      refine fz_top (show _ = (fz_tval (fm_V (M 1)) nc nl z w) from rfl) ?_
      refine lv_goto (tgt := 42) hx hb dX9_team_34 (by decide) ?_
      have eF : fm_qteam M nc nl x y = ((fz_tval (fm_V (M 1)) nc nl z w), fz_up M 0 (upd (M 0) 2 0)) := by simp only [fm_qteam, c_1, c_2, ez', ew', ↓reduceIte, Bool.false_eq_true]
      exact W.iret (v := (fz_tval (fm_V (M 1)) nc nl z w)) hx hb hr (fun t9 ht9 hW9 => ⟨⟨_, (), rfl, (by rw [eF] <;> rfl), fz_to ht9 (by rw [eF]; exact hP)⟩, hS.F ht9⟩) hS.2.2 dX9_team_42
  · skip
    refine lv_aload_n hx hb dX9_team_8 rfl (lv_at hl 0 rfl) ?_
    refine lv_iconst (v := 1) hx hb dX9_team_9 (by decide) ?_
    refine fz_retM (ws' := ME cy b (M 0 0) (M 0 1) 1 (M 0 3) (M 0 4) (M 0 5) (M 0 6) (M 1) (M 2) (M 3) (M 4) (M 5) h) (va_runV (As := [.int 1]) (rest := []) ⟨hx, hb, hml, hown, hts⟩ (c_X9_fails l D cy b M h 1) (cwV 1 hts gX9_team_X9_fails rfl rfl rfl (by decide +kernel) ⟨Nat.le_of_ble_eq_true rfl, Nat.le_of_ble_eq_true rfl⟩) (fz_preMV (ci := 7) (q0 := 0) hK hP hD rfl rfl rfl fz_T_bl (fun _ _ _ => trivial)) rfl rfl hl.1 rfl (lv_room (Nat.le_of_ble_eq_true rfl)) dX9_team_10 ⟨Nat.zero_le _, Nat.zero_le _⟩) hP hD hS [0, 1, 2, 3, 4, 5] [] rfl rfl [true, true, true, true, true, true] (And.intro rfl (And.intro rfl (And.intro rfl (And.intro rfl (And.intro rfl (And.intro rfl trivial)))))) rfl rfl (fun H locs hP hD hS => ?_)
    have hP : va_P D vwCl (ME cy b (M 0 0) (M 0 1) 1 (M 0 3) (M 0 4) (M 0 5) (M 0 6) (M 1) (M 2) (M 3) (M 4) (M 5) h) H := hP
    have hD : va_D A (ME cy b (M 0 0) (M 0 1) 1 (M 0 3) (M 0 4) (M 0 5) (M 0 6) (M 1) (M 2) (M 3) (M 4) (M 5) h) := hD
    refine fz_top (show _ = 0 from rfl) ?_
    have eF : fm_qteam M nc nl x y = (0, fz_up M 0 (upd (M 0) 2 1)) := by simp only [fm_qteam, c_1, ↓reduceIte, Bool.false_eq_true]
    exact W.iret (v := 0) hx hb hr (fun t9 ht9 hW9 => ⟨⟨_, (), rfl, (by rw [eF] <;> rfl), fz_to ht9 (by rw [eF]; exact hP)⟩, hS.F ht9⟩) hS.2.2 dX9_team_13
set_option maxHeartbeats 4000000 in
set_option maxRecDepth 100000 in
/-- the model: change -/
theorem c_X9_change (l : Launch) (D : va_G) (cy : Nat → ClassId) (b : Nat → Nat) (M : Nat → Nat → Int32) (h : Int64) (nt nc nl wk : Nat) (wf : fm_wf (M 1) nt nc nl wk) (x y : Int32) : fz_MI l yX9_change wsX9_change 2 43 D cy [.ref (b 0), .int x, .int y] (MW cy b M h) fz_T ((fm_qch M x y).1) (MW cy b ((fm_qch M x y).2) h) := by
  refine Met.ofW (cc := cX9_change) (maxL := 3) (ret := (some .int)) (by decide) rfl ?_
  intro p e s m args below meth c s₁ B hml hv
  obtain ⟨rfl, hP, hK, hD0, hE⟩ := hv
  have hx := B.exec
  have hb := B.bytes
  have hr := B.returns
  have hts := atoms_spec (ws := wsX9_change) B.pre
  have hown : s.vm.findClass RX9 = some m.cls := findClass_of_methodNamed B.named
  have hlocks := B.notSynchronized
  have hD := fz_self hD0
  generalize hAe : fz_in (MW cy b M h) = A at hD ⊢
  have hS : va_S A s.heap s.heap [] := va_S.rf
  have hl := lv_entry ([.ref (b 0), .int x, .int y]) (n := 3) (Nat.le_of_ble_eq_true rfl)
  rw [lg_entry_eq]
  generalize (lg_sl ([.ref (b 0), .int x, .int y]) ++ List.replicate (3 - (lg_sl ([.ref (b 0), .int x, .int y])).length) Slot.unset).toArray = ls at hl ⊢
  have hl : lv_has ls 3 [(0, .ref (b 0)), (1, .int x), (2, .int y)] := hl
  obtain ⟨hnt, hnt6, hnc, hnc30, hnl, hnl12, hwk, hwk39, hT, hG, hB, hZo⟩ := id wf
  refine lv_aload_n hx hb dX9_change_0 rfl (lv_at hl 0 rfl) ?_
  refine lv_iload_n hx hb dX9_change_1 rfl (lv_at hl 1 rfl) ?_
  refine fz_retR (va_runV (As := [.int x]) (rest := []) ⟨hx, hb, hml, hown, hts⟩ (c_X9_isChange l D cy b M h x nc hnc (by omega)) (cwV 1 hts gX9_change_X9_isChange rfl rfl rfl (by decide +kernel) ⟨Nat.le_of_ble_eq_true rfl, Nat.le_of_ble_eq_true rfl⟩) (fz_preV (ci := 7) (q0 := 0) hK hP rfl rfl rfl fz_T_bl (fun _ _ _ => trivial)) rfl rfl hl.1 rfl (lv_room (Nat.le_of_ble_eq_true rfl)) dX9_change_2 ⟨Nat.zero_le _, Nat.zero_le _⟩) ?_
  refine fz_ifneB (tgt := 14) hx hb dX9_change_5 (by decide) (fun c_1 => ?_) (fun c_1 => ?_)
  · skip
    obtain ⟨z, hz, ez⟩ := fz_ix_t (by omega) (show fz_ix x (nI nc) = true by rw [← hnc]; exact c_1)
    have ez' := fz_tnat ez (by omega)
    refine lv_iload_n hx hb dX9_change_14 rfl (lv_at hl 2 rfl) ?_
    refine lv_iconst (v := 0) hx hb dX9_change_15 (by decide) ?_
    refine lv_bipush (v := 6) hx hb dX9_change_16 (by decide) ?_
    refine fz_retR (va_runS (As := [.int y, .int 0, .int 6]) (rest := []) ⟨hx, hb, hml, hown, hts⟩ (c_X9_in l D cy y 0 6) (va_cwS 3 hts gX9_change_X9_in rfl rfl rfl (by decide +kernel) ⟨Nat.le_of_ble_eq_true rfl, Nat.le_of_ble_eq_true rfl⟩) (fz_preS hK (fz_nil) fz_T_bl (fun _ _ _ => trivial)) rfl rfl hl.1 rfl (lv_room (Nat.le_of_ble_eq_true rfl)) dX9_change_18 ⟨Nat.zero_le _, Nat.zero_le _⟩) ?_
    refine fz_ifeqB (tgt := 37) hx hb dX9_change_21 (by decide) (fun c_2 => ?_) (fun c_2 => ?_)
    · skip
      refine lv_aload_n hx hb dX9_change_37 rfl (lv_at hl 0 rfl) ?_
      refine lv_iconst (v := 2) hx hb dX9_change_38 (by decide) ?_
      refine fz_retM (ws' := ME cy b (M 0 0) (M 0 1) 2 (M 0 3) (M 0 4) (M 0 5) (M 0 6) (M 1) (M 2) (M 3) (M 4) (M 5) h) (va_runV (As := [.int 2]) (rest := []) ⟨hx, hb, hml, hown, hts⟩ (c_X9_fails l D cy b M h 2) (cwV 1 hts gX9_change_X9_fails rfl rfl rfl (by decide +kernel) ⟨Nat.le_of_ble_eq_true rfl, Nat.le_of_ble_eq_true rfl⟩) (fz_preMV (ci := 7) (q0 := 0) hK hP hD rfl rfl rfl fz_T_bl (fun _ _ _ => trivial)) rfl rfl hl.1 rfl (lv_room (Nat.le_of_ble_eq_true rfl)) dX9_change_39 ⟨Nat.zero_le _, Nat.zero_le _⟩) hP hD hS [0, 1, 2, 3, 4, 5] [] rfl rfl [true, true, true, true, true, true] (And.intro rfl (And.intro rfl (And.intro rfl (And.intro rfl (And.intro rfl (And.intro rfl trivial)))))) rfl rfl (fun H locs hP hD hS => ?_)
      have hP : va_P D vwCl (ME cy b (M 0 0) (M 0 1) 2 (M 0 3) (M 0 4) (M 0 5) (M 0 6) (M 1) (M 2) (M 3) (M 4) (M 5) h) H := hP
      have hD : va_D A (ME cy b (M 0 0) (M 0 1) 2 (M 0 3) (M 0 4) (M 0 5) (M 0 6) (M 1) (M 2) (M 3) (M 4) (M 5) h) := hD
      refine fz_top (show _ = 0 from rfl) ?_
      have eF : fm_qch M x y = (0, fz_up M 0 (upd (M 0) 2 2)) := by simp only [fm_qch, c_1, c_2, ez', ↓reduceIte, Bool.false_eq_true]
      exact W.iret (v := 0) hx hb hr (fun t9 ht9 hW9 => ⟨⟨_, (), rfl, (by rw [eF] <;> rfl), fz_to ht9 (by rw [eF]; exact hP)⟩, hS.F ht9⟩) hS.2.2 dX9_change_42
    · skip
      obtain ⟨w, hw, ew⟩ := fm_in_n (m := 6) rfl (by decide) c_2
      have ew' := fz_tnat ew (by omega)
      refine lv_aload_n hx hb dX9_change_24 rfl (lv_at hl 0 rfl) ?_
      refine lv_aload_n hx hb dX9_change_25 rfl (lv_at hl 0 rfl) ?_
      refine lv_iload_n hx hb dX9_change_26 rfl (lv_at hl 1 rfl) ?_
      refine lv_iload_n hx hb dX9_change_27 rfl (lv_at hl 2 rfl) ?_
      refine fz_at0 (show y = nI w from ew) ?_
      refine fz_at1 (show x = nI z from ez) ?_
      refine fz_retR (va_runV (As := [.int (nI z), .int (nI w)]) (rest := [.ref (b 0)]) ⟨hx, hb, hml, hown, hts⟩ (c_X9_told l D cy b M h z w (by omega) (by omega)) (cwV 2 hts gX9_change_X9_told rfl rfl rfl (by decide +kernel) ⟨Nat.le_of_ble_eq_true rfl, Nat.le_of_ble_eq_true rfl⟩) (fz_preV (ci := 7) (q0 := 0) hK hP rfl rfl rfl fz_T_bl (fun _ _ _ => trivial)) rfl rfl hl.1 rfl (lv_room (Nat.le_of_ble_eq_true rfl)) dX9_change_28 ⟨Nat.zero_le _, Nat.zero_le _⟩) ?_
      refine fz_retM (ws' := ME cy b (M 0 0) (M 0 1) 0 (M 0 3) (M 0 4) (M 0 5) (M 0 6) (M 1) (M 2) (M 3) (M 4) (M 5) h) (va_runV (As := [.int (fm_c (M 1) w z)]) (rest := []) ⟨hx, hb, hml, hown, hts⟩ (c_X9_well l D cy b M h (fm_c (M 1) w z)) (cwV 1 hts gX9_change_X9_well rfl rfl rfl (by decide +kernel) ⟨Nat.le_of_ble_eq_true rfl, Nat.le_of_ble_eq_true rfl⟩) (fz_preMV (ci := 7) (q0 := 0) hK hP hD rfl rfl rfl fz_T_bl (fun _ _ _ => trivial)) rfl rfl hl.1 rfl (lv_room (Nat.le_of_ble_eq_true rfl)) dX9_change_31 ⟨Nat.zero_le _, Nat.zero_le _⟩) hP hD hS [0, 1, 2, 3, 4, 5] [] rfl rfl [true, true, true, true, true, true] (And.intro rfl (And.intro rfl (And.intro rfl (And.intro rfl (And.intro rfl (And.intro rfl trivial)))))) rfl rfl (fun H locs hP hD hS => ?_)
      have hP : va_P D vwCl (ME cy b (M 0 0) (M 0 1) 0 (M 0 3) (M 0 4) (M 0 5) (M 0 6) (M 1) (M 2) (M 3) (M 4) (M 5) h) H := hP
      have hD : va_D A (ME cy b (M 0 0) (M 0 1) 0 (M 0 3) (M 0 4) (M 0 5) (M 0 6) (M 1) (M 2) (M 3) (M 4) (M 5) h) := hD
      refine fz_top (show _ = (fm_c (M 1) w z) from rfl) ?_
      refine lv_goto (tgt := 42) hx hb dX9_change_34 (by decide) ?_
      have eF : fm_qch M x y = ((fm_c (M 1) w z), fz_up M 0 (upd (M 0) 2 0)) := by simp only [fm_qch, c_1, c_2, ez', ew', ↓reduceIte, Bool.false_eq_true]
      exact W.iret (v := (fm_c (M 1) w z)) hx hb hr (fun t9 ht9 hW9 => ⟨⟨_, (), rfl, (by rw [eF] <;> rfl), fz_to ht9 (by rw [eF]; exact hP)⟩, hS.F ht9⟩) hS.2.2 dX9_change_42
  · skip
    refine lv_aload_n hx hb dX9_change_8 rfl (lv_at hl 0 rfl) ?_
    refine lv_iconst (v := 1) hx hb dX9_change_9 (by decide) ?_
    refine fz_retM (ws' := ME cy b (M 0 0) (M 0 1) 1 (M 0 3) (M 0 4) (M 0 5) (M 0 6) (M 1) (M 2) (M 3) (M 4) (M 5) h) (va_runV (As := [.int 1]) (rest := []) ⟨hx, hb, hml, hown, hts⟩ (c_X9_fails l D cy b M h 1) (cwV 1 hts gX9_change_X9_fails rfl rfl rfl (by decide +kernel) ⟨Nat.le_of_ble_eq_true rfl, Nat.le_of_ble_eq_true rfl⟩) (fz_preMV (ci := 7) (q0 := 0) hK hP hD rfl rfl rfl fz_T_bl (fun _ _ _ => trivial)) rfl rfl hl.1 rfl (lv_room (Nat.le_of_ble_eq_true rfl)) dX9_change_10 ⟨Nat.zero_le _, Nat.zero_le _⟩) hP hD hS [0, 1, 2, 3, 4, 5] [] rfl rfl [true, true, true, true, true, true] (And.intro rfl (And.intro rfl (And.intro rfl (And.intro rfl (And.intro rfl (And.intro rfl trivial)))))) rfl rfl (fun H locs hP hD hS => ?_)
    have hP : va_P D vwCl (ME cy b (M 0 0) (M 0 1) 1 (M 0 3) (M 0 4) (M 0 5) (M 0 6) (M 1) (M 2) (M 3) (M 4) (M 5) h) H := hP
    have hD : va_D A (ME cy b (M 0 0) (M 0 1) 1 (M 0 3) (M 0 4) (M 0 5) (M 0 6) (M 1) (M 2) (M 3) (M 4) (M 5) h) := hD
    refine fz_top (show _ = 0 from rfl) ?_
    have eF : fm_qch M x y = (0, fz_up M 0 (upd (M 0) 2 1)) := by simp only [fm_qch, c_1, ↓reduceIte, Bool.false_eq_true]
    exact W.iret (v := 0) hx hb hr (fun t9 ht9 hW9 => ⟨⟨_, (), rfl, (by rw [eF] <;> rfl), fz_to ht9 (by rw [eF]; exact hP)⟩, hS.F ht9⟩) hS.2.2 dX9_change_13
set_option maxHeartbeats 4000000 in
set_option maxRecDepth 100000 in
/-- the model: loan -/
theorem c_X9_loan (l : Launch) (D : va_G) (cy : Nat → ClassId) (b : Nat → Nat) (M : Nat → Nat → Int32) (h : Int64) (nt nc nl wk : Nat) (wf : fm_wf (M 1) nt nc nl wk) (x y : Int32) : fz_MI l yX9_loan wsX9_loan 2 43 D cy [.ref (b 0), .int x, .int y] (MW cy b M h) fz_T ((fm_qln M x y).1) (MW cy b ((fm_qln M x y).2) h) := by
  refine Met.ofW (cc := cX9_loan) (maxL := 3) (ret := (some .int)) (by decide) rfl ?_
  intro p e s m args below meth c s₁ B hml hv
  obtain ⟨rfl, hP, hK, hD0, hE⟩ := hv
  have hx := B.exec
  have hb := B.bytes
  have hr := B.returns
  have hts := atoms_spec (ws := wsX9_loan) B.pre
  have hown : s.vm.findClass RX9 = some m.cls := findClass_of_methodNamed B.named
  have hlocks := B.notSynchronized
  have hD := fz_self hD0
  generalize hAe : fz_in (MW cy b M h) = A at hD ⊢
  have hS : va_S A s.heap s.heap [] := va_S.rf
  have hl := lv_entry ([.ref (b 0), .int x, .int y]) (n := 3) (Nat.le_of_ble_eq_true rfl)
  rw [lg_entry_eq]
  generalize (lg_sl ([.ref (b 0), .int x, .int y]) ++ List.replicate (3 - (lg_sl ([.ref (b 0), .int x, .int y])).length) Slot.unset).toArray = ls at hl ⊢
  have hl : lv_has ls 3 [(0, .ref (b 0)), (1, .int x), (2, .int y)] := hl
  obtain ⟨hnt, hnt6, hnc, hnc30, hnl, hnl12, hwk, hwk39, hT, hG, hB, hZo⟩ := id wf
  refine lv_aload_n hx hb dX9_loan_0 rfl (lv_at hl 0 rfl) ?_
  refine lv_iload_n hx hb dX9_loan_1 rfl (lv_at hl 1 rfl) ?_
  refine fz_retR (va_runV (As := [.int x]) (rest := []) ⟨hx, hb, hml, hown, hts⟩ (c_X9_isLoan l D cy b M h x nl hnl (by omega)) (cwV 1 hts gX9_loan_X9_isLoan rfl rfl rfl (by decide +kernel) ⟨Nat.le_of_ble_eq_true rfl, Nat.le_of_ble_eq_true rfl⟩) (fz_preV (ci := 7) (q0 := 0) hK hP rfl rfl rfl fz_T_bl (fun _ _ _ => trivial)) rfl rfl hl.1 rfl (lv_room (Nat.le_of_ble_eq_true rfl)) dX9_loan_2 ⟨Nat.zero_le _, Nat.zero_le _⟩) ?_
  refine fz_ifneB (tgt := 14) hx hb dX9_loan_5 (by decide) (fun c_1 => ?_) (fun c_1 => ?_)
  · skip
    obtain ⟨z, hz, ez⟩ := fz_ix_t (by omega) (show fz_ix x (nI nl) = true by rw [← hnl]; exact c_1)
    have ez' := fz_tnat ez (by omega)
    refine lv_iload_n hx hb dX9_loan_14 rfl (lv_at hl 2 rfl) ?_
    refine lv_iconst (v := 0) hx hb dX9_loan_15 (by decide) ?_
    refine lv_iconst (v := 5) hx hb dX9_loan_16 (by decide) ?_
    refine fz_retR (va_runS (As := [.int y, .int 0, .int 5]) (rest := []) ⟨hx, hb, hml, hown, hts⟩ (c_X9_in l D cy y 0 5) (va_cwS 3 hts gX9_loan_X9_in rfl rfl rfl (by decide +kernel) ⟨Nat.le_of_ble_eq_true rfl, Nat.le_of_ble_eq_true rfl⟩) (fz_preS hK (fz_nil) fz_T_bl (fun _ _ _ => trivial)) rfl rfl hl.1 rfl (lv_room (Nat.le_of_ble_eq_true rfl)) dX9_loan_17 ⟨Nat.zero_le _, Nat.zero_le _⟩) ?_
    refine fz_ifeqB (tgt := 36) hx hb dX9_loan_20 (by decide) (fun c_2 => ?_) (fun c_2 => ?_)
    · skip
      refine lv_aload_n hx hb dX9_loan_36 rfl (lv_at hl 0 rfl) ?_
      refine lv_iconst (v := 2) hx hb dX9_loan_37 (by decide) ?_
      refine fz_retM (ws' := ME cy b (M 0 0) (M 0 1) 2 (M 0 3) (M 0 4) (M 0 5) (M 0 6) (M 1) (M 2) (M 3) (M 4) (M 5) h) (va_runV (As := [.int 2]) (rest := []) ⟨hx, hb, hml, hown, hts⟩ (c_X9_fails l D cy b M h 2) (cwV 1 hts gX9_loan_X9_fails rfl rfl rfl (by decide +kernel) ⟨Nat.le_of_ble_eq_true rfl, Nat.le_of_ble_eq_true rfl⟩) (fz_preMV (ci := 7) (q0 := 0) hK hP hD rfl rfl rfl fz_T_bl (fun _ _ _ => trivial)) rfl rfl hl.1 rfl (lv_room (Nat.le_of_ble_eq_true rfl)) dX9_loan_38 ⟨Nat.zero_le _, Nat.zero_le _⟩) hP hD hS [0, 1, 2, 3, 4, 5] [] rfl rfl [true, true, true, true, true, true] (And.intro rfl (And.intro rfl (And.intro rfl (And.intro rfl (And.intro rfl (And.intro rfl trivial)))))) rfl rfl (fun H locs hP hD hS => ?_)
      have hP : va_P D vwCl (ME cy b (M 0 0) (M 0 1) 2 (M 0 3) (M 0 4) (M 0 5) (M 0 6) (M 1) (M 2) (M 3) (M 4) (M 5) h) H := hP
      have hD : va_D A (ME cy b (M 0 0) (M 0 1) 2 (M 0 3) (M 0 4) (M 0 5) (M 0 6) (M 1) (M 2) (M 3) (M 4) (M 5) h) := hD
      refine fz_top (show _ = 0 from rfl) ?_
      have eF : fm_qln M x y = (0, fz_up M 0 (upd (M 0) 2 2)) := by simp only [fm_qln, c_1, c_2, ez', ↓reduceIte, Bool.false_eq_true]
      exact W.iret (v := 0) hx hb hr (fun t9 ht9 hW9 => ⟨⟨_, (), rfl, (by rw [eF] <;> rfl), fz_to ht9 (by rw [eF]; exact hP)⟩, hS.F ht9⟩) hS.2.2 dX9_loan_41
    · skip
      obtain ⟨w, hw, ew⟩ := fm_in_n (m := 5) rfl (by decide) c_2
      have ew' := fz_tnat ew (by omega)
      refine lv_aload_n hx hb dX9_loan_23 rfl (lv_at hl 0 rfl) ?_
      refine lv_aload_n hx hb dX9_loan_24 rfl (lv_at hl 0 rfl) ?_
      refine lv_iload_n hx hb dX9_loan_25 rfl (lv_at hl 1 rfl) ?_
      refine lv_iload_n hx hb dX9_loan_26 rfl (lv_at hl 2 rfl) ?_
      refine fz_at0 (show y = nI w from ew) ?_
      refine fz_at1 (show x = nI z from ez) ?_
      refine fz_retR (va_runV (As := [.int (nI z), .int (nI w)]) (rest := [.ref (b 0)]) ⟨hx, hb, hml, hown, hts⟩ (c_X9_loanOf l D cy b M h z w (by omega) (by omega)) (cwV 2 hts gX9_loan_X9_loanOf rfl rfl rfl (by decide +kernel) ⟨Nat.le_of_ble_eq_true rfl, Nat.le_of_ble_eq_true rfl⟩) (fz_preV (ci := 7) (q0 := 0) hK hP rfl rfl rfl fz_T_bl (fun _ _ _ => trivial)) rfl rfl hl.1 rfl (lv_room (Nat.le_of_ble_eq_true rfl)) dX9_loan_27 ⟨Nat.zero_le _, Nat.zero_le _⟩) ?_
      refine fz_retM (ws' := ME cy b (M 0 0) (M 0 1) 0 (M 0 3) (M 0 4) (M 0 5) (M 0 6) (M 1) (M 2) (M 3) (M 4) (M 5) h) (va_runV (As := [.int (fm_l (M 1) w z)]) (rest := []) ⟨hx, hb, hml, hown, hts⟩ (c_X9_well l D cy b M h (fm_l (M 1) w z)) (cwV 1 hts gX9_loan_X9_well rfl rfl rfl (by decide +kernel) ⟨Nat.le_of_ble_eq_true rfl, Nat.le_of_ble_eq_true rfl⟩) (fz_preMV (ci := 7) (q0 := 0) hK hP hD rfl rfl rfl fz_T_bl (fun _ _ _ => trivial)) rfl rfl hl.1 rfl (lv_room (Nat.le_of_ble_eq_true rfl)) dX9_loan_30 ⟨Nat.zero_le _, Nat.zero_le _⟩) hP hD hS [0, 1, 2, 3, 4, 5] [] rfl rfl [true, true, true, true, true, true] (And.intro rfl (And.intro rfl (And.intro rfl (And.intro rfl (And.intro rfl (And.intro rfl trivial)))))) rfl rfl (fun H locs hP hD hS => ?_)
      have hP : va_P D vwCl (ME cy b (M 0 0) (M 0 1) 0 (M 0 3) (M 0 4) (M 0 5) (M 0 6) (M 1) (M 2) (M 3) (M 4) (M 5) h) H := hP
      have hD : va_D A (ME cy b (M 0 0) (M 0 1) 0 (M 0 3) (M 0 4) (M 0 5) (M 0 6) (M 1) (M 2) (M 3) (M 4) (M 5) h) := hD
      refine fz_top (show _ = (fm_l (M 1) w z) from rfl) ?_
      refine lv_goto (tgt := 41) hx hb dX9_loan_33 (by decide) ?_
      have eF : fm_qln M x y = ((fm_l (M 1) w z), fz_up M 0 (upd (M 0) 2 0)) := by simp only [fm_qln, c_1, c_2, ez', ew', ↓reduceIte, Bool.false_eq_true]
      exact W.iret (v := (fm_l (M 1) w z)) hx hb hr (fun t9 ht9 hW9 => ⟨⟨_, (), rfl, (by rw [eF] <;> rfl), fz_to ht9 (by rw [eF]; exact hP)⟩, hS.F ht9⟩) hS.2.2 dX9_loan_41
  · skip
    refine lv_aload_n hx hb dX9_loan_8 rfl (lv_at hl 0 rfl) ?_
    refine lv_iconst (v := 1) hx hb dX9_loan_9 (by decide) ?_
    refine fz_retM (ws' := ME cy b (M 0 0) (M 0 1) 1 (M 0 3) (M 0 4) (M 0 5) (M 0 6) (M 1) (M 2) (M 3) (M 4) (M 5) h) (va_runV (As := [.int 1]) (rest := []) ⟨hx, hb, hml, hown, hts⟩ (c_X9_fails l D cy b M h 1) (cwV 1 hts gX9_loan_X9_fails rfl rfl rfl (by decide +kernel) ⟨Nat.le_of_ble_eq_true rfl, Nat.le_of_ble_eq_true rfl⟩) (fz_preMV (ci := 7) (q0 := 0) hK hP hD rfl rfl rfl fz_T_bl (fun _ _ _ => trivial)) rfl rfl hl.1 rfl (lv_room (Nat.le_of_ble_eq_true rfl)) dX9_loan_10 ⟨Nat.zero_le _, Nat.zero_le _⟩) hP hD hS [0, 1, 2, 3, 4, 5] [] rfl rfl [true, true, true, true, true, true] (And.intro rfl (And.intro rfl (And.intro rfl (And.intro rfl (And.intro rfl (And.intro rfl trivial)))))) rfl rfl (fun H locs hP hD hS => ?_)
    have hP : va_P D vwCl (ME cy b (M 0 0) (M 0 1) 1 (M 0 3) (M 0 4) (M 0 5) (M 0 6) (M 1) (M 2) (M 3) (M 4) (M 5) h) H := hP
    have hD : va_D A (ME cy b (M 0 0) (M 0 1) 1 (M 0 3) (M 0 4) (M 0 5) (M 0 6) (M 1) (M 2) (M 3) (M 4) (M 5) h) := hD
    refine fz_top (show _ = 0 from rfl) ?_
    have eF : fm_qln M x y = (0, fz_up M 0 (upd (M 0) 2 1)) := by simp only [fm_qln, c_1, ↓reduceIte, Bool.false_eq_true]
    exact W.iret (v := 0) hx hb hr (fun t9 ht9 hW9 => ⟨⟨_, (), rfl, (by rw [eF] <;> rfl), fz_to ht9 (by rw [eF]; exact hP)⟩, hS.F ht9⟩) hS.2.2 dX9_loan_13
set_option maxHeartbeats 4000000 in
set_option maxRecDepth 100000 in
/-- the model: waits -/
theorem c_X9_waits (l : Launch) (D : va_G) (cy : Nat → ClassId) (b : Nat → Nat) (M : Nat → Nat → Int32) (h : Int64) (i : Nat) (hi31 : i < 2 ^ 31) (x so : Int32) (nc : Nat) (hnc : M 1 2 = nI nc) (hnc30 : nc ≤ 30) : fz_RI l yX9_waits wsX9_waits 1 22 D cy [.ref (b 0), .int (nI i), .int x, .int so] (MW cy b M h) fz_T (fm_pick (fm_wl (M 1) nc x so 1 9) i) := by
  refine Met.ofW (cc := cX9_waits) (maxL := 7) (ret := (some .int)) (by decide) rfl ?_
  intro p e s m args below meth c s₁ B hml hv
  obtain ⟨rfl, hP, hK, hE⟩ := hv
  have hx := B.exec
  have hb := B.bytes
  have hr := B.returns
  have hts := atoms_spec (ws := wsX9_waits) B.pre
  have hown : s.vm.findClass RX9 = some m.cls := findClass_of_methodNamed B.named
  have hlocks := B.notSynchronized
  have hl := lv_entry ([.ref (b 0), .int (nI i), .int x, .int so]) (n := 7) (Nat.le_of_ble_eq_true rfl)
  rw [lg_entry_eq]
  generalize (lg_sl ([.ref (b 0), .int (nI i), .int x, .int so]) ++ List.replicate (7 - (lg_sl ([.ref (b 0), .int (nI i), .int x, .int so])).length) Slot.unset).toArray = ls at hl ⊢
  have hl : lv_has ls 7 [(0, .ref (b 0)), (1, .int (nI i)), (2, .int x), (3, .int so)] := hl
  have k_7 := hts (.fieldLink RX9 7 "FreezeCreditsModel" "now" "[I") (by decide +kernel)
  have inX9 : ∀ w ∈ u_ws RX9 TX9 13, w ∈ wsX9_waits := by decide +kernel
  refine lv_iload_n hx hb dX9_waits_0 rfl (lv_at hl 1 rfl) ?_
  refine lv_istore (lv' := [(4, .int (nI i)), (0, .ref (b 0)), (1, .int (nI i)), (2, .int x), (3, .int so)]) hx hb dX9_waits_1 hl (by decide) rfl (fun ls hl => ?_)
  refine lv_iconst (v := 1) hx hb dX9_waits_3 (by decide) ?_
  refine lv_istore (lv' := [(5, .int 1), (4, .int (nI i)), (0, .ref (b 0)), (1, .int (nI i)), (2, .int x), (3, .int so)]) hx hb dX9_waits_4 hl (by decide) rfl (fun ls hl => ?_)
  refine fz_loop (σ := Nat × Nat) (pc := 6) (nL := 7) (fun x9 => match x9 with | (r, i2) => [(0, .ref (b 0)), (2, .int x), (3, .int so), (4, .int (nI i2)), (5, .int (nI r))]) (fun x9 => match x9 with | (r, i2) => (1 ≤ r) ∧ (r ≤ 10) ∧ (i2 < 2 ^ 31) ∧ (fm_pick (fm_wl (M 1) nc x so r (10 - r)) i2 = fm_pick (fm_wl (M 1) nc x so 1 9) i)) (fun x9 => match x9 with | (r, i2) => 10 - r) ?_ (1, i) (show (1 ≤ 1) ∧ (1 ≤ 10) ∧ (i < 2 ^ 31) ∧ (fm_pick (fm_wl (M 1) nc x so 1 (10 - 1)) i = fm_pick (fm_wl (M 1) nc x so 1 9) i) from ⟨(by omega), (by omega), (by omega), rfl⟩) ls (lv_sub hl [2, 4, 5, 1, 0] rfl)
  rintro ⟨r, i2⟩ ⟨hr1, hr10, hi2, eP⟩ ih6 ls hl
  have hr1 : 1 ≤ r := hr1
  have hr10 : r ≤ 10 := hr10
  have hi2 : i2 < 2 ^ 31 := hi2
  have eP : fm_pick (fm_wl (M 1) nc x so r (10 - r)) i2 = fm_pick (fm_wl (M 1) nc x so 1 9) i := eP
  have hl : lv_has ls 7 [(0, .ref (b 0)), (2, .int x), (3, .int so), (4, .int (nI i2)), (5, .int (nI r))] := hl
  refine lv_iload hx hb dX9_waits_6 (lv_at hl 4 rfl) ?_
  refine lv_bipush (v := 10) hx hb dX9_waits_8 (by decide) ?_
  refine fz_geN (tgt := 89) hx hb r 10 rfl rfl dX9_waits_10 (by decide) (by omega) (by omega) (fun c_1 => ?_) (fun c_1 => ?_)
  · skip
    refine lv_iconst (v := (-1)) hx hb dX9_waits_89 (by decide) ?_
    exact W.iret (v := (-1)) hx hb hr (fun t9 ht9 hW9 => ⟨_, rfl, (by rw [show 10 - r = 0 by omega] at eP; exact eP), ht9⟩) (fun _ h => nomatch h) dX9_waits_90
  · skip
    refine lv_iconst (v := 0) hx hb dX9_waits_13 (by decide) ?_
    refine lv_istore (lv' := [(6, .int 0), (0, .ref (b 0)), (2, .int x), (3, .int so), (4, .int (nI i2)), (5, .int (nI r))]) hx hb dX9_waits_14 hl (by decide) rfl (fun ls hl => ?_)
    refine fz_loop (σ := Nat × Nat) (pc := 16) (nL := 7) (fun x9 => match x9 with | (c, i3) => [(0, .ref (b 0)), (2, .int x), (3, .int so), (4, .int (nI i3)), (5, .int (nI r)), (6, .int (nI c))]) (fun x9 => match x9 with | (c, i3) => (c ≤ nc) ∧ (i3 < 2 ^ 31) ∧ (fm_pick ((List.range' c (nc - c)).filter (fm_sel (M 1) x so r) ++ fm_wl (M 1) nc x so (r + 1) (9 - r)) i3 = fm_pick (fm_wl (M 1) nc x so 1 9) i)) (fun x9 => match x9 with | (c, i3) => nc - c) ?_ (0, i2) (show (0 ≤ nc) ∧ (i2 < 2 ^ 31) ∧ (fm_pick ((List.range' 0 (nc - 0)).filter (fm_sel (M 1) x so r) ++ fm_wl (M 1) nc x so (r + 1) (9 - r)) i2 = fm_pick (fm_wl (M 1) nc x so 1 9) i) from ⟨(by omega), (by omega), (by rw [← eP, fm_wl_s (by omega)])⟩) ls (lv_sub hl [1, 2, 3, 4, 5, 0] rfl)
    rintro ⟨c, i3⟩ ⟨hc, hi3, eQ⟩ ih16 ls hl
    have hc : c ≤ nc := hc
    have hi3 : i3 < 2 ^ 31 := hi3
    have eQ : fm_pick ((List.range' c (nc - c)).filter (fm_sel (M 1) x so r) ++ fm_wl (M 1) nc x so (r + 1) (9 - r)) i3 = fm_pick (fm_wl (M 1) nc x so 1 9) i := eQ
    have hl : lv_has ls 7 [(0, .ref (b 0)), (2, .int x), (3, .int so), (4, .int (nI i3)), (5, .int (nI r)), (6, .int (nI c))] := hl
    refine lv_iload hx hb dX9_waits_16 (lv_at hl 5 rfl) ?_
    refine lv_aload_n hx hb dX9_waits_18 rfl (lv_at hl 0 rfl) ?_
    refine va_get (D := D) (ci := 7) (v := .ref (b 1)) (C := RX9) (T := TX9) (N := 13) hx hb hts inX9 hown hK hP 0 rfl rfl 0 (by decide) k_7 (fun _ h9 => h9) rfl dX9_waits_19 ?_
    refine lv_iconst (v := 2) hx hb dX9_waits_22 (by decide) ?_
    refine fz_iald (f := M 1) hx hb hK hP 1 0 rfl rfl 2 rfl (by omega) (by decide) dX9_waits_23 ?_
    refine fz_geN (tgt := 83) hx hb c nc rfl hnc dX9_waits_24 (by decide) (by omega) (by omega) (fun c_2 => ?_) (fun c_2 => ?_)
    · skip
      refine lv_iinc (v := nI (r + 1)) (lv' := [(5, .int (nI (r + 1))), (0, .ref (b 0)), (2, .int x), (3, .int so), (4, .int (nI i3)), (6, .int (nI c))]) hx hb dX9_waits_83 hl (k := 4) rfl (fz_inc rfl) (by decide) rfl (fun ls hl => ?_)
      refine lv_goto (tgt := 6) hx hb dX9_waits_86 (by decide) ?_
      exact ih6 (r + 1, i3) (show (1 ≤ (r + 1)) ∧ ((r + 1) ≤ 10) ∧ (i3 < 2 ^ 31) ∧ (fm_pick (fm_wl (M 1) nc x so (r + 1) (10 - (r + 1))) i3 = fm_pick (fm_wl (M 1) nc x so 1 9) i) from ⟨(by omega), (by omega), (by omega), (by rw [show nc - c = 0 by omega] at eQ; rw [show 10 - (r + 1) = 9 - r by omega]; exact eQ)⟩) (by show 10 - (r + 1) < 10 - r; omega) ls (lv_sub hl [1, 2, 3, 4, 0] rfl)
    · skip
      refine lv_aload_n hx hb dX9_waits_27 rfl (lv_at hl 0 rfl) ?_
      refine lv_iload hx hb dX9_waits_28 (lv_at hl 5 rfl) ?_
      refine lv_iconst (v := 1) hx hb dX9_waits_30 (by decide) ?_
      refine fz_retR (va_runV (As := [.int (nI c), .int (nI 1)]) (rest := []) ⟨hx, hb, hml, hown, hts⟩ (c_X9_told l D cy b M h c 1 (by omega) (by omega)) (cwV 2 hts gX9_waits_X9_told rfl rfl rfl (by decide +kernel) ⟨Nat.le_of_ble_eq_true rfl, Nat.le_of_ble_eq_true rfl⟩) (fz_preV (ci := 7) (q0 := 0) hK hP rfl rfl rfl fz_T_bl (fun _ _ _ => trivial)) rfl rfl hl.1 rfl (lv_room (Nat.le_of_ble_eq_true rfl)) dX9_waits_31 ⟨Nat.zero_le _, Nat.zero_le _⟩) ?_
      refine lv_iload hx hb dX9_waits_34 (lv_at hl 4 rfl) ?_
      refine lv_icmp_ne (tgt := 77) hx hb dX9_waits_36 (by decide) (fun c_3 => ?_) (fun c_3 => ?_)
      · skip
        refine lv_iinc (v := nI (c + 1)) (lv' := [(6, .int (nI (c + 1))), (0, .ref (b 0)), (2, .int x), (3, .int so), (4, .int (nI i3)), (5, .int (nI r))]) hx hb dX9_waits_77 hl (k := 5) rfl (fz_inc rfl) (by decide) rfl (fun ls hl => ?_)
        refine lv_goto (tgt := 16) hx hb dX9_waits_80 (by decide) ?_
        exact ih16 (c + 1, i3) (show ((c + 1) ≤ nc) ∧ (i3 < 2 ^ 31) ∧ (fm_pick ((List.range' (c + 1) (nc - (c + 1))).filter (fm_sel (M 1) x so r) ++ fm_wl (M 1) nc x so (r + 1) (9 - r)) i3 = fm_pick (fm_wl (M 1) nc x so 1 9) i) from ⟨(by omega), (by omega), ((fm_step (by omega) eQ).1 (by simp [fm_sel, c_3]))⟩) (by show nc - (c + 1) < nc - c; omega) ls (lv_sub hl [1, 2, 3, 4, 5, 0] rfl)
      · skip
        refine lv_aload_n hx hb dX9_waits_39 rfl (lv_at hl 0 rfl) ?_
        refine lv_iload hx hb dX9_waits_40 (lv_at hl 5 rfl) ?_
        refine lv_iconst (v := 2) hx hb dX9_waits_42 (by decide) ?_
        refine fz_retR (va_runV (As := [.int (nI c), .int (nI 2)]) (rest := []) ⟨hx, hb, hml, hown, hts⟩ (c_X9_told l D cy b M h c 2 (by omega) (by omega)) (cwV 2 hts gX9_waits_X9_told rfl rfl rfl (by decide +kernel) ⟨Nat.le_of_ble_eq_true rfl, Nat.le_of_ble_eq_true rfl⟩) (fz_preV (ci := 7) (q0 := 0) hK hP rfl rfl rfl fz_T_bl (fun _ _ _ => trivial)) rfl rfl hl.1 rfl (lv_room (Nat.le_of_ble_eq_true rfl)) dX9_waits_43 ⟨Nat.zero_le _, Nat.zero_le _⟩) ?_
        refine lv_iload_n hx hb dX9_waits_46 rfl (lv_at hl 2 rfl) ?_
        refine lv_icmp_gt (tgt := 77) hx hb dX9_waits_47 (by decide) (fun c_4 => ?_) (fun c_4 => ?_)
        · skip
          refine lv_iinc (v := nI (c + 1)) (lv' := [(6, .int (nI (c + 1))), (0, .ref (b 0)), (2, .int x), (3, .int so), (4, .int (nI i3)), (5, .int (nI r))]) hx hb dX9_waits_77 hl (k := 5) rfl (fz_inc rfl) (by decide) rfl (fun ls hl => ?_)
          refine lv_goto (tgt := 16) hx hb dX9_waits_80 (by decide) ?_
          exact ih16 (c + 1, i3) (show ((c + 1) ≤ nc) ∧ (i3 < 2 ^ 31) ∧ (fm_pick ((List.range' (c + 1) (nc - (c + 1))).filter (fm_sel (M 1) x so r) ++ fm_wl (M 1) nc x so (r + 1) (9 - r)) i3 = fm_pick (fm_wl (M 1) nc x so 1 9) i) from ⟨(by omega), (by omega), ((fm_step (by omega) eQ).1 (by simp [fm_sel, c_3, Int32.not_le.mpr c_4]))⟩) (by show nc - (c + 1) < nc - c; omega) ls (lv_sub hl [1, 2, 3, 4, 5, 0] rfl)
        · skip
          refine lv_iload_n hx hb dX9_waits_50 rfl (lv_at hl 1 rfl) ?_
          refine lv_iconst (v := (-1)) hx hb dX9_waits_51 (by decide) ?_
          refine lv_icmp_eq (tgt := 66) hx hb dX9_waits_52 (by decide) (fun c_5 => ?_) (fun c_5 => ?_)
          · skip
            refine lv_iload hx hb dX9_waits_66 (lv_at hl 3 rfl) ?_
            refine fz_ifneN (tgt := 74) hx hb i3 rfl dX9_waits_68 (by decide) (by omega) (fun c_6 => ?_) (fun c_6 => ?_)
            · skip
              refine lv_iinc (v := nI (i3 - 1)) (lv' := [(4, .int (nI (i3 - 1))), (0, .ref (b 0)), (2, .int x), (3, .int so), (5, .int (nI r)), (6, .int (nI c))]) hx hb dX9_waits_74 hl (k := 3) rfl (fz_dec rfl (by omega)) (by decide) rfl (fun ls hl => ?_)
              refine lv_iinc (v := nI (c + 1)) (lv' := [(6, .int (nI (c + 1))), (4, .int (nI (i3 - 1))), (0, .ref (b 0)), (2, .int x), (3, .int so), (5, .int (nI r))]) hx hb dX9_waits_77 hl (k := 5) rfl (fz_inc rfl) (by decide) rfl (fun ls hl => ?_)
              refine lv_goto (tgt := 16) hx hb dX9_waits_80 (by decide) ?_
              exact ih16 (c + 1, i3 - 1) (show ((c + 1) ≤ nc) ∧ ((i3 - 1) < 2 ^ 31) ∧ (fm_pick ((List.range' (c + 1) (nc - (c + 1))).filter (fm_sel (M 1) x so r) ++ fm_wl (M 1) nc x so (r + 1) (9 - r)) (i3 - 1) = fm_pick (fm_wl (M 1) nc x so 1 9) i) from ⟨(by omega), (by omega), ((fm_step (by omega) eQ).2.2 (by simp [fm_sel, c_3, Int32.not_lt.mp c_4, c_5]) (by omega))⟩) (by show nc - (c + 1) < nc - c; omega) ls (lv_sub hl [2, 3, 4, 1, 5, 0] rfl)
            · skip
              refine lv_iload hx hb dX9_waits_71 (lv_at hl 5 rfl) ?_
              exact W.iret (v := (nI c)) hx hb hr (fun t9 ht9 hW9 => ⟨_, rfl, ((fm_step (by omega) eQ).2.1 (by simp [fm_sel, c_3, Int32.not_lt.mp c_4, c_5]) c_6), ht9⟩) (fun _ h => nomatch h) dX9_waits_73
          · skip
            refine lv_aload_n hx hb dX9_waits_55 rfl (lv_at hl 0 rfl) ?_
            refine lv_iload hx hb dX9_waits_56 (lv_at hl 5 rfl) ?_
            refine lv_iconst (v := 0) hx hb dX9_waits_58 (by decide) ?_
            refine fz_retR (va_runV (As := [.int (nI c), .int (nI 0)]) (rest := []) ⟨hx, hb, hml, hown, hts⟩ (c_X9_told l D cy b M h c 0 (by omega) (by omega)) (cwV 2 hts gX9_waits_X9_told rfl rfl rfl (by decide +kernel) ⟨Nat.le_of_ble_eq_true rfl, Nat.le_of_ble_eq_true rfl⟩) (fz_preV (ci := 7) (q0 := 0) hK hP rfl rfl rfl fz_T_bl (fun _ _ _ => trivial)) rfl rfl hl.1 rfl (lv_room (Nat.le_of_ble_eq_true rfl)) dX9_waits_59 ⟨Nat.zero_le _, Nat.zero_le _⟩) ?_
            refine lv_iload_n hx hb dX9_waits_62 rfl (lv_at hl 1 rfl) ?_
            refine lv_icmp_ne (tgt := 77) hx hb dX9_waits_63 (by decide) (fun c_7 => ?_) (fun c_7 => ?_)
            · skip
              refine lv_iinc (v := nI (c + 1)) (lv' := [(6, .int (nI (c + 1))), (0, .ref (b 0)), (2, .int x), (3, .int so), (4, .int (nI i3)), (5, .int (nI r))]) hx hb dX9_waits_77 hl (k := 5) rfl (fz_inc rfl) (by decide) rfl (fun ls hl => ?_)
              refine lv_goto (tgt := 16) hx hb dX9_waits_80 (by decide) ?_
              exact ih16 (c + 1, i3) (show ((c + 1) ≤ nc) ∧ (i3 < 2 ^ 31) ∧ (fm_pick ((List.range' (c + 1) (nc - (c + 1))).filter (fm_sel (M 1) x so r) ++ fm_wl (M 1) nc x so (r + 1) (9 - r)) i3 = fm_pick (fm_wl (M 1) nc x so 1 9) i) from ⟨(by omega), (by omega), ((fm_step (by omega) eQ).1 (by simp [fm_sel, c_3, Int32.not_lt.mp c_4, c_5, c_7]))⟩) (by show nc - (c + 1) < nc - c; omega) ls (lv_sub hl [1, 2, 3, 4, 5, 0] rfl)
            · skip
              refine lv_iload hx hb dX9_waits_66 (lv_at hl 3 rfl) ?_
              refine fz_ifneN (tgt := 74) hx hb i3 rfl dX9_waits_68 (by decide) (by omega) (fun c_8 => ?_) (fun c_8 => ?_)
              · skip
                refine lv_iinc (v := nI (i3 - 1)) (lv' := [(4, .int (nI (i3 - 1))), (0, .ref (b 0)), (2, .int x), (3, .int so), (5, .int (nI r)), (6, .int (nI c))]) hx hb dX9_waits_74 hl (k := 3) rfl (fz_dec rfl (by omega)) (by decide) rfl (fun ls hl => ?_)
                refine lv_iinc (v := nI (c + 1)) (lv' := [(6, .int (nI (c + 1))), (4, .int (nI (i3 - 1))), (0, .ref (b 0)), (2, .int x), (3, .int so), (5, .int (nI r))]) hx hb dX9_waits_77 hl (k := 5) rfl (fz_inc rfl) (by decide) rfl (fun ls hl => ?_)
                refine lv_goto (tgt := 16) hx hb dX9_waits_80 (by decide) ?_
                exact ih16 (c + 1, i3 - 1) (show ((c + 1) ≤ nc) ∧ ((i3 - 1) < 2 ^ 31) ∧ (fm_pick ((List.range' (c + 1) (nc - (c + 1))).filter (fm_sel (M 1) x so r) ++ fm_wl (M 1) nc x so (r + 1) (9 - r)) (i3 - 1) = fm_pick (fm_wl (M 1) nc x so 1 9) i) from ⟨(by omega), (by omega), ((fm_step (by omega) eQ).2.2 (by simp [fm_sel, c_3, Int32.not_lt.mp c_4, c_5, c_7]) (by omega))⟩) (by show nc - (c + 1) < nc - c; omega) ls (lv_sub hl [2, 3, 4, 1, 5, 0] rfl)
              · skip
                refine lv_iload hx hb dX9_waits_71 (lv_at hl 5 rfl) ?_
                exact W.iret (v := (nI c)) hx hb hr (fun t9 ht9 hW9 => ⟨_, rfl, ((fm_step (by omega) eQ).2.1 (by simp [fm_sel, c_3, Int32.not_lt.mp c_4, c_5, c_7]) c_8), ht9⟩) (fun _ h => nomatch h) dX9_waits_73
set_option maxHeartbeats 4000000 in
set_option maxRecDepth 100000 in
/-- the model: waiting -/
theorem c_X9_waiting (l : Launch) (D : va_G) (cy : Nat → ClassId) (b : Nat → Nat) (M : Nat → Nat → Int32) (h : Int64) (nt nc nl wk : Nat) (wf : fm_wf (M 1) nt nc nl wk) (x : Int32) : fz_MI l yX9_waiting wsX9_waiting 2 48 D cy [.ref (b 0), .int x] (MW cy b M h) fz_T ((fm_qwait M nc x).1) (MW cy b ((fm_qwait M nc x).2) h) := by
  refine Met.ofW (cc := cX9_waiting) (maxL := 2) (ret := (some .int)) (by decide) rfl ?_
  intro p e s m args below meth c s₁ B hml hv
  obtain ⟨rfl, hP, hK, hD0, hE⟩ := hv
  have hx := B.exec
  have hb := B.bytes
  have hr := B.returns
  have hts := atoms_spec (ws := wsX9_waiting) B.pre
  have hown : s.vm.findClass RX9 = some m.cls := findClass_of_methodNamed B.named
  have hlocks := B.notSynchronized
  have hD := fz_self hD0
  generalize hAe : fz_in (MW cy b M h) = A at hD ⊢
  have hS : va_S A s.heap s.heap [] := va_S.rf
  have hl := lv_entry ([.ref (b 0), .int x]) (n := 2) (Nat.le_of_ble_eq_true rfl)
  rw [lg_entry_eq]
  generalize (lg_sl ([.ref (b 0), .int x]) ++ List.replicate (2 - (lg_sl ([.ref (b 0), .int x])).length) Slot.unset).toArray = ls at hl ⊢
  have hl : lv_has ls 2 [(0, .ref (b 0)), (1, .int x)] := hl
  obtain ⟨hnt, hnt6, hnc, hnc30, hnl, hnl12, hwk, hwk39, hT, hG, hB, hZo⟩ := id wf
  refine lv_iload_n hx hb dX9_waiting_0 rfl (lv_at hl 1 rfl) ?_
  refine lv_if_ge (tgt := 12) hx hb dX9_waiting_1 (by decide) (fun c_1 => ?_) (fun c_1 => ?_)
  · skip
    obtain ⟨i, hi31, ei⟩ := nI_of (Int32.not_lt.mpr c_1)
    have ei' := fz_tnat ei hi31
    refine lv_aload_n hx hb dX9_waiting_12 rfl (lv_at hl 0 rfl) ?_
    refine lv_aload_n hx hb dX9_waiting_13 rfl (lv_at hl 0 rfl) ?_
    refine lv_iload_n hx hb dX9_waiting_14 rfl (lv_at hl 1 rfl) ?_
    refine lv_iconst (v := (-1)) hx hb dX9_waiting_15 (by decide) ?_
    refine lv_iconst (v := 1) hx hb dX9_waiting_16 (by decide) ?_
    refine fz_at2 (show x = nI i from ei) ?_
    refine fz_retR (va_runV (As := [.int (nI i), .int (-1), .int 1]) (rest := [.ref (b 0)]) ⟨hx, hb, hml, hown, hts⟩ (c_X9_waits l D cy b M h i hi31 (-1) 1 nc hnc hnc30) (cwV 3 hts gX9_waiting_X9_waits rfl rfl rfl (by decide +kernel) ⟨Nat.le_of_ble_eq_true rfl, Nat.le_of_ble_eq_true rfl⟩) (fz_preV (ci := 7) (q0 := 0) hK hP rfl rfl rfl fz_T_bl (fun _ _ _ => trivial)) rfl rfl hl.1 rfl (lv_room (Nat.le_of_ble_eq_true rfl)) dX9_waiting_17 ⟨Nat.zero_le _, Nat.zero_le _⟩) ?_
    refine fz_retM (ws' := ME cy b (M 0 0) (M 0 1) 0 (M 0 3) (M 0 4) (M 0 5) (M 0 6) (M 1) (M 2) (M 3) (M 4) (M 5) h) (va_runV (As := [.int (fm_pick (fm_wl (M 1) nc (-1) 1 1 9) i)]) (rest := []) ⟨hx, hb, hml, hown, hts⟩ (c_X9_well l D cy b M h (fm_pick (fm_wl (M 1) nc (-1) 1 1 9) i)) (cwV 1 hts gX9_waiting_X9_well rfl rfl rfl (by decide +kernel) ⟨Nat.le_of_ble_eq_true rfl, Nat.le_of_ble_eq_true rfl⟩) (fz_preMV (ci := 7) (q0 := 0) hK hP hD rfl rfl rfl fz_T_bl (fun _ _ _ => trivial)) rfl rfl hl.1 rfl (lv_room (Nat.le_of_ble_eq_true rfl)) dX9_waiting_20 ⟨Nat.zero_le _, Nat.zero_le _⟩) hP hD hS [0, 1, 2, 3, 4, 5] [] rfl rfl [true, true, true, true, true, true] (And.intro rfl (And.intro rfl (And.intro rfl (And.intro rfl (And.intro rfl (And.intro rfl trivial)))))) rfl rfl (fun H locs hP hD hS => ?_)
    have hP : va_P D vwCl (ME cy b (M 0 0) (M 0 1) 0 (M 0 3) (M 0 4) (M 0 5) (M 0 6) (M 1) (M 2) (M 3) (M 4) (M 5) h) H := hP
    have hD : va_D A (ME cy b (M 0 0) (M 0 1) 0 (M 0 3) (M 0 4) (M 0 5) (M 0 6) (M 1) (M 2) (M 3) (M 4) (M 5) h) := hD
    refine fz_top (show _ = (fm_pick (fm_wl (M 1) nc (-1) 1 1 9) i) from rfl) ?_
    have eF : fm_qwait M nc x = ((fm_pick (fm_wl (M 1) nc (-1) 1 1 9) i), fz_up M 0 (upd (M 0) 2 0)) := by simp only [fm_qwait, c_1, ei', ↓reduceIte, Bool.false_eq_true]
    exact W.iret (v := (fm_pick (fm_wl (M 1) nc (-1) 1 1 9) i)) hx hb hr (fun t9 ht9 hW9 => ⟨⟨_, (), rfl, (by rw [eF] <;> rfl), fz_to ht9 (by rw [eF]; exact hP)⟩, hS.F ht9⟩) hS.2.2 dX9_waiting_23
  · skip
    refine lv_aload_n hx hb dX9_waiting_4 rfl (lv_at hl 0 rfl) ?_
    refine lv_iconst (v := 1) hx hb dX9_waiting_5 (by decide) ?_
    refine fz_retM (ws' := ME cy b (M 0 0) (M 0 1) 1 (M 0 3) (M 0 4) (M 0 5) (M 0 6) (M 1) (M 2) (M 3) (M 4) (M 5) h) (va_runV (As := [.int 1]) (rest := []) ⟨hx, hb, hml, hown, hts⟩ (c_X9_fails l D cy b M h 1) (cwV 1 hts gX9_waiting_X9_fails rfl rfl rfl (by decide +kernel) ⟨Nat.le_of_ble_eq_true rfl, Nat.le_of_ble_eq_true rfl⟩) (fz_preMV (ci := 7) (q0 := 0) hK hP hD rfl rfl rfl fz_T_bl (fun _ _ _ => trivial)) rfl rfl hl.1 rfl (lv_room (Nat.le_of_ble_eq_true rfl)) dX9_waiting_6 ⟨Nat.zero_le _, Nat.zero_le _⟩) hP hD hS [0, 1, 2, 3, 4, 5] [] rfl rfl [true, true, true, true, true, true] (And.intro rfl (And.intro rfl (And.intro rfl (And.intro rfl (And.intro rfl (And.intro rfl trivial)))))) rfl rfl (fun H locs hP hD hS => ?_)
    have hP : va_P D vwCl (ME cy b (M 0 0) (M 0 1) 1 (M 0 3) (M 0 4) (M 0 5) (M 0 6) (M 1) (M 2) (M 3) (M 4) (M 5) h) H := hP
    have hD : va_D A (ME cy b (M 0 0) (M 0 1) 1 (M 0 3) (M 0 4) (M 0 5) (M 0 6) (M 1) (M 2) (M 3) (M 4) (M 5) h) := hD
    refine fz_top (show _ = 0 from rfl) ?_
    refine lv_goto (tgt := 23) hx hb dX9_waiting_9 (by decide) ?_
    have eF : fm_qwait M nc x = (0, fz_up M 0 (upd (M 0) 2 1)) := by simp only [fm_qwait, c_1, ↓reduceIte, Bool.false_eq_true]
    exact W.iret (v := 0) hx hb hr (fun t9 ht9 hW9 => ⟨⟨_, (), rfl, (by rw [eF] <;> rfl), fz_to ht9 (by rw [eF]; exact hP)⟩, hS.F ht9⟩) hS.2.2 dX9_waiting_23
set_option maxHeartbeats 4000000 in
set_option maxRecDepth 100000 in
/-- the model: frozen -/
theorem c_X9_frozen (l : Launch) (D : va_G) (cy : Nat → ClassId) (b : Nat → Nat) (M : Nat → Nat → Int32) (h : Int64) (nt nc nl wk : Nat) (wf : fm_wf (M 1) nt nc nl wk) (x : Int32) : fz_MI l yX9_frozen wsX9_frozen 1 22 D cy [.ref (b 0), .int x] (MW cy b M h) fz_T ((fm_qfrz M x).1) (MW cy b ((fm_qfrz M x).2) h) := by
  refine Met.ofW (cc := cX9_frozen) (maxL := 2) (ret := (some .int)) (by decide) rfl ?_
  intro p e s m args below meth c s₁ B hml hv
  obtain ⟨rfl, hP, hK, hD0, hE⟩ := hv
  have hx := B.exec
  have hb := B.bytes
  have hr := B.returns
  have hts := atoms_spec (ws := wsX9_frozen) B.pre
  have hown : s.vm.findClass RX9 = some m.cls := findClass_of_methodNamed B.named
  have hlocks := B.notSynchronized
  have hD := fz_self hD0
  generalize hAe : fz_in (MW cy b M h) = A at hD ⊢
  have hS : va_S A s.heap s.heap [] := va_S.rf
  have hl := lv_entry ([.ref (b 0), .int x]) (n := 2) (Nat.le_of_ble_eq_true rfl)
  rw [lg_entry_eq]
  generalize (lg_sl ([.ref (b 0), .int x]) ++ List.replicate (2 - (lg_sl ([.ref (b 0), .int x])).length) Slot.unset).toArray = ls at hl ⊢
  have hl : lv_has ls 2 [(0, .ref (b 0)), (1, .int x)] := hl
  have k_7 := hts (.fieldLink RX9 7 "FreezeCreditsModel" "now" "[I") (by decide +kernel)
  have inX9 : ∀ w ∈ u_ws RX9 TX9 13, w ∈ wsX9_frozen := by decide +kernel
  obtain ⟨hnt, hnt6, hnc, hnc30, hnl, hnl12, hwk, hwk39, hT, hG, hB, hZo⟩ := id wf
  refine lv_iload_n hx hb dX9_frozen_0 rfl (lv_at hl 1 rfl) ?_
  refine lv_iconst (v := 0) hx hb dX9_frozen_1 (by decide) ?_
  refine lv_bipush (v := 39) hx hb dX9_frozen_2 (by decide) ?_
  refine fz_retR (va_runS (As := [.int x, .int 0, .int 39]) (rest := []) ⟨hx, hb, hml, hown, hts⟩ (c_X9_in l D cy x 0 39) (va_cwS 3 hts gX9_frozen_X9_in rfl rfl rfl (by decide +kernel) ⟨Nat.le_of_ble_eq_true rfl, Nat.le_of_ble_eq_true rfl⟩) (fz_preS hK (fz_nil) fz_T_bl (fun _ _ _ => trivial)) rfl rfl hl.1 rfl (lv_room (Nat.le_of_ble_eq_true rfl)) dX9_frozen_4 ⟨Nat.zero_le _, Nat.zero_le _⟩) ?_
  refine fz_ifeqB (tgt := 26) hx hb dX9_frozen_7 (by decide) (fun c_1 => ?_) (fun c_1 => ?_)
  · skip
    refine lv_aload_n hx hb dX9_frozen_26 rfl (lv_at hl 0 rfl) ?_
    refine lv_iconst (v := 1) hx hb dX9_frozen_27 (by decide) ?_
    refine fz_retM (ws' := ME cy b (M 0 0) (M 0 1) 1 (M 0 3) (M 0 4) (M 0 5) (M 0 6) (M 1) (M 2) (M 3) (M 4) (M 5) h) (va_runV (As := [.int 1]) (rest := []) ⟨hx, hb, hml, hown, hts⟩ (c_X9_fails l D cy b M h 1) (cwV 1 hts gX9_frozen_X9_fails rfl rfl rfl (by decide +kernel) ⟨Nat.le_of_ble_eq_true rfl, Nat.le_of_ble_eq_true rfl⟩) (fz_preMV (ci := 7) (q0 := 0) hK hP hD rfl rfl rfl fz_T_bl (fun _ _ _ => trivial)) rfl rfl hl.1 rfl (lv_room (Nat.le_of_ble_eq_true rfl)) dX9_frozen_28 ⟨Nat.zero_le _, Nat.zero_le _⟩) hP hD hS [0, 1, 2, 3, 4, 5] [] rfl rfl [true, true, true, true, true, true] (And.intro rfl (And.intro rfl (And.intro rfl (And.intro rfl (And.intro rfl (And.intro rfl trivial)))))) rfl rfl (fun H locs hP hD hS => ?_)
    have hP : va_P D vwCl (ME cy b (M 0 0) (M 0 1) 1 (M 0 3) (M 0 4) (M 0 5) (M 0 6) (M 1) (M 2) (M 3) (M 4) (M 5) h) H := hP
    have hD : va_D A (ME cy b (M 0 0) (M 0 1) 1 (M 0 3) (M 0 4) (M 0 5) (M 0 6) (M 1) (M 2) (M 3) (M 4) (M 5) h) := hD
    refine fz_top (show _ = 0 from rfl) ?_
    have eF : fm_qfrz M x = (0, fz_up M 0 (upd (M 0) 2 1)) := by simp only [fm_qfrz, c_1, ↓reduceIte, Bool.false_eq_true]
    exact W.iret (v := 0) hx hb hr (fun t9 ht9 hW9 => ⟨⟨_, (), rfl, (by rw [eF] <;> rfl), fz_to ht9 (by rw [eF]; exact hP)⟩, hS.F ht9⟩) hS.2.2 dX9_frozen_31
  · skip
    obtain ⟨w, hw, ew⟩ := fm_in_n (m := 39) rfl (by decide) c_1
    have ew' := fz_tnat ew (by omega)
    refine lv_aload_n hx hb dX9_frozen_10 rfl (lv_at hl 0 rfl) ?_
    refine lv_aload_n hx hb dX9_frozen_11 rfl (lv_at hl 0 rfl) ?_
    refine va_get (D := D) (ci := 7) (v := .ref (b 1)) (C := RX9) (T := TX9) (N := 13) hx hb hts inX9 hown hK hP 0 rfl rfl 0 (by decide) k_7 (fun _ h9 => h9) rfl dX9_frozen_12 ?_
    refine lv_bipush (v := 9) hx hb dX9_frozen_15 (by decide) ?_
    refine lv_iload_n hx hb dX9_frozen_17 rfl (lv_at hl 1 rfl) ?_
    refine fz_iaddN hx hb 9 w rfl ew dX9_frozen_18 ?_
    refine fz_iald (f := M 1) hx hb hK hP 1 0 rfl rfl (9 + w) rfl (by omega) (by decide) dX9_frozen_19 ?_
    refine fz_retM (ws' := ME cy b (M 0 0) (M 0 1) 0 (M 0 3) (M 0 4) (M 0 5) (M 0 6) (M 1) (M 2) (M 3) (M 4) (M 5) h) (va_runV (As := [.int (M 1 (9 + w))]) (rest := []) ⟨hx, hb, hml, hown, hts⟩ (c_X9_well l D cy b M h (M 1 (9 + w))) (cwV 1 hts gX9_frozen_X9_well rfl rfl rfl (by decide +kernel) ⟨Nat.le_of_ble_eq_true rfl, Nat.le_of_ble_eq_true rfl⟩) (fz_preMV (ci := 7) (q0 := 0) hK hP hD rfl rfl rfl fz_T_bl (fun _ _ _ => trivial)) rfl rfl hl.1 rfl (lv_room (Nat.le_of_ble_eq_true rfl)) dX9_frozen_20 ⟨Nat.zero_le _, Nat.zero_le _⟩) hP hD hS [0, 1, 2, 3, 4, 5] [] rfl rfl [true, true, true, true, true, true] (And.intro rfl (And.intro rfl (And.intro rfl (And.intro rfl (And.intro rfl (And.intro rfl trivial)))))) rfl rfl (fun H locs hP hD hS => ?_)
    have hP : va_P D vwCl (ME cy b (M 0 0) (M 0 1) 0 (M 0 3) (M 0 4) (M 0 5) (M 0 6) (M 1) (M 2) (M 3) (M 4) (M 5) h) H := hP
    have hD : va_D A (ME cy b (M 0 0) (M 0 1) 0 (M 0 3) (M 0 4) (M 0 5) (M 0 6) (M 1) (M 2) (M 3) (M 4) (M 5) h) := hD
    refine fz_top (show _ = (M 1 (9 + w)) from rfl) ?_
    refine lv_goto (tgt := 31) hx hb dX9_frozen_23 (by decide) ?_
    have eF : fm_qfrz M x = ((M 1 (9 + w)), fz_up M 0 (upd (M 0) 2 0)) := by simp only [fm_qfrz, c_1, ew', ↓reduceIte, Bool.false_eq_true]
    exact W.iret (v := (M 1 (9 + w))) hx hb hr (fun t9 ht9 hW9 => ⟨⟨_, (), rfl, (by rw [eF] <;> rfl), fz_to ht9 (by rw [eF]; exact hP)⟩, hS.F ht9⟩) hS.2.2 dX9_frozen_31
set_option maxHeartbeats 4000000 in
set_option maxRecDepth 100000 in
/-- the model: sum -/
theorem c_X9_sum (l : Launch) (D : va_G) (cy : Nat → ClassId) (b : Nat → Nat) (M : Nat → Nat → Int32) (h : Int64) (w : Nat) (hw : w < 3) (nt : Nat) (hnt : M 1 1 = nI nt) (hnt6 : nt ≤ 6) : fz_RI l yX9_sum wsX9_sum 1 22 D cy [.ref (b 0), .int (nI w)] (MW cy b M h) fz_T (fz_sum (fm_t (M 1) w) nt) := by
  refine Met.ofW (cc := cX9_sum) (maxL := 4) (ret := (some .int)) (by decide) rfl ?_
  intro p e s m args below meth c s₁ B hml hv
  obtain ⟨rfl, hP, hK, hE⟩ := hv
  have hx := B.exec
  have hb := B.bytes
  have hr := B.returns
  have hts := atoms_spec (ws := wsX9_sum) B.pre
  have hown : s.vm.findClass RX9 = some m.cls := findClass_of_methodNamed B.named
  have hlocks := B.notSynchronized
  have hl := lv_entry ([.ref (b 0), .int (nI w)]) (n := 4) (Nat.le_of_ble_eq_true rfl)
  rw [lg_entry_eq]
  generalize (lg_sl ([.ref (b 0), .int (nI w)]) ++ List.replicate (4 - (lg_sl ([.ref (b 0), .int (nI w)])).length) Slot.unset).toArray = ls at hl ⊢
  have hl : lv_has ls 4 [(0, .ref (b 0)), (1, .int (nI w))] := hl
  have k_7 := hts (.fieldLink RX9 7 "FreezeCreditsModel" "now" "[I") (by decide +kernel)
  have inX9 : ∀ w ∈ u_ws RX9 TX9 13, w ∈ wsX9_sum := by decide +kernel
  refine lv_iconst (v := 0) hx hb dX9_sum_0 (by decide) ?_
  refine lv_istore_n (lv' := [(2, .int 0), (0, .ref (b 0)), (1, .int (nI w))]) hx hb dX9_sum_1 rfl hl (by decide) rfl (fun ls hl => ?_)
  refine lv_iconst (v := 0) hx hb dX9_sum_2 (by decide) ?_
  refine lv_istore_n (lv' := [(3, .int 0), (2, .int 0), (0, .ref (b 0)), (1, .int (nI w))]) hx hb dX9_sum_3 rfl hl (by decide) rfl (fun ls hl => ?_)
  refine fz_loop (σ := Nat × Int32) (pc := 4) (nL := 4) (fun x9 => match x9 with | (k, r) => [(0, .ref (b 0)), (1, .int (nI w)), (2, .int r), (3, .int (nI k))]) (fun x9 => match x9 with | (k, r) => (k ≤ nt) ∧ (r = fz_sum (fm_t (M 1) w) k)) (fun x9 => match x9 with | (k, r) => nt - k) ?_ (0, 0) (show (0 ≤ nt) ∧ (0 = fz_sum (fm_t (M 1) w) 0) from ⟨(by omega), rfl⟩) ls (lv_sub hl [2, 3, 1, 0] rfl)
  rintro ⟨k, r⟩ ⟨hk, er⟩ ih4 ls hl
  have hk : k ≤ nt := hk
  have er : r = fz_sum (fm_t (M 1) w) k := er
  have hl : lv_has ls 4 [(0, .ref (b 0)), (1, .int (nI w)), (2, .int r), (3, .int (nI k))] := hl
  refine lv_iload_n hx hb dX9_sum_4 rfl (lv_at hl 3 rfl) ?_
  refine lv_aload_n hx hb dX9_sum_5 rfl (lv_at hl 0 rfl) ?_
  refine va_get (D := D) (ci := 7) (v := .ref (b 1)) (C := RX9) (T := TX9) (N := 13) hx hb hts inX9 hown hK hP 0 rfl rfl 0 (by decide) k_7 (fun _ h9 => h9) rfl dX9_sum_6 ?_
  refine lv_iconst (v := 1) hx hb dX9_sum_9 (by decide) ?_
  refine fz_iald (f := M 1) hx hb hK hP 1 0 rfl rfl 1 rfl (by omega) (by decide) dX9_sum_10 ?_
  refine fz_geN (tgt := 29) hx hb k nt rfl hnt dX9_sum_11 (by decide) (by omega) (by omega) (fun c_1 => ?_) (fun c_1 => ?_)
  · skip
    refine lv_iload_n hx hb dX9_sum_29 rfl (lv_at hl 2 rfl) ?_
    exact W.iret (v := r) hx hb hr (fun t9 ht9 hW9 => ⟨_, rfl, (by rw [er, show k = nt by omega]), ht9⟩) (fun _ h => nomatch h) dX9_sum_30
  · skip
    refine lv_iload_n hx hb dX9_sum_14 rfl (lv_at hl 2 rfl) ?_
    refine lv_aload_n hx hb dX9_sum_15 rfl (lv_at hl 0 rfl) ?_
    refine lv_iload_n hx hb dX9_sum_16 rfl (lv_at hl 3 rfl) ?_
    refine lv_iload_n hx hb dX9_sum_17 rfl (lv_at hl 1 rfl) ?_
    refine fz_retR (va_runV (As := [.int (nI k), .int (nI w)]) (rest := [.int r]) ⟨hx, hb, hml, hown, hts⟩ (c_X9_of l D cy b M h k w (by omega) hw) (cwV 2 hts gX9_sum_X9_of rfl rfl rfl (by decide +kernel) ⟨Nat.le_of_ble_eq_true rfl, Nat.le_of_ble_eq_true rfl⟩) (fz_preV (ci := 7) (q0 := 0) hK hP rfl rfl rfl fz_T_bl (fun _ _ _ => trivial)) rfl rfl hl.1 rfl (lv_room (Nat.le_of_ble_eq_true rfl)) dX9_sum_18 ⟨Nat.zero_le _, Nat.zero_le _⟩) ?_
    refine lv_iadd hx hb dX9_sum_21 ?_
    refine lv_istore_n (lv' := [(2, .int (r + (fm_t (M 1) w k))), (0, .ref (b 0)), (1, .int (nI w)), (3, .int (nI k))]) hx hb dX9_sum_22 rfl hl (by decide) rfl (fun ls hl => ?_)
    refine lv_iinc (v := nI (k + 1)) (lv' := [(3, .int (nI (k + 1))), (2, .int (r + (fm_t (M 1) w k))), (0, .ref (b 0)), (1, .int (nI w))]) hx hb dX9_sum_23 hl (k := 3) rfl (fz_inc rfl) (by decide) rfl (fun ls hl => ?_)
    refine lv_goto (tgt := 4) hx hb dX9_sum_26 (by decide) ?_
    exact ih4 (k + 1, r + (fm_t (M 1) w k)) (show ((k + 1) ≤ nt) ∧ ((r + (fm_t (M 1) w k)) = fz_sum (fm_t (M 1) w) (k + 1)) from ⟨(by omega), (by rw [fz_sum, er])⟩) (by show nt - (k + 1) < nt - k; omega) ls (lv_sub hl [2, 3, 1, 0] rfl)
set_option maxHeartbeats 4000000 in
set_option maxRecDepth 100000 in
/-- the model: openLoans -/
theorem c_X9_openLoans (l : Launch) (D : va_G) (cy : Nat → ClassId) (b : Nat → Nat) (M : Nat → Nat → Int32) (h : Int64) (nl : Nat) (hnl : M 1 3 = nI nl) (hnl12 : nl ≤ 12) : fz_RI l yX9_openLoans wsX9_openLoans 1 22 D cy [.ref (b 0)] (MW cy b M h) fz_T (nI (fz_ct (fun i => !(decide (fm_l (M 1) 3 i ≤ 0))) nl)) := by
  refine Met.ofW (cc := cX9_openLoans) (maxL := 3) (ret := (some .int)) (by decide) rfl ?_
  intro p e s m args below meth c s₁ B hml hv
  obtain ⟨rfl, hP, hK, hE⟩ := hv
  have hx := B.exec
  have hb := B.bytes
  have hr := B.returns
  have hts := atoms_spec (ws := wsX9_openLoans) B.pre
  have hown : s.vm.findClass RX9 = some m.cls := findClass_of_methodNamed B.named
  have hlocks := B.notSynchronized
  have hl := lv_entry ([.ref (b 0)]) (n := 3) (Nat.le_of_ble_eq_true rfl)
  rw [lg_entry_eq]
  generalize (lg_sl ([.ref (b 0)]) ++ List.replicate (3 - (lg_sl ([.ref (b 0)])).length) Slot.unset).toArray = ls at hl ⊢
  have hl : lv_has ls 3 [(0, .ref (b 0))] := hl
  have k_7 := hts (.fieldLink RX9 7 "FreezeCreditsModel" "now" "[I") (by decide +kernel)
  have inX9 : ∀ w ∈ u_ws RX9 TX9 13, w ∈ wsX9_openLoans := by decide +kernel
  refine lv_iconst (v := 0) hx hb dX9_openLoans_0 (by decide) ?_
  refine lv_istore_n (lv' := [(1, .int 0), (0, .ref (b 0))]) hx hb dX9_openLoans_1 rfl hl (by decide) rfl (fun ls hl => ?_)
  refine lv_iconst (v := 0) hx hb dX9_openLoans_2 (by decide) ?_
  refine lv_istore_n (lv' := [(2, .int 0), (1, .int 0), (0, .ref (b 0))]) hx hb dX9_openLoans_3 rfl hl (by decide) rfl (fun ls hl => ?_)
  refine fz_loop (σ := Nat × Nat) (pc := 4) (nL := 3) (fun x9 => match x9 with | (k, q) => [(0, .ref (b 0)), (1, .int (nI q)), (2, .int (nI k))]) (fun x9 => match x9 with | (k, q) => (k ≤ nl) ∧ (q = fz_ct (fun i => !(decide (fm_l (M 1) 3 i ≤ 0))) k)) (fun x9 => match x9 with | (k, q) => nl - k) ?_ (0, 0) (show (0 ≤ nl) ∧ (0 = fz_ct (fun i => !(decide (fm_l (M 1) 3 i ≤ 0))) 0) from ⟨(by omega), rfl⟩) ls (lv_sub hl [2, 1, 0] rfl)
  rintro ⟨k, q⟩ ⟨hk, eq⟩ ih4 ls hl
  have hk : k ≤ nl := hk
  have eq : q = fz_ct (fun i => !(decide (fm_l (M 1) 3 i ≤ 0))) k := eq
  have hl : lv_has ls 3 [(0, .ref (b 0)), (1, .int (nI q)), (2, .int (nI k))] := hl
  refine lv_iload_n hx hb dX9_openLoans_4 rfl (lv_at hl 2 rfl) ?_
  refine lv_aload_n hx hb dX9_openLoans_5 rfl (lv_at hl 0 rfl) ?_
  refine va_get (D := D) (ci := 7) (v := .ref (b 1)) (C := RX9) (T := TX9) (N := 13) hx hb hts inX9 hown hK hP 0 rfl rfl 0 (by decide) k_7 (fun _ h9 => h9) rfl dX9_openLoans_6 ?_
  refine lv_iconst (v := 3) hx hb dX9_openLoans_9 (by decide) ?_
  refine fz_iald (f := M 1) hx hb hK hP 1 0 rfl rfl 3 rfl (by omega) (by decide) dX9_openLoans_10 ?_
  refine fz_geN (tgt := 37) hx hb k nl rfl hnl dX9_openLoans_11 (by decide) (by omega) (by omega) (fun c_1 => ?_) (fun c_1 => ?_)
  · skip
    refine lv_iload_n hx hb dX9_openLoans_37 rfl (lv_at hl 1 rfl) ?_
    exact W.iret (v := (nI q)) hx hb hr (fun t9 ht9 hW9 => ⟨_, rfl, (by rw [eq, show k = nl by omega]), ht9⟩) (fun _ h => nomatch h) dX9_openLoans_38
  · skip
    refine lv_iload_n hx hb dX9_openLoans_14 rfl (lv_at hl 1 rfl) ?_
    refine lv_aload_n hx hb dX9_openLoans_15 rfl (lv_at hl 0 rfl) ?_
    refine lv_iload_n hx hb dX9_openLoans_16 rfl (lv_at hl 2 rfl) ?_
    refine lv_iconst (v := 3) hx hb dX9_openLoans_17 (by decide) ?_
    refine fz_retR (va_runV (As := [.int (nI k), .int (nI 3)]) (rest := [.int (nI q)]) ⟨hx, hb, hml, hown, hts⟩ (c_X9_loanOf l D cy b M h k 3 (by omega) (by omega)) (cwV 2 hts gX9_openLoans_X9_loanOf rfl rfl rfl (by decide +kernel) ⟨Nat.le_of_ble_eq_true rfl, Nat.le_of_ble_eq_true rfl⟩) (fz_preV (ci := 7) (q0 := 0) hK hP rfl rfl rfl fz_T_bl (fun _ _ _ => trivial)) rfl rfl hl.1 rfl (lv_room (Nat.le_of_ble_eq_true rfl)) dX9_openLoans_18 ⟨Nat.zero_le _, Nat.zero_le _⟩) ?_
    refine lv_if_le (tgt := 28) hx hb dX9_openLoans_21 (by decide) (fun c_2 => ?_) (fun c_2 => ?_)
    · skip
      refine lv_iconst (v := 0) hx hb dX9_openLoans_28 (by decide) ?_
      refine fz_iaddN hx hb q 0 rfl rfl dX9_openLoans_29 ?_
      refine lv_istore_n (lv' := [(1, .int (nI (q + 0))), (0, .ref (b 0)), (2, .int (nI k))]) hx hb dX9_openLoans_30 rfl hl (by decide) rfl (fun ls hl => ?_)
      refine lv_iinc (v := nI (k + 1)) (lv' := [(2, .int (nI (k + 1))), (1, .int (nI (q + 0))), (0, .ref (b 0))]) hx hb dX9_openLoans_31 hl (k := 2) rfl (fz_inc rfl) (by decide) rfl (fun ls hl => ?_)
      refine lv_goto (tgt := 4) hx hb dX9_openLoans_34 (by decide) ?_
      exact ih4 (k + 1, q + 0) (show ((k + 1) ≤ nl) ∧ ((q + 0) = fz_ct (fun i => !(decide (fm_l (M 1) 3 i ≤ 0))) (k + 1)) from ⟨(by omega), (by simp [fz_ct, eq, c_1, c_2])⟩) (by show nl - (k + 1) < nl - k; omega) ls (lv_sub hl [2, 1, 0] rfl)
    · skip
      refine lv_iconst (v := 1) hx hb dX9_openLoans_24 (by decide) ?_
      refine lv_goto (tgt := 29) hx hb dX9_openLoans_25 (by decide) ?_
      refine fz_iaddN hx hb q 1 rfl rfl dX9_openLoans_29 ?_
      refine lv_istore_n (lv' := [(1, .int (nI (q + 1))), (0, .ref (b 0)), (2, .int (nI k))]) hx hb dX9_openLoans_30 rfl hl (by decide) rfl (fun ls hl => ?_)
      refine lv_iinc (v := nI (k + 1)) (lv' := [(2, .int (nI (k + 1))), (1, .int (nI (q + 1))), (0, .ref (b 0))]) hx hb dX9_openLoans_31 hl (k := 2) rfl (fz_inc rfl) (by decide) rfl (fun ls hl => ?_)
      refine lv_goto (tgt := 4) hx hb dX9_openLoans_34 (by decide) ?_
      exact ih4 (k + 1, q + 1) (show ((k + 1) ≤ nl) ∧ ((q + 1) = fz_ct (fun i => !(decide (fm_l (M 1) 3 i ≤ 0))) (k + 1)) from ⟨(by omega), (by simp [fz_ct, eq, c_1, c_2])⟩) (by show nl - (k + 1) < nl - k; omega) ls (lv_sub hl [2, 1, 0] rfl)
set_option maxHeartbeats 4000000 in
set_option maxRecDepth 100000 in
/-- the model: owing -/
theorem c_X9_owing (l : Launch) (D : va_G) (cy : Nat → ClassId) (b : Nat → Nat) (M : Nat → Nat → Int32) (h : Int64) (nt : Nat) (hnt : M 1 1 = nI nt) (hnt6 : nt ≤ 6) (nl : Nat) (hnl : M 1 3 = nI nl) (hnl12 : nl ≤ 12) : fz_RI l yX9_owing wsX9_owing 2 44 D cy [.ref (b 0)] (MW cy b M h) fz_T (fz_sum (fun i => fz_b (fz_owes (fm_l (M 1) 1) (fm_l (M 1) 3) (fm_l (M 1) 4) (M 1 0) nl (nI i))) nt) := by
  refine Met.ofW (cc := cX9_owing) (maxL := 3) (ret := (some .int)) (by decide) rfl ?_
  intro p e s m args below meth c s₁ B hml hv
  obtain ⟨rfl, hP, hK, hE⟩ := hv
  have hx := B.exec
  have hb := B.bytes
  have hr := B.returns
  have hts := atoms_spec (ws := wsX9_owing) B.pre
  have hown : s.vm.findClass RX9 = some m.cls := findClass_of_methodNamed B.named
  have hlocks := B.notSynchronized
  have hl := lv_entry ([.ref (b 0)]) (n := 3) (Nat.le_of_ble_eq_true rfl)
  rw [lg_entry_eq]
  generalize (lg_sl ([.ref (b 0)]) ++ List.replicate (3 - (lg_sl ([.ref (b 0)])).length) Slot.unset).toArray = ls at hl ⊢
  have hl : lv_has ls 3 [(0, .ref (b 0))] := hl
  have k_7 := hts (.fieldLink RX9 7 "FreezeCreditsModel" "now" "[I") (by decide +kernel)
  have inX9 : ∀ w ∈ u_ws RX9 TX9 13, w ∈ wsX9_owing := by decide +kernel
  refine lv_iconst (v := 0) hx hb dX9_owing_0 (by decide) ?_
  refine lv_istore_n (lv' := [(1, .int 0), (0, .ref (b 0))]) hx hb dX9_owing_1 rfl hl (by decide) rfl (fun ls hl => ?_)
  refine lv_iconst (v := 0) hx hb dX9_owing_2 (by decide) ?_
  refine lv_istore_n (lv' := [(2, .int 0), (1, .int 0), (0, .ref (b 0))]) hx hb dX9_owing_3 rfl hl (by decide) rfl (fun ls hl => ?_)
  refine fz_loop (σ := Nat × Int32) (pc := 4) (nL := 3) (fun x9 => match x9 with | (k, r) => [(0, .ref (b 0)), (1, .int r), (2, .int (nI k))]) (fun x9 => match x9 with | (k, r) => (k ≤ nt) ∧ (r = fz_sum (fun i => fz_b (fz_owes (fm_l (M 1) 1) (fm_l (M 1) 3) (fm_l (M 1) 4) (M 1 0) nl (nI i))) k)) (fun x9 => match x9 with | (k, r) => nt - k) ?_ (0, 0) (show (0 ≤ nt) ∧ (0 = fz_sum (fun i => fz_b (fz_owes (fm_l (M 1) 1) (fm_l (M 1) 3) (fm_l (M 1) 4) (M 1 0) nl (nI i))) 0) from ⟨(by omega), rfl⟩) ls (lv_sub hl [2, 1, 0] rfl)
  rintro ⟨k, r⟩ ⟨hk, er⟩ ih4 ls hl
  have hk : k ≤ nt := hk
  have er : r = fz_sum (fun i => fz_b (fz_owes (fm_l (M 1) 1) (fm_l (M 1) 3) (fm_l (M 1) 4) (M 1 0) nl (nI i))) k := er
  have hl : lv_has ls 3 [(0, .ref (b 0)), (1, .int r), (2, .int (nI k))] := hl
  refine lv_iload_n hx hb dX9_owing_4 rfl (lv_at hl 2 rfl) ?_
  refine lv_aload_n hx hb dX9_owing_5 rfl (lv_at hl 0 rfl) ?_
  refine va_get (D := D) (ci := 7) (v := .ref (b 1)) (C := RX9) (T := TX9) (N := 13) hx hb hts inX9 hown hK hP 0 rfl rfl 0 (by decide) k_7 (fun _ h9 => h9) rfl dX9_owing_6 ?_
  refine lv_iconst (v := 1) hx hb dX9_owing_9 (by decide) ?_
  refine fz_iald (f := M 1) hx hb hK hP 1 0 rfl rfl 1 rfl (by omega) (by decide) dX9_owing_10 ?_
  refine fz_geN (tgt := 36) hx hb k nt rfl hnt dX9_owing_11 (by decide) (by omega) (by omega) (fun c_1 => ?_) (fun c_1 => ?_)
  · skip
    refine lv_iload_n hx hb dX9_owing_36 rfl (lv_at hl 1 rfl) ?_
    exact W.iret (v := r) hx hb hr (fun t9 ht9 hW9 => ⟨_, rfl, (by rw [er, show k = nt by omega]), ht9⟩) (fun _ h => nomatch h) dX9_owing_37
  · skip
    refine lv_iload_n hx hb dX9_owing_14 rfl (lv_at hl 1 rfl) ?_
    refine lv_aload_n hx hb dX9_owing_15 rfl (lv_at hl 0 rfl) ?_
    refine lv_iload_n hx hb dX9_owing_16 rfl (lv_at hl 2 rfl) ?_
    refine fz_retR (va_runV (As := [.int (nI k)]) (rest := [.int r]) ⟨hx, hb, hml, hown, hts⟩ (c_X9_owes l D cy b M h (nI k) nl hnl hnl12) (cwV 1 hts gX9_owing_X9_owes rfl rfl rfl (by decide +kernel) ⟨Nat.le_of_ble_eq_true rfl, Nat.le_of_ble_eq_true rfl⟩) (fz_preV (ci := 7) (q0 := 0) hK hP rfl rfl rfl fz_T_bl (fun _ _ _ => trivial)) rfl rfl hl.1 rfl (lv_room (Nat.le_of_ble_eq_true rfl)) dX9_owing_17 ⟨Nat.zero_le _, Nat.zero_le _⟩) ?_
    refine fz_ifeqB (tgt := 27) hx hb dX9_owing_20 (by decide) (fun c_2 => ?_) (fun c_2 => ?_)
    · skip
      refine lv_iconst (v := 0) hx hb dX9_owing_27 (by decide) ?_
      refine lv_iadd hx hb dX9_owing_28 ?_
      refine lv_istore_n (lv' := [(1, .int (r + 0)), (0, .ref (b 0)), (2, .int (nI k))]) hx hb dX9_owing_29 rfl hl (by decide) rfl (fun ls hl => ?_)
      refine lv_iinc (v := nI (k + 1)) (lv' := [(2, .int (nI (k + 1))), (1, .int (r + 0)), (0, .ref (b 0))]) hx hb dX9_owing_30 hl (k := 2) rfl (fz_inc rfl) (by decide) rfl (fun ls hl => ?_)
      refine lv_goto (tgt := 4) hx hb dX9_owing_33 (by decide) ?_
      exact ih4 (k + 1, r + 0) (show ((k + 1) ≤ nt) ∧ ((r + 0) = fz_sum (fun i => fz_b (fz_owes (fm_l (M 1) 1) (fm_l (M 1) 3) (fm_l (M 1) 4) (M 1 0) nl (nI i))) (k + 1)) from ⟨(by omega), (by rw [fz_sum, ← er, c_2]; rfl)⟩) (by show nt - (k + 1) < nt - k; omega) ls (lv_sub hl [2, 1, 0] rfl)
    · skip
      refine lv_iconst (v := 1) hx hb dX9_owing_23 (by decide) ?_
      refine lv_goto (tgt := 28) hx hb dX9_owing_24 (by decide) ?_
      refine lv_iadd hx hb dX9_owing_28 ?_
      refine lv_istore_n (lv' := [(1, .int (r + 1)), (0, .ref (b 0)), (2, .int (nI k))]) hx hb dX9_owing_29 rfl hl (by decide) rfl (fun ls hl => ?_)
      refine lv_iinc (v := nI (k + 1)) (lv' := [(2, .int (nI (k + 1))), (1, .int (r + 1)), (0, .ref (b 0))]) hx hb dX9_owing_30 hl (k := 2) rfl (fz_inc rfl) (by decide) rfl (fun ls hl => ?_)
      refine lv_goto (tgt := 4) hx hb dX9_owing_33 (by decide) ?_
      exact ih4 (k + 1, r + 1) (show ((k + 1) ≤ nt) ∧ ((r + 1) = fz_sum (fun i => fz_b (fz_owes (fm_l (M 1) 1) (fm_l (M 1) 3) (fm_l (M 1) 4) (M 1 0) nl (nI i))) (k + 1)) from ⟨(by omega), (by rw [fz_sum, ← er, c_2]; rfl)⟩) (by show nt - (k + 1) < nt - k; omega) ls (lv_sub hl [2, 1, 0] rfl)
set_option maxHeartbeats 4000000 in
set_option maxRecDepth 100000 in
/-- the model: number -/
theorem c_X9_number (l : Launch) (D : va_G) (cy : Nat → ClassId) (b : Nat → Nat) (M : Nat → Nat → Int32) (h : Int64) (nt nc nl wk : Nat) (wf : fm_wf (M 1) nt nc nl wk) (w : Nat) (hw : w < 18) : fz_RI l yX9_number wsX9_number 3 66 D cy [.ref (b 0), .int (nI w)] (MW cy b M h) fz_T (fm_num M nt nc nl wk w) := by
  refine Met.ofW (cc := cX9_number) (maxL := 2) (ret := (some .int)) (by decide) rfl ?_
  intro p e s m args below meth c s₁ B hml hv
  obtain ⟨rfl, hP, hK, hE⟩ := hv
  have hx := B.exec
  have hb := B.bytes
  have hr := B.returns
  have hts := atoms_spec (ws := wsX9_number) B.pre
  have hown : s.vm.findClass RX9 = some m.cls := findClass_of_methodNamed B.named
  have hlocks := B.notSynchronized
  have hl := lv_entry ([.ref (b 0), .int (nI w)]) (n := 2) (Nat.le_of_ble_eq_true rfl)
  rw [lg_entry_eq]
  generalize (lg_sl ([.ref (b 0), .int (nI w)]) ++ List.replicate (2 - (lg_sl ([.ref (b 0), .int (nI w)])).length) Slot.unset).toArray = ls at hl ⊢
  have hl : lv_has ls 2 [(0, .ref (b 0)), (1, .int (nI w))] := hl
  have k_7 := hts (.fieldLink RX9 7 "FreezeCreditsModel" "now" "[I") (by decide +kernel)
  have inX9 : ∀ w ∈ u_ws RX9 TX9 13, w ∈ wsX9_number := by decide +kernel
  have k_166 := hts (.fieldLink RX9 166 "FreezeCreditsModel" "length" "I") (by decide +kernel)
  obtain ⟨hnt, hnt6, hnc, hnc30, hnl, hnl12, hwk, hwk39, hT, hG, hB, hZo⟩ := id wf
  refine lv_iload_n hx hb dX9_number_0 rfl (lv_at hl 1 rfl) ?_
  rcases (show w = 0 ∨ w = 1 ∨ w = 2 ∨ w = 3 ∨ w = 4 ∨ w = 5 ∨ w = 6 ∨ w = 7 ∨ w = 8 ∨ w = 9 ∨ w = 10 ∨ w = 11 ∨ w = 12 ∨ w = 13 ∨ w = 14 ∨ w = 15 ∨ w = 16 ∨ w = 17 from by omega) with rfl | rfl | rfl | rfl | rfl | rfl | rfl | rfl | rfl | rfl | rfl | rfl | rfl | rfl | rfl | rfl | rfl | rfl
  · skip
    refine lv_tableIn (tgt := 84) hx hb dX9_number_1 (by decide) (by decide) rfl (by decide) ?_
    refine lv_aload_n hx hb dX9_number_84 rfl (lv_at hl 0 rfl) ?_
    refine va_get (D := D) (ci := 7) (v := .ref (b 1)) (C := RX9) (T := TX9) (N := 13) hx hb hts inX9 hown hK hP 0 rfl rfl 0 (by decide) k_7 (fun _ h9 => h9) rfl dX9_number_85 ?_
    refine lv_iconst (v := 1) hx hb dX9_number_88 (by decide) ?_
    refine lv_iload_n hx hb dX9_number_89 rfl (lv_at hl 1 rfl) ?_
    refine fz_iaddN hx hb 1 0 rfl rfl dX9_number_90 ?_
    refine fz_iald (f := M 1) hx hb hK hP 1 0 rfl rfl (1 + 0) rfl (by omega) (by decide) dX9_number_91 ?_
    exact W.iret (v := (M 1 (1 + 0))) hx hb hr (fun t9 ht9 hW9 => ⟨_, rfl, rfl, ht9⟩) (fun _ h => nomatch h) dX9_number_92
  · skip
    refine lv_tableIn (tgt := 84) hx hb dX9_number_1 (by decide) (by decide) rfl (by decide) ?_
    refine lv_aload_n hx hb dX9_number_84 rfl (lv_at hl 0 rfl) ?_
    refine va_get (D := D) (ci := 7) (v := .ref (b 1)) (C := RX9) (T := TX9) (N := 13) hx hb hts inX9 hown hK hP 0 rfl rfl 0 (by decide) k_7 (fun _ h9 => h9) rfl dX9_number_85 ?_
    refine lv_iconst (v := 1) hx hb dX9_number_88 (by decide) ?_
    refine lv_iload_n hx hb dX9_number_89 rfl (lv_at hl 1 rfl) ?_
    refine fz_iaddN hx hb 1 1 rfl rfl dX9_number_90 ?_
    refine fz_iald (f := M 1) hx hb hK hP 1 0 rfl rfl (1 + 1) rfl (by omega) (by decide) dX9_number_91 ?_
    exact W.iret (v := (M 1 (1 + 1))) hx hb hr (fun t9 ht9 hW9 => ⟨_, rfl, rfl, ht9⟩) (fun _ h => nomatch h) dX9_number_92
  · skip
    refine lv_tableIn (tgt := 84) hx hb dX9_number_1 (by decide) (by decide) rfl (by decide) ?_
    refine lv_aload_n hx hb dX9_number_84 rfl (lv_at hl 0 rfl) ?_
    refine va_get (D := D) (ci := 7) (v := .ref (b 1)) (C := RX9) (T := TX9) (N := 13) hx hb hts inX9 hown hK hP 0 rfl rfl 0 (by decide) k_7 (fun _ h9 => h9) rfl dX9_number_85 ?_
    refine lv_iconst (v := 1) hx hb dX9_number_88 (by decide) ?_
    refine lv_iload_n hx hb dX9_number_89 rfl (lv_at hl 1 rfl) ?_
    refine fz_iaddN hx hb 1 2 rfl rfl dX9_number_90 ?_
    refine fz_iald (f := M 1) hx hb hK hP 1 0 rfl rfl (1 + 2) rfl (by omega) (by decide) dX9_number_91 ?_
    exact W.iret (v := (M 1 (1 + 2))) hx hb hr (fun t9 ht9 hW9 => ⟨_, rfl, rfl, ht9⟩) (fun _ h => nomatch h) dX9_number_92
  · skip
    refine lv_tableIn (tgt := 93) hx hb dX9_number_1 (by decide) (by decide) rfl (by decide) ?_
    refine lv_aload_n hx hb dX9_number_93 rfl (lv_at hl 0 rfl) ?_
    refine fz_retR (va_runV (As := []) (rest := []) ⟨hx, hb, hml, hown, hts⟩ (c_X9_openLoans l D cy b M h nl hnl hnl12) (cwV 0 hts gX9_number_X9_openLoans rfl rfl rfl (by decide +kernel) ⟨Nat.le_of_ble_eq_true rfl, Nat.le_of_ble_eq_true rfl⟩) (fz_preV (ci := 7) (q0 := 0) hK hP rfl rfl rfl fz_T_bl (fun _ _ _ => trivial)) rfl rfl hl.1 rfl (lv_room (Nat.le_of_ble_eq_true rfl)) dX9_number_94 ⟨Nat.zero_le _, Nat.zero_le _⟩) ?_
    exact W.iret (v := (nI (fz_ct (fun i => !(decide (fm_l (M 1) 3 i ≤ 0))) nl))) hx hb hr (fun t9 ht9 hW9 => ⟨_, rfl, rfl, ht9⟩) (fun _ h => nomatch h) dX9_number_97
  · skip
    refine lv_tableIn (tgt := 98) hx hb dX9_number_1 (by decide) (by decide) rfl (by decide) ?_
    refine lv_aload_n hx hb dX9_number_98 rfl (lv_at hl 0 rfl) ?_
    refine va_get (D := D) (ci := 7) (v := .ref (b 1)) (C := RX9) (T := TX9) (N := 13) hx hb hts inX9 hown hK hP 0 rfl rfl 0 (by decide) k_7 (fun _ h9 => h9) rfl dX9_number_99 ?_
    refine lv_iconst (v := 4) hx hb dX9_number_102 (by decide) ?_
    refine lv_iload_n hx hb dX9_number_103 rfl (lv_at hl 1 rfl) ?_
    refine fz_iaddN hx hb 4 4 rfl rfl dX9_number_104 ?_
    refine lv_iconst (v := 4) hx hb dX9_number_105 (by decide) ?_
    refine fz_isubN hx hb (4 + 4) 4 rfl rfl (by omega) dX9_number_106 ?_
    refine fz_iald (f := M 1) hx hb hK hP 1 0 rfl rfl ((4 + 4) - 4) rfl (by omega) (by decide) dX9_number_107 ?_
    exact W.iret (v := (M 1 ((4 + 4) - 4))) hx hb hr (fun t9 ht9 hW9 => ⟨_, rfl, rfl, ht9⟩) (fun _ h => nomatch h) dX9_number_108
  · skip
    refine lv_tableIn (tgt := 98) hx hb dX9_number_1 (by decide) (by decide) rfl (by decide) ?_
    refine lv_aload_n hx hb dX9_number_98 rfl (lv_at hl 0 rfl) ?_
    refine va_get (D := D) (ci := 7) (v := .ref (b 1)) (C := RX9) (T := TX9) (N := 13) hx hb hts inX9 hown hK hP 0 rfl rfl 0 (by decide) k_7 (fun _ h9 => h9) rfl dX9_number_99 ?_
    refine lv_iconst (v := 4) hx hb dX9_number_102 (by decide) ?_
    refine lv_iload_n hx hb dX9_number_103 rfl (lv_at hl 1 rfl) ?_
    refine fz_iaddN hx hb 4 5 rfl rfl dX9_number_104 ?_
    refine lv_iconst (v := 4) hx hb dX9_number_105 (by decide) ?_
    refine fz_isubN hx hb (4 + 5) 4 rfl rfl (by omega) dX9_number_106 ?_
    refine fz_iald (f := M 1) hx hb hK hP 1 0 rfl rfl ((4 + 5) - 4) rfl (by omega) (by decide) dX9_number_107 ?_
    exact W.iret (v := (M 1 ((4 + 5) - 4))) hx hb hr (fun t9 ht9 hW9 => ⟨_, rfl, rfl, ht9⟩) (fun _ h => nomatch h) dX9_number_108
  · skip
    refine lv_tableIn (tgt := 98) hx hb dX9_number_1 (by decide) (by decide) rfl (by decide) ?_
    refine lv_aload_n hx hb dX9_number_98 rfl (lv_at hl 0 rfl) ?_
    refine va_get (D := D) (ci := 7) (v := .ref (b 1)) (C := RX9) (T := TX9) (N := 13) hx hb hts inX9 hown hK hP 0 rfl rfl 0 (by decide) k_7 (fun _ h9 => h9) rfl dX9_number_99 ?_
    refine lv_iconst (v := 4) hx hb dX9_number_102 (by decide) ?_
    refine lv_iload_n hx hb dX9_number_103 rfl (lv_at hl 1 rfl) ?_
    refine fz_iaddN hx hb 4 6 rfl rfl dX9_number_104 ?_
    refine lv_iconst (v := 4) hx hb dX9_number_105 (by decide) ?_
    refine fz_isubN hx hb (4 + 6) 4 rfl rfl (by omega) dX9_number_106 ?_
    refine fz_iald (f := M 1) hx hb hK hP 1 0 rfl rfl ((4 + 6) - 4) rfl (by omega) (by decide) dX9_number_107 ?_
    exact W.iret (v := (M 1 ((4 + 6) - 4))) hx hb hr (fun t9 ht9 hW9 => ⟨_, rfl, rfl, ht9⟩) (fun _ h => nomatch h) dX9_number_108
  · skip
    refine lv_tableIn (tgt := 98) hx hb dX9_number_1 (by decide) (by decide) rfl (by decide) ?_
    refine lv_aload_n hx hb dX9_number_98 rfl (lv_at hl 0 rfl) ?_
    refine va_get (D := D) (ci := 7) (v := .ref (b 1)) (C := RX9) (T := TX9) (N := 13) hx hb hts inX9 hown hK hP 0 rfl rfl 0 (by decide) k_7 (fun _ h9 => h9) rfl dX9_number_99 ?_
    refine lv_iconst (v := 4) hx hb dX9_number_102 (by decide) ?_
    refine lv_iload_n hx hb dX9_number_103 rfl (lv_at hl 1 rfl) ?_
    refine fz_iaddN hx hb 4 7 rfl rfl dX9_number_104 ?_
    refine lv_iconst (v := 4) hx hb dX9_number_105 (by decide) ?_
    refine fz_isubN hx hb (4 + 7) 4 rfl rfl (by omega) dX9_number_106 ?_
    refine fz_iald (f := M 1) hx hb hK hP 1 0 rfl rfl ((4 + 7) - 4) rfl (by omega) (by decide) dX9_number_107 ?_
    exact W.iret (v := (M 1 ((4 + 7) - 4))) hx hb hr (fun t9 ht9 hW9 => ⟨_, rfl, rfl, ht9⟩) (fun _ h => nomatch h) dX9_number_108
  · skip
    refine lv_tableIn (tgt := 109) hx hb dX9_number_1 (by decide) (by decide) rfl (by decide) ?_
    refine lv_aload_n hx hb dX9_number_109 rfl (lv_at hl 0 rfl) ?_
    refine va_get (D := D) (ci := 7) (v := .ref (b 1)) (C := RX9) (T := TX9) (N := 13) hx hb hts inX9 hown hK hP 0 rfl rfl 0 (by decide) k_7 (fun _ h9 => h9) rfl dX9_number_110 ?_
    refine lv_iconst (v := 0) hx hb dX9_number_113 (by decide) ?_
    refine fz_iald (f := M 1) hx hb hK hP 1 0 rfl rfl 0 rfl (by omega) (by decide) dX9_number_114 ?_
    exact W.iret (v := (M 1 0)) hx hb hr (fun t9 ht9 hW9 => ⟨_, rfl, rfl, ht9⟩) (fun _ h => nomatch h) dX9_number_115
  · skip
    refine lv_tableIn (tgt := 116) hx hb dX9_number_1 (by decide) (by decide) rfl (by decide) ?_
    refine lv_aload_n hx hb dX9_number_116 rfl (lv_at hl 0 rfl) ?_
    refine lv_aload_n hx hb dX9_number_117 rfl (lv_at hl 0 rfl) ?_
    refine va_get (D := D) (ci := 7) (v := .ref (b 1)) (C := RX9) (T := TX9) (N := 13) hx hb hts inX9 hown hK hP 0 rfl rfl 0 (by decide) k_7 (fun _ h9 => h9) rfl dX9_number_118 ?_
    refine lv_iconst (v := 0) hx hb dX9_number_121 (by decide) ?_
    refine fz_iald (f := M 1) hx hb hK hP 1 0 rfl rfl 0 rfl (by omega) (by decide) dX9_number_122 ?_
    refine fz_at0 (show M 1 0 = nI wk from hwk) ?_
    refine fz_retR (va_runV (As := [.int (nI wk)]) (rest := []) ⟨hx, hb, hml, hown, hts⟩ (c_X9_frozenFrom l D cy b M h wk (by omega) hZo) (cwV 1 hts gX9_number_X9_frozenFrom rfl rfl rfl (by decide +kernel) ⟨Nat.le_of_ble_eq_true rfl, Nat.le_of_ble_eq_true rfl⟩) (fz_preV (ci := 7) (q0 := 0) hK hP rfl rfl rfl fz_T_bl (fun _ _ _ => trivial)) rfl rfl hl.1 rfl (lv_room (Nat.le_of_ble_eq_true rfl)) dX9_number_123 ⟨Nat.zero_le _, Nat.zero_le _⟩) ?_
    exact W.iret (v := (fz_frz (fun i => M 1 (9 + i)) wk)) hx hb hr (fun t9 ht9 hW9 => ⟨_, rfl, rfl, ht9⟩) (fun _ h => nomatch h) dX9_number_126
  · skip
    refine lv_tableIn (tgt := 127) hx hb dX9_number_1 (by decide) (by decide) rfl (by decide) ?_
    refine lv_aload_n hx hb dX9_number_127 rfl (lv_at hl 0 rfl) ?_
    refine lv_iconst (v := 0) hx hb dX9_number_128 (by decide) ?_
    refine fz_retR (va_runV (As := [.int (nI 0)]) (rest := []) ⟨hx, hb, hml, hown, hts⟩ (c_X9_sum l D cy b M h 0 (by omega) nt hnt hnt6) (cwV 1 hts gX9_number_X9_sum rfl rfl rfl (by decide +kernel) ⟨Nat.le_of_ble_eq_true rfl, Nat.le_of_ble_eq_true rfl⟩) (fz_preV (ci := 7) (q0 := 0) hK hP rfl rfl rfl fz_T_bl (fun _ _ _ => trivial)) rfl rfl hl.1 rfl (lv_room (Nat.le_of_ble_eq_true rfl)) dX9_number_129 ⟨Nat.zero_le _, Nat.zero_le _⟩) ?_
    exact W.iret (v := (fz_sum (fm_t (M 1) 0) nt)) hx hb hr (fun t9 ht9 hW9 => ⟨_, rfl, rfl, ht9⟩) (fun _ h => nomatch h) dX9_number_132
  · skip
    refine lv_tableIn (tgt := 133) hx hb dX9_number_1 (by decide) (by decide) rfl (by decide) ?_
    refine lv_aload_n hx hb dX9_number_133 rfl (lv_at hl 0 rfl) ?_
    refine lv_iconst (v := (-1)) hx hb dX9_number_134 (by decide) ?_
    refine fz_retR (va_runV (As := [.int (-1)]) (rest := []) ⟨hx, hb, hml, hown, hts⟩ (c_X9_held l D cy b M h (-1) nc hnc hnc30) (cwV 1 hts gX9_number_X9_held rfl rfl rfl (by decide +kernel) ⟨Nat.le_of_ble_eq_true rfl, Nat.le_of_ble_eq_true rfl⟩) (fz_preV (ci := 7) (q0 := 0) hK hP rfl rfl rfl fz_T_bl (fun _ _ _ => trivial)) rfl rfl hl.1 rfl (lv_room (Nat.le_of_ble_eq_true rfl)) dX9_number_135 ⟨Nat.zero_le _, Nat.zero_le _⟩) ?_
    exact W.iret (v := (fz_sum (fun i => if (decide ((-1) = -1) || decide (fm_c (M 1) 0 i = (-1))) = true then fm_c (M 1) 3 i else 0) nc)) hx hb hr (fun t9 ht9 hW9 => ⟨_, rfl, fm_num11, ht9⟩) (fun _ h => nomatch h) dX9_number_138
  · skip
    refine lv_tableIn (tgt := 139) hx hb dX9_number_1 (by decide) (by decide) rfl (by decide) ?_
    refine lv_aload_n hx hb dX9_number_139 rfl (lv_at hl 0 rfl) ?_
    refine va_get (D := D) (ci := 7) (v := .ref (b 1)) (C := RX9) (T := TX9) (N := 13) hx hb hts inX9 hown hK hP 0 rfl rfl 0 (by decide) k_7 (fun _ h9 => h9) rfl dX9_number_140 ?_
    refine lv_bipush (v := 8) hx hb dX9_number_143 (by decide) ?_
    refine fz_iald (f := M 1) hx hb hK hP 1 0 rfl rfl 8 rfl (by omega) (by decide) dX9_number_145 ?_
    exact W.iret (v := (M 1 8)) hx hb hr (fun t9 ht9 hW9 => ⟨_, rfl, rfl, ht9⟩) (fun _ h => nomatch h) dX9_number_146
  · skip
    refine lv_tableIn (tgt := 147) hx hb dX9_number_1 (by decide) (by decide) rfl (by decide) ?_
    refine lv_aload_n hx hb dX9_number_147 rfl (lv_at hl 0 rfl) ?_
    refine lv_iconst (v := 1) hx hb dX9_number_148 (by decide) ?_
    refine fz_retR (va_runV (As := [.int (nI 1)]) (rest := []) ⟨hx, hb, hml, hown, hts⟩ (c_X9_sum l D cy b M h 1 (by omega) nt hnt hnt6) (cwV 1 hts gX9_number_X9_sum rfl rfl rfl (by decide +kernel) ⟨Nat.le_of_ble_eq_true rfl, Nat.le_of_ble_eq_true rfl⟩) (fz_preV (ci := 7) (q0 := 0) hK hP rfl rfl rfl fz_T_bl (fun _ _ _ => trivial)) rfl rfl hl.1 rfl (lv_room (Nat.le_of_ble_eq_true rfl)) dX9_number_149 ⟨Nat.zero_le _, Nat.zero_le _⟩) ?_
    exact W.iret (v := (fz_sum (fm_t (M 1) 1) nt)) hx hb hr (fun t9 ht9 hW9 => ⟨_, rfl, rfl, ht9⟩) (fun _ h => nomatch h) dX9_number_152
  · skip
    refine lv_tableIn (tgt := 153) hx hb dX9_number_1 (by decide) (by decide) rfl (by decide) ?_
    refine lv_aload_n hx hb dX9_number_153 rfl (lv_at hl 0 rfl) ?_
    refine lv_iconst (v := 2) hx hb dX9_number_154 (by decide) ?_
    refine fz_retR (va_runV (As := [.int (nI 2)]) (rest := []) ⟨hx, hb, hml, hown, hts⟩ (c_X9_sum l D cy b M h 2 (by omega) nt hnt hnt6) (cwV 1 hts gX9_number_X9_sum rfl rfl rfl (by decide +kernel) ⟨Nat.le_of_ble_eq_true rfl, Nat.le_of_ble_eq_true rfl⟩) (fz_preV (ci := 7) (q0 := 0) hK hP rfl rfl rfl fz_T_bl (fun _ _ _ => trivial)) rfl rfl hl.1 rfl (lv_room (Nat.le_of_ble_eq_true rfl)) dX9_number_155 ⟨Nat.zero_le _, Nat.zero_le _⟩) ?_
    exact W.iret (v := (fz_sum (fm_t (M 1) 2) nt)) hx hb hr (fun t9 ht9 hW9 => ⟨_, rfl, rfl, ht9⟩) (fun _ h => nomatch h) dX9_number_158
  · skip
    refine lv_tableIn (tgt := 159) hx hb dX9_number_1 (by decide) (by decide) rfl (by decide) ?_
    refine lv_aload_n hx hb dX9_number_159 rfl (lv_at hl 0 rfl) ?_
    refine lv_iconst (v := (-1)) hx hb dX9_number_160 (by decide) ?_
    refine lv_iconst (v := 1) hx hb dX9_number_161 (by decide) ?_
    refine fz_retR (va_runV (As := [.int (-1), .int 1]) (rest := []) ⟨hx, hb, hml, hown, hts⟩ (c_X9_inState l D cy b M h (-1) 1 nc hnc hnc30) (cwV 2 hts gX9_number_X9_inState rfl rfl rfl (by decide +kernel) ⟨Nat.le_of_ble_eq_true rfl, Nat.le_of_ble_eq_true rfl⟩) (fz_preV (ci := 7) (q0 := 0) hK hP rfl rfl rfl fz_T_bl (fun _ _ _ => trivial)) rfl rfl hl.1 rfl (lv_room (Nat.le_of_ble_eq_true rfl)) dX9_number_162 ⟨Nat.zero_le _, Nat.zero_le _⟩) ?_
    exact W.iret (v := (nI (fz_ct (fun i => decide (fm_c (M 1) 2 i = 1) && (decide ((-1) = -1) || decide (fm_c (M 1) 0 i = (-1)))) nc))) hx hb hr (fun t9 ht9 hW9 => ⟨_, rfl, fm_num15, ht9⟩) (fun _ h => nomatch h) dX9_number_165
  · skip
    refine lv_tableIn (tgt := 166) hx hb dX9_number_1 (by decide) (by decide) rfl (by decide) ?_
    refine lv_aload_n hx hb dX9_number_166 rfl (lv_at hl 0 rfl) ?_
    refine fz_retR (va_runV (As := []) (rest := []) ⟨hx, hb, hml, hown, hts⟩ (c_X9_owing l D cy b M h nt hnt hnt6 nl hnl hnl12) (cwV 0 hts gX9_number_X9_owing rfl rfl rfl (by decide +kernel) ⟨Nat.le_of_ble_eq_true rfl, Nat.le_of_ble_eq_true rfl⟩) (fz_preV (ci := 7) (q0 := 0) hK hP rfl rfl rfl fz_T_bl (fun _ _ _ => trivial)) rfl rfl hl.1 rfl (lv_room (Nat.le_of_ble_eq_true rfl)) dX9_number_167 ⟨Nat.zero_le _, Nat.zero_le _⟩) ?_
    exact W.iret (v := (fz_sum (fun i => fz_b (fz_owes (fm_l (M 1) 1) (fm_l (M 1) 3) (fm_l (M 1) 4) (M 1 0) nl (nI i))) nt)) hx hb hr (fun t9 ht9 hW9 => ⟨_, rfl, rfl, ht9⟩) (fun _ h => nomatch h) dX9_number_170
  · skip
    refine lv_tableOut (tgt := 171) hx hb dX9_number_1 (by decide) (by decide) ?_
    refine lv_aload_n hx hb dX9_number_171 rfl (lv_at hl 0 rfl) ?_
    refine va_get (D := D) (ci := 7) (v := .int (M 0 1)) (C := RX9) (T := TX9) (N := 13) hx hb hts inX9 hown hK hP 0 rfl rfl 5 (by decide) k_166 (fun _ h9 => h9) rfl dX9_number_172 ?_
    exact W.iret (v := (M 0 1)) hx hb hr (fun t9 ht9 hW9 => ⟨_, rfl, rfl, ht9⟩) (fun _ h => nomatch h) dX9_number_175
set_option maxHeartbeats 4000000 in
set_option maxRecDepth 100000 in
/-- the model: whole -/
theorem c_X9_whole (l : Launch) (D : va_G) (cy : Nat → ClassId) (b : Nat → Nat) (M : Nat → Nat → Int32) (h : Int64) (nt nc nl wk : Nat) (wf : fm_wf (M 1) nt nc nl wk) (x : Int32) : fz_MI l yX9_whole wsX9_whole 4 87 D cy [.ref (b 0), .int x] (MW cy b M h) fz_T ((fm_qwhole M nt nc nl wk x).1) (MW cy b ((fm_qwhole M nt nc nl wk x).2) h) := by
  refine Met.ofW (cc := cX9_whole) (maxL := 2) (ret := (some .int)) (by decide) rfl ?_
  intro p e s m args below meth c s₁ B hml hv
  obtain ⟨rfl, hP, hK, hD0, hE⟩ := hv
  have hx := B.exec
  have hb := B.bytes
  have hr := B.returns
  have hts := atoms_spec (ws := wsX9_whole) B.pre
  have hown : s.vm.findClass RX9 = some m.cls := findClass_of_methodNamed B.named
  have hlocks := B.notSynchronized
  have hD := fz_self hD0
  generalize hAe : fz_in (MW cy b M h) = A at hD ⊢
  have hS : va_S A s.heap s.heap [] := va_S.rf
  have hl := lv_entry ([.ref (b 0), .int x]) (n := 2) (Nat.le_of_ble_eq_true rfl)
  rw [lg_entry_eq]
  generalize (lg_sl ([.ref (b 0), .int x]) ++ List.replicate (2 - (lg_sl ([.ref (b 0), .int x])).length) Slot.unset).toArray = ls at hl ⊢
  have hl : lv_has ls 2 [(0, .ref (b 0)), (1, .int x)] := hl
  obtain ⟨hnt, hnt6, hnc, hnc30, hnl, hnl12, hwk, hwk39, hT, hG, hB, hZo⟩ := id wf
  refine lv_iload_n hx hb dX9_whole_0 rfl (lv_at hl 1 rfl) ?_
  refine lv_iconst (v := 0) hx hb dX9_whole_1 (by decide) ?_
  refine lv_bipush (v := 17) hx hb dX9_whole_2 (by decide) ?_
  refine fz_retR (va_runS (As := [.int x, .int 0, .int 17]) (rest := []) ⟨hx, hb, hml, hown, hts⟩ (c_X9_in l D cy x 0 17) (va_cwS 3 hts gX9_whole_X9_in rfl rfl rfl (by decide +kernel) ⟨Nat.le_of_ble_eq_true rfl, Nat.le_of_ble_eq_true rfl⟩) (fz_preS hK (fz_nil) fz_T_bl (fun _ _ _ => trivial)) rfl rfl hl.1 rfl (lv_room (Nat.le_of_ble_eq_true rfl)) dX9_whole_4 ⟨Nat.zero_le _, Nat.zero_le _⟩) ?_
  refine fz_ifeqB (tgt := 22) hx hb dX9_whole_7 (by decide) (fun c_1 => ?_) (fun c_1 => ?_)
  · skip
    refine lv_aload_n hx hb dX9_whole_22 rfl (lv_at hl 0 rfl) ?_
    refine lv_iconst (v := 1) hx hb dX9_whole_23 (by decide) ?_
    refine fz_retM (ws' := ME cy b (M 0 0) (M 0 1) 1 (M 0 3) (M 0 4) (M 0 5) (M 0 6) (M 1) (M 2) (M 3) (M 4) (M 5) h) (va_runV (As := [.int 1]) (rest := []) ⟨hx, hb, hml, hown, hts⟩ (c_X9_fails l D cy b M h 1) (cwV 1 hts gX9_whole_X9_fails rfl rfl rfl (by decide +kernel) ⟨Nat.le_of_ble_eq_true rfl, Nat.le_of_ble_eq_true rfl⟩) (fz_preMV (ci := 7) (q0 := 0) hK hP hD rfl rfl rfl fz_T_bl (fun _ _ _ => trivial)) rfl rfl hl.1 rfl (lv_room (Nat.le_of_ble_eq_true rfl)) dX9_whole_24 ⟨Nat.zero_le _, Nat.zero_le _⟩) hP hD hS [0, 1, 2, 3, 4, 5] [] rfl rfl [true, true, true, true, true, true] (And.intro rfl (And.intro rfl (And.intro rfl (And.intro rfl (And.intro rfl (And.intro rfl trivial)))))) rfl rfl (fun H locs hP hD hS => ?_)
    have hP : va_P D vwCl (ME cy b (M 0 0) (M 0 1) 1 (M 0 3) (M 0 4) (M 0 5) (M 0 6) (M 1) (M 2) (M 3) (M 4) (M 5) h) H := hP
    have hD : va_D A (ME cy b (M 0 0) (M 0 1) 1 (M 0 3) (M 0 4) (M 0 5) (M 0 6) (M 1) (M 2) (M 3) (M 4) (M 5) h) := hD
    refine fz_top (show _ = 0 from rfl) ?_
    have eF : fm_qwhole M nt nc nl wk x = (0, fz_up M 0 (upd (M 0) 2 1)) := by simp only [fm_qwhole, c_1, ↓reduceIte, Bool.false_eq_true]
    exact W.iret (v := 0) hx hb hr (fun t9 ht9 hW9 => ⟨⟨_, (), rfl, (by rw [eF] <;> rfl), fz_to ht9 (by rw [eF]; exact hP)⟩, hS.F ht9⟩) hS.2.2 dX9_whole_27
  · skip
    obtain ⟨w, hw, ew⟩ := fm_in_n (m := 17) rfl (by decide) c_1
    have ew' := fz_tnat ew (by omega)
    refine lv_aload_n hx hb dX9_whole_10 rfl (lv_at hl 0 rfl) ?_
    refine lv_aload_n hx hb dX9_whole_11 rfl (lv_at hl 0 rfl) ?_
    refine lv_iload_n hx hb dX9_whole_12 rfl (lv_at hl 1 rfl) ?_
    refine fz_at0 (show x = nI w from ew) ?_
    refine fz_retR (va_runV (As := [.int (nI w)]) (rest := [.ref (b 0)]) ⟨hx, hb, hml, hown, hts⟩ (c_X9_number l D cy b M h nt nc nl wk wf w (by omega)) (cwV 1 hts gX9_whole_X9_number rfl rfl rfl (by decide +kernel) ⟨Nat.le_of_ble_eq_true rfl, Nat.le_of_ble_eq_true rfl⟩) (fz_preV (ci := 7) (q0 := 0) hK hP rfl rfl rfl fz_T_bl (fun _ _ _ => trivial)) rfl rfl hl.1 rfl (lv_room (Nat.le_of_ble_eq_true rfl)) dX9_whole_13 ⟨Nat.zero_le _, Nat.zero_le _⟩) ?_
    refine fz_retM (ws' := ME cy b (M 0 0) (M 0 1) 0 (M 0 3) (M 0 4) (M 0 5) (M 0 6) (M 1) (M 2) (M 3) (M 4) (M 5) h) (va_runV (As := [.int (fm_num M nt nc nl wk w)]) (rest := []) ⟨hx, hb, hml, hown, hts⟩ (c_X9_well l D cy b M h (fm_num M nt nc nl wk w)) (cwV 1 hts gX9_whole_X9_well rfl rfl rfl (by decide +kernel) ⟨Nat.le_of_ble_eq_true rfl, Nat.le_of_ble_eq_true rfl⟩) (fz_preMV (ci := 7) (q0 := 0) hK hP hD rfl rfl rfl fz_T_bl (fun _ _ _ => trivial)) rfl rfl hl.1 rfl (lv_room (Nat.le_of_ble_eq_true rfl)) dX9_whole_16 ⟨Nat.zero_le _, Nat.zero_le _⟩) hP hD hS [0, 1, 2, 3, 4, 5] [] rfl rfl [true, true, true, true, true, true] (And.intro rfl (And.intro rfl (And.intro rfl (And.intro rfl (And.intro rfl (And.intro rfl trivial)))))) rfl rfl (fun H locs hP hD hS => ?_)
    have hP : va_P D vwCl (ME cy b (M 0 0) (M 0 1) 0 (M 0 3) (M 0 4) (M 0 5) (M 0 6) (M 1) (M 2) (M 3) (M 4) (M 5) h) H := hP
    have hD : va_D A (ME cy b (M 0 0) (M 0 1) 0 (M 0 3) (M 0 4) (M 0 5) (M 0 6) (M 1) (M 2) (M 3) (M 4) (M 5) h) := hD
    refine fz_top (show _ = (fm_num M nt nc nl wk w) from rfl) ?_
    refine lv_goto (tgt := 27) hx hb dX9_whole_19 (by decide) ?_
    have eF : fm_qwhole M nt nc nl wk x = ((fm_num M nt nc nl wk w), fz_up M 0 (upd (M 0) 2 0)) := by simp only [fm_qwhole, c_1, ew', ↓reduceIte, Bool.false_eq_true]
    exact W.iret (v := (fm_num M nt nc nl wk w)) hx hb hr (fun t9 ht9 hW9 => ⟨⟨_, (), rfl, (by rw [eF] <;> rfl), fz_to ht9 (by rw [eF]; exact hP)⟩, hS.F ht9⟩) hS.2.2 dX9_whole_27
set_option maxHeartbeats 4000000 in
set_option maxRecDepth 100000 in
/-- the model: reason -/
theorem c_X9_reason (l : Launch) (D : va_G) (cy : Nat → ClassId) (b : Nat → Nat) (M : Nat → Nat → Int32) (h : Int64) (nt nc nl wk : Nat) (wf : fm_wf (M 1) nt nc nl wk) (x : Int32) : fz_MI l yX9_reason wsX9_reason 3 66 D cy [.ref (b 0), .int x] (MW cy b M h) fz_T ((fm_qwhy M nl x).1) (MW cy b ((fm_qwhy M nl x).2) h) := by
  refine Met.ofW (cc := cX9_reason) (maxL := 2) (ret := (some .int)) (by decide) rfl ?_
  intro p e s m args below meth c s₁ B hml hv
  obtain ⟨rfl, hP, hK, hD0, hE⟩ := hv
  have hx := B.exec
  have hb := B.bytes
  have hr := B.returns
  have hts := atoms_spec (ws := wsX9_reason) B.pre
  have hown : s.vm.findClass RX9 = some m.cls := findClass_of_methodNamed B.named
  have hlocks := B.notSynchronized
  have hD := fz_self hD0
  generalize hAe : fz_in (MW cy b M h) = A at hD ⊢
  have hS : va_S A s.heap s.heap [] := va_S.rf
  have hl := lv_entry ([.ref (b 0), .int x]) (n := 2) (Nat.le_of_ble_eq_true rfl)
  rw [lg_entry_eq]
  generalize (lg_sl ([.ref (b 0), .int x]) ++ List.replicate (2 - (lg_sl ([.ref (b 0), .int x])).length) Slot.unset).toArray = ls at hl ⊢
  have hl : lv_has ls 2 [(0, .ref (b 0)), (1, .int x)] := hl
  obtain ⟨hnt, hnt6, hnc, hnc30, hnl, hnl12, hwk, hwk39, hT, hG, hB, hZo⟩ := id wf
  refine lv_aload_n hx hb dX9_reason_0 rfl (lv_at hl 0 rfl) ?_
  refine lv_iload_n hx hb dX9_reason_1 rfl (lv_at hl 1 rfl) ?_
  refine fz_retR (va_runV (As := [.int x]) (rest := []) ⟨hx, hb, hml, hown, hts⟩ (c_X9_isChange l D cy b M h x nc hnc (by omega)) (cwV 1 hts gX9_reason_X9_isChange rfl rfl rfl (by decide +kernel) ⟨Nat.le_of_ble_eq_true rfl, Nat.le_of_ble_eq_true rfl⟩) (fz_preV (ci := 7) (q0 := 0) hK hP rfl rfl rfl fz_T_bl (fun _ _ _ => trivial)) rfl rfl hl.1 rfl (lv_room (Nat.le_of_ble_eq_true rfl)) dX9_reason_2 ⟨Nat.zero_le _, Nat.zero_le _⟩) ?_
  refine fz_ifeqB (tgt := 20) hx hb dX9_reason_5 (by decide) (fun c_1 => ?_) (fun c_1 => ?_)
  · skip
    refine lv_aload_n hx hb dX9_reason_20 rfl (lv_at hl 0 rfl) ?_
    refine lv_iconst (v := 1) hx hb dX9_reason_21 (by decide) ?_
    refine fz_retM (ws' := ME cy b (M 0 0) (M 0 1) 1 (M 0 3) (M 0 4) (M 0 5) (M 0 6) (M 1) (M 2) (M 3) (M 4) (M 5) h) (va_runV (As := [.int 1]) (rest := []) ⟨hx, hb, hml, hown, hts⟩ (c_X9_fails l D cy b M h 1) (cwV 1 hts gX9_reason_X9_fails rfl rfl rfl (by decide +kernel) ⟨Nat.le_of_ble_eq_true rfl, Nat.le_of_ble_eq_true rfl⟩) (fz_preMV (ci := 7) (q0 := 0) hK hP hD rfl rfl rfl fz_T_bl (fun _ _ _ => trivial)) rfl rfl hl.1 rfl (lv_room (Nat.le_of_ble_eq_true rfl)) dX9_reason_22 ⟨Nat.zero_le _, Nat.zero_le _⟩) hP hD hS [0, 1, 2, 3, 4, 5] [] rfl rfl [true, true, true, true, true, true] (And.intro rfl (And.intro rfl (And.intro rfl (And.intro rfl (And.intro rfl (And.intro rfl trivial)))))) rfl rfl (fun H locs hP hD hS => ?_)
    have hP : va_P D vwCl (ME cy b (M 0 0) (M 0 1) 1 (M 0 3) (M 0 4) (M 0 5) (M 0 6) (M 1) (M 2) (M 3) (M 4) (M 5) h) H := hP
    have hD : va_D A (ME cy b (M 0 0) (M 0 1) 1 (M 0 3) (M 0 4) (M 0 5) (M 0 6) (M 1) (M 2) (M 3) (M 4) (M 5) h) := hD
    refine fz_top (show _ = 0 from rfl) ?_
    have eF : fm_qwhy M nl x = (0, fz_up M 0 (upd (M 0) 2 1)) := by simp only [fm_qwhy, c_1, ↓reduceIte, Bool.false_eq_true]
    exact W.iret (v := 0) hx hb hr (fun t9 ht9 hW9 => ⟨⟨_, (), rfl, (by rw [eF] <;> rfl), fz_to ht9 (by rw [eF]; exact hP)⟩, hS.F ht9⟩) hS.2.2 dX9_reason_25
  · skip
    obtain ⟨z, hz, ez⟩ := fz_ix_t (by omega) (show fz_ix x (nI nc) = true by rw [← hnc]; exact c_1)
    have ez' := fz_tnat ez (by omega)
    refine lv_aload_n hx hb dX9_reason_8 rfl (lv_at hl 0 rfl) ?_
    refine lv_aload_n hx hb dX9_reason_9 rfl (lv_at hl 0 rfl) ?_
    refine lv_iload_n hx hb dX9_reason_10 rfl (lv_at hl 1 rfl) ?_
    refine fz_at0 (show x = nI z from ez) ?_
    refine fz_retR (va_runV (As := [.int (nI z)]) (rest := [.ref (b 0)]) ⟨hx, hb, hml, hown, hts⟩ (c_X9_why l D cy b M h nt nc nl wk wf z hz) (cwV 1 hts gX9_reason_X9_why rfl rfl rfl (by decide +kernel) ⟨Nat.le_of_ble_eq_true rfl, Nat.le_of_ble_eq_true rfl⟩) (fz_preV (ci := 7) (q0 := 0) hK hP rfl rfl rfl fz_T_bl (fun _ _ _ => trivial)) rfl rfl hl.1 rfl (lv_room (Nat.le_of_ble_eq_true rfl)) dX9_reason_11 ⟨Nat.zero_le _, Nat.zero_le _⟩) ?_
    refine fz_retM (ws' := ME cy b (M 0 0) (M 0 1) 0 (M 0 3) (M 0 4) (M 0 5) (M 0 6) (M 1) (M 2) (M 3) (M 4) (M 5) h) (va_runV (As := [.int (fz_reason (fm_V (M 1)) nl z)]) (rest := []) ⟨hx, hb, hml, hown, hts⟩ (c_X9_well l D cy b M h (fz_reason (fm_V (M 1)) nl z)) (cwV 1 hts gX9_reason_X9_well rfl rfl rfl (by decide +kernel) ⟨Nat.le_of_ble_eq_true rfl, Nat.le_of_ble_eq_true rfl⟩) (fz_preMV (ci := 7) (q0 := 0) hK hP hD rfl rfl rfl fz_T_bl (fun _ _ _ => trivial)) rfl rfl hl.1 rfl (lv_room (Nat.le_of_ble_eq_true rfl)) dX9_reason_14 ⟨Nat.zero_le _, Nat.zero_le _⟩) hP hD hS [0, 1, 2, 3, 4, 5] [] rfl rfl [true, true, true, true, true, true] (And.intro rfl (And.intro rfl (And.intro rfl (And.intro rfl (And.intro rfl (And.intro rfl trivial)))))) rfl rfl (fun H locs hP hD hS => ?_)
    have hP : va_P D vwCl (ME cy b (M 0 0) (M 0 1) 0 (M 0 3) (M 0 4) (M 0 5) (M 0 6) (M 1) (M 2) (M 3) (M 4) (M 5) h) H := hP
    have hD : va_D A (ME cy b (M 0 0) (M 0 1) 0 (M 0 3) (M 0 4) (M 0 5) (M 0 6) (M 1) (M 2) (M 3) (M 4) (M 5) h) := hD
    refine fz_top (show _ = (fz_reason (fm_V (M 1)) nl z) from rfl) ?_
    refine lv_goto (tgt := 25) hx hb dX9_reason_17 (by decide) ?_
    have eF : fm_qwhy M nl x = ((fz_reason (fm_V (M 1)) nl z), fz_up M 0 (upd (M 0) 2 0)) := by simp only [fm_qwhy, c_1, ez', ↓reduceIte, Bool.false_eq_true]
    exact W.iret (v := (fz_reason (fm_V (M 1)) nl z)) hx hb hr (fun t9 ht9 hW9 => ⟨⟨_, (), rfl, (by rw [eF] <;> rfl), fz_to ht9 (by rw [eF]; exact hP)⟩, hS.F ht9⟩) hS.2.2 dX9_reason_25
set_option maxHeartbeats 4000000 in
set_option maxRecDepth 100000 in
/-- the model: couldExempt -/
theorem c_X9_couldExempt (l : Launch) (D : va_G) (cy : Nat → ClassId) (b : Nat → Nat) (M : Nat → Nat → Int32) (h : Int64) (nt nc nl wk : Nat) (wf : fm_wf (M 1) nt nc nl wk) (t : Nat) (ht : t < nt) : fz_RI l yX9_couldExempt wsX9_couldExempt 2 48 D cy [.ref (b 0), .int (nI t)] (MW cy b M h) fz_T (fm_xc (M 1) nc nl t) := by
  refine Met.ofW (cc := cX9_couldExempt) (maxL := 5) (ret := (some .int)) (by decide) rfl ?_
  intro p e s m args below meth c s₁ B hml hv
  obtain ⟨rfl, hP, hK, hE⟩ := hv
  have hx := B.exec
  have hb := B.bytes
  have hr := B.returns
  have hts := atoms_spec (ws := wsX9_couldExempt) B.pre
  have hown : s.vm.findClass RX9 = some m.cls := findClass_of_methodNamed B.named
  have hlocks := B.notSynchronized
  have hl := lv_entry ([.ref (b 0), .int (nI t)]) (n := 5) (Nat.le_of_ble_eq_true rfl)
  rw [lg_entry_eq]
  generalize (lg_sl ([.ref (b 0), .int (nI t)]) ++ List.replicate (5 - (lg_sl ([.ref (b 0), .int (nI t)])).length) Slot.unset).toArray = ls at hl ⊢
  have hl : lv_has ls 5 [(0, .ref (b 0)), (1, .int (nI t))] := hl
  obtain ⟨hnt, hnt6, hnc, hnc30, hnl, hnl12, hwk, hwk39, hT, hG, hB, hZo⟩ := id wf
  refine lv_aload_n hx hb dX9_couldExempt_0 rfl (lv_at hl 0 rfl) ?_
  refine lv_iload_n hx hb dX9_couldExempt_1 rfl (lv_at hl 1 rfl) ?_
  refine fz_retR (va_runV (As := [.int (nI t)]) (rest := []) ⟨hx, hb, hml, hown, hts⟩ (c_X9_owes l D cy b M h (nI t) nl hnl hnl12) (cwV 1 hts gX9_couldExempt_X9_owes rfl rfl rfl (by decide +kernel) ⟨Nat.le_of_ble_eq_true rfl, Nat.le_of_ble_eq_true rfl⟩) (fz_preV (ci := 7) (q0 := 0) hK hP rfl rfl rfl fz_T_bl (fun _ _ _ => trivial)) rfl rfl hl.1 rfl (lv_room (Nat.le_of_ble_eq_true rfl)) dX9_couldExempt_2 ⟨Nat.zero_le _, Nat.zero_le _⟩) ?_
  refine fz_ifeqB (tgt := 12) hx hb dX9_couldExempt_5 (by decide) (fun c_1 => ?_) (fun c_1 => ?_)
  · skip
    refine lv_aload_n hx hb dX9_couldExempt_12 rfl (lv_at hl 0 rfl) ?_
    refine lv_iload_n hx hb dX9_couldExempt_13 rfl (lv_at hl 1 rfl) ?_
    refine lv_iconst (v := 0) hx hb dX9_couldExempt_14 (by decide) ?_
    refine fz_retR (va_runV (As := [.int (nI t), .int (nI 0)]) (rest := []) ⟨hx, hb, hml, hown, hts⟩ (c_X9_of l D cy b M h t 0 (by omega) (by omega)) (cwV 2 hts gX9_couldExempt_X9_of rfl rfl rfl (by decide +kernel) ⟨Nat.le_of_ble_eq_true rfl, Nat.le_of_ble_eq_true rfl⟩) (fz_preV (ci := 7) (q0 := 0) hK hP rfl rfl rfl fz_T_bl (fun _ _ _ => trivial)) rfl rfl hl.1 rfl (lv_room (Nat.le_of_ble_eq_true rfl)) dX9_couldExempt_15 ⟨Nat.zero_le _, Nat.zero_le _⟩) ?_
    refine lv_istore_n (lv' := [(2, .int (fm_t (M 1) 0 t)), (0, .ref (b 0)), (1, .int (nI t))]) hx hb dX9_couldExempt_18 rfl hl (by decide) rfl (fun ls hl => ?_)
    refine lv_iconst (v := 0) hx hb dX9_couldExempt_19 (by decide) ?_
    refine lv_istore_n (lv' := [(3, .int 0), (2, .int (fm_t (M 1) 0 t)), (0, .ref (b 0)), (1, .int (nI t))]) hx hb dX9_couldExempt_20 rfl hl (by decide) rfl (fun ls hl => ?_)
    refine lv_aload_n hx hb dX9_couldExempt_21 rfl (lv_at hl 2 rfl) ?_
    refine lv_iconst (v := 0) hx hb dX9_couldExempt_22 (by decide) ?_
    refine lv_iload_n hx hb dX9_couldExempt_23 rfl (lv_at hl 3 rfl) ?_
    refine lv_iconst (v := 0) hx hb dX9_couldExempt_24 (by decide) ?_
    refine fz_retR (va_runV (As := [.int (nI 0), .int (nI t), .int 0]) (rest := []) ⟨hx, hb, hml, hown, hts⟩ (c_X9_waits l D cy b M h 0 (by omega) (nI t) 0 nc hnc hnc30) (cwV 3 hts gX9_couldExempt_X9_waits rfl rfl rfl (by decide +kernel) ⟨Nat.le_of_ble_eq_true rfl, Nat.le_of_ble_eq_true rfl⟩) (fz_preV (ci := 7) (q0 := 0) hK hP rfl rfl rfl fz_T_bl (fun _ _ _ => trivial)) rfl rfl hl.1 rfl (lv_room (Nat.le_of_ble_eq_true rfl)) dX9_couldExempt_25 ⟨Nat.zero_le _, Nat.zero_le _⟩) ?_
    refine lv_istore (lv' := [(4, .int (fm_pick (fm_wl (M 1) nc (nI t) 0 1 9) 0)), (3, .int 0), (2, .int (fm_t (M 1) 0 t)), (0, .ref (b 0)), (1, .int (nI t))]) hx hb dX9_couldExempt_28 hl (by decide) rfl (fun ls hl => ?_)
    refine fz_loop (σ := Nat × Int32 × Int32) (pc := 30) (nL := 5) (fun x9 => match x9 with | (u, fr, v) => [(0, .ref (b 0)), (1, .int (nI t)), (2, .int fr), (3, .int (nI u)), (4, .int v)]) (fun x9 => match x9 with | (u, fr, v) => (u ≤ (fm_wl (M 1) nc (nI t) 0 1 9).length) ∧ (v = fm_pick (fm_wl (M 1) nc (nI t) 0 1 9) u) ∧ (fm_cx (M 1) ((fm_wl (M 1) nc (nI t) 0 1 9).drop u) fr u = fm_xc (M 1) nc nl t)) (fun x9 => match x9 with | (u, fr, v) => (fm_wl (M 1) nc (nI t) 0 1 9).length - u) ?_ (0, fm_t (M 1) 0 t, fm_pick (fm_wl (M 1) nc (nI t) 0 1 9) 0) (show (0 ≤ (fm_wl (M 1) nc (nI t) 0 1 9).length) ∧ ((fm_pick (fm_wl (M 1) nc (nI t) 0 1 9) 0) = fm_pick (fm_wl (M 1) nc (nI t) 0 1 9) 0) ∧ (fm_cx (M 1) ((fm_wl (M 1) nc (nI t) 0 1 9).drop 0) (fm_t (M 1) 0 t) 0 = fm_xc (M 1) nc nl t) from ⟨(Nat.zero_le _), rfl, (by rw [fm_xc, c_1]; rfl)⟩) ls (lv_sub hl [3, 4, 2, 1, 0] rfl)
    rintro ⟨u, fr, v⟩ ⟨hu, ev, eX⟩ ih30 ls hl
    have hu : u ≤ (fm_wl (M 1) nc (nI t) 0 1 9).length := hu
    have ev : v = fm_pick (fm_wl (M 1) nc (nI t) 0 1 9) u := ev
    have eX : fm_cx (M 1) ((fm_wl (M 1) nc (nI t) 0 1 9).drop u) fr u = fm_xc (M 1) nc nl t := eX
    have hl : lv_has ls 5 [(0, .ref (b 0)), (1, .int (nI t)), (2, .int fr), (3, .int (nI u)), (4, .int v)] := hl
    have hL := Nat.le_trans (fm_wl_len (N := M 1) (nc := nc) (x := nI t) (s := 0) 9 1) (Nat.mul_le_mul_left 9 hnc30)
    refine lv_iload hx hb dX9_couldExempt_30 (lv_at hl 4 rfl) ?_
    refine lv_iconst (v := (-1)) hx hb dX9_couldExempt_32 (by decide) ?_
    refine lv_icmp_eq (tgt := 71) hx hb dX9_couldExempt_33 (by decide) (fun c_2 => ?_) (fun c_2 => ?_)
    · skip
      refine lv_iload_n hx hb dX9_couldExempt_71 rfl (lv_at hl 3 rfl) ?_
      exact W.iret (v := (nI u)) hx hb hr (fun t9 ht9 hW9 => ⟨_, rfl, (by show nI u = fm_xc (M 1) nc nl t; rw [← eX, fm_pick_nil (fun c hc => Nat.lt_of_lt_of_le (fm_wl_lt hc) hnc30) (ev.symm.trans c_2), fm_cx]), ht9⟩) (fun _ h => nomatch h) dX9_couldExempt_72
    · skip
      obtain ⟨q, hqm, eq1, eq2⟩ := (fm_pick_get (fm_wl (M 1) nc (nI t) 0 1 9) u).resolve_left (fun z => c_2 (ev.trans z.1))
      have hq := fm_wl_lt hqm
      have evq := ev.trans eq1
      have hul : u < (fm_wl (M 1) nc (nI t) 0 1 9).length := Nat.lt_of_not_le fun z => by rw [List.drop_eq_nil_of_le z] at eq2; exact absurd eq2 (List.cons_ne_nil _ _).symm
      rw [eq2, fm_cx] at eX
      refine lv_iload_n hx hb dX9_couldExempt_36 rfl (lv_at hl 2 rfl) ?_
      refine lv_aload_n hx hb dX9_couldExempt_37 rfl (lv_at hl 0 rfl) ?_
      refine lv_aload_n hx hb dX9_couldExempt_38 rfl (lv_at hl 0 rfl) ?_
      refine lv_iload hx hb dX9_couldExempt_39 (lv_at hl 4 rfl) ?_
      refine lv_iconst (v := 1) hx hb dX9_couldExempt_41 (by decide) ?_
      refine fz_at1 (show v = nI q from evq) ?_
      refine fz_retR (va_runV (As := [.int (nI q), .int (nI 1)]) (rest := [.ref (b 0), .int fr]) ⟨hx, hb, hml, hown, hts⟩ (c_X9_told l D cy b M h q 1 (by omega) (by omega)) (cwV 2 hts gX9_couldExempt_X9_told rfl rfl rfl (by decide +kernel) ⟨Nat.le_of_ble_eq_true rfl, Nat.le_of_ble_eq_true rfl⟩) (fz_preV (ci := 7) (q0 := 0) hK hP rfl rfl rfl fz_T_bl (fun _ _ _ => trivial)) rfl rfl hl.1 rfl (lv_room (Nat.le_of_ble_eq_true rfl)) dX9_couldExempt_42 ⟨Nat.zero_le _, Nat.zero_le _⟩) ?_
      refine fz_retR (va_runV (As := [.int (fm_c (M 1) 1 q)]) (rest := [.int fr]) ⟨hx, hb, hml, hown, hts⟩ (c_X9_price l D cy b M h (fm_c (M 1) 1 q)) (cwV 1 hts gX9_couldExempt_X9_price rfl rfl rfl (by decide +kernel) ⟨Nat.le_of_ble_eq_true rfl, Nat.le_of_ble_eq_true rfl⟩) (fz_preV (ci := 7) (q0 := 0) hK hP rfl rfl rfl fz_T_bl (fun _ _ _ => trivial)) rfl rfl hl.1 rfl (lv_room (Nat.le_of_ble_eq_true rfl)) dX9_couldExempt_45 ⟨Nat.zero_le _, Nat.zero_le _⟩) ?_
      refine lv_isub hx hb dX9_couldExempt_48 ?_
      refine lv_istore_n (lv' := [(2, .int (fr - ((fm_c (M 1) 1 q) * M 1 4))), (0, .ref (b 0)), (1, .int (nI t)), (3, .int (nI u)), (4, .int v)]) hx hb dX9_couldExempt_49 rfl hl (by decide) rfl (fun ls hl => ?_)
      refine lv_iload_n hx hb dX9_couldExempt_50 rfl (lv_at hl 0 rfl) ?_
      refine lv_if_ge (tgt := 56) hx hb dX9_couldExempt_51 (by decide) (fun c_3 => ?_) (fun c_3 => ?_)
      · skip
        refine lv_iinc (v := nI (u + 1)) (lv' := [(3, .int (nI (u + 1))), (2, .int (fr - ((fm_c (M 1) 1 q) * M 1 4))), (0, .ref (b 0)), (1, .int (nI t)), (4, .int v)]) hx hb dX9_couldExempt_56 hl (k := 3) rfl (fz_inc rfl) (by decide) rfl (fun ls hl => ?_)
        refine lv_aload_n hx hb dX9_couldExempt_59 rfl (lv_at hl 2 rfl) ?_
        refine lv_iload_n hx hb dX9_couldExempt_60 rfl (lv_at hl 0 rfl) ?_
        refine lv_iload_n hx hb dX9_couldExempt_61 rfl (lv_at hl 3 rfl) ?_
        refine lv_iconst (v := 0) hx hb dX9_couldExempt_62 (by decide) ?_
        refine fz_retR (va_runV (As := [.int (nI (u + 1)), .int (nI t), .int 0]) (rest := []) ⟨hx, hb, hml, hown, hts⟩ (c_X9_waits l D cy b M h (u + 1) (by omega) (nI t) 0 nc hnc hnc30) (cwV 3 hts gX9_couldExempt_X9_waits rfl rfl rfl (by decide +kernel) ⟨Nat.le_of_ble_eq_true rfl, Nat.le_of_ble_eq_true rfl⟩) (fz_preV (ci := 7) (q0 := 0) hK hP rfl rfl rfl fz_T_bl (fun _ _ _ => trivial)) rfl rfl hl.1 rfl (lv_room (Nat.le_of_ble_eq_true rfl)) dX9_couldExempt_63 ⟨Nat.zero_le _, Nat.zero_le _⟩) ?_
        refine lv_istore (lv' := [(4, .int (fm_pick (fm_wl (M 1) nc (nI t) 0 1 9) (u + 1))), (3, .int (nI (u + 1))), (2, .int (fr - ((fm_c (M 1) 1 q) * M 1 4))), (0, .ref (b 0)), (1, .int (nI t))]) hx hb dX9_couldExempt_66 hl (by decide) rfl (fun ls hl => ?_)
        refine lv_goto (tgt := 30) hx hb dX9_couldExempt_68 (by decide) ?_
        exact ih30 (u + 1, fr - ((fm_c (M 1) 1 q) * M 1 4), fm_pick (fm_wl (M 1) nc (nI t) 0 1 9) (u + 1)) (show ((u + 1) ≤ (fm_wl (M 1) nc (nI t) 0 1 9).length) ∧ ((fm_pick (fm_wl (M 1) nc (nI t) 0 1 9) (u + 1)) = fm_pick (fm_wl (M 1) nc (nI t) 0 1 9) (u + 1)) ∧ (fm_cx (M 1) ((fm_wl (M 1) nc (nI t) 0 1 9).drop (u + 1)) (fr - ((fm_c (M 1) 1 q) * M 1 4)) (u + 1) = fm_xc (M 1) nc nl t) from ⟨(by omega), rfl, (by rw [if_pos c_3] at eX; exact eX)⟩) (by show (fm_wl (M 1) nc (nI t) 0 1 9).length - (u + 1) < (fm_wl (M 1) nc (nI t) 0 1 9).length - u; omega) ls (lv_sub hl [3, 4, 2, 1, 0] rfl)
      · skip
        refine lv_iload_n hx hb dX9_couldExempt_54 rfl (lv_at hl 3 rfl) ?_
        exact W.iret (v := (nI u)) hx hb hr (fun t9 ht9 hW9 => ⟨_, rfl, (by rw [if_neg c_3] at eX; exact eX), ht9⟩) (fun _ h => nomatch h) dX9_couldExempt_55
  · skip
    refine lv_iconst (v := (-1)) hx hb dX9_couldExempt_8 (by decide) ?_
    refine lv_goto (tgt := 18) hx hb dX9_couldExempt_9 (by decide) ?_
    refine lv_istore_n (lv' := [(2, .int (-1)), (0, .ref (b 0)), (1, .int (nI t))]) hx hb dX9_couldExempt_18 rfl hl (by decide) rfl (fun ls hl => ?_)
    refine lv_iconst (v := 0) hx hb dX9_couldExempt_19 (by decide) ?_
    refine lv_istore_n (lv' := [(3, .int 0), (2, .int (-1)), (0, .ref (b 0)), (1, .int (nI t))]) hx hb dX9_couldExempt_20 rfl hl (by decide) rfl (fun ls hl => ?_)
    refine lv_aload_n hx hb dX9_couldExempt_21 rfl (lv_at hl 2 rfl) ?_
    refine lv_iconst (v := 0) hx hb dX9_couldExempt_22 (by decide) ?_
    refine lv_iload_n hx hb dX9_couldExempt_23 rfl (lv_at hl 3 rfl) ?_
    refine lv_iconst (v := 0) hx hb dX9_couldExempt_24 (by decide) ?_
    refine fz_retR (va_runV (As := [.int (nI 0), .int (nI t), .int 0]) (rest := []) ⟨hx, hb, hml, hown, hts⟩ (c_X9_waits l D cy b M h 0 (by omega) (nI t) 0 nc hnc hnc30) (cwV 3 hts gX9_couldExempt_X9_waits rfl rfl rfl (by decide +kernel) ⟨Nat.le_of_ble_eq_true rfl, Nat.le_of_ble_eq_true rfl⟩) (fz_preV (ci := 7) (q0 := 0) hK hP rfl rfl rfl fz_T_bl (fun _ _ _ => trivial)) rfl rfl hl.1 rfl (lv_room (Nat.le_of_ble_eq_true rfl)) dX9_couldExempt_25 ⟨Nat.zero_le _, Nat.zero_le _⟩) ?_
    refine lv_istore (lv' := [(4, .int (fm_pick (fm_wl (M 1) nc (nI t) 0 1 9) 0)), (3, .int 0), (2, .int (-1)), (0, .ref (b 0)), (1, .int (nI t))]) hx hb dX9_couldExempt_28 hl (by decide) rfl (fun ls hl => ?_)
    refine fz_loop (σ := Nat × Int32 × Int32) (pc := 30) (nL := 5) (fun x9 => match x9 with | (u, fr, v) => [(0, .ref (b 0)), (1, .int (nI t)), (2, .int fr), (3, .int (nI u)), (4, .int v)]) (fun x9 => match x9 with | (u, fr, v) => (u ≤ (fm_wl (M 1) nc (nI t) 0 1 9).length) ∧ (v = fm_pick (fm_wl (M 1) nc (nI t) 0 1 9) u) ∧ (fm_cx (M 1) ((fm_wl (M 1) nc (nI t) 0 1 9).drop u) fr u = fm_xc (M 1) nc nl t)) (fun x9 => match x9 with | (u, fr, v) => (fm_wl (M 1) nc (nI t) 0 1 9).length - u) ?_ (0, (-1), fm_pick (fm_wl (M 1) nc (nI t) 0 1 9) 0) (show (0 ≤ (fm_wl (M 1) nc (nI t) 0 1 9).length) ∧ ((fm_pick (fm_wl (M 1) nc (nI t) 0 1 9) 0) = fm_pick (fm_wl (M 1) nc (nI t) 0 1 9) 0) ∧ (fm_cx (M 1) ((fm_wl (M 1) nc (nI t) 0 1 9).drop 0) (-1) 0 = fm_xc (M 1) nc nl t) from ⟨(Nat.zero_le _), rfl, (by rw [fm_xc, c_1]; rfl)⟩) ls (lv_sub hl [3, 4, 2, 1, 0] rfl)
    rintro ⟨u, fr, v⟩ ⟨hu, ev, eX⟩ ih30 ls hl
    have hu : u ≤ (fm_wl (M 1) nc (nI t) 0 1 9).length := hu
    have ev : v = fm_pick (fm_wl (M 1) nc (nI t) 0 1 9) u := ev
    have eX : fm_cx (M 1) ((fm_wl (M 1) nc (nI t) 0 1 9).drop u) fr u = fm_xc (M 1) nc nl t := eX
    have hl : lv_has ls 5 [(0, .ref (b 0)), (1, .int (nI t)), (2, .int fr), (3, .int (nI u)), (4, .int v)] := hl
    have hL := Nat.le_trans (fm_wl_len (N := M 1) (nc := nc) (x := nI t) (s := 0) 9 1) (Nat.mul_le_mul_left 9 hnc30)
    refine lv_iload hx hb dX9_couldExempt_30 (lv_at hl 4 rfl) ?_
    refine lv_iconst (v := (-1)) hx hb dX9_couldExempt_32 (by decide) ?_
    refine lv_icmp_eq (tgt := 71) hx hb dX9_couldExempt_33 (by decide) (fun c_4 => ?_) (fun c_4 => ?_)
    · skip
      refine lv_iload_n hx hb dX9_couldExempt_71 rfl (lv_at hl 3 rfl) ?_
      exact W.iret (v := (nI u)) hx hb hr (fun t9 ht9 hW9 => ⟨_, rfl, (by show nI u = fm_xc (M 1) nc nl t; rw [← eX, fm_pick_nil (fun c hc => Nat.lt_of_lt_of_le (fm_wl_lt hc) hnc30) (ev.symm.trans c_4), fm_cx]), ht9⟩) (fun _ h => nomatch h) dX9_couldExempt_72
    · skip
      obtain ⟨q, hqm, eq1, eq2⟩ := (fm_pick_get (fm_wl (M 1) nc (nI t) 0 1 9) u).resolve_left (fun z => c_4 (ev.trans z.1))
      have hq := fm_wl_lt hqm
      have evq := ev.trans eq1
      have hul : u < (fm_wl (M 1) nc (nI t) 0 1 9).length := Nat.lt_of_not_le fun z => by rw [List.drop_eq_nil_of_le z] at eq2; exact absurd eq2 (List.cons_ne_nil _ _).symm
      rw [eq2, fm_cx] at eX
      refine lv_iload_n hx hb dX9_couldExempt_36 rfl (lv_at hl 2 rfl) ?_
      refine lv_aload_n hx hb dX9_couldExempt_37 rfl (lv_at hl 0 rfl) ?_
      refine lv_aload_n hx hb dX9_couldExempt_38 rfl (lv_at hl 0 rfl) ?_
      refine lv_iload hx hb dX9_couldExempt_39 (lv_at hl 4 rfl) ?_
      refine lv_iconst (v := 1) hx hb dX9_couldExempt_41 (by decide) ?_
      refine fz_at1 (show v = nI q from evq) ?_
      refine fz_retR (va_runV (As := [.int (nI q), .int (nI 1)]) (rest := [.ref (b 0), .int fr]) ⟨hx, hb, hml, hown, hts⟩ (c_X9_told l D cy b M h q 1 (by omega) (by omega)) (cwV 2 hts gX9_couldExempt_X9_told rfl rfl rfl (by decide +kernel) ⟨Nat.le_of_ble_eq_true rfl, Nat.le_of_ble_eq_true rfl⟩) (fz_preV (ci := 7) (q0 := 0) hK hP rfl rfl rfl fz_T_bl (fun _ _ _ => trivial)) rfl rfl hl.1 rfl (lv_room (Nat.le_of_ble_eq_true rfl)) dX9_couldExempt_42 ⟨Nat.zero_le _, Nat.zero_le _⟩) ?_
      refine fz_retR (va_runV (As := [.int (fm_c (M 1) 1 q)]) (rest := [.int fr]) ⟨hx, hb, hml, hown, hts⟩ (c_X9_price l D cy b M h (fm_c (M 1) 1 q)) (cwV 1 hts gX9_couldExempt_X9_price rfl rfl rfl (by decide +kernel) ⟨Nat.le_of_ble_eq_true rfl, Nat.le_of_ble_eq_true rfl⟩) (fz_preV (ci := 7) (q0 := 0) hK hP rfl rfl rfl fz_T_bl (fun _ _ _ => trivial)) rfl rfl hl.1 rfl (lv_room (Nat.le_of_ble_eq_true rfl)) dX9_couldExempt_45 ⟨Nat.zero_le _, Nat.zero_le _⟩) ?_
      refine lv_isub hx hb dX9_couldExempt_48 ?_
      refine lv_istore_n (lv' := [(2, .int (fr - ((fm_c (M 1) 1 q) * M 1 4))), (0, .ref (b 0)), (1, .int (nI t)), (3, .int (nI u)), (4, .int v)]) hx hb dX9_couldExempt_49 rfl hl (by decide) rfl (fun ls hl => ?_)
      refine lv_iload_n hx hb dX9_couldExempt_50 rfl (lv_at hl 0 rfl) ?_
      refine lv_if_ge (tgt := 56) hx hb dX9_couldExempt_51 (by decide) (fun c_5 => ?_) (fun c_5 => ?_)
      · skip
        refine lv_iinc (v := nI (u + 1)) (lv' := [(3, .int (nI (u + 1))), (2, .int (fr - ((fm_c (M 1) 1 q) * M 1 4))), (0, .ref (b 0)), (1, .int (nI t)), (4, .int v)]) hx hb dX9_couldExempt_56 hl (k := 3) rfl (fz_inc rfl) (by decide) rfl (fun ls hl => ?_)
        refine lv_aload_n hx hb dX9_couldExempt_59 rfl (lv_at hl 2 rfl) ?_
        refine lv_iload_n hx hb dX9_couldExempt_60 rfl (lv_at hl 0 rfl) ?_
        refine lv_iload_n hx hb dX9_couldExempt_61 rfl (lv_at hl 3 rfl) ?_
        refine lv_iconst (v := 0) hx hb dX9_couldExempt_62 (by decide) ?_
        refine fz_retR (va_runV (As := [.int (nI (u + 1)), .int (nI t), .int 0]) (rest := []) ⟨hx, hb, hml, hown, hts⟩ (c_X9_waits l D cy b M h (u + 1) (by omega) (nI t) 0 nc hnc hnc30) (cwV 3 hts gX9_couldExempt_X9_waits rfl rfl rfl (by decide +kernel) ⟨Nat.le_of_ble_eq_true rfl, Nat.le_of_ble_eq_true rfl⟩) (fz_preV (ci := 7) (q0 := 0) hK hP rfl rfl rfl fz_T_bl (fun _ _ _ => trivial)) rfl rfl hl.1 rfl (lv_room (Nat.le_of_ble_eq_true rfl)) dX9_couldExempt_63 ⟨Nat.zero_le _, Nat.zero_le _⟩) ?_
        refine lv_istore (lv' := [(4, .int (fm_pick (fm_wl (M 1) nc (nI t) 0 1 9) (u + 1))), (3, .int (nI (u + 1))), (2, .int (fr - ((fm_c (M 1) 1 q) * M 1 4))), (0, .ref (b 0)), (1, .int (nI t))]) hx hb dX9_couldExempt_66 hl (by decide) rfl (fun ls hl => ?_)
        refine lv_goto (tgt := 30) hx hb dX9_couldExempt_68 (by decide) ?_
        exact ih30 (u + 1, fr - ((fm_c (M 1) 1 q) * M 1 4), fm_pick (fm_wl (M 1) nc (nI t) 0 1 9) (u + 1)) (show ((u + 1) ≤ (fm_wl (M 1) nc (nI t) 0 1 9).length) ∧ ((fm_pick (fm_wl (M 1) nc (nI t) 0 1 9) (u + 1)) = fm_pick (fm_wl (M 1) nc (nI t) 0 1 9) (u + 1)) ∧ (fm_cx (M 1) ((fm_wl (M 1) nc (nI t) 0 1 9).drop (u + 1)) (fr - ((fm_c (M 1) 1 q) * M 1 4)) (u + 1) = fm_xc (M 1) nc nl t) from ⟨(by omega), rfl, (by rw [if_pos c_5] at eX; exact eX)⟩) (by show (fm_wl (M 1) nc (nI t) 0 1 9).length - (u + 1) < (fm_wl (M 1) nc (nI t) 0 1 9).length - u; omega) ls (lv_sub hl [3, 4, 2, 1, 0] rfl)
      · skip
        refine lv_iload_n hx hb dX9_couldExempt_54 rfl (lv_at hl 3 rfl) ?_
        exact W.iret (v := (nI u)) hx hb hr (fun t9 ht9 hW9 => ⟨_, rfl, (by rw [if_neg c_5] at eX; exact eX), ht9⟩) (fun _ h => nomatch h) dX9_couldExempt_55
set_option maxHeartbeats 4000000 in
set_option maxRecDepth 100000 in
/-- the model: exemptible -/
theorem c_X9_exemptible (l : Launch) (D : va_G) (cy : Nat → ClassId) (b : Nat → Nat) (M : Nat → Nat → Int32) (h : Int64) (nt nc nl wk : Nat) (wf : fm_wf (M 1) nt nc nl wk) (x : Int32) : fz_MI l yX9_exemptible wsX9_exemptible 3 72 D cy [.ref (b 0), .int x] (MW cy b M h) fz_T ((fm_qxc M nc nl x).1) (MW cy b ((fm_qxc M nc nl x).2) h) := by
  refine Met.ofW (cc := cX9_exemptible) (maxL := 2) (ret := (some .int)) (by decide) rfl ?_
  intro p e s m args below meth c s₁ B hml hv
  obtain ⟨rfl, hP, hK, hD0, hE⟩ := hv
  have hx := B.exec
  have hb := B.bytes
  have hr := B.returns
  have hts := atoms_spec (ws := wsX9_exemptible) B.pre
  have hown : s.vm.findClass RX9 = some m.cls := findClass_of_methodNamed B.named
  have hlocks := B.notSynchronized
  have hD := fz_self hD0
  generalize hAe : fz_in (MW cy b M h) = A at hD ⊢
  have hS : va_S A s.heap s.heap [] := va_S.rf
  have hl := lv_entry ([.ref (b 0), .int x]) (n := 2) (Nat.le_of_ble_eq_true rfl)
  rw [lg_entry_eq]
  generalize (lg_sl ([.ref (b 0), .int x]) ++ List.replicate (2 - (lg_sl ([.ref (b 0), .int x])).length) Slot.unset).toArray = ls at hl ⊢
  have hl : lv_has ls 2 [(0, .ref (b 0)), (1, .int x)] := hl
  obtain ⟨hnt, hnt6, hnc, hnc30, hnl, hnl12, hwk, hwk39, hT, hG, hB, hZo⟩ := id wf
  refine lv_aload_n hx hb dX9_exemptible_0 rfl (lv_at hl 0 rfl) ?_
  refine lv_iload_n hx hb dX9_exemptible_1 rfl (lv_at hl 1 rfl) ?_
  refine fz_retR (va_runV (As := [.int x]) (rest := []) ⟨hx, hb, hml, hown, hts⟩ (c_X9_isTeam l D cy b M h x nt hnt (by omega)) (cwV 1 hts gX9_exemptible_X9_isTeam rfl rfl rfl (by decide +kernel) ⟨Nat.le_of_ble_eq_true rfl, Nat.le_of_ble_eq_true rfl⟩) (fz_preV (ci := 7) (q0 := 0) hK hP rfl rfl rfl fz_T_bl (fun _ _ _ => trivial)) rfl rfl hl.1 rfl (lv_room (Nat.le_of_ble_eq_true rfl)) dX9_exemptible_2 ⟨Nat.zero_le _, Nat.zero_le _⟩) ?_
  refine fz_ifeqB (tgt := 20) hx hb dX9_exemptible_5 (by decide) (fun c_1 => ?_) (fun c_1 => ?_)
  · skip
    refine lv_aload_n hx hb dX9_exemptible_20 rfl (lv_at hl 0 rfl) ?_
    refine lv_iconst (v := 1) hx hb dX9_exemptible_21 (by decide) ?_
    refine fz_retM (ws' := ME cy b (M 0 0) (M 0 1) 1 (M 0 3) (M 0 4) (M 0 5) (M 0 6) (M 1) (M 2) (M 3) (M 4) (M 5) h) (va_runV (As := [.int 1]) (rest := []) ⟨hx, hb, hml, hown, hts⟩ (c_X9_fails l D cy b M h 1) (cwV 1 hts gX9_exemptible_X9_fails rfl rfl rfl (by decide +kernel) ⟨Nat.le_of_ble_eq_true rfl, Nat.le_of_ble_eq_true rfl⟩) (fz_preMV (ci := 7) (q0 := 0) hK hP hD rfl rfl rfl fz_T_bl (fun _ _ _ => trivial)) rfl rfl hl.1 rfl (lv_room (Nat.le_of_ble_eq_true rfl)) dX9_exemptible_22 ⟨Nat.zero_le _, Nat.zero_le _⟩) hP hD hS [0, 1, 2, 3, 4, 5] [] rfl rfl [true, true, true, true, true, true] (And.intro rfl (And.intro rfl (And.intro rfl (And.intro rfl (And.intro rfl (And.intro rfl trivial)))))) rfl rfl (fun H locs hP hD hS => ?_)
    have hP : va_P D vwCl (ME cy b (M 0 0) (M 0 1) 1 (M 0 3) (M 0 4) (M 0 5) (M 0 6) (M 1) (M 2) (M 3) (M 4) (M 5) h) H := hP
    have hD : va_D A (ME cy b (M 0 0) (M 0 1) 1 (M 0 3) (M 0 4) (M 0 5) (M 0 6) (M 1) (M 2) (M 3) (M 4) (M 5) h) := hD
    refine fz_top (show _ = 0 from rfl) ?_
    have eF : fm_qxc M nc nl x = (0, fz_up M 0 (upd (M 0) 2 1)) := by simp only [fm_qxc, c_1, ↓reduceIte, Bool.false_eq_true]
    exact W.iret (v := 0) hx hb hr (fun t9 ht9 hW9 => ⟨⟨_, (), rfl, (by rw [eF] <;> rfl), fz_to ht9 (by rw [eF]; exact hP)⟩, hS.F ht9⟩) hS.2.2 dX9_exemptible_25
  · skip
    obtain ⟨z, hz, ez⟩ := fz_ix_t (by omega) (show fz_ix x (nI nt) = true by rw [← hnt]; exact c_1)
    have ez' := fz_tnat ez (by omega)
    refine lv_aload_n hx hb dX9_exemptible_8 rfl (lv_at hl 0 rfl) ?_
    refine lv_aload_n hx hb dX9_exemptible_9 rfl (lv_at hl 0 rfl) ?_
    refine lv_iload_n hx hb dX9_exemptible_10 rfl (lv_at hl 1 rfl) ?_
    refine fz_at0 (show x = nI z from ez) ?_
    refine fz_retR (va_runV (As := [.int (nI z)]) (rest := [.ref (b 0)]) ⟨hx, hb, hml, hown, hts⟩ (c_X9_couldExempt l D cy b M h nt nc nl wk wf z hz) (cwV 1 hts gX9_exemptible_X9_couldExempt rfl rfl rfl (by decide +kernel) ⟨Nat.le_of_ble_eq_true rfl, Nat.le_of_ble_eq_true rfl⟩) (fz_preV (ci := 7) (q0 := 0) hK hP rfl rfl rfl fz_T_bl (fun _ _ _ => trivial)) rfl rfl hl.1 rfl (lv_room (Nat.le_of_ble_eq_true rfl)) dX9_exemptible_11 ⟨Nat.zero_le _, Nat.zero_le _⟩) ?_
    refine fz_retM (ws' := ME cy b (M 0 0) (M 0 1) 0 (M 0 3) (M 0 4) (M 0 5) (M 0 6) (M 1) (M 2) (M 3) (M 4) (M 5) h) (va_runV (As := [.int (fm_xc (M 1) nc nl z)]) (rest := []) ⟨hx, hb, hml, hown, hts⟩ (c_X9_well l D cy b M h (fm_xc (M 1) nc nl z)) (cwV 1 hts gX9_exemptible_X9_well rfl rfl rfl (by decide +kernel) ⟨Nat.le_of_ble_eq_true rfl, Nat.le_of_ble_eq_true rfl⟩) (fz_preMV (ci := 7) (q0 := 0) hK hP hD rfl rfl rfl fz_T_bl (fun _ _ _ => trivial)) rfl rfl hl.1 rfl (lv_room (Nat.le_of_ble_eq_true rfl)) dX9_exemptible_14 ⟨Nat.zero_le _, Nat.zero_le _⟩) hP hD hS [0, 1, 2, 3, 4, 5] [] rfl rfl [true, true, true, true, true, true] (And.intro rfl (And.intro rfl (And.intro rfl (And.intro rfl (And.intro rfl (And.intro rfl trivial)))))) rfl rfl (fun H locs hP hD hS => ?_)
    have hP : va_P D vwCl (ME cy b (M 0 0) (M 0 1) 0 (M 0 3) (M 0 4) (M 0 5) (M 0 6) (M 1) (M 2) (M 3) (M 4) (M 5) h) H := hP
    have hD : va_D A (ME cy b (M 0 0) (M 0 1) 0 (M 0 3) (M 0 4) (M 0 5) (M 0 6) (M 1) (M 2) (M 3) (M 4) (M 5) h) := hD
    refine fz_top (show _ = (fm_xc (M 1) nc nl z) from rfl) ?_
    refine lv_goto (tgt := 25) hx hb dX9_exemptible_17 (by decide) ?_
    have eF : fm_qxc M nc nl x = ((fm_xc (M 1) nc nl z), fz_up M 0 (upd (M 0) 2 0)) := by simp only [fm_qxc, c_1, ez', ↓reduceIte, Bool.false_eq_true]
    exact W.iret (v := (fm_xc (M 1) nc nl z)) hx hb hr (fun t9 ht9 hW9 => ⟨⟨_, (), rfl, (by rw [eF] <;> rfl), fz_to ht9 (by rw [eF]; exact hP)⟩, hS.F ht9⟩) hS.2.2 dX9_exemptible_25
set_option maxHeartbeats 4000000 in
set_option maxRecDepth 100000 in
/-- the model: helps -/
theorem c_X9_helps (l : Launch) (D : va_G) (cy : Nat → ClassId) (b : Nat → Nat) (M : Nat → Nat → Int32) (h : Int64) (t en : Int32) (nt : Nat) (hnt : M 1 1 = nI nt) (hnt6 : nt ≤ 6) : fz_RI l yX9_helps wsX9_helps 1 22 D cy [.ref (b 0), .int t, .int en] (MW cy b M h) fz_T (fz_rich (fm_t (M 1) 0) t en nt) := by
  refine Met.ofW (cc := cX9_helps) (maxL := 6) (ret := (some .int)) (by decide) rfl ?_
  intro p e s m args below meth c s₁ B hml hv
  obtain ⟨rfl, hP, hK, hE⟩ := hv
  have hx := B.exec
  have hb := B.bytes
  have hr := B.returns
  have hts := atoms_spec (ws := wsX9_helps) B.pre
  have hown : s.vm.findClass RX9 = some m.cls := findClass_of_methodNamed B.named
  have hlocks := B.notSynchronized
  have hl := lv_entry ([.ref (b 0), .int t, .int en]) (n := 6) (Nat.le_of_ble_eq_true rfl)
  rw [lg_entry_eq]
  generalize (lg_sl ([.ref (b 0), .int t, .int en]) ++ List.replicate (6 - (lg_sl ([.ref (b 0), .int t, .int en])).length) Slot.unset).toArray = ls at hl ⊢
  have hl : lv_has ls 6 [(0, .ref (b 0)), (1, .int t), (2, .int en)] := hl
  have k_7 := hts (.fieldLink RX9 7 "FreezeCreditsModel" "now" "[I") (by decide +kernel)
  have inX9 : ∀ w ∈ u_ws RX9 TX9 13, w ∈ wsX9_helps := by decide +kernel
  refine lv_iconst (v := (-1)) hx hb dX9_helps_0 (by decide) ?_
  refine lv_istore_n (lv' := [(3, .int (-1)), (0, .ref (b 0)), (1, .int t), (2, .int en)]) hx hb dX9_helps_1 rfl hl (by decide) rfl (fun ls hl => ?_)
  refine lv_iconst (v := 0) hx hb dX9_helps_2 (by decide) ?_
  refine lv_istore (lv' := [(4, .int 0), (3, .int (-1)), (0, .ref (b 0)), (1, .int t), (2, .int en)]) hx hb dX9_helps_3 hl (by decide) rfl (fun ls hl => ?_)
  refine fz_loop (σ := Nat × Int32) (pc := 5) (nL := 6) (fun x9 => match x9 with | (k, r) => [(0, .ref (b 0)), (1, .int t), (2, .int en), (3, .int r), (4, .int (nI k))]) (fun x9 => match x9 with | (k, r) => (k ≤ nt) ∧ (r = fz_rich (fm_t (M 1) 0) t en k)) (fun x9 => match x9 with | (k, r) => nt - k) ?_ (0, (-1)) (show (0 ≤ nt) ∧ ((-1) = fz_rich (fm_t (M 1) 0) t en 0) from ⟨(by omega), rfl⟩) ls (lv_sub hl [2, 3, 4, 1, 0] rfl)
  rintro ⟨k, r⟩ ⟨hk, er⟩ ih5 ls hl
  have hk : k ≤ nt := hk
  have er : r = fz_rich (fm_t (M 1) 0) t en k := er
  have hl : lv_has ls 6 [(0, .ref (b 0)), (1, .int t), (2, .int en), (3, .int r), (4, .int (nI k))] := hl
  refine lv_iload hx hb dX9_helps_5 (lv_at hl 4 rfl) ?_
  refine lv_aload_n hx hb dX9_helps_7 rfl (lv_at hl 0 rfl) ?_
  refine va_get (D := D) (ci := 7) (v := .ref (b 1)) (C := RX9) (T := TX9) (N := 13) hx hb hts inX9 hown hK hP 0 rfl rfl 0 (by decide) k_7 (fun _ h9 => h9) rfl dX9_helps_8 ?_
  refine lv_iconst (v := 1) hx hb dX9_helps_11 (by decide) ?_
  refine fz_iald (f := M 1) hx hb hK hP 1 0 rfl rfl 1 rfl (by omega) (by decide) dX9_helps_12 ?_
  refine fz_geN (tgt := 79) hx hb k nt rfl hnt dX9_helps_13 (by decide) (by omega) (by omega) (fun c_1 => ?_) (fun c_1 => ?_)
  · skip
    refine lv_iload_n hx hb dX9_helps_79 rfl (lv_at hl 3 rfl) ?_
    exact W.iret (v := r) hx hb hr (fun t9 ht9 hW9 => ⟨_, rfl, (by rw [er, show k = nt by omega]), ht9⟩) (fun _ h => nomatch h) dX9_helps_80
  · skip
    refine lv_iload hx hb dX9_helps_16 (lv_at hl 4 rfl) ?_
    refine lv_iload_n hx hb dX9_helps_18 rfl (lv_at hl 1 rfl) ?_
    refine lv_icmp_eq (tgt := 37) hx hb dX9_helps_19 (by decide) (fun c_2 => ?_) (fun c_2 => ?_)
    · skip
      refine lv_iconst (v := 0) hx hb dX9_helps_37 (by decide) ?_
      refine lv_istore (lv' := [(5, .int 0), (0, .ref (b 0)), (1, .int t), (2, .int en), (3, .int r), (4, .int (nI k))]) hx hb dX9_helps_38 hl (by decide) rfl (fun ls hl => ?_)
      refine lv_iload hx hb dX9_helps_40 (lv_at hl 0 rfl) ?_
      refine lv_if_eq (tgt := 71) hx hb dX9_helps_42 (by decide) (fun c_3 => ?_) (fun c_3 => ?_)
      · skip
        refine lv_iload_n hx hb dX9_helps_71 rfl (lv_at hl 4 rfl) ?_
        refine lv_istore_n (lv' := [(3, .int r), (5, .int 0), (0, .ref (b 0)), (1, .int t), (2, .int en), (4, .int (nI k))]) hx hb dX9_helps_72 rfl hl (by decide) rfl (fun ls hl => ?_)
        refine lv_iinc (v := nI (k + 1)) (lv' := [(4, .int (nI (k + 1))), (3, .int r), (5, .int 0), (0, .ref (b 0)), (1, .int t), (2, .int en)]) hx hb dX9_helps_73 hl (k := 5) rfl (fz_inc rfl) (by decide) rfl (fun ls hl => ?_)
        refine lv_goto (tgt := 5) hx hb dX9_helps_76 (by decide) ?_
        exact ih5 (k + 1, r) (show ((k + 1) ≤ nt) ∧ (r = fz_rich (fm_t (M 1) 0) t en (k + 1)) from ⟨(by omega), (by simp [fz_rich, ← er, c_1, c_2])⟩) (by show nt - (k + 1) < nt - k; omega) ls (lv_sub hl [3, 4, 5, 1, 0] rfl)
      · exact absurd c_3 (by decide)
    · skip
      refine lv_aload_n hx hb dX9_helps_22 rfl (lv_at hl 0 rfl) ?_
      refine lv_iload hx hb dX9_helps_23 (lv_at hl 4 rfl) ?_
      refine lv_iconst (v := 0) hx hb dX9_helps_25 (by decide) ?_
      refine fz_retR (va_runV (As := [.int (nI k), .int (nI 0)]) (rest := []) ⟨hx, hb, hml, hown, hts⟩ (c_X9_of l D cy b M h k 0 (by omega) (by omega)) (cwV 2 hts gX9_helps_X9_of rfl rfl rfl (by decide +kernel) ⟨Nat.le_of_ble_eq_true rfl, Nat.le_of_ble_eq_true rfl⟩) (fz_preV (ci := 7) (q0 := 0) hK hP rfl rfl rfl fz_T_bl (fun _ _ _ => trivial)) rfl rfl hl.1 rfl (lv_room (Nat.le_of_ble_eq_true rfl)) dX9_helps_26 ⟨Nat.zero_le _, Nat.zero_le _⟩) ?_
      refine lv_iload_n hx hb dX9_helps_29 rfl (lv_at hl 2 rfl) ?_
      refine lv_icmp_lt (tgt := 37) hx hb dX9_helps_30 (by decide) (fun c_4 => ?_) (fun c_4 => ?_)
      · skip
        refine lv_iconst (v := 0) hx hb dX9_helps_37 (by decide) ?_
        refine lv_istore (lv' := [(5, .int 0), (0, .ref (b 0)), (1, .int t), (2, .int en), (3, .int r), (4, .int (nI k))]) hx hb dX9_helps_38 hl (by decide) rfl (fun ls hl => ?_)
        refine lv_iload hx hb dX9_helps_40 (lv_at hl 0 rfl) ?_
        refine lv_if_eq (tgt := 71) hx hb dX9_helps_42 (by decide) (fun c_5 => ?_) (fun c_5 => ?_)
        · skip
          refine lv_iload_n hx hb dX9_helps_71 rfl (lv_at hl 4 rfl) ?_
          refine lv_istore_n (lv' := [(3, .int r), (5, .int 0), (0, .ref (b 0)), (1, .int t), (2, .int en), (4, .int (nI k))]) hx hb dX9_helps_72 rfl hl (by decide) rfl (fun ls hl => ?_)
          refine lv_iinc (v := nI (k + 1)) (lv' := [(4, .int (nI (k + 1))), (3, .int r), (5, .int 0), (0, .ref (b 0)), (1, .int t), (2, .int en)]) hx hb dX9_helps_73 hl (k := 5) rfl (fz_inc rfl) (by decide) rfl (fun ls hl => ?_)
          refine lv_goto (tgt := 5) hx hb dX9_helps_76 (by decide) ?_
          exact ih5 (k + 1, r) (show ((k + 1) ≤ nt) ∧ (r = fz_rich (fm_t (M 1) 0) t en (k + 1)) from ⟨(by omega), (by simp [fz_rich, ← er, c_1, c_2, c_4])⟩) (by show nt - (k + 1) < nt - k; omega) ls (lv_sub hl [3, 4, 5, 1, 0] rfl)
        · exact absurd c_5 (by decide)
      · skip
        refine lv_iconst (v := 1) hx hb dX9_helps_33 (by decide) ?_
        refine lv_goto (tgt := 38) hx hb dX9_helps_34 (by decide) ?_
        refine lv_istore (lv' := [(5, .int 1), (0, .ref (b 0)), (1, .int t), (2, .int en), (3, .int r), (4, .int (nI k))]) hx hb dX9_helps_38 hl (by decide) rfl (fun ls hl => ?_)
        refine lv_iload hx hb dX9_helps_40 (lv_at hl 0 rfl) ?_
        refine lv_if_eq (tgt := 71) hx hb dX9_helps_42 (by decide) (fun c_6 => ?_) (fun c_6 => ?_)
        · exact absurd c_6 (by decide)
        · skip
          refine lv_iload_n hx hb dX9_helps_45 rfl (lv_at hl 4 rfl) ?_
          refine lv_iconst (v := (-1)) hx hb dX9_helps_46 (by decide) ?_
          refine lv_icmp_eq (tgt := 66) hx hb dX9_helps_47 (by decide) (fun c_7 => ?_) (fun c_7 => ?_)
          · skip
            refine lv_iload hx hb dX9_helps_66 (lv_at hl 5 rfl) ?_
            refine lv_goto (tgt := 72) hx hb dX9_helps_68 (by decide) ?_
            refine lv_istore_n (lv' := [(3, .int (nI k)), (5, .int 1), (0, .ref (b 0)), (1, .int t), (2, .int en), (4, .int (nI k))]) hx hb dX9_helps_72 rfl hl (by decide) rfl (fun ls hl => ?_)
            refine lv_iinc (v := nI (k + 1)) (lv' := [(4, .int (nI (k + 1))), (3, .int (nI k)), (5, .int 1), (0, .ref (b 0)), (1, .int t), (2, .int en)]) hx hb dX9_helps_73 hl (k := 5) rfl (fz_inc rfl) (by decide) rfl (fun ls hl => ?_)
            refine lv_goto (tgt := 5) hx hb dX9_helps_76 (by decide) ?_
            exact ih5 (k + 1, nI k) (show ((k + 1) ≤ nt) ∧ ((nI k) = fz_rich (fm_t (M 1) 0) t en (k + 1)) from ⟨(by omega), (by simp [fz_rich, ← er, c_1, c_2, c_4, c_7, (show (-1 : Int32) < 0 from by decide)])⟩) (by show nt - (k + 1) < nt - k; omega) ls (lv_sub hl [3, 4, 5, 1, 0] rfl)
          · skip
            obtain ⟨j, hj, ej⟩ := (fz_rich_or (fm_t (M 1) 0) t en k).resolve_left (fun z => c_7 (er.trans z))
            rw [← er] at ej
            have hn0 : ¬ r < 0 := by rw [ej]; exact nI_pos (by omega)
            have cl : r.toNatClampNeg = j := by rw [ej]; exact nI_clamp (by omega)
            refine lv_aload_n hx hb dX9_helps_50 rfl (lv_at hl 1 rfl) ?_
            refine lv_iload hx hb dX9_helps_51 (lv_at hl 5 rfl) ?_
            refine lv_iconst (v := 0) hx hb dX9_helps_53 (by decide) ?_
            refine fz_retR (va_runV (As := [.int (nI k), .int (nI 0)]) (rest := []) ⟨hx, hb, hml, hown, hts⟩ (c_X9_of l D cy b M h k 0 (by omega) (by omega)) (cwV 2 hts gX9_helps_X9_of rfl rfl rfl (by decide +kernel) ⟨Nat.le_of_ble_eq_true rfl, Nat.le_of_ble_eq_true rfl⟩) (fz_preV (ci := 7) (q0 := 0) hK hP rfl rfl rfl fz_T_bl (fun _ _ _ => trivial)) rfl rfl hl.1 rfl (lv_room (Nat.le_of_ble_eq_true rfl)) dX9_helps_54 ⟨Nat.zero_le _, Nat.zero_le _⟩) ?_
            refine lv_aload_n hx hb dX9_helps_57 rfl (lv_at hl 1 rfl) ?_
            refine lv_iload_n hx hb dX9_helps_58 rfl (lv_at hl 4 rfl) ?_
            refine lv_iconst (v := 0) hx hb dX9_helps_59 (by decide) ?_
            refine fz_at1 (show r = nI j from ej) ?_
            refine fz_retR (va_runV (As := [.int (nI j), .int (nI 0)]) (rest := [.int (fm_t (M 1) 0 k)]) ⟨hx, hb, hml, hown, hts⟩ (c_X9_of l D cy b M h j 0 (by omega) (by omega)) (cwV 2 hts gX9_helps_X9_of rfl rfl rfl (by decide +kernel) ⟨Nat.le_of_ble_eq_true rfl, Nat.le_of_ble_eq_true rfl⟩) (fz_preV (ci := 7) (q0 := 0) hK hP rfl rfl rfl fz_T_bl (fun _ _ _ => trivial)) rfl rfl hl.1 rfl (lv_room (Nat.le_of_ble_eq_true rfl)) dX9_helps_60 ⟨Nat.zero_le _, Nat.zero_le _⟩) ?_
            refine lv_icmp_le (tgt := 71) hx hb dX9_helps_63 (by decide) (fun c_8 => ?_) (fun c_8 => ?_)
            · skip
              refine lv_iload_n hx hb dX9_helps_71 rfl (lv_at hl 4 rfl) ?_
              refine lv_istore_n (lv' := [(3, .int r), (5, .int 1), (0, .ref (b 0)), (1, .int t), (2, .int en), (4, .int (nI k))]) hx hb dX9_helps_72 rfl hl (by decide) rfl (fun ls hl => ?_)
              refine lv_iinc (v := nI (k + 1)) (lv' := [(4, .int (nI (k + 1))), (3, .int r), (5, .int 1), (0, .ref (b 0)), (1, .int t), (2, .int en)]) hx hb dX9_helps_73 hl (k := 5) rfl (fz_inc rfl) (by decide) rfl (fun ls hl => ?_)
              refine lv_goto (tgt := 5) hx hb dX9_helps_76 (by decide) ?_
              exact ih5 (k + 1, r) (show ((k + 1) ≤ nt) ∧ (r = fz_rich (fm_t (M 1) 0) t en (k + 1)) from ⟨(by omega), (by simp [fz_rich, ← er, c_1, c_2, c_4, c_7, c_8, cl, hn0])⟩) (by show nt - (k + 1) < nt - k; omega) ls (lv_sub hl [3, 4, 5, 1, 0] rfl)
            · skip
              refine lv_iload hx hb dX9_helps_66 (lv_at hl 5 rfl) ?_
              refine lv_goto (tgt := 72) hx hb dX9_helps_68 (by decide) ?_
              refine lv_istore_n (lv' := [(3, .int (nI k)), (5, .int 1), (0, .ref (b 0)), (1, .int t), (2, .int en), (4, .int (nI k))]) hx hb dX9_helps_72 rfl hl (by decide) rfl (fun ls hl => ?_)
              refine lv_iinc (v := nI (k + 1)) (lv' := [(4, .int (nI (k + 1))), (3, .int (nI k)), (5, .int 1), (0, .ref (b 0)), (1, .int t), (2, .int en)]) hx hb dX9_helps_73 hl (k := 5) rfl (fz_inc rfl) (by decide) rfl (fun ls hl => ?_)
              refine lv_goto (tgt := 5) hx hb dX9_helps_76 (by decide) ?_
              exact ih5 (k + 1, nI k) (show ((k + 1) ≤ nt) ∧ ((nI k) = fz_rich (fm_t (M 1) 0) t en (k + 1)) from ⟨(by omega), (by simp [fz_rich, ← er, c_1, c_2, c_4, c_7, c_8, cl, hn0])⟩) (by show nt - (k + 1) < nt - k; omega) ls (lv_sub hl [3, 4, 5, 1, 0] rfl)
set_option maxHeartbeats 4000000 in
set_option maxRecDepth 100000 in
/-- the model: lender -/
theorem c_X9_lender (l : Launch) (D : va_G) (cy : Nat → ClassId) (b : Nat → Nat) (M : Nat → Nat → Int32) (h : Int64) (nt nc nl wk : Nat) (wf : fm_wf (M 1) nt nc nl wk) (x y : Int32) : fz_MI l yX9_lender wsX9_lender 2 47 D cy [.ref (b 0), .int x, .int y] (MW cy b M h) fz_T ((fm_qlend M nt nl x y).1) (MW cy b ((fm_qlend M nt nl x y).2) h) := by
  refine Met.ofW (cc := cX9_lender) (maxL := 4) (ret := (some .int)) (by decide) rfl ?_
  intro p e s m args below meth c s₁ B hml hv
  obtain ⟨rfl, hP, hK, hD0, hE⟩ := hv
  have hx := B.exec
  have hb := B.bytes
  have hr := B.returns
  have hts := atoms_spec (ws := wsX9_lender) B.pre
  have hown : s.vm.findClass RX9 = some m.cls := findClass_of_methodNamed B.named
  have hlocks := B.notSynchronized
  have hD := fz_self hD0
  generalize hAe : fz_in (MW cy b M h) = A at hD ⊢
  have hS : va_S A s.heap s.heap [] := va_S.rf
  have hl := lv_entry ([.ref (b 0), .int x, .int y]) (n := 4) (Nat.le_of_ble_eq_true rfl)
  rw [lg_entry_eq]
  generalize (lg_sl ([.ref (b 0), .int x, .int y]) ++ List.replicate (4 - (lg_sl ([.ref (b 0), .int x, .int y])).length) Slot.unset).toArray = ls at hl ⊢
  have hl : lv_has ls 4 [(0, .ref (b 0)), (1, .int x), (2, .int y)] := hl
  obtain ⟨hnt, hnt6, hnc, hnc30, hnl, hnl12, hwk, hwk39, hT, hG, hB, hZo⟩ := id wf
  refine lv_aload_n hx hb dX9_lender_0 rfl (lv_at hl 0 rfl) ?_
  refine lv_iload_n hx hb dX9_lender_1 rfl (lv_at hl 1 rfl) ?_
  refine fz_retR (va_runV (As := [.int x]) (rest := []) ⟨hx, hb, hml, hown, hts⟩ (c_X9_isTeam l D cy b M h x nt hnt (by omega)) (cwV 1 hts gX9_lender_X9_isTeam rfl rfl rfl (by decide +kernel) ⟨Nat.le_of_ble_eq_true rfl, Nat.le_of_ble_eq_true rfl⟩) (fz_preV (ci := 7) (q0 := 0) hK hP rfl rfl rfl fz_T_bl (fun _ _ _ => trivial)) rfl rfl hl.1 rfl (lv_room (Nat.le_of_ble_eq_true rfl)) dX9_lender_2 ⟨Nat.zero_le _, Nat.zero_le _⟩) ?_
  refine fz_ifneB (tgt := 14) hx hb dX9_lender_5 (by decide) (fun c_1 => ?_) (fun c_1 => ?_)
  · skip
    obtain ⟨z, hz, ez⟩ := fz_ix_t (by omega) (show fz_ix x (nI nt) = true by rw [← hnt]; exact c_1)
    have ez' := fz_tnat ez (by omega)
    refine lv_iload_n hx hb dX9_lender_14 rfl (lv_at hl 2 rfl) ?_
    refine lv_iconst (v := 1) hx hb dX9_lender_15 (by decide) ?_
    refine lv_bipush (v := 9) hx hb dX9_lender_16 (by decide) ?_
    refine fz_retR (va_runS (As := [.int y, .int 1, .int 9]) (rest := []) ⟨hx, hb, hml, hown, hts⟩ (c_X9_in l D cy y 1 9) (va_cwS 3 hts gX9_lender_X9_in rfl rfl rfl (by decide +kernel) ⟨Nat.le_of_ble_eq_true rfl, Nat.le_of_ble_eq_true rfl⟩) (fz_preS hK (fz_nil) fz_T_bl (fun _ _ _ => trivial)) rfl rfl hl.1 rfl (lv_room (Nat.le_of_ble_eq_true rfl)) dX9_lender_18 ⟨Nat.zero_le _, Nat.zero_le _⟩) ?_
    refine fz_ifneB (tgt := 30) hx hb dX9_lender_21 (by decide) (fun c_2 => ?_) (fun c_2 => ?_)
    · skip
      refine lv_aload_n hx hb dX9_lender_30 rfl (lv_at hl 0 rfl) ?_
      refine lv_iload_n hx hb dX9_lender_31 rfl (lv_at hl 2 rfl) ?_
      refine fz_retR (va_runV (As := [.int y]) (rest := []) ⟨hx, hb, hml, hown, hts⟩ (c_X9_price l D cy b M h y) (cwV 1 hts gX9_lender_X9_price rfl rfl rfl (by decide +kernel) ⟨Nat.le_of_ble_eq_true rfl, Nat.le_of_ble_eq_true rfl⟩) (fz_preV (ci := 7) (q0 := 0) hK hP rfl rfl rfl fz_T_bl (fun _ _ _ => trivial)) rfl rfl hl.1 rfl (lv_room (Nat.le_of_ble_eq_true rfl)) dX9_lender_32 ⟨Nat.zero_le _, Nat.zero_le _⟩) ?_
      refine lv_aload_n hx hb dX9_lender_35 rfl (lv_at hl 0 rfl) ?_
      refine lv_iload_n hx hb dX9_lender_36 rfl (lv_at hl 1 rfl) ?_
      refine lv_iconst (v := 0) hx hb dX9_lender_37 (by decide) ?_
      refine fz_at1 (show x = nI z from ez) ?_
      refine fz_retR (va_runV (As := [.int (nI z), .int (nI 0)]) (rest := [.int (y * M 1 4)]) ⟨hx, hb, hml, hown, hts⟩ (c_X9_of l D cy b M h z 0 (by omega) (by omega)) (cwV 2 hts gX9_lender_X9_of rfl rfl rfl (by decide +kernel) ⟨Nat.le_of_ble_eq_true rfl, Nat.le_of_ble_eq_true rfl⟩) (fz_preV (ci := 7) (q0 := 0) hK hP rfl rfl rfl fz_T_bl (fun _ _ _ => trivial)) rfl rfl hl.1 rfl (lv_room (Nat.le_of_ble_eq_true rfl)) dX9_lender_38 ⟨Nat.zero_le _, Nat.zero_le _⟩) ?_
      refine lv_isub hx hb dX9_lender_41 ?_
      refine lv_istore_n (lv' := [(3, .int ((y * M 1 4) - (fm_t (M 1) 0 z))), (0, .ref (b 0)), (1, .int x), (2, .int y)]) hx hb dX9_lender_42 rfl hl (by decide) rfl (fun ls hl => ?_)
      refine lv_aload_n hx hb dX9_lender_43 rfl (lv_at hl 1 rfl) ?_
      refine lv_iload_n hx hb dX9_lender_44 rfl (lv_at hl 0 rfl) ?_
      refine lv_if_le (tgt := 56) hx hb dX9_lender_45 (by decide) (fun c_3 => ?_) (fun c_3 => ?_)
      · skip
        refine lv_iconst (v := (-1)) hx hb dX9_lender_56 (by decide) ?_
        refine lv_goto (tgt := 66) hx hb dX9_lender_57 (by decide) ?_
        refine fz_retM (ws' := ME cy b (M 0 0) (M 0 1) 0 (M 0 3) (M 0 4) (M 0 5) (M 0 6) (M 1) (M 2) (M 3) (M 4) (M 5) h) (va_runV (As := [.int (-1)]) (rest := []) ⟨hx, hb, hml, hown, hts⟩ (c_X9_well l D cy b M h (-1)) (cwV 1 hts gX9_lender_X9_well rfl rfl rfl (by decide +kernel) ⟨Nat.le_of_ble_eq_true rfl, Nat.le_of_ble_eq_true rfl⟩) (fz_preMV (ci := 7) (q0 := 0) hK hP hD rfl rfl rfl fz_T_bl (fun _ _ _ => trivial)) rfl rfl hl.1 rfl (lv_room (Nat.le_of_ble_eq_true rfl)) dX9_lender_66 ⟨Nat.zero_le _, Nat.zero_le _⟩) hP hD hS [0, 1, 2, 3, 4, 5] [] rfl rfl [true, true, true, true, true, true] (And.intro rfl (And.intro rfl (And.intro rfl (And.intro rfl (And.intro rfl (And.intro rfl trivial)))))) rfl rfl (fun H locs hP hD hS => ?_)
        have hP : va_P D vwCl (ME cy b (M 0 0) (M 0 1) 0 (M 0 3) (M 0 4) (M 0 5) (M 0 6) (M 1) (M 2) (M 3) (M 4) (M 5) h) H := hP
        have hD : va_D A (ME cy b (M 0 0) (M 0 1) 0 (M 0 3) (M 0 4) (M 0 5) (M 0 6) (M 1) (M 2) (M 3) (M 4) (M 5) h) := hD
        refine fz_top (show _ = (-1) from rfl) ?_
        have eF : fm_qlend M nt nl x y = ((-1), fz_up M 0 (upd (M 0) 2 0)) := by simp only [fm_qlend, c_1, c_2, c_3, ez', ↓reduceIte, Bool.false_eq_true, cond_true, cond_false]
        exact W.iret (v := (-1)) hx hb hr (fun t9 ht9 hW9 => ⟨⟨_, (), rfl, (by rw [eF] <;> rfl), fz_to ht9 (by rw [eF]; exact hP)⟩, hS.F ht9⟩) hS.2.2 dX9_lender_69
      · skip
        refine lv_aload_n hx hb dX9_lender_48 rfl (lv_at hl 1 rfl) ?_
        refine lv_iload_n hx hb dX9_lender_49 rfl (lv_at hl 2 rfl) ?_
        refine fz_retR (va_runV (As := [.int x]) (rest := [.ref (b 0)]) ⟨hx, hb, hml, hown, hts⟩ (c_X9_owes l D cy b M h x nl hnl hnl12) (cwV 1 hts gX9_lender_X9_owes rfl rfl rfl (by decide +kernel) ⟨Nat.le_of_ble_eq_true rfl, Nat.le_of_ble_eq_true rfl⟩) (fz_preV (ci := 7) (q0 := 0) hK hP rfl rfl rfl fz_T_bl (fun _ _ _ => trivial)) rfl rfl hl.1 rfl (lv_room (Nat.le_of_ble_eq_true rfl)) dX9_lender_50 ⟨Nat.zero_le _, Nat.zero_le _⟩) ?_
        refine fz_ifeqB (tgt := 60) hx hb dX9_lender_53 (by decide) (fun c_4 => ?_) (fun c_4 => ?_)
        · skip
          refine lv_aload_n hx hb dX9_lender_60 rfl (lv_at hl 1 rfl) ?_
          refine lv_iload_n hx hb dX9_lender_61 rfl (lv_at hl 2 rfl) ?_
          refine lv_iload_n hx hb dX9_lender_62 rfl (lv_at hl 0 rfl) ?_
          refine fz_retR (va_runV (As := [.int x, .int ((y * M 1 4) - (fm_t (M 1) 0 z))]) (rest := [.ref (b 0)]) ⟨hx, hb, hml, hown, hts⟩ (c_X9_helps l D cy b M h x ((y * M 1 4) - (fm_t (M 1) 0 z)) nt hnt hnt6) (cwV 2 hts gX9_lender_X9_helps rfl rfl rfl (by decide +kernel) ⟨Nat.le_of_ble_eq_true rfl, Nat.le_of_ble_eq_true rfl⟩) (fz_preV (ci := 7) (q0 := 0) hK hP rfl rfl rfl fz_T_bl (fun _ _ _ => trivial)) rfl rfl hl.1 rfl (lv_room (Nat.le_of_ble_eq_true rfl)) dX9_lender_63 ⟨Nat.zero_le _, Nat.zero_le _⟩) ?_
          refine fz_retM (ws' := ME cy b (M 0 0) (M 0 1) 0 (M 0 3) (M 0 4) (M 0 5) (M 0 6) (M 1) (M 2) (M 3) (M 4) (M 5) h) (va_runV (As := [.int (fz_rich (fm_t (M 1) 0) x ((y * M 1 4) - (fm_t (M 1) 0 z)) nt)]) (rest := []) ⟨hx, hb, hml, hown, hts⟩ (c_X9_well l D cy b M h (fz_rich (fm_t (M 1) 0) x ((y * M 1 4) - (fm_t (M 1) 0 z)) nt)) (cwV 1 hts gX9_lender_X9_well rfl rfl rfl (by decide +kernel) ⟨Nat.le_of_ble_eq_true rfl, Nat.le_of_ble_eq_true rfl⟩) (fz_preMV (ci := 7) (q0 := 0) hK hP hD rfl rfl rfl fz_T_bl (fun _ _ _ => trivial)) rfl rfl hl.1 rfl (lv_room (Nat.le_of_ble_eq_true rfl)) dX9_lender_66 ⟨Nat.zero_le _, Nat.zero_le _⟩) hP hD hS [0, 1, 2, 3, 4, 5] [] rfl rfl [true, true, true, true, true, true] (And.intro rfl (And.intro rfl (And.intro rfl (And.intro rfl (And.intro rfl (And.intro rfl trivial)))))) rfl rfl (fun H locs hP hD hS => ?_)
          have hP : va_P D vwCl (ME cy b (M 0 0) (M 0 1) 0 (M 0 3) (M 0 4) (M 0 5) (M 0 6) (M 1) (M 2) (M 3) (M 4) (M 5) h) H := hP
          have hD : va_D A (ME cy b (M 0 0) (M 0 1) 0 (M 0 3) (M 0 4) (M 0 5) (M 0 6) (M 1) (M 2) (M 3) (M 4) (M 5) h) := hD
          refine fz_top (show _ = (fz_rich (fm_t (M 1) 0) x ((y * M 1 4) - (fm_t (M 1) 0 z)) nt) from rfl) ?_
          have eF : fm_qlend M nt nl x y = ((fz_rich (fm_t (M 1) 0) x ((y * M 1 4) - (fm_t (M 1) 0 z)) nt), fz_up M 0 (upd (M 0) 2 0)) := by simp only [fm_qlend, c_1, c_2, c_3, c_4, ez', ↓reduceIte, Bool.false_eq_true, cond_true, cond_false]
          exact W.iret (v := (fz_rich (fm_t (M 1) 0) x ((y * M 1 4) - (fm_t (M 1) 0 z)) nt)) hx hb hr (fun t9 ht9 hW9 => ⟨⟨_, (), rfl, (by rw [eF] <;> rfl), fz_to ht9 (by rw [eF]; exact hP)⟩, hS.F ht9⟩) hS.2.2 dX9_lender_69
        · skip
          refine lv_iconst (v := (-1)) hx hb dX9_lender_56 (by decide) ?_
          refine lv_goto (tgt := 66) hx hb dX9_lender_57 (by decide) ?_
          refine fz_retM (ws' := ME cy b (M 0 0) (M 0 1) 0 (M 0 3) (M 0 4) (M 0 5) (M 0 6) (M 1) (M 2) (M 3) (M 4) (M 5) h) (va_runV (As := [.int (-1)]) (rest := []) ⟨hx, hb, hml, hown, hts⟩ (c_X9_well l D cy b M h (-1)) (cwV 1 hts gX9_lender_X9_well rfl rfl rfl (by decide +kernel) ⟨Nat.le_of_ble_eq_true rfl, Nat.le_of_ble_eq_true rfl⟩) (fz_preMV (ci := 7) (q0 := 0) hK hP hD rfl rfl rfl fz_T_bl (fun _ _ _ => trivial)) rfl rfl hl.1 rfl (lv_room (Nat.le_of_ble_eq_true rfl)) dX9_lender_66 ⟨Nat.zero_le _, Nat.zero_le _⟩) hP hD hS [0, 1, 2, 3, 4, 5] [] rfl rfl [true, true, true, true, true, true] (And.intro rfl (And.intro rfl (And.intro rfl (And.intro rfl (And.intro rfl (And.intro rfl trivial)))))) rfl rfl (fun H locs hP hD hS => ?_)
          have hP : va_P D vwCl (ME cy b (M 0 0) (M 0 1) 0 (M 0 3) (M 0 4) (M 0 5) (M 0 6) (M 1) (M 2) (M 3) (M 4) (M 5) h) H := hP
          have hD : va_D A (ME cy b (M 0 0) (M 0 1) 0 (M 0 3) (M 0 4) (M 0 5) (M 0 6) (M 1) (M 2) (M 3) (M 4) (M 5) h) := hD
          refine fz_top (show _ = (-1) from rfl) ?_
          have eF : fm_qlend M nt nl x y = ((-1), fz_up M 0 (upd (M 0) 2 0)) := by simp only [fm_qlend, c_1, c_2, c_3, c_4, ez', ↓reduceIte, Bool.false_eq_true, cond_true, cond_false]
          exact W.iret (v := (-1)) hx hb hr (fun t9 ht9 hW9 => ⟨⟨_, (), rfl, (by rw [eF] <;> rfl), fz_to ht9 (by rw [eF]; exact hP)⟩, hS.F ht9⟩) hS.2.2 dX9_lender_69
    · skip
      refine lv_aload_n hx hb dX9_lender_24 rfl (lv_at hl 0 rfl) ?_
      refine lv_iconst (v := 2) hx hb dX9_lender_25 (by decide) ?_
      refine fz_retM (ws' := ME cy b (M 0 0) (M 0 1) 2 (M 0 3) (M 0 4) (M 0 5) (M 0 6) (M 1) (M 2) (M 3) (M 4) (M 5) h) (va_runV (As := [.int 2]) (rest := []) ⟨hx, hb, hml, hown, hts⟩ (c_X9_fails l D cy b M h 2) (cwV 1 hts gX9_lender_X9_fails rfl rfl rfl (by decide +kernel) ⟨Nat.le_of_ble_eq_true rfl, Nat.le_of_ble_eq_true rfl⟩) (fz_preMV (ci := 7) (q0 := 0) hK hP hD rfl rfl rfl fz_T_bl (fun _ _ _ => trivial)) rfl rfl hl.1 rfl (lv_room (Nat.le_of_ble_eq_true rfl)) dX9_lender_26 ⟨Nat.zero_le _, Nat.zero_le _⟩) hP hD hS [0, 1, 2, 3, 4, 5] [] rfl rfl [true, true, true, true, true, true] (And.intro rfl (And.intro rfl (And.intro rfl (And.intro rfl (And.intro rfl (And.intro rfl trivial)))))) rfl rfl (fun H locs hP hD hS => ?_)
      have hP : va_P D vwCl (ME cy b (M 0 0) (M 0 1) 2 (M 0 3) (M 0 4) (M 0 5) (M 0 6) (M 1) (M 2) (M 3) (M 4) (M 5) h) H := hP
      have hD : va_D A (ME cy b (M 0 0) (M 0 1) 2 (M 0 3) (M 0 4) (M 0 5) (M 0 6) (M 1) (M 2) (M 3) (M 4) (M 5) h) := hD
      refine fz_top (show _ = 0 from rfl) ?_
      have eF : fm_qlend M nt nl x y = (0, fz_up M 0 (upd (M 0) 2 2)) := by simp only [fm_qlend, c_1, c_2, ez', ↓reduceIte, Bool.false_eq_true, cond_true, cond_false]
      exact W.iret (v := 0) hx hb hr (fun t9 ht9 hW9 => ⟨⟨_, (), rfl, (by rw [eF] <;> rfl), fz_to ht9 (by rw [eF]; exact hP)⟩, hS.F ht9⟩) hS.2.2 dX9_lender_29
  · skip
    refine lv_aload_n hx hb dX9_lender_8 rfl (lv_at hl 0 rfl) ?_
    refine lv_iconst (v := 1) hx hb dX9_lender_9 (by decide) ?_
    refine fz_retM (ws' := ME cy b (M 0 0) (M 0 1) 1 (M 0 3) (M 0 4) (M 0 5) (M 0 6) (M 1) (M 2) (M 3) (M 4) (M 5) h) (va_runV (As := [.int 1]) (rest := []) ⟨hx, hb, hml, hown, hts⟩ (c_X9_fails l D cy b M h 1) (cwV 1 hts gX9_lender_X9_fails rfl rfl rfl (by decide +kernel) ⟨Nat.le_of_ble_eq_true rfl, Nat.le_of_ble_eq_true rfl⟩) (fz_preMV (ci := 7) (q0 := 0) hK hP hD rfl rfl rfl fz_T_bl (fun _ _ _ => trivial)) rfl rfl hl.1 rfl (lv_room (Nat.le_of_ble_eq_true rfl)) dX9_lender_10 ⟨Nat.zero_le _, Nat.zero_le _⟩) hP hD hS [0, 1, 2, 3, 4, 5] [] rfl rfl [true, true, true, true, true, true] (And.intro rfl (And.intro rfl (And.intro rfl (And.intro rfl (And.intro rfl (And.intro rfl trivial)))))) rfl rfl (fun H locs hP hD hS => ?_)
    have hP : va_P D vwCl (ME cy b (M 0 0) (M 0 1) 1 (M 0 3) (M 0 4) (M 0 5) (M 0 6) (M 1) (M 2) (M 3) (M 4) (M 5) h) H := hP
    have hD : va_D A (ME cy b (M 0 0) (M 0 1) 1 (M 0 3) (M 0 4) (M 0 5) (M 0 6) (M 1) (M 2) (M 3) (M 4) (M 5) h) := hD
    refine fz_top (show _ = 0 from rfl) ?_
    have eF : fm_qlend M nt nl x y = (0, fz_up M 0 (upd (M 0) 2 1)) := by simp only [fm_qlend, c_1, ↓reduceIte, Bool.false_eq_true, cond_true, cond_false]
    exact W.iret (v := 0) hx hb hr (fun t9 ht9 hW9 => ⟨⟨_, (), rfl, (by rw [eF] <;> rfl), fz_to ht9 (by rw [eF]; exact hP)⟩, hS.F ht9⟩) hS.2.2 dX9_lender_13
set_option maxHeartbeats 4000000 in
set_option maxRecDepth 100000 in
/-- the model: thaw -/
theorem c_X9_thaw (l : Launch) (D : va_G) (cy : Nat → ClassId) (b : Nat → Nat) (M : Nat → Nat → Int32) (h : Int64) (wk : Nat) (hwk : M 1 0 = nI wk) (hwk39 : wk ≤ 39) : fz_RI l yX9_thaw wsX9_thaw 0 0 D cy [.ref (b 0)] (MW cy b M h) fz_T (fz_thaw (fun i => M 1 (9 + i)) wk) := by
  refine Met.ofW (cc := cX9_thaw) (maxL := 2) (ret := (some .int)) (by decide) rfl ?_
  intro p e s m args below meth c s₁ B hml hv
  obtain ⟨rfl, hP, hK, hE⟩ := hv
  have hx := B.exec
  have hb := B.bytes
  have hr := B.returns
  have hts := atoms_spec (ws := wsX9_thaw) B.pre
  have hown : s.vm.findClass RX9 = some m.cls := findClass_of_methodNamed B.named
  have hlocks := B.notSynchronized
  have hl := lv_entry ([.ref (b 0)]) (n := 2) (Nat.le_of_ble_eq_true rfl)
  rw [lg_entry_eq]
  generalize (lg_sl ([.ref (b 0)]) ++ List.replicate (2 - (lg_sl ([.ref (b 0)])).length) Slot.unset).toArray = ls at hl ⊢
  have hl : lv_has ls 2 [(0, .ref (b 0))] := hl
  have k_7 := hts (.fieldLink RX9 7 "FreezeCreditsModel" "now" "[I") (by decide +kernel)
  have inX9 : ∀ w ∈ u_ws RX9 TX9 13, w ∈ wsX9_thaw := by decide +kernel
  refine lv_aload_n hx hb dX9_thaw_0 rfl (lv_at hl 0 rfl) ?_
  refine va_get (D := D) (ci := 7) (v := .ref (b 1)) (C := RX9) (T := TX9) (N := 13) hx hb hts inX9 hown hK hP 0 rfl rfl 0 (by decide) k_7 (fun _ h9 => h9) rfl dX9_thaw_1 ?_
  refine lv_iconst (v := 0) hx hb dX9_thaw_4 (by decide) ?_
  refine fz_iald (f := M 1) hx hb hK hP 1 0 rfl rfl 0 rfl (by omega) (by decide) dX9_thaw_5 ?_
  refine lv_istore_n (lv' := [(1, .int (M 1 0)), (0, .ref (b 0))]) hx hb dX9_thaw_6 rfl hl (by decide) rfl (fun ls hl => ?_)
  rw [show M 1 0 = nI wk from hwk] at hl
  refine fz_loop (σ := Nat) (pc := 7) (nL := 2) (fun k => [(0, .ref (b 0)), (1, .int (nI k))]) (fun k => (k ≤ 40) ∧ (fz_thaw (fun i => M 1 (9 + i)) k = fz_thaw (fun i => M 1 (9 + i)) wk)) (fun k => 40 - k) ?_ wk (show (wk ≤ 40) ∧ (fz_thaw (fun i => M 1 (9 + i)) wk = fz_thaw (fun i => M 1 (9 + i)) wk) from ⟨(by omega), rfl⟩) ls (lv_sub hl [1, 0] rfl)
  rintro k ⟨hk, eT⟩ ih7 ls hl
  have hk : k ≤ 40 := hk
  have eT : fz_thaw (fun i => M 1 (9 + i)) k = fz_thaw (fun i => M 1 (9 + i)) wk := eT
  have hl : lv_has ls 2 [(0, .ref (b 0)), (1, .int (nI k))] := hl
  refine lv_iload_n hx hb dX9_thaw_7 rfl (lv_at hl 1 rfl) ?_
  refine lv_bipush (v := 40) hx hb dX9_thaw_8 (by decide) ?_
  refine fz_geN (tgt := 33) hx hb k 40 rfl rfl dX9_thaw_10 (by decide) (by omega) (by omega) (fun c_1 => ?_) (fun c_1 => ?_)
  · skip
    refine lv_iconst (v := (-1)) hx hb dX9_thaw_33 (by decide) ?_
    exact W.iret (v := (-1)) hx hb hr (fun t9 ht9 hW9 => ⟨_, rfl, (by rw [← eT]; exact (fz_thaw_e (f := fun i => M 1 (9 + i)) (k := k) (by omega)).symm), ht9⟩) (fun _ h => nomatch h) dX9_thaw_34
  · skip
    refine lv_aload_n hx hb dX9_thaw_13 rfl (lv_at hl 0 rfl) ?_
    refine va_get (D := D) (ci := 7) (v := .ref (b 1)) (C := RX9) (T := TX9) (N := 13) hx hb hts inX9 hown hK hP 0 rfl rfl 0 (by decide) k_7 (fun _ h9 => h9) rfl dX9_thaw_14 ?_
    refine lv_bipush (v := 9) hx hb dX9_thaw_17 (by decide) ?_
    refine lv_iload_n hx hb dX9_thaw_19 rfl (lv_at hl 1 rfl) ?_
    refine fz_iaddN hx hb 9 k rfl rfl dX9_thaw_20 ?_
    refine fz_iald (f := M 1) hx hb hK hP 1 0 rfl rfl (9 + k) rfl (by omega) (by decide) dX9_thaw_21 ?_
    refine lv_if_ne (tgt := 27) hx hb dX9_thaw_22 (by decide) (fun c_2 => ?_) (fun c_2 => ?_)
    · skip
      refine lv_iinc (v := nI (k + 1)) (lv' := [(1, .int (nI (k + 1))), (0, .ref (b 0))]) hx hb dX9_thaw_27 hl (k := 1) rfl (fz_inc rfl) (by decide) rfl (fun ls hl => ?_)
      refine lv_goto (tgt := 7) hx hb dX9_thaw_30 (by decide) ?_
      exact ih7 (k + 1) (show ((k + 1) ≤ 40) ∧ (fz_thaw (fun i => M 1 (9 + i)) (k + 1) = fz_thaw (fun i => M 1 (9 + i)) wk) from ⟨(by omega), (by rw [← eT]; exact (fz_thaw_n (f := fun i => M 1 (9 + i)) (k := k) (by omega) c_2).symm)⟩) (by show 40 - (k + 1) < 40 - k; omega) ls (lv_sub hl [1, 0] rfl)
    · skip
      refine lv_iload_n hx hb dX9_thaw_25 rfl (lv_at hl 1 rfl) ?_
      exact W.iret (v := (nI k)) hx hb hr (fun t9 ht9 hW9 => ⟨_, rfl, (by rw [← eT]; exact (fz_thaw_y (f := fun i => M 1 (9 + i)) (k := k) (by omega) c_2).symm), ht9⟩) (fun _ h => nomatch h) dX9_thaw_26
set_option maxHeartbeats 4000000 in
set_option maxRecDepth 100000 in
/-- the model: nextThaw -/
theorem c_X9_nextThaw (l : Launch) (D : va_G) (cy : Nat → ClassId) (b : Nat → Nat) (M : Nat → Nat → Int32) (h : Int64) (nt nc nl wk : Nat) (wf : fm_wf (M 1) nt nc nl wk) : fz_MI l yX9_nextThaw wsX9_nextThaw 1 21 D cy [.ref (b 0)] (MW cy b M h) fz_T (fz_thaw (fun i => M 1 (9 + i)) wk) (MW cy b (fz_up M 0 (upd (M 0) 2 0)) h) := by
  refine Met.ofW (cc := cX9_nextThaw) (maxL := 1) (ret := (some .int)) (by decide) rfl ?_
  intro p e s m args below meth c s₁ B hml hv
  obtain ⟨rfl, hP, hK, hD0, hE⟩ := hv
  have hx := B.exec
  have hb := B.bytes
  have hr := B.returns
  have hts := atoms_spec (ws := wsX9_nextThaw) B.pre
  have hown : s.vm.findClass RX9 = some m.cls := findClass_of_methodNamed B.named
  have hlocks := B.notSynchronized
  have hD := fz_self hD0
  generalize hAe : fz_in (MW cy b M h) = A at hD ⊢
  have hS : va_S A s.heap s.heap [] := va_S.rf
  have hl := lv_entry ([.ref (b 0)]) (n := 1) (Nat.le_of_ble_eq_true rfl)
  rw [lg_entry_eq]
  generalize (lg_sl ([.ref (b 0)]) ++ List.replicate (1 - (lg_sl ([.ref (b 0)])).length) Slot.unset).toArray = ls at hl ⊢
  have hl : lv_has ls 1 [(0, .ref (b 0))] := hl
  obtain ⟨hnt, hnt6, hnc, hnc30, hnl, hnl12, hwk, hwk39, hT, hG, hB, hZo⟩ := id wf
  refine lv_aload_n hx hb dX9_nextThaw_0 rfl (lv_at hl 0 rfl) ?_
  refine lv_aload_n hx hb dX9_nextThaw_1 rfl (lv_at hl 0 rfl) ?_
  refine fz_retR (va_runV (As := []) (rest := [.ref (b 0)]) ⟨hx, hb, hml, hown, hts⟩ (c_X9_thaw l D cy b M h wk hwk hwk39) (cwV 0 hts gX9_nextThaw_X9_thaw rfl rfl rfl (by decide +kernel) ⟨Nat.le_of_ble_eq_true rfl, Nat.le_of_ble_eq_true rfl⟩) (fz_preV (ci := 7) (q0 := 0) hK hP rfl rfl rfl fz_T_bl (fun _ _ _ => trivial)) rfl rfl hl.1 rfl (lv_room (Nat.le_of_ble_eq_true rfl)) dX9_nextThaw_2 ⟨Nat.zero_le _, Nat.zero_le _⟩) ?_
  refine fz_retM (ws' := ME cy b (M 0 0) (M 0 1) 0 (M 0 3) (M 0 4) (M 0 5) (M 0 6) (M 1) (M 2) (M 3) (M 4) (M 5) h) (va_runV (As := [.int (fz_thaw (fun i => M 1 (9 + i)) wk)]) (rest := []) ⟨hx, hb, hml, hown, hts⟩ (c_X9_well l D cy b M h (fz_thaw (fun i => M 1 (9 + i)) wk)) (cwV 1 hts gX9_nextThaw_X9_well rfl rfl rfl (by decide +kernel) ⟨Nat.le_of_ble_eq_true rfl, Nat.le_of_ble_eq_true rfl⟩) (fz_preMV (ci := 7) (q0 := 0) hK hP hD rfl rfl rfl fz_T_bl (fun _ _ _ => trivial)) rfl rfl hl.1 rfl (lv_room (Nat.le_of_ble_eq_true rfl)) dX9_nextThaw_5 ⟨Nat.zero_le _, Nat.zero_le _⟩) hP hD hS [0, 1, 2, 3, 4, 5] [] rfl rfl [true, true, true, true, true, true] (And.intro rfl (And.intro rfl (And.intro rfl (And.intro rfl (And.intro rfl (And.intro rfl trivial)))))) rfl rfl (fun H locs hP hD hS => ?_)
  have hP : va_P D vwCl (ME cy b (M 0 0) (M 0 1) 0 (M 0 3) (M 0 4) (M 0 5) (M 0 6) (M 1) (M 2) (M 3) (M 4) (M 5) h) H := hP
  have hD : va_D A (ME cy b (M 0 0) (M 0 1) 0 (M 0 3) (M 0 4) (M 0 5) (M 0 6) (M 1) (M 2) (M 3) (M 4) (M 5) h) := hD
  refine fz_top (show _ = (fz_thaw (fun i => M 1 (9 + i)) wk) from rfl) ?_
  exact W.iret (v := (fz_thaw (fun i => M 1 (9 + i)) wk)) hx hb hr (fun t9 ht9 hW9 => ⟨⟨_, (), rfl, rfl, fz_to ht9 hP⟩, hS.F ht9⟩) hS.2.2 dX9_nextThaw_8
set_option maxHeartbeats 4000000 in
set_option maxRecDepth 100000 in
/-- the model: weeksUntil -/
theorem c_X9_weeksUntil (l : Launch) (D : va_G) (cy : Nat → ClassId) (b : Nat → Nat) (M : Nat → Nat → Int32) (h : Int64) (nt nc nl wk : Nat) (wf : fm_wf (M 1) nt nc nl wk) (x y : Int32) : fz_MI l yX9_weeksUntil wsX9_weeksUntil 3 70 D cy [.ref (b 0), .int x, .int y] (MW cy b M h) fz_T ((fm_qwu M nt nc nl wk x y).1) (MW cy b ((fm_qwu M nt nc nl wk x y).2) h) := by
  refine Met.ofW (cc := cX9_weeksUntil) (maxL := 5) (ret := (some .int)) (by decide) rfl ?_
  intro p e s m args below meth c s₁ B hml hv
  obtain ⟨rfl, hP, hK, hD0, hE⟩ := hv
  have hx := B.exec
  have hb := B.bytes
  have hr := B.returns
  have hts := atoms_spec (ws := wsX9_weeksUntil) B.pre
  have hown : s.vm.findClass RX9 = some m.cls := findClass_of_methodNamed B.named
  have hlocks := B.notSynchronized
  have hD := fz_self hD0
  generalize hAe : fz_in (MW cy b M h) = A at hD ⊢
  have hS : va_S A s.heap s.heap [] := va_S.rf
  have hl := lv_entry ([.ref (b 0), .int x, .int y]) (n := 5) (Nat.le_of_ble_eq_true rfl)
  rw [lg_entry_eq]
  generalize (lg_sl ([.ref (b 0), .int x, .int y]) ++ List.replicate (5 - (lg_sl ([.ref (b 0), .int x, .int y])).length) Slot.unset).toArray = ls at hl ⊢
  have hl : lv_has ls 5 [(0, .ref (b 0)), (1, .int x), (2, .int y)] := hl
  have k_7 := hts (.fieldLink RX9 7 "FreezeCreditsModel" "now" "[I") (by decide +kernel)
  have inX9 : ∀ w ∈ u_ws RX9 TX9 13, w ∈ wsX9_weeksUntil := by decide +kernel
  obtain ⟨hnt, hnt6, hnc, hnc30, hnl, hnl12, hwk, hwk39, hT, hG, hB, hZo⟩ := id wf
  refine lv_aload_n hx hb dX9_weeksUntil_0 rfl (lv_at hl 0 rfl) ?_
  refine lv_iload_n hx hb dX9_weeksUntil_1 rfl (lv_at hl 1 rfl) ?_
  refine fz_retR (va_runV (As := [.int x]) (rest := []) ⟨hx, hb, hml, hown, hts⟩ (c_X9_isTeam l D cy b M h x nt hnt (by omega)) (cwV 1 hts gX9_weeksUntil_X9_isTeam rfl rfl rfl (by decide +kernel) ⟨Nat.le_of_ble_eq_true rfl, Nat.le_of_ble_eq_true rfl⟩) (fz_preV (ci := 7) (q0 := 0) hK hP rfl rfl rfl fz_T_bl (fun _ _ _ => trivial)) rfl rfl hl.1 rfl (lv_room (Nat.le_of_ble_eq_true rfl)) dX9_weeksUntil_2 ⟨Nat.zero_le _, Nat.zero_le _⟩) ?_
  refine fz_ifneB (tgt := 14) hx hb dX9_weeksUntil_5 (by decide) (fun c_1 => ?_) (fun c_1 => ?_)
  · skip
    obtain ⟨z, hz, ez⟩ := fz_ix_t (by omega) (show fz_ix x (nI nt) = true by rw [← hnt]; exact c_1)
    have ez' := fz_tnat ez (by omega)
    refine lv_iload_n hx hb dX9_weeksUntil_14 rfl (lv_at hl 2 rfl) ?_
    refine lv_iconst (v := 1) hx hb dX9_weeksUntil_15 (by decide) ?_
    refine lv_bipush (v := 9) hx hb dX9_weeksUntil_16 (by decide) ?_
    refine fz_retR (va_runS (As := [.int y, .int 1, .int 9]) (rest := []) ⟨hx, hb, hml, hown, hts⟩ (c_X9_in l D cy y 1 9) (va_cwS 3 hts gX9_weeksUntil_X9_in rfl rfl rfl (by decide +kernel) ⟨Nat.le_of_ble_eq_true rfl, Nat.le_of_ble_eq_true rfl⟩) (fz_preS hK (fz_nil) fz_T_bl (fun _ _ _ => trivial)) rfl rfl hl.1 rfl (lv_room (Nat.le_of_ble_eq_true rfl)) dX9_weeksUntil_18 ⟨Nat.zero_le _, Nat.zero_le _⟩) ?_
    refine fz_ifneB (tgt := 30) hx hb dX9_weeksUntil_21 (by decide) (fun c_2 => ?_) (fun c_2 => ?_)
    · skip
      refine lv_aload_n hx hb dX9_weeksUntil_30 rfl (lv_at hl 0 rfl) ?_
      refine fz_retMV (ws' := ME cy b (M 0 0) (M 0 1) (M 0 2) (M 0 3) (M 0 4) (M 0 5) (M 0 6) (M 1) (M 2) (M 1) (M 4) (M 5) h) (va_runV (As := []) (rest := []) ⟨hx, hb, hml, hown, hts⟩ (c_X9_asides l D cy b M h) (cwV 0 hts gX9_weeksUntil_X9_asides rfl rfl rfl (by decide +kernel) ⟨Nat.le_of_ble_eq_true rfl, Nat.le_of_ble_eq_true rfl⟩) (fz_preMV (ci := 7) (q0 := 0) hK hP hD rfl rfl rfl fz_T_bl (fun _ _ _ => trivial)) rfl rfl hl.1 rfl (lv_room (Nat.le_of_ble_eq_true rfl)) dX9_weeksUntil_31 ⟨Nat.zero_le _, Nat.zero_le _⟩) hP hD hS [0, 1, 2, 3, 4, 5] [] rfl rfl [true, true, true, true, true, true] (And.intro rfl (And.intro rfl (And.intro rfl (And.intro rfl (And.intro rfl (And.intro rfl trivial)))))) rfl rfl (fun H locs hP hD hS => ?_)
      have hP : va_P D vwCl (ME cy b (M 0 0) (M 0 1) (M 0 2) (M 0 3) (M 0 4) (M 0 5) (M 0 6) (M 1) (M 2) (M 1) (M 4) (M 5) h) H := hP
      have hD : va_D A (ME cy b (M 0 0) (M 0 1) (M 0 2) (M 0 3) (M 0 4) (M 0 5) (M 0 6) (M 1) (M 2) (M 1) (M 4) (M 5) h) := hD
      refine lv_iconst (v := 0) hx hb dX9_weeksUntil_34 (by decide) ?_
      refine lv_istore_n (lv' := [(3, .int 0), (0, .ref (b 0)), (1, .int x), (2, .int y)]) hx hb dX9_weeksUntil_35 rfl hl (by decide) rfl (fun ls hl => ?_)
      rw [show x = nI z from ez] at hl
      refine fz_loopM (σ := Nat × (Nat → Int32)) (pc := 36) (nL := 5) (fun x9 => match x9 with | (n, Z) => [(0, .ref (b 0)), (1, .int (nI z)), (2, .int y), (3, .int (nI n))]) (fun x9 => match x9 with | (n, Z) => ME cy b (M 0 0) (M 0 1) (M 0 2) (M 0 3) (M 0 4) (M 0 5) (M 0 6) Z (M 2) (M 1) (M 4) (M 5) h) (fun x9 => match x9 with | (n, Z) => (wk + n ≤ 39) ∧ (Z = fm_it (M 1) nt nc nl wk n) ∧ (fz_wu (fun q9 => fm_t (fm_it (M 1) nt nc nl wk q9) 0 z) (y * M 1 4) (39 - (wk + n)) n = fz_wu (fun q9 => fm_t (fm_it (M 1) nt nc nl wk q9) 0 z) (y * M 1 4) (39 - wk) 0)) (fun x9 => match x9 with | (n, Z) => 39 - (wk + n)) ?_ (0, M 1) (show (wk + 0 ≤ 39) ∧ ((M 1) = fm_it (M 1) nt nc nl wk 0) ∧ (fz_wu (fun q9 => fm_t (fm_it (M 1) nt nc nl wk q9) 0 z) (y * M 1 4) (39 - (wk + 0)) 0 = fz_wu (fun q9 => fm_t (fm_it (M 1) nt nc nl wk q9) 0 z) (y * M 1 4) (39 - wk) 0) from ⟨(by omega), rfl, rfl⟩) _ _ ls hP hD hS (lv_sub hl [1, 2, 3, 0] rfl)
      rintro ⟨n, Z⟩ ⟨hn, eZ, eW⟩ ih36 H locs ls hP hD hS hl
      have hP : va_P D vwCl (ME cy b (M 0 0) (M 0 1) (M 0 2) (M 0 3) (M 0 4) (M 0 5) (M 0 6) Z (M 2) (M 1) (M 4) (M 5) h) H := hP
      have hD : va_D A (ME cy b (M 0 0) (M 0 1) (M 0 2) (M 0 3) (M 0 4) (M 0 5) (M 0 6) Z (M 2) (M 1) (M 4) (M 5) h) := hD
      have hn : wk + n ≤ 39 := hn
      have eZ : Z = fm_it (M 1) nt nc nl wk n := eZ
      have eW : fz_wu (fun q9 => fm_t (fm_it (M 1) nt nc nl wk q9) 0 z) (y * M 1 4) (39 - (wk + n)) n = fz_wu (fun q9 => fm_t (fm_it (M 1) nt nc nl wk q9) 0 z) (y * M 1 4) (39 - wk) 0 := eW
      have hl : lv_has ls 5 [(0, .ref (b 0)), (1, .int (nI z)), (2, .int y), (3, .int (nI n))] := hl
      have wfZ : fm_wf Z nt nc nl (wk + n) := by rw [eZ]; exact fm_it_wf wf n hn
      have eF0 : fm_t Z 0 z = fm_t (fm_it (M 1) nt nc nl wk n) 0 z := by rw [eZ]
      refine lv_aload_n hx hb dX9_weeksUntil_36 rfl (lv_at hl 0 rfl) ?_
      refine lv_iload_n hx hb dX9_weeksUntil_37 rfl (lv_at hl 1 rfl) ?_
      refine lv_iconst (v := 0) hx hb dX9_weeksUntil_38 (by decide) ?_
      refine fz_retR (va_runV (As := [.int (nI z), .int (nI 0)]) (rest := []) ⟨hx, hb, hml, hown, hts⟩ (c_X9_of l D cy b (fz_up (fz_up M 1 Z) 3 (M 1)) h z 0 (by omega) (by omega)) (cwV 2 hts gX9_weeksUntil_X9_of rfl rfl rfl (by decide +kernel) ⟨Nat.le_of_ble_eq_true rfl, Nat.le_of_ble_eq_true rfl⟩) (fz_preV (ci := 7) (q0 := 0) hK hP rfl rfl rfl fz_T_bl (fun _ _ _ => trivial)) rfl rfl hl.1 rfl (lv_room (Nat.le_of_ble_eq_true rfl)) dX9_weeksUntil_39 ⟨Nat.zero_le _, Nat.zero_le _⟩) ?_
      refine fz_top (show _ = fm_t Z 0 z from rfl) ?_
      refine lv_aload_n hx hb dX9_weeksUntil_42 rfl (lv_at hl 0 rfl) ?_
      refine lv_iload_n hx hb dX9_weeksUntil_43 rfl (lv_at hl 2 rfl) ?_
      refine fz_retR (va_runV (As := [.int y]) (rest := [.int (fm_t Z 0 z)]) ⟨hx, hb, hml, hown, hts⟩ (c_X9_price l D cy b (fz_up (fz_up M 1 Z) 3 (M 1)) h y) (cwV 1 hts gX9_weeksUntil_X9_price rfl rfl rfl (by decide +kernel) ⟨Nat.le_of_ble_eq_true rfl, Nat.le_of_ble_eq_true rfl⟩) (fz_preV (ci := 7) (q0 := 0) hK hP rfl rfl rfl fz_T_bl (fun _ _ _ => trivial)) rfl rfl hl.1 rfl (lv_room (Nat.le_of_ble_eq_true rfl)) dX9_weeksUntil_44 ⟨Nat.zero_le _, Nat.zero_le _⟩) ?_
      refine fz_top (show _ = y * Z 4 from rfl) ?_
      refine fz_top (show _ = y * M 1 4 from (by rw [eZ, fm_it_4 wf n hn])) ?_
      refine lv_icmp_ge (tgt := 72) hx hb dX9_weeksUntil_47 (by decide) (fun c_3 => ?_) (fun c_3 => ?_)
      · skip
        refine lv_aload_n hx hb dX9_weeksUntil_72 rfl (lv_at hl 0 rfl) ?_
        refine lv_iload_n hx hb dX9_weeksUntil_73 rfl (lv_at hl 1 rfl) ?_
        refine lv_iconst (v := 0) hx hb dX9_weeksUntil_74 (by decide) ?_
        refine fz_retR (va_runV (As := [.int (nI z), .int (nI 0)]) (rest := []) ⟨hx, hb, hml, hown, hts⟩ (c_X9_of l D cy b (fz_up (fz_up M 1 Z) 3 (M 1)) h z 0 (by omega) (by omega)) (cwV 2 hts gX9_weeksUntil_X9_of rfl rfl rfl (by decide +kernel) ⟨Nat.le_of_ble_eq_true rfl, Nat.le_of_ble_eq_true rfl⟩) (fz_preV (ci := 7) (q0 := 0) hK hP rfl rfl rfl fz_T_bl (fun _ _ _ => trivial)) rfl rfl hl.1 rfl (lv_room (Nat.le_of_ble_eq_true rfl)) dX9_weeksUntil_75 ⟨Nat.zero_le _, Nat.zero_le _⟩) ?_
        refine fz_top (show _ = fm_t Z 0 z from rfl) ?_
        refine lv_aload_n hx hb dX9_weeksUntil_78 rfl (lv_at hl 0 rfl) ?_
        refine lv_iload_n hx hb dX9_weeksUntil_79 rfl (lv_at hl 2 rfl) ?_
        refine fz_retR (va_runV (As := [.int y]) (rest := [.int (fm_t Z 0 z)]) ⟨hx, hb, hml, hown, hts⟩ (c_X9_price l D cy b (fz_up (fz_up M 1 Z) 3 (M 1)) h y) (cwV 1 hts gX9_weeksUntil_X9_price rfl rfl rfl (by decide +kernel) ⟨Nat.le_of_ble_eq_true rfl, Nat.le_of_ble_eq_true rfl⟩) (fz_preV (ci := 7) (q0 := 0) hK hP rfl rfl rfl fz_T_bl (fun _ _ _ => trivial)) rfl rfl hl.1 rfl (lv_room (Nat.le_of_ble_eq_true rfl)) dX9_weeksUntil_80 ⟨Nat.zero_le _, Nat.zero_le _⟩) ?_
        refine fz_top (show _ = y * Z 4 from rfl) ?_
        refine fz_top (show _ = y * M 1 4 from (by rw [eZ, fm_it_4 wf n hn])) ?_
        refine lv_icmp_lt (tgt := 90) hx hb dX9_weeksUntil_83 (by decide) (fun c_4 => ?_) (fun c_4 => ?_)
        · skip
          exact absurd c_4 (Int32.not_lt.mpr c_3)
        · skip
          refine lv_iconst (v := 1) hx hb dX9_weeksUntil_86 (by decide) ?_
          refine lv_goto (tgt := 91) hx hb dX9_weeksUntil_87 (by decide) ?_
          refine lv_istore (lv' := [(4, .int 1), (0, .ref (b 0)), (1, .int (nI z)), (2, .int y), (3, .int (nI n))]) hx hb dX9_weeksUntil_91 hl (by decide) rfl (fun ls hl => ?_)
          refine lv_aload_n hx hb dX9_weeksUntil_93 rfl (lv_at hl 1 rfl) ?_
          refine fz_retMV (ws' := ME cy b (M 0 0) (M 0 1) (M 0 2) (M 0 3) (M 0 4) (M 0 5) (M 0 6) (M 1) (M 2) (M 1) (M 4) (M 5) h) (va_runV (As := []) (rest := []) ⟨hx, hb, hml, hown, hts⟩ (c_X9_backs l D cy b (fz_up (fz_up M 1 Z) 3 (M 1)) h) (cwV 0 hts gX9_weeksUntil_X9_backs rfl rfl rfl (by decide +kernel) ⟨Nat.le_of_ble_eq_true rfl, Nat.le_of_ble_eq_true rfl⟩) (fz_preMV (ci := 7) (q0 := 0) hK hP hD rfl rfl rfl fz_T_bl (fun _ _ _ => trivial)) rfl rfl hl.1 rfl (lv_room (Nat.le_of_ble_eq_true rfl)) dX9_weeksUntil_94 ⟨Nat.zero_le _, Nat.zero_le _⟩) hP hD hS [0, 1, 2, 3, 4, 5] [] rfl rfl [true, true, true, true, true, true] (And.intro rfl (And.intro rfl (And.intro rfl (And.intro rfl (And.intro rfl (And.intro rfl trivial)))))) rfl rfl (fun H locs hP hD hS => ?_)
          have hP : va_P D vwCl (ME cy b (M 0 0) (M 0 1) (M 0 2) (M 0 3) (M 0 4) (M 0 5) (M 0 6) (M 1) (M 2) (M 1) (M 4) (M 5) h) H := hP
          have hD : va_D A (ME cy b (M 0 0) (M 0 1) (M 0 2) (M 0 3) (M 0 4) (M 0 5) (M 0 6) (M 1) (M 2) (M 1) (M 4) (M 5) h) := hD
          refine lv_aload_n hx hb dX9_weeksUntil_97 rfl (lv_at hl 1 rfl) ?_
          refine lv_iload hx hb dX9_weeksUntil_98 (lv_at hl 0 rfl) ?_
          refine lv_if_eq (tgt := 107) hx hb dX9_weeksUntil_100 (by decide) (fun c_5 => ?_) (fun c_5 => ?_)
          · exact absurd c_5 (by decide)
          · skip
            refine lv_iload_n hx hb dX9_weeksUntil_103 rfl (lv_at hl 4 rfl) ?_
            refine lv_goto (tgt := 108) hx hb dX9_weeksUntil_104 (by decide) ?_
            refine fz_retM (ws' := ME cy b (M 0 0) (M 0 1) 0 (M 0 3) (M 0 4) (M 0 5) (M 0 6) (M 1) (M 2) (M 1) (M 4) (M 5) h) (va_runV (As := [.int (nI n)]) (rest := []) ⟨hx, hb, hml, hown, hts⟩ (c_X9_well l D cy b (fz_up (fz_up M 1 (M 1)) 3 (M 1)) h (nI n)) (cwV 1 hts gX9_weeksUntil_X9_well rfl rfl rfl (by decide +kernel) ⟨Nat.le_of_ble_eq_true rfl, Nat.le_of_ble_eq_true rfl⟩) (fz_preMV (ci := 7) (q0 := 0) hK hP hD rfl rfl rfl fz_T_bl (fun _ _ _ => trivial)) rfl rfl hl.1 rfl (lv_room (Nat.le_of_ble_eq_true rfl)) dX9_weeksUntil_108 ⟨Nat.zero_le _, Nat.zero_le _⟩) hP hD hS [0, 1, 2, 3, 4, 5] [] rfl rfl [true, true, true, true, true, true] (And.intro rfl (And.intro rfl (And.intro rfl (And.intro rfl (And.intro rfl (And.intro rfl trivial)))))) rfl rfl (fun H locs hP hD hS => ?_)
            have hP : va_P D vwCl (ME cy b (M 0 0) (M 0 1) 0 (M 0 3) (M 0 4) (M 0 5) (M 0 6) (M 1) (M 2) (M 1) (M 4) (M 5) h) H := hP
            have hD : va_D A (ME cy b (M 0 0) (M 0 1) 0 (M 0 3) (M 0 4) (M 0 5) (M 0 6) (M 1) (M 2) (M 1) (M 4) (M 5) h) := hD
            refine fz_top (show _ = (nI n) from rfl) ?_
            have eF : fm_qwu M nt nc nl wk x y = (nI n, fm_bk M) := by rw [fm_qwu, if_pos c_1, if_pos c_2, ez', ← eW, fz_wu_y (by show y * M 1 4 ≤ fm_t (fm_it (M 1) nt nc nl wk n) 0 z; rw [← eF0]; exact c_3)]
            exact W.iret (v := (nI n)) hx hb hr (fun t9 ht9 hW9 => ⟨⟨_, (), rfl, (by rw [eF] <;> rfl), fz_to ht9 (by rw [eF]; exact hP)⟩, hS.F ht9⟩) hS.2.2 dX9_weeksUntil_111
      · skip
        refine lv_aload_n hx hb dX9_weeksUntil_50 rfl (lv_at hl 0 rfl) ?_
        refine va_get (D := D) (ci := 7) (v := .ref (b 1)) (C := RX9) (T := TX9) (N := 13) hx hb hts inX9 hown hK hP 0 rfl rfl 0 (by decide) k_7 (fun _ h9 => h9) rfl dX9_weeksUntil_51 ?_
        refine lv_iconst (v := 0) hx hb dX9_weeksUntil_54 (by decide) ?_
        refine fz_iald (f := Z) hx hb hK hP 1 0 rfl rfl 0 rfl (by omega) (by decide) dX9_weeksUntil_55 ?_
        refine lv_bipush (v := 39) hx hb dX9_weeksUntil_56 (by decide) ?_
        refine fz_geN (tgt := 72) hx hb (wk + n) 39 wfZ.2.2.2.2.2.2.1 rfl dX9_weeksUntil_58 (by decide) (by omega) (by omega) (fun c_6 => ?_) (fun c_6 => ?_)
        · skip
          refine lv_aload_n hx hb dX9_weeksUntil_72 rfl (lv_at hl 0 rfl) ?_
          refine lv_iload_n hx hb dX9_weeksUntil_73 rfl (lv_at hl 1 rfl) ?_
          refine lv_iconst (v := 0) hx hb dX9_weeksUntil_74 (by decide) ?_
          refine fz_retR (va_runV (As := [.int (nI z), .int (nI 0)]) (rest := []) ⟨hx, hb, hml, hown, hts⟩ (c_X9_of l D cy b (fz_up (fz_up M 1 Z) 3 (M 1)) h z 0 (by omega) (by omega)) (cwV 2 hts gX9_weeksUntil_X9_of rfl rfl rfl (by decide +kernel) ⟨Nat.le_of_ble_eq_true rfl, Nat.le_of_ble_eq_true rfl⟩) (fz_preV (ci := 7) (q0 := 0) hK hP rfl rfl rfl fz_T_bl (fun _ _ _ => trivial)) rfl rfl hl.1 rfl (lv_room (Nat.le_of_ble_eq_true rfl)) dX9_weeksUntil_75 ⟨Nat.zero_le _, Nat.zero_le _⟩) ?_
          refine fz_top (show _ = fm_t Z 0 z from rfl) ?_
          refine lv_aload_n hx hb dX9_weeksUntil_78 rfl (lv_at hl 0 rfl) ?_
          refine lv_iload_n hx hb dX9_weeksUntil_79 rfl (lv_at hl 2 rfl) ?_
          refine fz_retR (va_runV (As := [.int y]) (rest := [.int (fm_t Z 0 z)]) ⟨hx, hb, hml, hown, hts⟩ (c_X9_price l D cy b (fz_up (fz_up M 1 Z) 3 (M 1)) h y) (cwV 1 hts gX9_weeksUntil_X9_price rfl rfl rfl (by decide +kernel) ⟨Nat.le_of_ble_eq_true rfl, Nat.le_of_ble_eq_true rfl⟩) (fz_preV (ci := 7) (q0 := 0) hK hP rfl rfl rfl fz_T_bl (fun _ _ _ => trivial)) rfl rfl hl.1 rfl (lv_room (Nat.le_of_ble_eq_true rfl)) dX9_weeksUntil_80 ⟨Nat.zero_le _, Nat.zero_le _⟩) ?_
          refine fz_top (show _ = y * Z 4 from rfl) ?_
          refine fz_top (show _ = y * M 1 4 from (by rw [eZ, fm_it_4 wf n hn])) ?_
          refine lv_icmp_lt (tgt := 90) hx hb dX9_weeksUntil_83 (by decide) (fun c_7 => ?_) (fun c_7 => ?_)
          · skip
            refine lv_iconst (v := 0) hx hb dX9_weeksUntil_90 (by decide) ?_
            refine lv_istore (lv' := [(4, .int 0), (0, .ref (b 0)), (1, .int (nI z)), (2, .int y), (3, .int (nI n))]) hx hb dX9_weeksUntil_91 hl (by decide) rfl (fun ls hl => ?_)
            refine lv_aload_n hx hb dX9_weeksUntil_93 rfl (lv_at hl 1 rfl) ?_
            refine fz_retMV (ws' := ME cy b (M 0 0) (M 0 1) (M 0 2) (M 0 3) (M 0 4) (M 0 5) (M 0 6) (M 1) (M 2) (M 1) (M 4) (M 5) h) (va_runV (As := []) (rest := []) ⟨hx, hb, hml, hown, hts⟩ (c_X9_backs l D cy b (fz_up (fz_up M 1 Z) 3 (M 1)) h) (cwV 0 hts gX9_weeksUntil_X9_backs rfl rfl rfl (by decide +kernel) ⟨Nat.le_of_ble_eq_true rfl, Nat.le_of_ble_eq_true rfl⟩) (fz_preMV (ci := 7) (q0 := 0) hK hP hD rfl rfl rfl fz_T_bl (fun _ _ _ => trivial)) rfl rfl hl.1 rfl (lv_room (Nat.le_of_ble_eq_true rfl)) dX9_weeksUntil_94 ⟨Nat.zero_le _, Nat.zero_le _⟩) hP hD hS [0, 1, 2, 3, 4, 5] [] rfl rfl [true, true, true, true, true, true] (And.intro rfl (And.intro rfl (And.intro rfl (And.intro rfl (And.intro rfl (And.intro rfl trivial)))))) rfl rfl (fun H locs hP hD hS => ?_)
            have hP : va_P D vwCl (ME cy b (M 0 0) (M 0 1) (M 0 2) (M 0 3) (M 0 4) (M 0 5) (M 0 6) (M 1) (M 2) (M 1) (M 4) (M 5) h) H := hP
            have hD : va_D A (ME cy b (M 0 0) (M 0 1) (M 0 2) (M 0 3) (M 0 4) (M 0 5) (M 0 6) (M 1) (M 2) (M 1) (M 4) (M 5) h) := hD
            refine lv_aload_n hx hb dX9_weeksUntil_97 rfl (lv_at hl 1 rfl) ?_
            refine lv_iload hx hb dX9_weeksUntil_98 (lv_at hl 0 rfl) ?_
            refine lv_if_eq (tgt := 107) hx hb dX9_weeksUntil_100 (by decide) (fun c_8 => ?_) (fun c_8 => ?_)
            · skip
              refine lv_iconst (v := (-1)) hx hb dX9_weeksUntil_107 (by decide) ?_
              refine fz_retM (ws' := ME cy b (M 0 0) (M 0 1) 0 (M 0 3) (M 0 4) (M 0 5) (M 0 6) (M 1) (M 2) (M 1) (M 4) (M 5) h) (va_runV (As := [.int (-1)]) (rest := []) ⟨hx, hb, hml, hown, hts⟩ (c_X9_well l D cy b (fz_up (fz_up M 1 (M 1)) 3 (M 1)) h (-1)) (cwV 1 hts gX9_weeksUntil_X9_well rfl rfl rfl (by decide +kernel) ⟨Nat.le_of_ble_eq_true rfl, Nat.le_of_ble_eq_true rfl⟩) (fz_preMV (ci := 7) (q0 := 0) hK hP hD rfl rfl rfl fz_T_bl (fun _ _ _ => trivial)) rfl rfl hl.1 rfl (lv_room (Nat.le_of_ble_eq_true rfl)) dX9_weeksUntil_108 ⟨Nat.zero_le _, Nat.zero_le _⟩) hP hD hS [0, 1, 2, 3, 4, 5] [] rfl rfl [true, true, true, true, true, true] (And.intro rfl (And.intro rfl (And.intro rfl (And.intro rfl (And.intro rfl (And.intro rfl trivial)))))) rfl rfl (fun H locs hP hD hS => ?_)
              have hP : va_P D vwCl (ME cy b (M 0 0) (M 0 1) 0 (M 0 3) (M 0 4) (M 0 5) (M 0 6) (M 1) (M 2) (M 1) (M 4) (M 5) h) H := hP
              have hD : va_D A (ME cy b (M 0 0) (M 0 1) 0 (M 0 3) (M 0 4) (M 0 5) (M 0 6) (M 1) (M 2) (M 1) (M 4) (M 5) h) := hD
              refine fz_top (show _ = (-1) from rfl) ?_
              have eF : fm_qwu M nt nc nl wk x y = (-1, fm_bk M) := by rw [fm_qwu, if_pos c_1, if_pos c_2, ez', ← eW, fz_wu_n (by show ¬ y * M 1 4 ≤ fm_t (fm_it (M 1) nt nc nl wk n) 0 z; rw [← eF0]; exact c_3) (by omega)]
              exact W.iret (v := (-1)) hx hb hr (fun t9 ht9 hW9 => ⟨⟨_, (), rfl, (by rw [eF] <;> rfl), fz_to ht9 (by rw [eF]; exact hP)⟩, hS.F ht9⟩) hS.2.2 dX9_weeksUntil_111
            · exact absurd c_8 (by decide)
          · skip
            exact absurd (Int32.not_lt.mp c_7) c_3
        · skip
          refine lv_aload_n hx hb dX9_weeksUntil_61 rfl (lv_at hl 0 rfl) ?_
          refine fz_retM (ws' := ME cy b (M 0 0) (M 0 1) (M 0 2) (M 0 3) (M 0 4) (M 0 5) (M 0 6) ((fm_week Z nt nc nl (wk + n)).2) (M 2) (M 1) (M 4) (M 5) h) (va_runV (As := []) (rest := []) ⟨hx, hb, hml, hown, hts⟩ (c_X9_weekEnds l D cy b (fz_up (fz_up M 1 Z) 3 (M 1)) h nt nc nl (wk + n) wfZ) (cwV 0 hts gX9_weeksUntil_X9_weekEnds rfl rfl rfl (by decide +kernel) ⟨Nat.le_of_ble_eq_true rfl, Nat.le_of_ble_eq_true rfl⟩) (fz_preMV (ci := 7) (q0 := 0) hK hP hD rfl rfl rfl fz_T_bl (fun _ _ _ => trivial)) rfl rfl hl.1 rfl (lv_room (Nat.le_of_ble_eq_true rfl)) dX9_weeksUntil_62 ⟨Nat.zero_le _, Nat.zero_le _⟩) hP hD hS [0, 1, 2, 3, 4, 5] [] rfl rfl [true, true, true, true, true, true] (And.intro rfl (And.intro rfl (And.intro rfl (And.intro rfl (And.intro rfl (And.intro rfl trivial)))))) rfl rfl (fun H locs hP hD hS => ?_)
          have hP : va_P D vwCl (ME cy b (M 0 0) (M 0 1) (M 0 2) (M 0 3) (M 0 4) (M 0 5) (M 0 6) ((fm_week Z nt nc nl (wk + n)).2) (M 2) (M 1) (M 4) (M 5) h) H := hP
          have hD : va_D A (ME cy b (M 0 0) (M 0 1) (M 0 2) (M 0 3) (M 0 4) (M 0 5) (M 0 6) ((fm_week Z nt nc nl (wk + n)).2) (M 2) (M 1) (M 4) (M 5) h) := hD
          refine fz_top (show _ = (fm_week Z nt nc nl (wk + n)).1 from rfl) ?_
          refine lv_pop hx hb dX9_weeksUntil_65 rfl ?_
          refine lv_iinc (v := nI (n + 1)) (lv' := [(3, .int (nI (n + 1))), (0, .ref (b 0)), (1, .int (nI z)), (2, .int y)]) hx hb dX9_weeksUntil_66 hl (k := 3) rfl (fz_inc rfl) (by decide) rfl (fun ls hl => ?_)
          refine lv_goto (tgt := 36) hx hb dX9_weeksUntil_69 (by decide) ?_
          exact ih36 (n + 1, (fm_week Z nt nc nl (wk + n)).2) (show (wk + (n + 1) ≤ 39) ∧ (((fm_week Z nt nc nl (wk + n)).2) = fm_it (M 1) nt nc nl wk (n + 1)) ∧ (fz_wu (fun q9 => fm_t (fm_it (M 1) nt nc nl wk q9) 0 z) (y * M 1 4) (39 - (wk + (n + 1))) (n + 1) = fz_wu (fun q9 => fm_t (fm_it (M 1) nt nc nl wk q9) 0 z) (y * M 1 4) (39 - wk) 0) from ⟨(by omega), (by rw [fm_it, ← eZ]), (by rw [← eW, fz_wu_s (k := 39 - (wk + n)) (by show ¬ y * M 1 4 ≤ fm_t (fm_it (M 1) nt nc nl wk n) 0 z; rw [← eF0]; exact c_3) (by omega), show 39 - (wk + (n + 1)) = 39 - (wk + n) - 1 by omega])⟩) (by show 39 - (wk + (n + 1)) < 39 - (wk + n); omega) _ _ ls hP hD hS (lv_sub hl [1, 2, 3, 0] rfl)
    · skip
      refine lv_aload_n hx hb dX9_weeksUntil_24 rfl (lv_at hl 0 rfl) ?_
      refine lv_iconst (v := 2) hx hb dX9_weeksUntil_25 (by decide) ?_
      refine fz_retM (ws' := ME cy b (M 0 0) (M 0 1) 2 (M 0 3) (M 0 4) (M 0 5) (M 0 6) (M 1) (M 2) (M 3) (M 4) (M 5) h) (va_runV (As := [.int 2]) (rest := []) ⟨hx, hb, hml, hown, hts⟩ (c_X9_fails l D cy b M h 2) (cwV 1 hts gX9_weeksUntil_X9_fails rfl rfl rfl (by decide +kernel) ⟨Nat.le_of_ble_eq_true rfl, Nat.le_of_ble_eq_true rfl⟩) (fz_preMV (ci := 7) (q0 := 0) hK hP hD rfl rfl rfl fz_T_bl (fun _ _ _ => trivial)) rfl rfl hl.1 rfl (lv_room (Nat.le_of_ble_eq_true rfl)) dX9_weeksUntil_26 ⟨Nat.zero_le _, Nat.zero_le _⟩) hP hD hS [0, 1, 2, 3, 4, 5] [] rfl rfl [true, true, true, true, true, true] (And.intro rfl (And.intro rfl (And.intro rfl (And.intro rfl (And.intro rfl (And.intro rfl trivial)))))) rfl rfl (fun H locs hP hD hS => ?_)
      have hP : va_P D vwCl (ME cy b (M 0 0) (M 0 1) 2 (M 0 3) (M 0 4) (M 0 5) (M 0 6) (M 1) (M 2) (M 3) (M 4) (M 5) h) H := hP
      have hD : va_D A (ME cy b (M 0 0) (M 0 1) 2 (M 0 3) (M 0 4) (M 0 5) (M 0 6) (M 1) (M 2) (M 3) (M 4) (M 5) h) := hD
      refine fz_top (show _ = 0 from rfl) ?_
      have eF : fm_qwu M nt nc nl wk x y = (0, fz_up M 0 (upd (M 0) 2 2)) := by simp only [fm_qwu, c_1, c_2, ez', ↓reduceIte, Bool.false_eq_true, cond_true, cond_false]
      exact W.iret (v := 0) hx hb hr (fun t9 ht9 hW9 => ⟨⟨_, (), rfl, (by rw [eF] <;> rfl), fz_to ht9 (by rw [eF]; exact hP)⟩, hS.F ht9⟩) hS.2.2 dX9_weeksUntil_29
  · skip
    refine lv_aload_n hx hb dX9_weeksUntil_8 rfl (lv_at hl 0 rfl) ?_
    refine lv_iconst (v := 1) hx hb dX9_weeksUntil_9 (by decide) ?_
    refine fz_retM (ws' := ME cy b (M 0 0) (M 0 1) 1 (M 0 3) (M 0 4) (M 0 5) (M 0 6) (M 1) (M 2) (M 3) (M 4) (M 5) h) (va_runV (As := [.int 1]) (rest := []) ⟨hx, hb, hml, hown, hts⟩ (c_X9_fails l D cy b M h 1) (cwV 1 hts gX9_weeksUntil_X9_fails rfl rfl rfl (by decide +kernel) ⟨Nat.le_of_ble_eq_true rfl, Nat.le_of_ble_eq_true rfl⟩) (fz_preMV (ci := 7) (q0 := 0) hK hP hD rfl rfl rfl fz_T_bl (fun _ _ _ => trivial)) rfl rfl hl.1 rfl (lv_room (Nat.le_of_ble_eq_true rfl)) dX9_weeksUntil_10 ⟨Nat.zero_le _, Nat.zero_le _⟩) hP hD hS [0, 1, 2, 3, 4, 5] [] rfl rfl [true, true, true, true, true, true] (And.intro rfl (And.intro rfl (And.intro rfl (And.intro rfl (And.intro rfl (And.intro rfl trivial)))))) rfl rfl (fun H locs hP hD hS => ?_)
    have hP : va_P D vwCl (ME cy b (M 0 0) (M 0 1) 1 (M 0 3) (M 0 4) (M 0 5) (M 0 6) (M 1) (M 2) (M 3) (M 4) (M 5) h) H := hP
    have hD : va_D A (ME cy b (M 0 0) (M 0 1) 1 (M 0 3) (M 0 4) (M 0 5) (M 0 6) (M 1) (M 2) (M 3) (M 4) (M 5) h) := hD
    refine fz_top (show _ = 0 from rfl) ?_
    have eF : fm_qwu M nt nc nl wk x y = (0, fz_up M 0 (upd (M 0) 2 1)) := by simp only [fm_qwu, c_1, ↓reduceIte, Bool.false_eq_true, cond_true, cond_false]
    exact W.iret (v := 0) hx hb hr (fun t9 ht9 hW9 => ⟨⟨_, (), rfl, (by rw [eF] <;> rfl), fz_to ht9 (by rw [eF]; exact hP)⟩, hS.F ht9⟩) hS.2.2 dX9_weeksUntil_13
set_option maxHeartbeats 4000000 in
set_option maxRecDepth 100000 in
/-- the model: inBeing -/
theorem c_X9_inBeing (l : Launch) (D : va_G) (cy : Nat → ClassId) (b : Nat → Nat) (M : Nat → Nat → Int32) (h : Int64) (nt nc nl wk : Nat) (wf : fm_wf (M 1) nt nc nl wk) (x : Int32) : fz_MI l yX9_inBeing wsX9_inBeing 3 70 D cy [.ref (b 0), .int x] (MW cy b M h) fz_T ((fm_qib M nt nc nl wk x).1) (MW cy b ((fm_qib M nt nc nl wk x).2) h) := by
  refine Met.ofW (cc := cX9_inBeing) (maxL := 3) (ret := (some .int)) (by decide) rfl ?_
  intro p e s m args below meth c s₁ B hml hv
  obtain ⟨rfl, hP, hK, hD0, hE⟩ := hv
  have hx := B.exec
  have hb := B.bytes
  have hr := B.returns
  have hts := atoms_spec (ws := wsX9_inBeing) B.pre
  have hown : s.vm.findClass RX9 = some m.cls := findClass_of_methodNamed B.named
  have hlocks := B.notSynchronized
  have hD := fz_self hD0
  generalize hAe : fz_in (MW cy b M h) = A at hD ⊢
  have hS : va_S A s.heap s.heap [] := va_S.rf
  have hl := lv_entry ([.ref (b 0), .int x]) (n := 3) (Nat.le_of_ble_eq_true rfl)
  rw [lg_entry_eq]
  generalize (lg_sl ([.ref (b 0), .int x]) ++ List.replicate (3 - (lg_sl ([.ref (b 0), .int x])).length) Slot.unset).toArray = ls at hl ⊢
  have hl : lv_has ls 3 [(0, .ref (b 0)), (1, .int x)] := hl
  have k_7 := hts (.fieldLink RX9 7 "FreezeCreditsModel" "now" "[I") (by decide +kernel)
  have inX9 : ∀ w ∈ u_ws RX9 TX9 13, w ∈ wsX9_inBeing := by decide +kernel
  obtain ⟨hnt, hnt6, hnc, hnc30, hnl, hnl12, hwk, hwk39, hT, hG, hB, hZo⟩ := id wf
  refine lv_iload_n hx hb dX9_inBeing_0 rfl (lv_at hl 1 rfl) ?_
  refine lv_iconst (v := 0) hx hb dX9_inBeing_1 (by decide) ?_
  refine lv_bipush (v := 39) hx hb dX9_inBeing_2 (by decide) ?_
  refine fz_retR (va_runS (As := [.int x, .int 0, .int 39]) (rest := []) ⟨hx, hb, hml, hown, hts⟩ (c_X9_in l D cy x 0 39) (va_cwS 3 hts gX9_inBeing_X9_in rfl rfl rfl (by decide +kernel) ⟨Nat.le_of_ble_eq_true rfl, Nat.le_of_ble_eq_true rfl⟩) (fz_preS hK (fz_nil) fz_T_bl (fun _ _ _ => trivial)) rfl rfl hl.1 rfl (lv_room (Nat.le_of_ble_eq_true rfl)) dX9_inBeing_4 ⟨Nat.zero_le _, Nat.zero_le _⟩) ?_
  refine fz_ifneB (tgt := 16) hx hb dX9_inBeing_7 (by decide) (fun c_1 => ?_) (fun c_1 => ?_)
  · skip
    obtain ⟨i, hi, ei⟩ := fm_in_n (m := 39) rfl (by decide) c_1
    have ei' := fz_tnat ei (by omega)
    refine lv_aload_n hx hb dX9_inBeing_16 rfl (lv_at hl 0 rfl) ?_
    refine va_get (D := D) (ci := 7) (v := .ref (b 1)) (C := RX9) (T := TX9) (N := 13) hx hb hts inX9 hown hK hP 0 rfl rfl 0 (by decide) k_7 (fun _ h9 => h9) rfl dX9_inBeing_17 ?_
    refine lv_iconst (v := 0) hx hb dX9_inBeing_20 (by decide) ?_
    refine fz_iald (f := M 1) hx hb hK hP 1 0 rfl rfl 0 rfl (by omega) (by decide) dX9_inBeing_21 ?_
    refine lv_iload_n hx hb dX9_inBeing_22 rfl (lv_at hl 1 rfl) ?_
    refine fz_iaddN hx hb wk i hwk ei dX9_inBeing_23 ?_
    refine lv_bipush (v := 39) hx hb dX9_inBeing_24 (by decide) ?_
    refine fz_leN (tgt := 35) hx hb (wk + i) 39 rfl rfl dX9_inBeing_26 (by decide) (by omega) (by omega) (fun c_2 => ?_) (fun c_2 => ?_)
    · skip
      refine lv_aload_n hx hb dX9_inBeing_35 rfl (lv_at hl 0 rfl) ?_
      refine fz_retMV (ws' := ME cy b (M 0 0) (M 0 1) (M 0 2) (M 0 3) (M 0 4) (M 0 5) (M 0 6) (M 1) (M 2) (M 1) (M 4) (M 5) h) (va_runV (As := []) (rest := []) ⟨hx, hb, hml, hown, hts⟩ (c_X9_asides l D cy b M h) (cwV 0 hts gX9_inBeing_X9_asides rfl rfl rfl (by decide +kernel) ⟨Nat.le_of_ble_eq_true rfl, Nat.le_of_ble_eq_true rfl⟩) (fz_preMV (ci := 7) (q0 := 0) hK hP hD rfl rfl rfl fz_T_bl (fun _ _ _ => trivial)) rfl rfl hl.1 rfl (lv_room (Nat.le_of_ble_eq_true rfl)) dX9_inBeing_36 ⟨Nat.zero_le _, Nat.zero_le _⟩) hP hD hS [0, 1, 2, 3, 4, 5] [] rfl rfl [true, true, true, true, true, true] (And.intro rfl (And.intro rfl (And.intro rfl (And.intro rfl (And.intro rfl (And.intro rfl trivial)))))) rfl rfl (fun H locs hP hD hS => ?_)
      have hP : va_P D vwCl (ME cy b (M 0 0) (M 0 1) (M 0 2) (M 0 3) (M 0 4) (M 0 5) (M 0 6) (M 1) (M 2) (M 1) (M 4) (M 5) h) H := hP
      have hD : va_D A (ME cy b (M 0 0) (M 0 1) (M 0 2) (M 0 3) (M 0 4) (M 0 5) (M 0 6) (M 1) (M 2) (M 1) (M 4) (M 5) h) := hD
      refine lv_iconst (v := 0) hx hb dX9_inBeing_39 (by decide) ?_
      refine lv_istore_n (lv' := [(2, .int 0), (0, .ref (b 0)), (1, .int x)]) hx hb dX9_inBeing_40 rfl hl (by decide) rfl (fun ls hl => ?_)
      rw [show x = nI i from ei] at hl
      refine fz_loopM (σ := Nat × (Nat → Int32)) (pc := 41) (nL := 3) (fun x9 => match x9 with | (n, Z) => [(0, .ref (b 0)), (1, .int (nI i)), (2, .int (nI n))]) (fun x9 => match x9 with | (n, Z) => ME cy b (M 0 0) (M 0 1) (M 0 2) (M 0 3) (M 0 4) (M 0 5) (M 0 6) Z (M 2) (M 1) (M 4) (M 5) h) (fun x9 => match x9 with | (n, Z) => (n ≤ i) ∧ (Z = fm_it (M 1) nt nc nl wk n)) (fun x9 => match x9 with | (n, Z) => i - n) ?_ (0, M 1) (show (0 ≤ i) ∧ ((M 1) = fm_it (M 1) nt nc nl wk 0) from ⟨(by omega), rfl⟩) _ _ ls hP hD hS (lv_sub hl [1, 2, 0] rfl)
      rintro ⟨n, Z⟩ ⟨hn, eZ⟩ ih41 H locs ls hP hD hS hl
      have hP : va_P D vwCl (ME cy b (M 0 0) (M 0 1) (M 0 2) (M 0 3) (M 0 4) (M 0 5) (M 0 6) Z (M 2) (M 1) (M 4) (M 5) h) H := hP
      have hD : va_D A (ME cy b (M 0 0) (M 0 1) (M 0 2) (M 0 3) (M 0 4) (M 0 5) (M 0 6) Z (M 2) (M 1) (M 4) (M 5) h) := hD
      have hn : n ≤ i := hn
      have eZ : Z = fm_it (M 1) nt nc nl wk n := eZ
      have hl : lv_has ls 3 [(0, .ref (b 0)), (1, .int (nI i)), (2, .int (nI n))] := hl
      have wfZ : fm_wf Z nt nc nl (wk + n) := by rw [eZ]; exact fm_it_wf wf n (by omega)
      refine lv_iload_n hx hb dX9_inBeing_41 rfl (lv_at hl 2 rfl) ?_
      refine lv_iload_n hx hb dX9_inBeing_42 rfl (lv_at hl 1 rfl) ?_
      refine fz_geN (tgt := 57) hx hb n i rfl rfl dX9_inBeing_43 (by decide) (by omega) (by omega) (fun c_3 => ?_) (fun c_3 => ?_)
      · skip
        refine lv_aload_n hx hb dX9_inBeing_57 rfl (lv_at hl 0 rfl) ?_
        refine lv_iconst (v := 0) hx hb dX9_inBeing_58 (by decide) ?_
        refine fz_retR (va_runV (As := [.int (nI 0)]) (rest := []) ⟨hx, hb, hml, hown, hts⟩ (c_X9_sum l D cy b (fz_up (fz_up M 1 Z) 3 (M 1)) h 0 (by omega) nt wfZ.1 hnt6) (cwV 1 hts gX9_inBeing_X9_sum rfl rfl rfl (by decide +kernel) ⟨Nat.le_of_ble_eq_true rfl, Nat.le_of_ble_eq_true rfl⟩) (fz_preV (ci := 7) (q0 := 0) hK hP rfl rfl rfl fz_T_bl (fun _ _ _ => trivial)) rfl rfl hl.1 rfl (lv_room (Nat.le_of_ble_eq_true rfl)) dX9_inBeing_59 ⟨Nat.zero_le _, Nat.zero_le _⟩) ?_
        refine fz_top (show _ = fz_sum (fm_t Z 0) nt from rfl) ?_
        refine lv_aload_n hx hb dX9_inBeing_62 rfl (lv_at hl 0 rfl) ?_
        refine lv_iconst (v := (-1)) hx hb dX9_inBeing_63 (by decide) ?_
        refine fz_retR (va_runV (As := [.int (-1)]) (rest := [.int (fz_sum (fm_t Z 0) nt)]) ⟨hx, hb, hml, hown, hts⟩ (c_X9_held l D cy b (fz_up (fz_up M 1 Z) 3 (M 1)) h (-1) nc wfZ.2.2.1 hnc30) (cwV 1 hts gX9_inBeing_X9_held rfl rfl rfl (by decide +kernel) ⟨Nat.le_of_ble_eq_true rfl, Nat.le_of_ble_eq_true rfl⟩) (fz_preV (ci := 7) (q0 := 0) hK hP rfl rfl rfl fz_T_bl (fun _ _ _ => trivial)) rfl rfl hl.1 rfl (lv_room (Nat.le_of_ble_eq_true rfl)) dX9_inBeing_64 ⟨Nat.zero_le _, Nat.zero_le _⟩) ?_
        refine fz_top (show _ = fz_sum (fun i => if (decide ((-1) = -1) || decide (fm_c Z 0 i = (-1))) = true then fm_c Z 3 i else 0) nc from rfl) ?_
        refine fz_top (show _ = fz_sum (fm_c Z 3) nc from fm_heldA) ?_
        refine lv_iadd hx hb dX9_inBeing_67 ?_
        refine lv_istore_n (lv' := [(2, .int ((fz_sum (fm_t Z 0) nt) + (fz_sum (fm_c Z 3) nc))), (0, .ref (b 0)), (1, .int (nI i))]) hx hb dX9_inBeing_68 rfl hl (by decide) rfl (fun ls hl => ?_)
        refine lv_aload_n hx hb dX9_inBeing_69 rfl (lv_at hl 1 rfl) ?_
        refine fz_retMV (ws' := ME cy b (M 0 0) (M 0 1) (M 0 2) (M 0 3) (M 0 4) (M 0 5) (M 0 6) (M 1) (M 2) (M 1) (M 4) (M 5) h) (va_runV (As := []) (rest := []) ⟨hx, hb, hml, hown, hts⟩ (c_X9_backs l D cy b (fz_up (fz_up M 1 Z) 3 (M 1)) h) (cwV 0 hts gX9_inBeing_X9_backs rfl rfl rfl (by decide +kernel) ⟨Nat.le_of_ble_eq_true rfl, Nat.le_of_ble_eq_true rfl⟩) (fz_preMV (ci := 7) (q0 := 0) hK hP hD rfl rfl rfl fz_T_bl (fun _ _ _ => trivial)) rfl rfl hl.1 rfl (lv_room (Nat.le_of_ble_eq_true rfl)) dX9_inBeing_70 ⟨Nat.zero_le _, Nat.zero_le _⟩) hP hD hS [0, 1, 2, 3, 4, 5] [] rfl rfl [true, true, true, true, true, true] (And.intro rfl (And.intro rfl (And.intro rfl (And.intro rfl (And.intro rfl (And.intro rfl trivial)))))) rfl rfl (fun H locs hP hD hS => ?_)
        have hP : va_P D vwCl (ME cy b (M 0 0) (M 0 1) (M 0 2) (M 0 3) (M 0 4) (M 0 5) (M 0 6) (M 1) (M 2) (M 1) (M 4) (M 5) h) H := hP
        have hD : va_D A (ME cy b (M 0 0) (M 0 1) (M 0 2) (M 0 3) (M 0 4) (M 0 5) (M 0 6) (M 1) (M 2) (M 1) (M 4) (M 5) h) := hD
        refine lv_aload_n hx hb dX9_inBeing_73 rfl (lv_at hl 1 rfl) ?_
        refine lv_iload_n hx hb dX9_inBeing_74 rfl (lv_at hl 0 rfl) ?_
        refine fz_retM (ws' := ME cy b (M 0 0) (M 0 1) 0 (M 0 3) (M 0 4) (M 0 5) (M 0 6) (M 1) (M 2) (M 1) (M 4) (M 5) h) (va_runV (As := [.int ((fz_sum (fm_t Z 0) nt) + (fz_sum (fm_c Z 3) nc))]) (rest := []) ⟨hx, hb, hml, hown, hts⟩ (c_X9_well l D cy b (fz_up (fz_up M 1 (M 1)) 3 (M 1)) h ((fz_sum (fm_t Z 0) nt) + (fz_sum (fm_c Z 3) nc))) (cwV 1 hts gX9_inBeing_X9_well rfl rfl rfl (by decide +kernel) ⟨Nat.le_of_ble_eq_true rfl, Nat.le_of_ble_eq_true rfl⟩) (fz_preMV (ci := 7) (q0 := 0) hK hP hD rfl rfl rfl fz_T_bl (fun _ _ _ => trivial)) rfl rfl hl.1 rfl (lv_room (Nat.le_of_ble_eq_true rfl)) dX9_inBeing_75 ⟨Nat.zero_le _, Nat.zero_le _⟩) hP hD hS [0, 1, 2, 3, 4, 5] [] rfl rfl [true, true, true, true, true, true] (And.intro rfl (And.intro rfl (And.intro rfl (And.intro rfl (And.intro rfl (And.intro rfl trivial)))))) rfl rfl (fun H locs hP hD hS => ?_)
        have hP : va_P D vwCl (ME cy b (M 0 0) (M 0 1) 0 (M 0 3) (M 0 4) (M 0 5) (M 0 6) (M 1) (M 2) (M 1) (M 4) (M 5) h) H := hP
        have hD : va_D A (ME cy b (M 0 0) (M 0 1) 0 (M 0 3) (M 0 4) (M 0 5) (M 0 6) (M 1) (M 2) (M 1) (M 4) (M 5) h) := hD
        refine fz_top (show _ = ((fz_sum (fm_t Z 0) nt) + (fz_sum (fm_c Z 3) nc)) from rfl) ?_
        have eF : fm_qib M nt nc nl wk x = (fz_sum (fm_t Z 0) nt + fz_sum (fm_c Z 3) nc, fm_bk M) := by rw [fm_qib, if_pos c_1, ei', if_pos c_2, eZ, show n = i by omega]
        exact W.iret (v := ((fz_sum (fm_t Z 0) nt) + (fz_sum (fm_c Z 3) nc))) hx hb hr (fun t9 ht9 hW9 => ⟨⟨_, (), rfl, (by rw [eF] <;> rfl), fz_to ht9 (by rw [eF]; exact hP)⟩, hS.F ht9⟩) hS.2.2 dX9_inBeing_78
      · skip
        refine lv_aload_n hx hb dX9_inBeing_46 rfl (lv_at hl 0 rfl) ?_
        refine fz_retM (ws' := ME cy b (M 0 0) (M 0 1) (M 0 2) (M 0 3) (M 0 4) (M 0 5) (M 0 6) ((fm_week Z nt nc nl (wk + n)).2) (M 2) (M 1) (M 4) (M 5) h) (va_runV (As := []) (rest := []) ⟨hx, hb, hml, hown, hts⟩ (c_X9_weekEnds l D cy b (fz_up (fz_up M 1 Z) 3 (M 1)) h nt nc nl (wk + n) wfZ) (cwV 0 hts gX9_inBeing_X9_weekEnds rfl rfl rfl (by decide +kernel) ⟨Nat.le_of_ble_eq_true rfl, Nat.le_of_ble_eq_true rfl⟩) (fz_preMV (ci := 7) (q0 := 0) hK hP hD rfl rfl rfl fz_T_bl (fun _ _ _ => trivial)) rfl rfl hl.1 rfl (lv_room (Nat.le_of_ble_eq_true rfl)) dX9_inBeing_47 ⟨Nat.zero_le _, Nat.zero_le _⟩) hP hD hS [0, 1, 2, 3, 4, 5] [] rfl rfl [true, true, true, true, true, true] (And.intro rfl (And.intro rfl (And.intro rfl (And.intro rfl (And.intro rfl (And.intro rfl trivial)))))) rfl rfl (fun H locs hP hD hS => ?_)
        have hP : va_P D vwCl (ME cy b (M 0 0) (M 0 1) (M 0 2) (M 0 3) (M 0 4) (M 0 5) (M 0 6) ((fm_week Z nt nc nl (wk + n)).2) (M 2) (M 1) (M 4) (M 5) h) H := hP
        have hD : va_D A (ME cy b (M 0 0) (M 0 1) (M 0 2) (M 0 3) (M 0 4) (M 0 5) (M 0 6) ((fm_week Z nt nc nl (wk + n)).2) (M 2) (M 1) (M 4) (M 5) h) := hD
        refine fz_top (show _ = (fm_week Z nt nc nl (wk + n)).1 from rfl) ?_
        refine lv_pop hx hb dX9_inBeing_50 rfl ?_
        refine lv_iinc (v := nI (n + 1)) (lv' := [(2, .int (nI (n + 1))), (0, .ref (b 0)), (1, .int (nI i))]) hx hb dX9_inBeing_51 hl (k := 2) rfl (fz_inc rfl) (by decide) rfl (fun ls hl => ?_)
        refine lv_goto (tgt := 41) hx hb dX9_inBeing_54 (by decide) ?_
        exact ih41 (n + 1, (fm_week Z nt nc nl (wk + n)).2) (show ((n + 1) ≤ i) ∧ (((fm_week Z nt nc nl (wk + n)).2) = fm_it (M 1) nt nc nl wk (n + 1)) from ⟨(by omega), (by rw [fm_it, ← eZ])⟩) (by show i - (n + 1) < i - n; omega) _ _ ls hP hD hS (lv_sub hl [1, 2, 0] rfl)
    · skip
      refine lv_aload_n hx hb dX9_inBeing_29 rfl (lv_at hl 0 rfl) ?_
      refine lv_iconst (v := (-1)) hx hb dX9_inBeing_30 (by decide) ?_
      refine fz_retM (ws' := ME cy b (M 0 0) (M 0 1) 0 (M 0 3) (M 0 4) (M 0 5) (M 0 6) (M 1) (M 2) (M 3) (M 4) (M 5) h) (va_runV (As := [.int (-1)]) (rest := []) ⟨hx, hb, hml, hown, hts⟩ (c_X9_well l D cy b M h (-1)) (cwV 1 hts gX9_inBeing_X9_well rfl rfl rfl (by decide +kernel) ⟨Nat.le_of_ble_eq_true rfl, Nat.le_of_ble_eq_true rfl⟩) (fz_preMV (ci := 7) (q0 := 0) hK hP hD rfl rfl rfl fz_T_bl (fun _ _ _ => trivial)) rfl rfl hl.1 rfl (lv_room (Nat.le_of_ble_eq_true rfl)) dX9_inBeing_31 ⟨Nat.zero_le _, Nat.zero_le _⟩) hP hD hS [0, 1, 2, 3, 4, 5] [] rfl rfl [true, true, true, true, true, true] (And.intro rfl (And.intro rfl (And.intro rfl (And.intro rfl (And.intro rfl (And.intro rfl trivial)))))) rfl rfl (fun H locs hP hD hS => ?_)
      have hP : va_P D vwCl (ME cy b (M 0 0) (M 0 1) 0 (M 0 3) (M 0 4) (M 0 5) (M 0 6) (M 1) (M 2) (M 3) (M 4) (M 5) h) H := hP
      have hD : va_D A (ME cy b (M 0 0) (M 0 1) 0 (M 0 3) (M 0 4) (M 0 5) (M 0 6) (M 1) (M 2) (M 3) (M 4) (M 5) h) := hD
      refine fz_top (show _ = (-1) from rfl) ?_
      have eF : fm_qib M nt nc nl wk x = ((-1), fz_up M 0 (upd (M 0) 2 0)) := by rw [fm_qib, if_pos c_1, ei', if_neg (by omega)]
      exact W.iret (v := (-1)) hx hb hr (fun t9 ht9 hW9 => ⟨⟨_, (), rfl, (by rw [eF] <;> rfl), fz_to ht9 (by rw [eF]; exact hP)⟩, hS.F ht9⟩) hS.2.2 dX9_inBeing_34
  · skip
    refine lv_aload_n hx hb dX9_inBeing_10 rfl (lv_at hl 0 rfl) ?_
    refine lv_iconst (v := 1) hx hb dX9_inBeing_11 (by decide) ?_
    refine fz_retM (ws' := ME cy b (M 0 0) (M 0 1) 1 (M 0 3) (M 0 4) (M 0 5) (M 0 6) (M 1) (M 2) (M 3) (M 4) (M 5) h) (va_runV (As := [.int 1]) (rest := []) ⟨hx, hb, hml, hown, hts⟩ (c_X9_fails l D cy b M h 1) (cwV 1 hts gX9_inBeing_X9_fails rfl rfl rfl (by decide +kernel) ⟨Nat.le_of_ble_eq_true rfl, Nat.le_of_ble_eq_true rfl⟩) (fz_preMV (ci := 7) (q0 := 0) hK hP hD rfl rfl rfl fz_T_bl (fun _ _ _ => trivial)) rfl rfl hl.1 rfl (lv_room (Nat.le_of_ble_eq_true rfl)) dX9_inBeing_12 ⟨Nat.zero_le _, Nat.zero_le _⟩) hP hD hS [0, 1, 2, 3, 4, 5] [] rfl rfl [true, true, true, true, true, true] (And.intro rfl (And.intro rfl (And.intro rfl (And.intro rfl (And.intro rfl (And.intro rfl trivial)))))) rfl rfl (fun H locs hP hD hS => ?_)
    have hP : va_P D vwCl (ME cy b (M 0 0) (M 0 1) 1 (M 0 3) (M 0 4) (M 0 5) (M 0 6) (M 1) (M 2) (M 3) (M 4) (M 5) h) H := hP
    have hD : va_D A (ME cy b (M 0 0) (M 0 1) 1 (M 0 3) (M 0 4) (M 0 5) (M 0 6) (M 1) (M 2) (M 3) (M 4) (M 5) h) := hD
    refine fz_top (show _ = 0 from rfl) ?_
    have eF : fm_qib M nt nc nl wk x = (0, fz_up M 0 (upd (M 0) 2 1)) := by simp only [fm_qib, c_1, ↓reduceIte, Bool.false_eq_true, cond_true, cond_false]
    exact W.iret (v := 0) hx hb hr (fun t9 ht9 hW9 => ⟨⟨_, (), rfl, (by rw [eF] <;> rfl), fz_to ht9 (by rw [eF]; exact hP)⟩, hS.F ht9⟩) hS.2.2 dX9_inBeing_15
set_option maxHeartbeats 4000000 in
set_option maxRecDepth 100000 in
/-- the model: type -/
theorem c_X9_type (l : Launch) (D : va_G) (cy : Nat → ClassId) (b : Nat → Nat) (M : Nat → Nat → Int32) (h : Int64) (x : Int32) (ln : Nat) (hln : M 0 1 = nI ln) (hln150 : ln ≤ 150) : fz_MI l yX9_type wsX9_type 1 22 D cy [.ref (b 0), .int x] (MW cy b M h) fz_T ((fm_type M ln x).1) (MW cy b ((fm_type M ln x).2) h) := by
  refine Met.ofW (cc := cX9_type) (maxL := 2) (ret := (some .int)) (by decide) rfl ?_
  intro p e s m args below meth c s₁ B hml hv
  obtain ⟨rfl, hP, hK, hD0, hE⟩ := hv
  have hx := B.exec
  have hb := B.bytes
  have hr := B.returns
  have hts := atoms_spec (ws := wsX9_type) B.pre
  have hown : s.vm.findClass RX9 = some m.cls := findClass_of_methodNamed B.named
  have hlocks := B.notSynchronized
  have hD := fz_self hD0
  generalize hAe : fz_in (MW cy b M h) = A at hD ⊢
  have hS : va_S A s.heap s.heap [] := va_S.rf
  have hl := lv_entry ([.ref (b 0), .int x]) (n := 2) (Nat.le_of_ble_eq_true rfl)
  rw [lg_entry_eq]
  generalize (lg_sl ([.ref (b 0), .int x]) ++ List.replicate (2 - (lg_sl ([.ref (b 0), .int x])).length) Slot.unset).toArray = ls at hl ⊢
  have hl : lv_has ls 2 [(0, .ref (b 0)), (1, .int x)] := hl
  have k_166 := hts (.fieldLink RX9 166 "FreezeCreditsModel" "length" "I") (by decide +kernel)
  have inX9 : ∀ w ∈ u_ws RX9 TX9 13, w ∈ wsX9_type := by decide +kernel
  have k_19 := hts (.fieldLink RX9 19 "FreezeCreditsModel" "text" "[I") (by decide +kernel)
  refine lv_iload_n hx hb dX9_type_0 rfl (lv_at hl 1 rfl) ?_
  refine lv_iconst (v := 0) hx hb dX9_type_1 (by decide) ?_
  refine lv_bipush (v := 127) hx hb dX9_type_2 (by decide) ?_
  refine fz_retR (va_runS (As := [.int x, .int 0, .int 127]) (rest := []) ⟨hx, hb, hml, hown, hts⟩ (c_X9_in l D cy x 0 127) (va_cwS 3 hts gX9_type_X9_in rfl rfl rfl (by decide +kernel) ⟨Nat.le_of_ble_eq_true rfl, Nat.le_of_ble_eq_true rfl⟩) (fz_preS hK (fz_nil) fz_T_bl (fun _ _ _ => trivial)) rfl rfl hl.1 rfl (lv_room (Nat.le_of_ble_eq_true rfl)) dX9_type_4 ⟨Nat.zero_le _, Nat.zero_le _⟩) ?_
  refine fz_ifneB (tgt := 16) hx hb dX9_type_7 (by decide) (fun c_1 => ?_) (fun c_1 => ?_)
  · skip
    refine lv_aload_n hx hb dX9_type_16 rfl (lv_at hl 0 rfl) ?_
    refine va_get (D := D) (ci := 7) (v := .int (M 0 1)) (C := RX9) (T := TX9) (N := 13) hx hb hts inX9 hown hK hP 0 rfl rfl 5 (by decide) k_166 (fun _ h9 => h9) rfl dX9_type_17 ?_
    refine lv_sipush (v := 150) hx hb dX9_type_20 (by decide) ?_
    refine fz_neN (tgt := 32) hx hb ln 150 hln rfl dX9_type_23 (by decide) (by omega) (by omega) (fun c_2 => ?_) (fun c_2 => ?_)
    · skip
      refine lv_aload_n hx hb dX9_type_32 rfl (lv_at hl 0 rfl) ?_
      refine va_get (D := D) (ci := 7) (v := .ref (b 4)) (C := RX9) (T := TX9) (N := 13) hx hb hts inX9 hown hK hP 0 rfl rfl 4 (by decide) k_19 (fun _ h9 => h9) rfl dX9_type_33 ?_
      refine lv_aload_n hx hb dX9_type_36 rfl (lv_at hl 0 rfl) ?_
      refine va_get (D := D) (ci := 7) (v := .int (M 0 1)) (C := RX9) (T := TX9) (N := 13) hx hb hts inX9 hown hK hP 0 rfl rfl 5 (by decide) k_166 (fun _ h9 => h9) rfl dX9_type_37 ?_
      refine lv_iload_n hx hb dX9_type_40 rfl (lv_at hl 1 rfl) ?_
      refine fz_iast (f := M 4) hx hb hK hP hD hS 4 0 rfl rfl ln hln (by omega) (by decide) dX9_type_41 (fun H locs hP hD hS => ?_)
      have hP : va_P D vwCl (ME cy b (M 0 0) (M 0 1) (M 0 2) (M 0 3) (M 0 4) (M 0 5) (M 0 6) (M 1) (M 2) (M 3) (upd (M 4) ln x) (M 5) h) H := hP
      have hD : va_D A (ME cy b (M 0 0) (M 0 1) (M 0 2) (M 0 3) (M 0 4) (M 0 5) (M 0 6) (M 1) (M 2) (M 3) (upd (M 4) ln x) (M 5) h) := hD
      refine lv_aload_n hx hb dX9_type_42 rfl (lv_at hl 0 rfl) ?_
      refine lv_dup hx hb dX9_type_43 rfl ?_
      refine va_get (D := D) (ci := 7) (v := .int (M 0 1)) (C := RX9) (T := TX9) (N := 13) hx hb hts inX9 hown hK hP 0 rfl rfl 5 (by decide) k_166 (fun _ h9 => h9) rfl dX9_type_44 ?_
      refine lv_iconst (v := 1) hx hb dX9_type_47 (by decide) ?_
      refine fz_iaddN hx hb ln 1 hln rfl dX9_type_48 ?_
      refine va_put (D := D) (ci := 7) (v := .int (nI (ln + 1))) (ty := tyX9 5) (C := RX9) (T := TX9) (N := 13) hx hb hts inX9 tyX9 tyX9_ok nmX9 hown hK hP hD hS 0 rfl rfl 5 (by decide) k_166 (fun _ h9 => h9) rfl (by decide +kernel) rfl rfl (Nat.le_of_ble_eq_true rfl) dX9_type_49 (fun H locs hP hD hS => ?_)
      have hP : va_P D vwCl (ME cy b (M 0 0) (nI (ln + 1)) (M 0 2) (M 0 3) (M 0 4) (M 0 5) (M 0 6) (M 1) (M 2) (M 3) (upd (M 4) ln x) (M 5) h) H := hP
      have hD : va_D A (ME cy b (M 0 0) (nI (ln + 1)) (M 0 2) (M 0 3) (M 0 4) (M 0 5) (M 0 6) (M 1) (M 2) (M 3) (upd (M 4) ln x) (M 5) h) := hD
      refine lv_aload_n hx hb dX9_type_52 rfl (lv_at hl 0 rfl) ?_
      refine lv_aload_n hx hb dX9_type_53 rfl (lv_at hl 0 rfl) ?_
      refine va_get (D := D) (ci := 7) (v := .int (nI (ln + 1))) (C := RX9) (T := TX9) (N := 13) hx hb hts inX9 hown hK hP 0 rfl rfl 5 (by decide) k_166 (fun _ h9 => h9) rfl dX9_type_54 ?_
      refine fz_retM (ws' := ME cy b (M 0 0) (nI (ln + 1)) 0 (M 0 3) (M 0 4) (M 0 5) (M 0 6) (M 1) (M 2) (M 3) (upd (M 4) ln x) (M 5) h) (va_runV (As := [.int (nI (ln + 1))]) (rest := []) ⟨hx, hb, hml, hown, hts⟩ (c_X9_well l D cy b (fz_up (fz_up M 0 (upd (M 0) 1 (nI (ln + 1)))) 4 (upd (M 4) ln x)) h (nI (ln + 1))) (cwV 1 hts gX9_type_X9_well rfl rfl rfl (by decide +kernel) ⟨Nat.le_of_ble_eq_true rfl, Nat.le_of_ble_eq_true rfl⟩) (fz_preMV (ci := 7) (q0 := 0) hK hP hD rfl rfl rfl fz_T_bl (fun _ _ _ => trivial)) rfl rfl hl.1 rfl (lv_room (Nat.le_of_ble_eq_true rfl)) dX9_type_57 ⟨Nat.zero_le _, Nat.zero_le _⟩) hP hD hS [0, 1, 2, 3, 4, 5] [] rfl rfl [true, true, true, true, true, true] (And.intro rfl (And.intro rfl (And.intro rfl (And.intro rfl (And.intro rfl (And.intro rfl trivial)))))) rfl rfl (fun H locs hP hD hS => ?_)
      have hP : va_P D vwCl (ME cy b (M 0 0) (nI (ln + 1)) 0 (M 0 3) (M 0 4) (M 0 5) (M 0 6) (M 1) (M 2) (M 3) (upd (M 4) ln x) (M 5) h) H := hP
      have hD : va_D A (ME cy b (M 0 0) (nI (ln + 1)) 0 (M 0 3) (M 0 4) (M 0 5) (M 0 6) (M 1) (M 2) (M 3) (upd (M 4) ln x) (M 5) h) := hD
      refine fz_top (show _ = (nI (ln + 1)) from rfl) ?_
      have eF : fm_type M ln x = ((nI (ln + 1)), fz_up (fz_up M 0 (upd (upd (M 0) 1 (nI (ln + 1))) 2 0)) 4 (upd (M 4) ln x)) := by simp only [fm_type, c_1, c_2, ↓reduceIte, Bool.false_eq_true]
      exact W.iret (v := (nI (ln + 1))) hx hb hr (fun t9 ht9 hW9 => ⟨⟨_, (), rfl, (by rw [eF] <;> rfl), fz_to ht9 (by rw [eF]; exact hP)⟩, hS.F ht9⟩) hS.2.2 dX9_type_60
    · skip
      refine lv_aload_n hx hb dX9_type_26 rfl (lv_at hl 0 rfl) ?_
      refine lv_iconst (v := 2) hx hb dX9_type_27 (by decide) ?_
      refine fz_retM (ws' := ME cy b (M 0 0) (M 0 1) 2 (M 0 3) (M 0 4) (M 0 5) (M 0 6) (M 1) (M 2) (M 3) (M 4) (M 5) h) (va_runV (As := [.int 2]) (rest := []) ⟨hx, hb, hml, hown, hts⟩ (c_X9_fails l D cy b M h 2) (cwV 1 hts gX9_type_X9_fails rfl rfl rfl (by decide +kernel) ⟨Nat.le_of_ble_eq_true rfl, Nat.le_of_ble_eq_true rfl⟩) (fz_preMV (ci := 7) (q0 := 0) hK hP hD rfl rfl rfl fz_T_bl (fun _ _ _ => trivial)) rfl rfl hl.1 rfl (lv_room (Nat.le_of_ble_eq_true rfl)) dX9_type_28 ⟨Nat.zero_le _, Nat.zero_le _⟩) hP hD hS [0, 1, 2, 3, 4, 5] [] rfl rfl [true, true, true, true, true, true] (And.intro rfl (And.intro rfl (And.intro rfl (And.intro rfl (And.intro rfl (And.intro rfl trivial)))))) rfl rfl (fun H locs hP hD hS => ?_)
      have hP : va_P D vwCl (ME cy b (M 0 0) (M 0 1) 2 (M 0 3) (M 0 4) (M 0 5) (M 0 6) (M 1) (M 2) (M 3) (M 4) (M 5) h) H := hP
      have hD : va_D A (ME cy b (M 0 0) (M 0 1) 2 (M 0 3) (M 0 4) (M 0 5) (M 0 6) (M 1) (M 2) (M 3) (M 4) (M 5) h) := hD
      refine fz_top (show _ = 0 from rfl) ?_
      have eF : fm_type M ln x = (0, fz_up M 0 (upd (M 0) 2 2)) := by simp only [fm_type, c_1, c_2, ↓reduceIte, Bool.false_eq_true]
      exact W.iret (v := 0) hx hb hr (fun t9 ht9 hW9 => ⟨⟨_, (), rfl, (by rw [eF] <;> rfl), fz_to ht9 (by rw [eF]; exact hP)⟩, hS.F ht9⟩) hS.2.2 dX9_type_31
  · skip
    refine lv_aload_n hx hb dX9_type_10 rfl (lv_at hl 0 rfl) ?_
    refine lv_iconst (v := 1) hx hb dX9_type_11 (by decide) ?_
    refine fz_retM (ws' := ME cy b (M 0 0) (M 0 1) 1 (M 0 3) (M 0 4) (M 0 5) (M 0 6) (M 1) (M 2) (M 3) (M 4) (M 5) h) (va_runV (As := [.int 1]) (rest := []) ⟨hx, hb, hml, hown, hts⟩ (c_X9_fails l D cy b M h 1) (cwV 1 hts gX9_type_X9_fails rfl rfl rfl (by decide +kernel) ⟨Nat.le_of_ble_eq_true rfl, Nat.le_of_ble_eq_true rfl⟩) (fz_preMV (ci := 7) (q0 := 0) hK hP hD rfl rfl rfl fz_T_bl (fun _ _ _ => trivial)) rfl rfl hl.1 rfl (lv_room (Nat.le_of_ble_eq_true rfl)) dX9_type_12 ⟨Nat.zero_le _, Nat.zero_le _⟩) hP hD hS [0, 1, 2, 3, 4, 5] [] rfl rfl [true, true, true, true, true, true] (And.intro rfl (And.intro rfl (And.intro rfl (And.intro rfl (And.intro rfl (And.intro rfl trivial)))))) rfl rfl (fun H locs hP hD hS => ?_)
    have hP : va_P D vwCl (ME cy b (M 0 0) (M 0 1) 1 (M 0 3) (M 0 4) (M 0 5) (M 0 6) (M 1) (M 2) (M 3) (M 4) (M 5) h) H := hP
    have hD : va_D A (ME cy b (M 0 0) (M 0 1) 1 (M 0 3) (M 0 4) (M 0 5) (M 0 6) (M 1) (M 2) (M 3) (M 4) (M 5) h) := hD
    refine fz_top (show _ = 0 from rfl) ?_
    have eF : fm_type M ln x = (0, fz_up M 0 (upd (M 0) 2 1)) := by simp only [fm_type, c_1, ↓reduceIte, Bool.false_eq_true]
    exact W.iret (v := 0) hx hb hr (fun t9 ht9 hW9 => ⟨⟨_, (), rfl, (by rw [eF] <;> rfl), fz_to ht9 (by rw [eF]; exact hP)⟩, hS.F ht9⟩) hS.2.2 dX9_type_15
set_option maxHeartbeats 4000000 in
set_option maxRecDepth 100000 in
/-- the model: clearCommands -/
theorem c_X9_clearCommands (l : Launch) (D : va_G) (cy : Nat → ClassId) (b : Nat → Nat) (M : Nat → Nat → Int32) (h : Int64) : fz_MI l yX9_clearCommands wsX9_clearCommands 1 21 D cy [.ref (b 0)] (MW cy b M h) fz_T (M 0 1) (MW cy b (fz_up M 0 (upd (upd (M 0) 1 0) 2 0)) h) := by
  refine Met.ofW (cc := cX9_clearCommands) (maxL := 2) (ret := (some .int)) (by decide) rfl ?_
  intro p e s m args below meth c s₁ B hml hv
  obtain ⟨rfl, hP, hK, hD0, hE⟩ := hv
  have hx := B.exec
  have hb := B.bytes
  have hr := B.returns
  have hts := atoms_spec (ws := wsX9_clearCommands) B.pre
  have hown : s.vm.findClass RX9 = some m.cls := findClass_of_methodNamed B.named
  have hlocks := B.notSynchronized
  have hD := fz_self hD0
  generalize hAe : fz_in (MW cy b M h) = A at hD ⊢
  have hS : va_S A s.heap s.heap [] := va_S.rf
  have hl := lv_entry ([.ref (b 0)]) (n := 2) (Nat.le_of_ble_eq_true rfl)
  rw [lg_entry_eq]
  generalize (lg_sl ([.ref (b 0)]) ++ List.replicate (2 - (lg_sl ([.ref (b 0)])).length) Slot.unset).toArray = ls at hl ⊢
  have hl : lv_has ls 2 [(0, .ref (b 0))] := hl
  have k_166 := hts (.fieldLink RX9 166 "FreezeCreditsModel" "length" "I") (by decide +kernel)
  have inX9 : ∀ w ∈ u_ws RX9 TX9 13, w ∈ wsX9_clearCommands := by decide +kernel
  refine lv_aload_n hx hb dX9_clearCommands_0 rfl (lv_at hl 0 rfl) ?_
  refine va_get (D := D) (ci := 7) (v := .int (M 0 1)) (C := RX9) (T := TX9) (N := 13) hx hb hts inX9 hown hK hP 0 rfl rfl 5 (by decide) k_166 (fun _ h9 => h9) rfl dX9_clearCommands_1 ?_
  refine lv_istore_n (lv' := [(1, .int (M 0 1)), (0, .ref (b 0))]) hx hb dX9_clearCommands_4 rfl hl (by decide) rfl (fun ls hl => ?_)
  refine lv_aload_n hx hb dX9_clearCommands_5 rfl (lv_at hl 1 rfl) ?_
  refine lv_iconst (v := 0) hx hb dX9_clearCommands_6 (by decide) ?_
  refine va_put (D := D) (ci := 7) (v := .int 0) (ty := tyX9 5) (C := RX9) (T := TX9) (N := 13) hx hb hts inX9 tyX9 tyX9_ok nmX9 hown hK hP hD hS 0 rfl rfl 5 (by decide) k_166 (fun _ h9 => h9) rfl (by decide +kernel) rfl rfl (Nat.le_of_ble_eq_true rfl) dX9_clearCommands_7 (fun H locs hP hD hS => ?_)
  have hP : va_P D vwCl (ME cy b (M 0 0) 0 (M 0 2) (M 0 3) (M 0 4) (M 0 5) (M 0 6) (M 1) (M 2) (M 3) (M 4) (M 5) h) H := hP
  have hD : va_D A (ME cy b (M 0 0) 0 (M 0 2) (M 0 3) (M 0 4) (M 0 5) (M 0 6) (M 1) (M 2) (M 3) (M 4) (M 5) h) := hD
  refine lv_aload_n hx hb dX9_clearCommands_10 rfl (lv_at hl 1 rfl) ?_
  refine lv_iload_n hx hb dX9_clearCommands_11 rfl (lv_at hl 0 rfl) ?_
  refine fz_retM (ws' := ME cy b (M 0 0) 0 0 (M 0 3) (M 0 4) (M 0 5) (M 0 6) (M 1) (M 2) (M 3) (M 4) (M 5) h) (va_runV (As := [.int (M 0 1)]) (rest := []) ⟨hx, hb, hml, hown, hts⟩ (c_X9_well l D cy b (fz_up M 0 (upd (M 0) 1 0)) h (M 0 1)) (cwV 1 hts gX9_clearCommands_X9_well rfl rfl rfl (by decide +kernel) ⟨Nat.le_of_ble_eq_true rfl, Nat.le_of_ble_eq_true rfl⟩) (fz_preMV (ci := 7) (q0 := 0) hK hP hD rfl rfl rfl fz_T_bl (fun _ _ _ => trivial)) rfl rfl hl.1 rfl (lv_room (Nat.le_of_ble_eq_true rfl)) dX9_clearCommands_12 ⟨Nat.zero_le _, Nat.zero_le _⟩) hP hD hS [0, 1, 2, 3, 4, 5] [] rfl rfl [true, true, true, true, true, true] (And.intro rfl (And.intro rfl (And.intro rfl (And.intro rfl (And.intro rfl (And.intro rfl trivial)))))) rfl rfl (fun H locs hP hD hS => ?_)
  have hP : va_P D vwCl (ME cy b (M 0 0) 0 0 (M 0 3) (M 0 4) (M 0 5) (M 0 6) (M 1) (M 2) (M 3) (M 4) (M 5) h) H := hP
  have hD : va_D A (ME cy b (M 0 0) 0 0 (M 0 3) (M 0 4) (M 0 5) (M 0 6) (M 1) (M 2) (M 3) (M 4) (M 5) h) := hD
  refine fz_top (show _ = (M 0 1) from rfl) ?_
  exact W.iret (v := (M 0 1)) hx hb hr (fun t9 ht9 hW9 => ⟨⟨_, (), rfl, rfl, fz_to ht9 hP⟩, hS.F ht9⟩) hS.2.2 dX9_clearCommands_15
