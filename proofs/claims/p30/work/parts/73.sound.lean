/-! sums told by teams; who waits  -/
theorem sum_add {f g : Nat → Int32} : ∀ n, fz_sum (fun i => f i + g i) n = fz_sum f n + fz_sum g n
  | 0 => (Int32.add_zero (0 : Int32)).symm
  | n + 1 => by
    rw [fz_sum, fz_sum, fz_sum, sum_add n]
    grind
theorem sum_zero : ∀ n, fz_sum (fun _ => 0) n = 0
  | 0 => rfl
  | n + 1 => by
    rw [fz_sum, sum_zero n]
    decide
theorem sum_none {j : Nat} {x : Int32} (hj : j < 2 ^ 31) : ∀ n, n ≤ j → fz_sum (fun t => if nI j = nI t then x else 0) n = 0
  | 0, _ => rfl
  | n + 1, h => by
    rw [fz_sum, sum_none hj n (by omega), if_neg (fun z => by have := (nI_eq hj (by omega)).mp z; omega)]
    decide
theorem sum_one {j : Nat} {x : Int32} : ∀ n, n < 2 ^ 31 → j < n → fz_sum (fun t => if nI j = nI t then x else 0) n = x
  | 0, _, h => absurd h (Nat.not_lt_zero j)
  | n + 1, hn, h => by
    rw [fz_sum]
    by_cases e : j = n
    · rw [e, sum_none (by omega) n (Nat.le_refl n), if_pos rfl, Int32.zero_add]
    · rw [sum_one n (by omega) (by omega), if_neg (fun z => e ((nI_eq (by omega) (by omega)).mp z)), Int32.add_zero]
theorem sum_part {g x : Nat → Int32} {nt : Nat} (hnt : nt ≤ 6) : ∀ n, (∀ i, i < n → ∃ j, j < nt ∧ g i = nI j) → fz_sum (fun t => fz_sum (fun i => if g i = nI t then x i else 0) n) nt = fz_sum x n
  | 0, _ => sum_zero nt
  | n + 1, h => by
    have ih := sum_part (g := g) (x := x) hnt n (fun i hi => h i (by omega))
    obtain ⟨j, hj, ej⟩ := h n (by omega)
    show fz_sum (fun t => fz_sum (fun i => if g i = nI t then x i else 0) n + (if g n = nI t then x n else 0)) nt = fz_sum x n + x n
    rw [sum_add, ih, ej, sum_one nt (by omega) hj]
theorem ct_sum (f : Nat → Bool) : ∀ n, nI (fz_ct f n) = fz_sum (fun i => fz_b (f i)) n
  | 0 => rfl
  | n + 1 => by
    rw [fz_ct, fz_sum, ← ct_sum f n]
    cases f n with
    | true => exact (nI_add _ 1).symm
    | false => exact (Int32.add_zero _).symm
theorem ct_part {g : Nat → Int32} {p : Nat → Bool} {nt n : Nat} (hnt : nt ≤ 6) (h : ∀ i, i < n → ∃ j, j < nt ∧ g i = nI j) : fz_sum (fun t => nI (fz_ct (fun i => decide (g i = nI t) && p i) n)) nt = nI (fz_ct p n) := by
  rw [ct_sum, ← sum_part (g := g) hnt n h]
  refine fz_sum_cong (fun t _ => ?_)
  rw [ct_sum]
  refine fz_sum_cong (fun i _ => ?_)
  by_cases c : g i = nI t
  · rw [if_pos c, decide_eq_true c, Bool.true_and]
  · rw [if_neg c, decide_eq_false c, Bool.false_and]
    rfl
theorem ct_le {f g : Nat → Bool} (h : ∀ i, f i = true → g i = true) : ∀ n, fz_ct f n ≤ fz_ct g n
  | 0 => Nat.le_refl 0
  | n + 1 => by
    have ih := ct_le h n
    have hn := h n
    rw [fz_ct, fz_ct]
    cases hf : f n with
    | true =>
      rw [hn hf]
      exact Nat.add_le_add_right ih 1
    | false => exact Nat.le_trans ih (Nat.le_add_right _ _)
/-- those who wait and are like that -/
theorem cwl_filter {rk : Nat → Int32} {op p : Nat → Bool} {n : Nat} : (cwl rk op n).filter p = cwl rk (fun c => op c && p c) n := by
  unfold cwl
  rw [List.filter_flatMap]
  congr 1
  funext r
  rw [List.filter_filter]
  exact List.filter_congr (fun c _ => by
    show (p c && (decide (rk c = nI r) && op c)) = (decide (rk c = nI r) && (op c && p c))
    cases decide (rk c = nI r) <;> cases op c <;> cases p c <;> rfl)
/-- the order of changes -/
theorem cwl_pw {rk : Nat → Int32} {op : Nat → Bool} {n : Nat} : (cwl rk op n).Pairwise (fun a b => ∃ r s, rk a = nI r ∧ rk b = nI s ∧ s < 10 ∧ (r < s ∨ (r = s ∧ a < b))) := by
  unfold cwl
  rw [List.pairwise_flatMap]
  constructor
  · intro r hr
    have hr' := List.mem_range'_1.mp hr
    refine (List.Pairwise.filter _ List.pairwise_lt_range).imp_of_mem (fun {a b} ha hb hab => ?_)
    have h1 := (List.mem_filter.mp ha).2
    have h2 := (List.mem_filter.mp hb).2
    simp only [Bool.and_eq_true, decide_eq_true_eq] at h1 h2
    exact ⟨r, r, h1.1, h2.1, by omega, Or.inr ⟨rfl, hab⟩⟩
  · refine (List.pairwise_lt_range' ..).imp_of_mem (fun {r s} hr hs hrs => ?_)
    have hs' := List.mem_range'_1.mp hs
    intro a ha b hb
    have h1 := (List.mem_filter.mp ha).2
    have h2 := (List.mem_filter.mp hb).2
    simp only [Bool.and_eq_true, decide_eq_true_eq] at h1 h2
    exact ⟨r, s, h1.1, h2.1, by omega, Or.inl hrs⟩
theorem fm_cx_le {N : Nat → Int32} : ∀ (L : List Nat) (fr : Int32) (u : Nat), ∃ r, r ≤ L.length ∧ fm_cx N L fr u = nI (u + r)
  | [], fr, u => ⟨0, Nat.le_refl 0, rfl⟩
  | c :: L, fr, u => by
    rw [fm_cx]
    split
    · obtain ⟨r, hr, e⟩ := fm_cx_le L (fr - fm_c N 1 c * N 4) (u + 1)
      exact ⟨r + 1, by rw [List.length_cons]; omega, by rw [e]; congr 1; omega⟩
    · exact ⟨0, Nat.zero_le _, rfl⟩
section SND
variable {V : Nat → Nat → Int32} {N : Nat → Int32} {nt nc nq nl wk B : Nat}
theorem snd_held (h : fz_wf V nt nc nq nl wk) : fz_sum (fun t => fz_tval V nc nl t 1) nt = fz_sum (V 12) nc := sum_part h.2.1 nc h.2.2.2.2.2.2.2.2.2.2.1
theorem snd_lent (h : fz_wf V nt nc nq nl wk) : fz_sum (fun t => fz_tval V nc nl t 7) nt = fz_sum (fun t => fz_tval V nc nl t 8) nt :=
  (sum_part (g := V 18) (x := V 21) h.2.1 nl h.2.2.2.2.2.2.2.2.2.2.2.2.1).trans (sum_part (g := V 19) (x := V 21) h.2.1 nl h.2.2.2.2.2.2.2.2.2.2.2.2.2).symm
theorem tv4 (t : Nat) : fz_tval V nc nl t 4 = nI (fz_ct (fun i => decide (V 9 i = nI t) && fz_open (V 11 i)) nc) := by
  show nI (_ + _) = _
  congr 1
  refine (ct_add nc (fun c _ => ?_)).symm
  constructor
  · unfold fz_open
    cases decide (V 9 c = nI t) <;> rfl
  · intro z
    simp only [Bool.and_eq_true, decide_eq_true_eq] at z
    rw [z.1.2] at z
    exact absurd z.2.2 (by decide)
theorem snd_nq (h : cR V N nt nc nq nl wk) : nq = fz_ct (fun c => fz_open (V 11 c)) nc := by
  rw [h.que.1, cwl_len nc (fun c hc => h.rk c hc)]
theorem snd_wait (h : cR V N nt nc nq nl wk) : fz_sum (fun t => fz_tval V nc nl t 4) nt = nI nq := by
  rw [snd_nq h, ← ct_part (g := V 9) h.wf.2.1 h.wf.2.2.2.2.2.2.2.2.2.2.1]
  exact fz_sum_cong (fun t _ => tv4 t)
theorem snd_owe : fz_sum (fun t => fz_tval V nc nl t 9) nt = fz_wval V nt nc nl wk 16 := fz_sum_cong (fun t _ => fz_nz_b _)
/-- how many could become exempt: at most those that wait -/
theorem snd_xc (h : cR V N nt nc nq nl wk) {t : Nat} (ht : t < nt) : ∃ r, fz_xc V nl nq t = nI r ∧ r ≤ fz_ct (fun i => decide (V 9 i = nI t) && fz_open (V 11 i)) nc := by
  unfold fz_xc
  cases fz_owes (V 19) (V 21) (V 22) (V 0 0) nl (nI t) with
  | true => exact ⟨0, rfl, Nat.zero_le _⟩
  | false =>
    rw [cond_false]
    have e := h.cx (t := t) nq 0 (V 4 t) 0 (by omega)
    rw [List.drop_zero, cwl_filter] at e
    obtain ⟨r, hr, er⟩ := fm_cx_le (N := N) (cwl (V 10) (fun c => fz_open (V 11 c) && (decide (V 9 c = nI t) && decide (V 11 c = 0))) nc) (V 4 t) 0
    rw [cwl_len nc (fun c hc => h.rk c hc)] at hr
    refine ⟨r, ?_, Nat.le_trans hr (ct_le (fun i hi => ?_) nc)⟩
    · rw [show (0 : Int32) = nI 0 from rfl, e, er, Nat.zero_add]
    · simp only [Bool.and_eq_true] at hi ⊢
      exact ⟨hi.2.1, hi.1⟩
/-- two neighbours in the queue -/
theorem snd_next (h : cR V N nt nc nq nl wk) {k : Nat} (hk : k + 1 < nq) : ∃ a b, a < nc ∧ b < nc ∧ V 16 k = nI a ∧ V 16 (k + 1) = nI b ∧ ∃ r s, V 10 a = nI r ∧ V 10 b = nI s ∧ s < 10 ∧ (r < s ∨ (r = s ∧ a < b)) := by
  obtain ⟨W, eW⟩ : ∃ W, W = cwl (V 10) (fun c => fz_open (V 11 c)) nc := ⟨_, rfl⟩
  have hl : nq = W.length := by rw [eW]; exact h.que.1
  have h1 : V 16 k = nI W[k] := by rw [h.que.2 k (by omega), ← eW, cw_get (by omega)]
  have h2 : V 16 (k + 1) = nI W[k + 1] := by rw [h.que.2 (k + 1) (by omega), ← eW, cw_get (by omega)]
  have hpw := cwl_pw (rk := V 10) (op := fun c => fz_open (V 11 c)) (n := nc)
  rw [← eW] at hpw
  have hm : ∀ c ∈ W, c < nc := fun c hc => (cwl_mem (by rw [← eW]; exact hc : c ∈ cwl (V 10) (fun c => fz_open (V 11 c)) nc)).1
  exact ⟨_, _, hm _ (List.getElem_mem _), hm _ (List.getElem_mem _), h1, h2, List.pairwise_iff_getElem.mp hpw k (k + 1) (by omega) (by omega) (by omega)⟩
theorem snd_at (h : cR V N nt nc nq nl wk) {k : Nat} (hk : k < nq) : ∃ a, a < nc ∧ V 16 k = nI a ∧ (V 11 a = 0 ∨ V 11 a = 1) := by
  obtain ⟨W, eW⟩ : ∃ W, W = cwl (V 10) (fun c => fz_open (V 11 c)) nc := ⟨_, rfl⟩
  have hl : nq = W.length := by rw [eW]; exact h.que.1
  have h1 : V 16 k = nI W[k] := by rw [h.que.2 k hk, ← eW, cw_get (by omega)]
  obtain ⟨g1, g2, -⟩ := cwl_mem (rk := V 10) (op := fun c => fz_open (V 11 c)) (n := nc) (c := W[k]) (by rw [← eW]; exact List.getElem_mem _)
  exact ⟨_, g1, h1, open_01 g2⟩
end SND
