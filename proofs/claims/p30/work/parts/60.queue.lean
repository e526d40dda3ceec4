/-! the queue of a class as a list -/
/-- who waits among the first n changes: by risk, then by number -/
def cwl (rk : Nat → Int32) (op : Nat → Bool) (n : Nat) : List Nat := (List.range' 1 9).flatMap (fun r => (List.range n).filter (fun c => decide (rk c = nI r) && op c))
/-- the queue Q of q changes is who waits -/
def cq (rk : Nat → Int32) (op : Nat → Bool) (n : Nat) (Q : Nat → Int32) (q : Nat) : Prop := q = (cwl rk op n).length ∧ ∀ i, i < q → Q i = fm_pick (cwl rk op n) i
theorem fm_pick_app : ∀ (A B : List Nat) (i : Nat), fm_pick (A ++ B) i = if i < A.length then fm_pick A i else fm_pick B (i - A.length)
  | [], B, i => by simp
  | a :: A, B, 0 => rfl
  | a :: A, B, i + 1 => by
    show fm_pick (A ++ B) i = if i + 1 < A.length + 1 then fm_pick A i else fm_pick B (i + 1 - (A.length + 1))
    rw [fm_pick_app A B i, show i + 1 - (A.length + 1) = i - A.length by omega]
    by_cases h : i < A.length
    · rw [if_pos h, if_pos (by omega)]
    · rw [if_neg h, if_neg (by omega)]
theorem cw_get : ∀ {L : List Nat} {i : Nat} (h : i < L.length), fm_pick L i = nI L[i]
  | a :: L, 0, _ => rfl
  | a :: L, i + 1, h => cw_get (L := L) (i := i) (Nat.lt_of_succ_lt_succ h)
theorem fm_pick_out : ∀ {L : List Nat} {i : Nat}, L.length ≤ i → fm_pick L i = -1
  | [], _, _ => rfl
  | a :: L, 0, h => absurd h (by simp)
  | a :: L, i + 1, h => fm_pick_out (L := L) (i := i) (Nat.le_of_succ_le_succ h)
theorem cwl_mem {rk : Nat → Int32} {op : Nat → Bool} {n c : Nat} (h : c ∈ cwl rk op n) : c < n ∧ op c = true ∧ ∃ r, 1 ≤ r ∧ r < 10 ∧ rk c = nI r := by
  obtain ⟨r, hr, hc⟩ := List.mem_flatMap.mp h
  obtain ⟨h1, h2⟩ := List.mem_filter.mp hc
  simp only [Bool.and_eq_true, decide_eq_true_eq] at h2
  have h3 := List.mem_range'_1.mp hr
  exact ⟨List.mem_range.mp h1, h2.2, r, h3.1, by omega, h2.1⟩
theorem cwl_cong {rk rk' : Nat → Int32} {op op' : Nat → Bool} {n : Nat} (h1 : ∀ c, c < n → rk c = rk' c) (h2 : ∀ c, c < n → op c = op' c) : cwl rk op n = cwl rk' op' n := by
  unfold cwl
  congr 1
  funext r
  exact List.filter_congr (fun c hc => by rw [h1 c (List.mem_range.mp hc), h2 c (List.mem_range.mp hc)])
/-- z no longer waits -/
theorem cwl_del {rk : Nat → Int32} {op op' : Nat → Bool} {n z : Nat} (h : ∀ c, c < n → op' c = (op c && decide (c ≠ z))) : cwl rk op' n = (cwl rk op n).filter (fun c => decide (c ≠ z)) := by
  unfold cwl
  rw [List.filter_flatMap]
  congr 1
  funext r
  rw [List.filter_filter]
  exact List.filter_congr (fun c hc => by
    rw [h c (List.mem_range.mp hc)]
    cases decide (rk c = nI r) <;> cases op c <;> cases decide (c ≠ z) <;> rfl)
theorem fz_deq_spec {L : List Nat} {Q : Nat → Int32} {z : Nat} (hz : z < 2 ^ 31) (hL : ∀ c ∈ L, c < 2 ^ 31) (hQ : ∀ i, i < L.length → Q i = fm_pick L i) : ∀ k, k ≤ L.length → (fz_deq (nI z) Q k).1 = ((L.take k).filter (fun c => decide (c ≠ z))).length ∧ ∀ i, i < (fz_deq (nI z) Q k).1 → (fz_deq (nI z) Q k).2 i = fm_pick ((L.take k).filter (fun c => decide (c ≠ z))) i
  | 0, _ => ⟨rfl, fun i hi => absurd hi (Nat.not_lt_zero i)⟩
  | k + 1, hk => by
    obtain ⟨h1, h2⟩ := fz_deq_spec hz hL hQ k (by omega)
    obtain ⟨g1, -, g3⟩ := fz_deq_P (P := fun _ => True) (z := nI z) (Q := Q) k (fun _ _ => trivial)
    have hlt : k < L.length := by omega
    have hv : (fz_deq (nI z) Q k).2 k = nI L[k] := by rw [g3 k g1, hQ k hlt, cw_get hlt]
    have ht : L.take (k + 1) = L.take k ++ [L[k]] := (List.take_append_getElem hlt).symm
    have hc : L[k] < 2 ^ 31 := hL _ (List.getElem_mem hlt)
    rw [fz_deq, hv, ht, List.filter_append]
    by_cases e : L[k] = z
    · rw [if_pos (by rw [e])]
      have : [L[k]].filter (fun c => decide (c ≠ z)) = [] := by simp [e]
      rw [this, List.append_nil]
      exact ⟨h1, h2⟩
    · rw [if_neg (fun q => e ((nI_eq hc hz).mp q))]
      have : [L[k]].filter (fun c => decide (c ≠ z)) = [L[k]] := by simp [e]
      rw [this]
      refine ⟨?_, fun i hi => ?_⟩
      · show (fz_deq (nI z) Q k).1 + 1 = _
        rw [List.length_append, h1]
        rfl
      · show (if i = (fz_deq (nI z) Q k).1 then nI L[k] else (fz_deq (nI z) Q k).2 i) = _
        have hi' : i < (fz_deq (nI z) Q k).1 + 1 := hi
        rw [fm_pick_app]
        by_cases q : i = (fz_deq (nI z) Q k).1
        · rw [if_pos q, if_neg (by omega), show i - _ = 0 by omega]
          rfl
        · rw [if_neg q, if_pos (by omega)]
          exact h2 i (by omega)
theorem fz_enq_spec {rk : Nat → Int32} {z p : Nat} : ∀ (k : Nat) (Z : Nat → Int32), p ≤ k → (∀ i, p ≤ i → i < k → ¬ rk (Z i).toNatClampNeg ≤ rk z) → (0 < p → rk (Z (p - 1)).toNatClampNeg ≤ rk z) → ∀ i, i ≤ k → fz_enq rk z k Z i = if i < p then Z i else if i = p then nI z else Z (i - 1)
  | 0, Z, hp, _, _, i, hi => by
    rw [show p = 0 by omega, show i = 0 by omega]
    rfl
  | k + 1, Z, hp, h1, h2, i, hi => by
    by_cases e : p = k + 1
    · subst e
      have h3 : rk (Z k).toNatClampNeg ≤ rk z := h2 (Nat.succ_pos k)
      rw [fz_enq, if_pos h3]
      show (if i = k + 1 then nI z else Z i) = _
      by_cases q : i = k + 1
      · rw [if_pos q, if_neg (by omega), if_pos q]
      · rw [if_neg q, if_pos (by omega)]
    · rw [fz_enq, if_neg (h1 k (by omega) (by omega))]
      by_cases q : i = k + 1
      · rw [fz_enq_hi k _ i (by omega), if_neg (by omega), if_neg (by omega)]
        show (if i = k + 1 then Z k else Z i) = _
        rw [if_pos q, show i - 1 = k by omega]
      · have hu : ∀ j, j ≤ k → upd Z (k + 1) (Z k) j = Z j := fun j hj => pk_un (by omega)
        rw [fz_enq_spec (p := p) k (upd Z (k + 1) (Z k)) (by omega) (fun j g1 g2 => by rw [hu j (by omega)]; exact h1 j g1 (by omega)) (fun g => by rw [hu _ (by omega)]; exact h2 g) i (by omega), hu i (by omega), hu (i - 1) (by omega)]
/-- blocks of risks -/
def cwb (rk : Nat → Int32) (op : Nat → Bool) (n r k : Nat) : List Nat := (List.range' r k).flatMap (fun r => (List.range n).filter (fun c => decide (rk c = nI r) && op c))
theorem cwb_app {rk : Nat → Int32} {op : Nat → Bool} {n r j k : Nat} : cwb rk op n r (j + k) = cwb rk op n r j ++ cwb rk op n (r + j) k := by
  unfold cwb
  rw [← List.range'_append_1, List.flatMap_append]
theorem cwb_mem {rk : Nat → Int32} {op : Nat → Bool} {n r k c : Nat} (h : c ∈ cwb rk op n r k) : c < n ∧ ∃ s, r ≤ s ∧ s < r + k ∧ rk c = nI s := by
  obtain ⟨s, hs, hc⟩ := List.mem_flatMap.mp h
  obtain ⟨h1, h2⟩ := List.mem_filter.mp hc
  simp only [Bool.and_eq_true, decide_eq_true_eq] at h2
  have h3 := List.mem_range'_1.mp hs
  exact ⟨List.mem_range.mp h1, s, h3.1, h3.2, h2.1⟩
theorem cwb_other {rk rk' : Nat → Int32} {op op' : Nat → Bool} {n r k s : Nat} (hs : s < 2 ^ 31) (hk : r + k ≤ 2 ^ 31) (h1 : ∀ c, c < n → rk' c = rk c) (h2 : ∀ c, c < n → op' c = op c) (hz : rk' n = nI s) (hout : s < r ∨ r + k ≤ s) : cwb rk' op' (n + 1) r k = cwb rk op n r k := by
  unfold cwb
  rw [List.flatMap_def, List.flatMap_def]
  refine congrArg List.flatten (List.map_congr_left (fun t ht => ?_))
  have h3 := List.mem_range'_1.mp ht
  rw [List.range_succ, List.filter_append]
  have : [n].filter (fun c => decide (rk' c = nI t) && op' c) = [] := by
    have hne : ¬ rk' n = nI t := fun q => by
      rw [hz] at q
      have := (nI_eq hs (by omega)).mp q
      omega
    simp [hne]
  rw [this, List.append_nil]
  exact List.filter_congr (fun c hc => by rw [h1 c (List.mem_range.mp hc), h2 c (List.mem_range.mp hc)])
theorem cwb_own {rk rk' : Nat → Int32} {op op' : Nat → Bool} {n s : Nat} (h1 : ∀ c, c < n → rk' c = rk c) (h2 : ∀ c, c < n → op' c = op c) (hz : rk' n = nI s) (ho : op' n = true) : cwb rk' op' (n + 1) s 1 = cwb rk op n s 1 ++ [n] := by
  unfold cwb
  simp only [List.range'_one, List.flatMap_cons, List.flatMap_nil, List.append_nil]
  rw [List.range_succ, List.filter_append]
  have : [n].filter (fun c => decide (rk' c = nI s) && op' c) = [n] := by simp [hz, ho]
  rw [this]
  congr 1
  exact List.filter_congr (fun c hc => by rw [h1 c (List.mem_range.mp hc), h2 c (List.mem_range.mp hc)])
/-- the change n comes: behind all of its risk or a lower one -/
theorem cwl_ins {rk rk' : Nat → Int32} {op op' : Nat → Bool} {n s : Nat} (h1 : ∀ c, c < n → rk' c = rk c) (h2 : ∀ c, c < n → op' c = op c) (hz : rk' n = nI s) (ho : op' n = true) (hs1 : 1 ≤ s) (hs9 : s ≤ 9) : ∃ A B : List Nat, cwl rk op n = A ++ B ∧ cwl rk' op' (n + 1) = A ++ n :: B ∧ (∀ c ∈ A, c < n ∧ ∃ t, t ≤ s ∧ rk c = nI t) ∧ (∀ c ∈ B, c < n ∧ ∃ t, s < t ∧ t < 10 ∧ rk c = nI t) := by
  refine ⟨cwb rk op n 1 s, cwb rk op n (1 + s) (9 - s), ?_, ?_, fun c hc => ?_, fun c hc => ?_⟩
  · rw [← cwb_app, show s + (9 - s) = 9 by omega]
    rfl
  · show cwb rk' op' (n + 1) 1 9 = _
    rw [show 9 = (s - 1) + (1 + (9 - s)) by omega, cwb_app, cwb_app, show 1 + (s - 1) = s by omega, show s + 1 = 1 + s by omega, cwb_own h1 h2 hz ho, cwb_other (s := s) (by omega) (by omega) h1 h2 hz (Or.inr (by omega)), cwb_other (s := s) (by omega) (by omega) h1 h2 hz (Or.inl (by omega))]
    rw [show cwb rk op n 1 s = cwb rk op n 1 (s - 1) ++ cwb rk op n s 1 by
      have := cwb_app (rk := rk) (op := op) (n := n) (r := 1) (j := s - 1) (k := 1)
      rw [show s - 1 + 1 = s by omega, show 1 + (s - 1) = s by omega] at this
      exact this]
    rw [show s - 1 + (1 + (9 - s)) - s = 9 - s by omega]
    simp
  · obtain ⟨g1, t, g2, g3, g4⟩ := cwb_mem hc
    exact ⟨g1, t, by omega, g4⟩
  · obtain ⟨g1, t, g2, g3, g4⟩ := cwb_mem hc
    exact ⟨g1, t, by omega, by omega, g4⟩
theorem cq_enq {rk rk' : Nat → Int32} {op op' : Nat → Bool} {n s q : Nat} {Q : Nat → Int32} (hn : n < 2 ^ 31) (h : cq rk op n Q q) (h1 : ∀ c, c < n → rk' c = rk c) (h2 : ∀ c, c < n → op' c = op c) (hz : rk' n = nI s) (ho : op' n = true) (hs1 : 1 ≤ s) (hs9 : s ≤ 9) : cq rk' op' (n + 1) (fz_enq rk' n q Q) (q + 1) := by
  obtain ⟨A, B, e1, e2, hA, hB⟩ := cwl_ins h1 h2 hz ho hs1 hs9
  obtain ⟨hq, hQ⟩ := h
  rw [e1] at hq hQ
  rw [List.length_append] at hq
  refine ⟨by rw [e2, List.length_append, List.length_cons]; omega, fun i hi => ?_⟩
  have hAi : ∀ j, j < A.length → Q j = nI (A.getD j 0) ∧ A.getD j 0 ∈ A := fun j hj => by
    rw [hQ j (by omega), fm_pick_app, if_pos hj, cw_get hj]
    simp [List.getD, List.getElem?_eq_getElem hj, List.getElem_mem hj]
  have hBi : ∀ j, A.length ≤ j → j < q → Q j = nI (B.getD (j - A.length) 0) ∧ B.getD (j - A.length) 0 ∈ B := fun j hj hjq => by
    have hl : j - A.length < B.length := by omega
    rw [hQ j hjq, fm_pick_app, if_neg (by omega), cw_get hl]
    simp [List.getD, List.getElem?_eq_getElem hl, List.getElem_mem hl]
  rw [fz_enq_spec (p := A.length) q Q (by omega) (fun j g1 g2 => ?_) (fun g => ?_) i (by omega), e2, fm_pick_app]
  · by_cases c1 : i < A.length
    · rw [if_pos c1, if_pos c1, hQ i (by omega), fm_pick_app, if_pos c1]
    · rw [if_neg c1, if_neg c1]
      by_cases c2 : i = A.length
      · rw [if_pos c2, show i - A.length = 0 by omega]
        rfl
      · rw [if_neg c2, hQ (i - 1) (by omega), fm_pick_app, if_neg (by omega), show i - A.length = (i - 1 - A.length) + 1 by omega]
        rfl
  · obtain ⟨g3, g4⟩ := hBi j g1 g2
    obtain ⟨g5, t, g6, g7, g8⟩ := hB _ g4
    rw [g3, nI_clamp (by omega), h1 _ g5, g8, hz]
    exact fun z => absurd ((nI_leI (by omega) (by omega)).mp z) (by omega)
  · obtain ⟨g3, g4⟩ := hAi (A.length - 1) (by omega)
    obtain ⟨g5, t, g6, g8⟩ := hA _ g4
    rw [g3, nI_clamp (by omega), h1 _ g5, g8, hz]
    exact (nI_leI (by omega) (by omega)).mpr g6
theorem cq_deq {rk : Nat → Int32} {op op' : Nat → Bool} {n z q : Nat} {Q : Nat → Int32} (hn : n < 2 ^ 31) (hz : z < n) (h : cq rk op n Q q) (h2 : ∀ c, c < n → op' c = (op c && decide (c ≠ z))) : cq rk op' n (fz_deq (nI z) Q q).2 (fz_deq (nI z) Q q).1 := by
  obtain ⟨hq, hQ⟩ := h
  subst hq
  obtain ⟨g1, g2⟩ := fz_deq_spec (L := cwl rk op n) (Q := Q) (z := z) (by omega) (fun c hc => by have := (cwl_mem hc).1; omega) hQ _ (Nat.le_refl _)
  rw [List.take_length] at g1 g2
  rw [← cwl_del h2] at g1 g2
  exact ⟨g1, g2⟩
