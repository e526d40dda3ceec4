/-! words of letters -/
def enc (f : Nat → Nat) : Nat → Nat
  | 0 => 0
  | k + 1 => enc f k * 32 + f k
theorem enc_inj {f g : Nat → Nat} : ∀ (k m : Nat), (∀ i, i < k → 1 ≤ f i ∧ f i ≤ 31) → (∀ i, i < m → 1 ≤ g i ∧ g i ≤ 31) → enc f k = enc g m → k = m ∧ ∀ i, i < k → f i = g i
  | 0, 0, _, _, _ => ⟨rfl, fun i hi => absurd hi (Nat.not_lt_zero i)⟩
  | 0, m + 1, _, hg, h => by
    have := (hg m (by omega)).1
    rw [enc, enc] at h
    omega
  | k + 1, 0, hf, _, h => by
    have := (hf k (by omega)).1
    rw [enc, enc] at h
    omega
  | k + 1, m + 1, hf, hg, h => by
    have h1 := hf k (by omega)
    have h2 := hg m (by omega)
    rw [enc, enc] at h
    obtain ⟨e1, e2⟩ := enc_inj (f := f) (g := g) k m (fun i hi => hf i (by omega)) (fun i hi => hg i (by omega)) (by omega)
    refine ⟨by omega, fun i hi => ?_⟩
    by_cases c : i = k
    · have : f k = g m := by omega
      rw [c, this, e1]
    · exact e2 i (by omega)
theorem enc_lt {f : Nat → Nat} : ∀ k, (∀ i, i < k → f i ≤ 31) → enc f k < 32 ^ k
  | 0, _ => Nat.zero_lt_one
  | k + 1, h => by
    have ih := enc_lt k (fun i hi => h i (by omega))
    have := h k (by omega)
    rw [enc, Nat.pow_succ]
    omega
theorem letter_n : ∀ t, t < 123 → 97 ≤ t → ((nI t - 96 : Int32).toInt64).toBitVec.toNat = t - 96 := by decide +kernel
theorem shift_c : ((5 : Int32).toInt64 &&& 63 : Int64).toBitVec.smod 64 = 5#64 := by decide +kernel
theorem lv_nat {T : Nat → Int32} {n p : Nat} {t : Nat → Nat} : ∀ k, k ≤ 6 → (∀ i, i < k → 97 ≤ t i ∧ t i ≤ 122 ∧ tx_at T n (p + i) = nI (t i)) → (tx_lv T n p k).toBitVec.toNat = enc (fun i => t i - 96) k
  | 0, _, _ => rfl
  | k + 1, hk, h => by
    have ih := lv_nat (T := T) (n := n) (p := p) (t := t) k (by omega) (fun i hi => h i (by omega))
    obtain ⟨h1, h2, h3⟩ := h k (by omega)
    have hlt : enc (fun i => t i - 96) k < 32 ^ k := enc_lt k (fun i hi => by
      show t i - 96 ≤ 31
      have := h i (by omega)
      omega)
    have hlt5 : enc (fun i => t i - 96) k < 2 ^ 25 := Nat.lt_of_lt_of_le hlt (by
      rw [show (2 : Nat) ^ 25 = 32 ^ 5 by decide]
      exact Nat.pow_le_pow_right (by decide) (by omega))
    rw [tx_lv, if_pos hk, Int64.toBitVec_or, BitVec.toNat_or, Int64.toBitVec_shiftLeft, shift_c, h3, letter_n _ (by omega) h1]
    rw [show (tx_lv T n p k).toBitVec <<< 5#64 = (tx_lv T n p k).toBitVec <<< 5 from rfl, BitVec.toNat_shiftLeft, ih, Nat.mod_eq_of_lt (by rw [Nat.shiftLeft_eq]; omega), ← Nat.shiftLeft_add_eq_or_of_lt (show t k - 96 < 2 ^ 5 by omega), Nat.shiftLeft_eq]
    rfl
theorem cmp_eq {v w : Int64} : lg_cmp v w = 0 ↔ v = w := by
  unfold lg_cmp
  constructor
  · intro h
    split at h
    · exact absurd h (by decide)
    · split at h
      · rename_i h1 h2
        first
          | exact h2
          | exact absurd h (by decide)
      · first
          | exact absurd h (by decide)
          | (rename_i h1 h2; exact absurd h (by decide))
  · intro h
    subst h
    simp
/-- the words' letters, spelt -/
def wsp (i : Nat) : Int64 := [tx_spelt 20 5 1 13 0 0, tx_spelt 6 18 5 5 26 5, tx_spelt 20 8 1 23 0 0, tx_spelt 1 19 11 0 0 0, tx_spelt 5 24 5 13 16 20, tx_spelt 4 15 14 5 0 0, tx_spelt 6 1 21 12 20 0, tx_spelt 4 18 15 16 0 0, tx_spelt 12 5 14 4 0 0, tx_spelt 18 5 16 1 25 0, tx_spelt 19 5 20 0 0 0, tx_spelt 23 5 5 11 0 0].getD i 0
theorem wsp_nat : ∀ i, i < 12 → (wsp i).toBitVec.toNat = enc (fun k => (vbc i k).toNatClampNeg - 96) (vbl i) := by decide +kernel
theorem vbc_let : ∀ i, i < 12 → ∀ k, k < vbl i → vbc i k = nI (vbc i k).toNatClampNeg ∧ 97 ≤ (vbc i k).toNatClampNeg ∧ (vbc i k).toNatClampNeg ≤ 122 := by decide +kernel
theorem vbl_pos : ∀ i, i < 12 → 3 ≤ vbl i := by decide +kernel
theorem wsp_word : ∀ w, w < 12 → tx_word (wsp w) = nI w := by decide +kernel
theorem wsp_n0 : ∀ w, w < 12 → ¬ (0 : Int64) = wsp w := by decide +kernel
theorem any_false {f : Nat → Bool} : ∀ {n : Nat}, (∀ k, k < n → f k = false) → fz_any f n = false
  | 0, _ => rfl
  | n + 1, h => fz_any_step (any_false (fun k hk => h k (by omega))) (h n (by omega))
theorem i64_nat {v w : Int64} (h : v.toBitVec.toNat = w.toBitVec.toNat) : v = w := Int64.toBitVec_inj.mp (BitVec.eq_of_toNat_eq h)
theorem word_st {T : Nat → Int32} {n p q : Nat} {t : Nat → Nat} (hpq : p ≤ q) (ht : ∀ i, i < q - p → 97 ≤ t i ∧ t i ≤ 122 ∧ T (p + i) = nI (t i) ∧ p + i < n) {i : Nat} (hi : i < 12) : tx_lw T n p (q - p) = wsp i ↔ vb_st T i p q = true := by
  have hl6 := vbl_le i hi
  have hl3 := vbl_pos i hi
  by_cases hk : q - p ≤ 6
  · have e0 := lv_nat (T := T) (n := n) (p := p) (t := t) (q - p) hk (fun j hj => by
      obtain ⟨h1, h2, h3, h4⟩ := ht j hj
      exact ⟨h1, h2, by rw [tx_at_in h4]; exact h3⟩)
    have e1 := wsp_nat i hi
    rw [tx_lw, if_pos hk, vb_st]
    constructor
    · intro h
      rw [h, e1] at e0
      obtain ⟨g1, g2⟩ := enc_inj (vbl i) (q - p) (fun k hk2 => by
        have := vbc_let i hi k hk2
        show 1 ≤ (vbc i k).toNatClampNeg - 96 ∧ (vbc i k).toNatClampNeg - 96 ≤ 31
        omega) (fun k hk2 => by
        have := ht k hk2
        show 1 ≤ t k - 96 ∧ t k - 96 ≤ 31
        omega) e0
      rw [decide_eq_true g1, any_false (fun k hk2 => ?_)]
      · rfl
      · obtain ⟨v1, v2, v3⟩ := vbc_let i hi k hk2
        obtain ⟨t1, t2, t3, t4⟩ := ht k (by omega)
        have g3 : (vbc i k).toNatClampNeg - 96 = t k - 96 := g2 k hk2
        have g4 : (vbc i k).toNatClampNeg = t k := by omega
        have g5 : vbc i k = T (p + k) := by rw [v1, t3, g4]
        simp [g5]
    · intro h
      simp only [Bool.and_eq_true, decide_eq_true_eq, Bool.not_eq_true'] at h
      obtain ⟨g1, g2⟩ := h
      refine i64_nat ?_
      rw [e0, e1, ← g1]
      have key : ∀ m, m ≤ vbl i → enc (fun j => t j - 96) m = enc (fun k => (vbc i k).toNatClampNeg - 96) m := by
        intro m
        induction m with
        | zero => intro _; rfl
        | succ m ihm =>
          intro hm
          rw [enc, enc, ihm (by omega)]
          obtain ⟨t1, t2, t3, t4⟩ := ht m (by omega)
          have g3 : vbc i m = T (p + m) := by
            cases hd : decide (vbc i m = T (p + m)) with
            | true => exact of_decide_eq_true hd
            | false =>
              have := fz_any_hit (f := fun k => !(decide (vbc i k = T (p + k)))) (k := m) (by simp [hd]) (n := vbl i) (by omega)
              rw [g2] at this
              exact absurd this (by decide)
          have g4 : (vbc i m).toNatClampNeg = t m := fz_tnat (g3.trans t3) (by omega)
          show _ * 32 + (t m - 96) = _ * 32 + ((vbc i m).toNatClampNeg - 96)
          rw [g4]
      exact key (vbl i) (Nat.le_refl _)
  · rw [tx_lw, if_neg hk, vb_st]
    constructor
    · intro h
      exact absurd h (wsp_n0 i hi)
    · intro h
      simp only [Bool.and_eq_true, decide_eq_true_eq] at h
      omega
theorem vb_fd_none {f : Nat → Bool} : ∀ {n k : Nat}, vb_fd f n k = none → ∀ j, k ≤ j → j < k + n → f j = false
  | 0, k, _, j, h1, h2 => by omega
  | n + 1, k, h, j, h1, h2 => by
    rw [vb_fd] at h
    cases e : f k with
    | true =>
      rw [e, cond_true] at h
      cases h
    | false =>
      rw [e, cond_false] at h
      by_cases c : j = k
      · rw [c]
        exact e
      · exact vb_fd_none h j (by omega) (by omega)
/-- the class and the model read the same verb -/
theorem word_eq {T : Nat → Int32} {n p q : Nat} {t : Nat → Nat} (hpq : p ≤ q) (ht : ∀ i, i < q - p → 97 ≤ t i ∧ t i ≤ 122 ∧ T (p + i) = nI (t i) ∧ p + i < n) : (vb_find T p q = none ∧ tx_word (tx_lw T n p (q - p)) = -1) ∨ ∃ w, w < 12 ∧ vb_find T p q = some w ∧ tx_word (tx_lw T n p (q - p)) = nI w := by
  cases hf : vb_find T p q with
  | some w =>
    have h1 := vb_find_lt hf
    have h2 := (vb_fd_lt hf).2
    exact Or.inr ⟨w, h1, rfl, by rw [(word_st hpq ht h1).mpr h2]; exact wsp_word w h1⟩
  | none =>
    have h1 := fun j (hj : j < 12) => vb_fd_none hf j (Nat.zero_le j) (by omega)
    have h2 : ∀ j, j < 12 → ¬ lg_cmp (tx_lw T n p (q - p)) (wsp j) = 0 := fun j hj z => by
      have := (word_st hpq ht hj).mp (cmp_eq.mp z)
      rw [h1 j hj] at this
      exact absurd this (by decide)
    refine Or.inl ⟨rfl, ?_⟩
    unfold tx_word tx_w3 tx_w2 tx_w1
    have n0 : ¬ lg_cmp (tx_lw T n p (q - p)) (tx_spelt 20 5 1 13 0 0) = 0 := h2 0 (by decide)
    have n1 : ¬ lg_cmp (tx_lw T n p (q - p)) (tx_spelt 6 18 5 5 26 5) = 0 := h2 1 (by decide)
    have n2 : ¬ lg_cmp (tx_lw T n p (q - p)) (tx_spelt 20 8 1 23 0 0) = 0 := h2 2 (by decide)
    have n3 : ¬ lg_cmp (tx_lw T n p (q - p)) (tx_spelt 1 19 11 0 0 0) = 0 := h2 3 (by decide)
    have n4 : ¬ lg_cmp (tx_lw T n p (q - p)) (tx_spelt 5 24 5 13 16 20) = 0 := h2 4 (by decide)
    have n5 : ¬ lg_cmp (tx_lw T n p (q - p)) (tx_spelt 4 15 14 5 0 0) = 0 := h2 5 (by decide)
    have n6 : ¬ lg_cmp (tx_lw T n p (q - p)) (tx_spelt 6 1 21 12 20 0) = 0 := h2 6 (by decide)
    have n7 : ¬ lg_cmp (tx_lw T n p (q - p)) (tx_spelt 4 18 15 16 0 0) = 0 := h2 7 (by decide)
    have n8 : ¬ lg_cmp (tx_lw T n p (q - p)) (tx_spelt 12 5 14 4 0 0) = 0 := h2 8 (by decide)
    have n9 : ¬ lg_cmp (tx_lw T n p (q - p)) (tx_spelt 18 5 16 1 25 0) = 0 := h2 9 (by decide)
    have n10 : ¬ lg_cmp (tx_lw T n p (q - p)) (tx_spelt 19 5 20 0 0 0) = 0 := h2 10 (by decide)
    have n11 : ¬ lg_cmp (tx_lw T n p (q - p)) (tx_spelt 23 5 5 11 0 0) = 0 := h2 11 (by decide)
    rw [if_neg n9, if_neg n10, if_neg n11, if_neg n6, if_neg n7, if_neg n8, if_neg n3, if_neg n4, if_neg n5, if_neg n0, if_neg n1, if_neg n2]
