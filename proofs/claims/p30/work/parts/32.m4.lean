/-! the model: texts of commands -/
theorem fz_Pw {D : va_G} {cl : List vw_C} {H : Heap} {ws ws2 : va_W} (h : va_P D cl ws H) (e : ws = ws2) : va_P D cl ws2 H := by
  subst e
  exact h
theorem fz_Dw {A : Nat → Prop} {ws ws2 : va_W} (h : va_D A ws) (e : ws = ws2) : va_D A ws2 := by
  subst e
  exact h
/-- the byte at p, -1 behind the end -/
def tx_at (T : Nat → Int32) (n p : Nat) : Int32 := if p < n then T p else -1
def tx_flt (f a : Int32) : Int32 := if f = -1 then a else f
/-- from p on, k at most: the first place at which f does not hold -/
def tx_sk (f : Nat → Bool) : Nat → Nat → Nat
  | 0, p => p
  | k + 1, p => bif f p then tx_sk f k (p + 1) else p
def tx_sp (T : Nat → Int32) (n p : Nat) : Nat := tx_sk (fun q => decide (T q = 32)) (n - p) p
def tx_le (T : Nat → Int32) (n p : Nat) : Nat := tx_sk (fun q => fm_in (T q) 97 122) (n - p) p
theorem tx_sk_ge (f : Nat → Bool) : ∀ k p, p ≤ tx_sk f k p
  | 0, p => Nat.le_refl p
  | k + 1, p => by
    rw [tx_sk]
    cases f p
    · exact Nat.le_refl p
    · exact Nat.le_trans (Nat.le_succ p) (tx_sk_ge f k (p + 1))
theorem tx_sk_le (f : Nat → Bool) : ∀ k p, tx_sk f k p ≤ p + k
  | 0, p => Nat.le_refl p
  | k + 1, p => by
    rw [tx_sk]
    cases f p
    · exact Nat.le_add_right p (k + 1)
    · have h := tx_sk_le f k (p + 1)
      show tx_sk f k (p + 1) ≤ p + (k + 1)
      omega
theorem tx_sp_ge (T : Nat → Int32) (n p : Nat) : p ≤ tx_sp T n p := tx_sk_ge _ _ _
theorem tx_sp_le (T : Nat → Int32) (n p : Nat) : tx_sp T n p ≤ p ∨ tx_sp T n p ≤ n := by
  have h := tx_sk_le (fun q => decide (T q = 32)) (n - p) p
  show tx_sk _ _ _ ≤ p ∨ tx_sk _ _ _ ≤ n
  omega
theorem tx_le_ge (T : Nat → Int32) (n p : Nat) : p ≤ tx_le T n p := tx_sk_ge _ _ _
theorem tx_le_le (T : Nat → Int32) (n p : Nat) : tx_le T n p ≤ p ∨ tx_le T n p ≤ n := by
  have h := tx_sk_le (fun q => fm_in (T q) 97 122) (n - p) p
  show tx_sk _ _ _ ≤ p ∨ tx_sk _ _ _ ≤ n
  omega
theorem tx_at_lt {T : Nat → Int32} {n p : Nat} (h : ¬ tx_at T n p = -1) : p < n := Nat.lt_of_not_le fun z => h (by rw [tx_at, if_neg (by omega)])
theorem tx_sp_y {T : Nat → Int32} {n p : Nat} (h : tx_at T n p = 32) : p < n ∧ tx_sp T n p = tx_sp T n (p + 1) := by
  have hp : p < n := tx_at_lt (by rw [h]; decide)
  rw [tx_at, if_pos hp] at h
  refine ⟨hp, ?_⟩
  rw [tx_sp, tx_sp, show n - p = (n - (p + 1)) + 1 by omega, tx_sk, decide_eq_true h]
  rfl
theorem tx_sp_n {T : Nat → Int32} {n p : Nat} (h : ¬ tx_at T n p = 32) : tx_sp T n p = p := by
  by_cases hp : p < n
  · rw [tx_at, if_pos hp] at h
    rw [tx_sp, show n - p = (n - (p + 1)) + 1 by omega, tx_sk, decide_eq_false h]
    rfl
  · rw [tx_sp, show n - p = 0 by omega, tx_sk]
theorem tx_le_y {T : Nat → Int32} {n p : Nat} (h : fm_in (tx_at T n p) 97 122 = true) : p < n ∧ tx_le T n p = tx_le T n (p + 1) := by
  have hp : p < n := tx_at_lt fun z => by
    rw [z] at h
    exact absurd h (by decide)
  rw [tx_at, if_pos hp] at h
  refine ⟨hp, ?_⟩
  rw [tx_le, tx_le, show n - p = (n - (p + 1)) + 1 by omega, tx_sk, h]
  rfl
theorem tx_le_n {T : Nat → Int32} {n p : Nat} (h : fm_in (tx_at T n p) 97 122 = false) : tx_le T n p = p := by
  by_cases hp : p < n
  · rw [tx_at, if_pos hp] at h
    rw [tx_le, show n - p = (n - (p + 1)) + 1 by omega, tx_sk, h]
    rfl
  · rw [tx_le, show n - p = 0 by omega, tx_sk]
/-- the first k letters from p on, as a number -/
def tx_lv (T : Nat → Int32) (n p : Nat) : Nat → Int64
  | 0 => 0
  | k + 1 => if k + 1 ≤ 6 then (tx_lv T n p k <<< ((5 : Int32).toInt64 &&& 63)) ||| (tx_at T n (p + k) - 96).toInt64 else 0
def tx_lw (T : Nat → Int32) (n p k : Nat) : Int64 := if k ≤ 6 then tx_lv T n p k else 0
def tx_s1 (v : Int64) (x : Int32) : Int64 := if x ≤ 0 then v else (v <<< ((5 : Int32).toInt64 &&& 63)) ||| x.toInt64
def tx_spelt (a b c d e f : Int32) : Int64 := tx_s1 (tx_s1 (tx_s1 (tx_s1 (tx_s1 (tx_s1 0 a) b) c) d) e) f
def tx_w1 (v : Int64) : Int32 := if lg_cmp v (tx_spelt 20 5 1 13 0 0) = 0 then 0 else if lg_cmp v (tx_spelt 6 18 5 5 26 5) = 0 then 1 else if lg_cmp v (tx_spelt 20 8 1 23 0 0) = 0 then 2 else -1
def tx_w2 (v : Int64) : Int32 := if lg_cmp v (tx_spelt 1 19 11 0 0 0) = 0 then 3 else if lg_cmp v (tx_spelt 5 24 5 13 16 20) = 0 then 4 else if lg_cmp v (tx_spelt 4 15 14 5 0 0) = 0 then 5 else tx_w1 v
def tx_w3 (v : Int64) : Int32 := if lg_cmp v (tx_spelt 6 1 21 12 20 0) = 0 then 6 else if lg_cmp v (tx_spelt 4 18 15 16 0 0) = 0 then 7 else if lg_cmp v (tx_spelt 12 5 14 4 0 0) = 0 then 8 else tx_w2 v
def tx_word (v : Int64) : Int32 := if lg_cmp v (tx_spelt 18 5 16 1 25 0) = 0 then 9 else if lg_cmp v (tx_spelt 19 5 20 0 0 0) = 0 then 10 else if lg_cmp v (tx_spelt 23 5 5 11 0 0) = 0 then 11 else tx_w3 v
theorem tx_or {c : Prop} [Decidable c] {y x : Int32} (a : Nat) (ha : a < 12) (ey : y = nI a) (h : x = -1 ∨ ∃ j : Nat, j < 12 ∧ x = nI j) : (if c then y else x) = -1 ∨ ∃ j : Nat, j < 12 ∧ (if c then y else x) = nI j := by
  by_cases hc : c
  · rw [if_pos hc]
    exact Or.inr ⟨a, ha, ey⟩
  · rw [if_neg hc]
    exact h
theorem tx_w1_or (v : Int64) : tx_w1 v = -1 ∨ ∃ j : Nat, j < 12 ∧ tx_w1 v = nI j := tx_or 0 (by decide) rfl (tx_or 1 (by decide) rfl (tx_or 2 (by decide) rfl (Or.inl rfl)))
theorem tx_w2_or (v : Int64) : tx_w2 v = -1 ∨ ∃ j : Nat, j < 12 ∧ tx_w2 v = nI j := tx_or 3 (by decide) rfl (tx_or 4 (by decide) rfl (tx_or 5 (by decide) rfl (tx_w1_or v)))
theorem tx_w3_or (v : Int64) : tx_w3 v = -1 ∨ ∃ j : Nat, j < 12 ∧ tx_w3 v = nI j := tx_or 6 (by decide) rfl (tx_or 7 (by decide) rfl (tx_or 8 (by decide) rfl (tx_w2_or v)))
theorem tx_word_or (v : Int64) : tx_word v = -1 ∨ ∃ j : Nat, j < 12 ∧ tx_word v = nI j := tx_or 9 (by decide) rfl (tx_or 10 (by decide) rfl (tx_or 11 (by decide) rfl (tx_w3_or v)))
/-- how many numbers a command has -/
def tx_many : Nat → Nat
  | 0 => 1
  | 4 => 1
  | 5 => 1
  | 6 => 1
  | 7 => 1
  | 8 => 4
  | 11 => 0
  | _ => 2
theorem tx_many_le {w : Nat} (h : w < 12) : tx_many w ≤ 4 := by
  rcases (show w = 0 ∨ w = 1 ∨ w = 2 ∨ w = 3 ∨ w = 4 ∨ w = 5 ∨ w = 6 ∨ w = 7 ∨ w = 8 ∨ w = 9 ∨ w = 10 ∨ w = 11 by omega) with rfl | rfl | rfl | rfl | rfl | rfl | rfl | rfl | rfl | rfl | rfl | rfl <;> decide
/-- digits from p on, k at most: the place behind them, their number -/
def tx_nd (T : Nat → Int32) (n : Nat) : Nat → Nat → Int32 → Nat × Int32
  | 0, p, v => (p, v)
  | k + 1, p, v => bif fm_in (tx_at T n p) 48 57 then tx_nd T n k (p + 1) (10 * v + tx_at T n p - 48) else (p, v)
theorem tx_nd_y {T : Nat → Int32} {n k p : Nat} {v : Int32} (hk : 0 < k) (h : fm_in (tx_at T n p) 48 57 = true) : tx_nd T n k p v = tx_nd T n (k - 1) (p + 1) (10 * v + tx_at T n p - 48) := by
  obtain ⟨j, rfl⟩ : ∃ j, k = j + 1 := ⟨k - 1, by omega⟩
  rw [tx_nd, h]
  rfl
theorem tx_nd_n {T : Nat → Int32} {n k p : Nat} {v : Int32} (h : fm_in (tx_at T n p) 48 57 = false) : tx_nd T n k p v = (p, v) := by
  cases k
  · rfl
  · rw [tx_nd, h]
    rfl
theorem tx_nd_0 {T : Nat → Int32} {n k p : Nat} {v : Int32} (h : k = 0) : tx_nd T n k p v = (p, v) := by
  subst h
  rfl
/-- q is not before p, and not behind both p and n -/
def tx_R (n p q : Nat) : Prop := p ≤ q ∧ (q ≤ p ∨ q ≤ n)
theorem tx_R.tr {n p q r : Nat} (h : tx_R n p q) (h2 : tx_R n q r) : tx_R n p r := by
  unfold tx_R at *
  omega
theorem tx_R.rf {n p : Nat} : tx_R n p p := ⟨Nat.le_refl p, Or.inl (Nat.le_refl p)⟩
theorem tx_R_sp (T : Nat → Int32) (n p : Nat) : tx_R n p (tx_sp T n p) := ⟨tx_sp_ge T n p, tx_sp_le T n p⟩
theorem tx_R_le (T : Nat → Int32) (n p : Nat) : tx_R n p (tx_le T n p) := ⟨tx_le_ge T n p, tx_le_le T n p⟩
theorem tx_dg_lt {T : Nat → Int32} {n p : Nat} (h : fm_in (tx_at T n p) 48 57 = true) : p < n := tx_at_lt fun z => by
  rw [z] at h
  exact absurd h (by decide)
theorem tx_R_nd (T : Nat → Int32) (n : Nat) : ∀ k p v, tx_R n p (tx_nd T n k p v).1
  | 0, p, v => tx_R.rf
  | k + 1, p, v => by
    cases e : fm_in (tx_at T n p) 48 57
    · rw [tx_nd_n e]
      exact tx_R.rf
    · have h := tx_dg_lt e
      rw [tx_nd_y (by omega) e]
      exact tx_R.tr (q := p + 1) ⟨by omega, by omega⟩ (tx_R_nd T n k (p + 1) _)
/-- a number is read, the model's way: place, fault, number -/
def tx_f1 (T : Nat → Int32) (n p : Nat) (f : Int32) : Int32 := if tx_at T n p = 32 then f else tx_flt f (nI p)
def tx_f2 (T : Nat → Int32) (n p : Nat) (f : Int32) : Int32 := bif fm_in (tx_at T n (tx_sp T n p)) 48 57 then tx_f1 T n p f else tx_flt (tx_f1 T n p f) (nI (tx_sp T n p))
def tx_ne (T : Nat → Int32) (n p : Nat) : Nat × Int32 := tx_nd T n 3 (tx_sp T n p) 0
def tx_f3 (T : Nat → Int32) (n p : Nat) (f : Int32) : Int32 := bif fm_in (tx_at T n (tx_ne T n p).1) 48 57 then tx_flt (tx_f2 T n p f) (nI (tx_ne T n p).1) else tx_f2 T n p f
/-- k numbers from number i on, as long as there is no fault: place, fault, numbers -/
def tx_ns (T : Nat → Int32) (n : Nat) : Nat → Nat → Nat → Int32 → (Nat → Int32) → Nat × Int32 × (Nat → Int32)
  | 0, _, p, f, Z => (p, f, Z)
  | k + 1, i, p, f, Z => if f = -1 then tx_ns T n k (i + 1) (tx_ne T n p).1 (tx_f3 T n p f) (upd Z i (tx_ne T n p).2) else (p, f, Z)
theorem tx_ns_f {T : Nat → Int32} {n k i p : Nat} {f : Int32} {Z : Nat → Int32} (h : ¬ f = -1) : tx_ns T n k i p f Z = (p, f, Z) := by
  cases k
  · rfl
  · rw [tx_ns, if_neg h]
theorem tx_ns_s {T : Nat → Int32} {n k i p : Nat} {f : Int32} {Z : Nat → Int32} (h : f = -1) (hk : 0 < k) : tx_ns T n k i p f Z = tx_ns T n (k - 1) (i + 1) (tx_ne T n p).1 (tx_f3 T n p f) (upd Z i (tx_ne T n p).2) := by
  obtain ⟨j, rfl⟩ : ∃ j, k = j + 1 := ⟨k - 1, by omega⟩
  rw [tx_ns, if_pos h]
  rfl
theorem tx_R_ne (T : Nat → Int32) (n p : Nat) : tx_R n p (tx_ne T n p).1 := (tx_R_sp T n p).tr (tx_R_nd T n 3 _ 0)
theorem tx_R_ns (T : Nat → Int32) (n : Nat) : ∀ k i p f Z, tx_R n p (tx_ns T n k i p f Z).1
  | 0, i, p, f, Z => tx_R.rf
  | k + 1, i, p, f, Z => by
    rw [tx_ns]
    split
    · exact (tx_R_ne T n p).tr (tx_R_ns T n k (i + 1) _ _ _)
    · exact tx_R.rf
/-- a command is read from p on: place, word, fault, numbers -/
def tx_rd2 (T : Nat → Int32) (n : Nat) (w : Int32) (r : Nat × Int32 × (Nat → Int32)) : Nat × Int32 × Int32 × (Nat → Int32) := (tx_sp T n r.1 + 1, w, if tx_at T n (tx_sp T n r.1) = 59 then r.2.1 else tx_flt r.2.1 (nI (tx_sp T n r.1)), r.2.2)
def tx_wd (T : Nat → Int32) (n p : Nat) : Int32 := tx_word (tx_lw T n p (tx_le T n p - p))
def tx_rd (T : Nat → Int32) (n p : Nat) (w0 : Int32) (Z : Nat → Int32) : Nat × Int32 × Int32 × (Nat → Int32) :=
  if tx_le T n p = p then (p, w0, nI p, Z) else if tx_wd T n p = -1 then (p, -1, nI p, Z) else tx_rd2 T n (tx_wd T n p) (tx_ns T n (tx_many (tx_wd T n p).toNatClampNeg) 0 (tx_le T n p) (-1) Z)
theorem tx_rd_adv {T : Nat → Int32} {n p : Nat} {w0 : Int32} {Z : Nat → Int32} (hp : p < 1000) (h : (tx_rd T n p w0 Z).2.2.1 = -1) : p + 1 ≤ (tx_rd T n p w0 Z).1 := by
  rw [tx_rd] at h ⊢
  by_cases h1 : tx_le T n p = p
  · rw [if_pos h1] at h
    exact absurd h (fm_m1 (Nat.lt_trans hp (by decide)))
  · rw [if_neg h1] at h ⊢
    by_cases h2 : tx_wd T n p = -1
    · rw [if_pos h2] at h
      exact absurd h (fm_m1 (Nat.lt_trans hp (by decide)))
    · rw [if_neg h2]
      have a := (tx_le_ge T n p)
      have b := (tx_R_ns T n (tx_many (tx_wd T n p).toNatClampNeg) 0 (tx_le T n p) (-1) Z).1
      have c := tx_sp_ge T n (tx_ns T n (tx_many (tx_wd T n p).toNatClampNeg) 0 (tx_le T n p) (-1) Z).1
      show p + 1 ≤ tx_sp T n (tx_ns T n (tx_many (tx_wd T n p).toNatClampNeg) 0 (tx_le T n p) (-1) Z).1 + 1
      omega
theorem tx_rd_le {T : Nat → Int32} {n p : Nat} {w0 : Int32} {Z : Nat → Int32} (hp : p < n) : (tx_rd T n p w0 Z).1 ≤ n + 1 := by
  rw [tx_rd]
  by_cases h1 : tx_le T n p = p
  · rw [if_pos h1]
    show p ≤ n + 1
    omega
  · rw [if_neg h1]
    by_cases h2 : tx_wd T n p = -1
    · rw [if_pos h2]
      show p ≤ n + 1
      omega
    · rw [if_neg h2]
      have a := (tx_R_le T n p).tr ((tx_R_ns T n (tx_many (tx_wd T n p).toNatClampNeg) 0 (tx_le T n p) (-1) Z).tr (tx_R_sp T n _))
      show tx_sp T n (tx_ns T n (tx_many (tx_wd T n p).toNatClampNeg) 0 (tx_le T n p) (-1) Z).1 + 1 ≤ n + 1
      unfold tx_R at a
      omega
/-- the model with a place, word, fault and numbers -/
def fm_st (M : Nat → Nat → Int32) (S : Nat × Int32 × Int32 × (Nat → Int32)) : Nat → Nat → Int32 := fz_up (fz_up M 0 (upd (upd (upd (M 0) 4 (nI S.1)) 5 S.2.1) 6 S.2.2.1)) 5 S.2.2.2
def tx_fs (T : Nat → Int32) (n : Nat) (S : Nat × Int32 × Int32 × (Nat → Int32)) : Nat × Int32 × Int32 × (Nat → Int32) := (tx_sp T n (tx_rd T n S.1 S.2.1 S.2.2.2).1, (tx_rd T n S.1 S.2.1 S.2.2.2).2)
def tx_fo (T : Nat → Int32) (n : Nat) : Nat → Nat × Int32 × Int32 × (Nat → Int32) → Nat × Int32 × Int32 × (Nat → Int32)
  | 0, S => S
  | k + 1, S => if S.2.2.1 = -1 then (if S.1 < n then tx_fo T n k (tx_fs T n S) else S) else S
theorem tx_fo_f {T : Nat → Int32} {n k : Nat} {S : Nat × Int32 × Int32 × (Nat → Int32)} (h : ¬ S.2.2.1 = -1) : tx_fo T n k S = S := by
  cases k
  · rfl
  · rw [tx_fo, if_neg h]
theorem tx_fo_n {T : Nat → Int32} {n k : Nat} {S : Nat × Int32 × Int32 × (Nat → Int32)} (h : n ≤ S.1) : tx_fo T n k S = S := by
  cases k
  · rfl
  · rw [tx_fo]
    split
    · rw [if_neg (by omega)]
    · rfl
theorem tx_fo_s {T : Nat → Int32} {n k : Nat} {S : Nat × Int32 × Int32 × (Nat → Int32)} (h : S.2.2.1 = -1) (h2 : S.1 < n) (hk : 0 < k) : tx_fo T n k S = tx_fo T n (k - 1) (tx_fs T n S) := by
  obtain ⟨j, rfl⟩ : ∃ j, k = j + 1 := ⟨k - 1, by omega⟩
  rw [tx_fo, if_pos h, if_pos h2]
  rfl
def tx_fa (T : Nat → Int32) (n : Nat) (w0 : Int32) (Z : Nat → Int32) : Nat × Int32 × Int32 × (Nat → Int32) := tx_fo T n 200 (tx_sp T n 0, w0, -1, Z)
def tx_mu (f : Int32) (a : Nat) : Nat := if f = -1 then 1000 - a else 0
theorem tx_mu_lt {f g : Int32} {a b : Nat} (h : f = -1) (ha : a < 1000) (hb : g = -1 → a + 1 ≤ b) : tx_mu g b < tx_mu f a := by
  rw [tx_mu, tx_mu, if_pos h]
  split
  · next e => have := hb e; omega
  · omega
