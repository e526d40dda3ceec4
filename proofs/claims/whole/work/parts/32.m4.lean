/-! the model: texts of commands -/
theorem fz_Pw {D : va_G} {cl : List vw_C} {H : Heap} {ws ws2 : va_W} (h : va_P D cl ws H) (e : ws = ws2) : va_P D cl ws2 H := by
  subst e
  exact h
theorem fz_Dw {A : Nat → Prop} {ws ws2 : va_W} (h : va_D A ws) (e : ws = ws2) : va_D A ws2 := by
  subst e
  exact h
/-- the byte at p, -1 behind the end -/
def tx_at (T : Nat → Int32) (n p : Nat) : Int32 := if p < n then T p else -1
def tx_flt (f a : Int32) : Int32 := if f = -1 then a else f
/-- from p on, k at most: the first place at which f does not hold -/
def tx_sk (f : Nat → Bool) : Nat → Nat → Nat
  | 0, p => p
  | k + 1, p => bif f p then tx_sk f k (p + 1) else p
def tx_sp (T : Nat → Int32) (n p : Nat) : Nat := tx_sk (fun q => decide (T q = 32)) (n - p) p
def tx_le (T : Nat → Int32) (n p : Nat) : Nat := tx_sk (fun q => fm_in (T q) 97 122) (n - p) p
theorem tx_sk_ge (f : Nat → Bool) : ∀ k p, p ≤ tx_sk f k p
  | 0, p => Nat.le_refl p
  | k + 1, p => by
    rw [tx_sk]
    cases f p
    · exact Nat.le_refl p
    · exact Nat.le_trans (Nat.le_succ p) (tx_sk_ge f k (p + 1))
theorem tx_sk_le (f : Nat → Bool) : ∀ k p, tx_sk f k p ≤ p + k
  | 0, p => Nat.le_refl p
  | k + 1, p => by
    rw [tx_sk]
    cases f p
    · exact Nat.le_add_right p (k + 1)
    · have h := tx_sk_le f k (p + 1)
      show tx_sk f k (p + 1) ≤ p + (k + 1)
      omega
theorem tx_sp_ge (T : Nat → Int32) (n p : Nat) : p ≤ tx_sp T n p := tx_sk_ge _ _ _
theorem tx_sp_le (T : Nat → Int32) (n p : Nat) : tx_sp T n p ≤ p ∨ tx_sp T n p ≤ n := by
  have h := tx_sk_le (fun q => decide (T q = 32)) (n - p) p
  show tx_sk _ _ _ ≤ p ∨ tx_sk _ _ _ ≤ n
  omega
theorem tx_le_ge (T : Nat → Int32) (n p : Nat) : p ≤ tx_le T n p := tx_sk_ge _ _ _
theorem tx_le_le (T : Nat → Int32) (n p : Nat) : tx_le T n p ≤ p ∨ tx_le T n p ≤ n := by
  have h := tx_sk_le (fun q => fm_in (T q) 97 122) (n - p) p
  show tx_sk _ _ _ ≤ p ∨ tx_sk _ _ _ ≤ n
  omega
theorem tx_at_lt {T : Nat → Int32} {n p : Nat} (h : ¬ tx_at T n p = -1) : p < n := Nat.lt_of_not_le fun z => h (by rw [tx_at, if_neg (by omega)])
theorem tx_sp_y {T : Nat → Int32} {n p : Nat} (h : tx_at T n p = 32) : p < n ∧ tx_sp T n p = tx_sp T n (p + 1) := by
  have hp : p < n := tx_at_lt (by rw [h]; decide)
  rw [tx_at, if_pos hp] at h
  refine ⟨hp, ?_⟩
  rw [tx_sp, tx_sp, show n - p = (n - (p + 1)) + 1 by omega, tx_sk, decide_eq_true h]
  rfl
theorem tx_sp_n {T : Nat → Int32} {n p : Nat} (h : ¬ tx_at T n p = 32) : tx_sp T n p = p := by
  by_cases hp : p < n
  · rw [tx_at, if_pos hp] at h
    rw [tx_sp, show n - p = (n - (p + 1)) + 1 by omega, tx_sk, decide_eq_false h]
    rfl
  · rw [tx_sp, show n - p = 0 by omega, tx_sk]
theorem tx_le_y {T : Nat → Int32} {n p : Nat} (h : fm_in (tx_at T n p) 97 122 = true) : p < n ∧ tx_le T n p = tx_le T n (p + 1) := by
  have hp : p < n := tx_at_lt fun z => by
    rw [z] at h
    exact absurd h (by decide)
  rw [tx_at, if_pos hp] at h
  refine ⟨hp, ?_⟩
  rw [tx_le, tx_le, show n - p = (n - (p + 1)) + 1 by omega, tx_sk, h]
  rfl
theorem tx_le_n {T : Nat → Int32} {n p : Nat} (h : fm_in (tx_at T n p) 97 122 = false) : tx_le T n p = p := by
  by_cases hp : p < n
  · rw [tx_at, if_pos hp] at h
    rw [tx_le, show n - p = (n - (p + 1)) + 1 by omega, tx_sk, h]
    rfl
  · rw [tx_le, show n - p = 0 by omega, tx_sk]
/-- the first k letters from p on, as a number -/
def tx_lv (T : Nat → Int32) (n p : Nat) : Nat → Int64
  | 0 => 0
  | k + 1 => if k + 1 ≤ 6 then (tx_lv T n p k <<< ((5 : Int32).toInt64 &&& 63)) ||| (tx_at T n (p + k) - 96).toInt64 else 0
def tx_lw (T : Nat → Int32) (n p k : Nat) : Int64 := if k ≤ 6 then tx_lv T n p k else 0
def tx_s1 (v : Int64) (x : Int32) : Int64 := if x ≤ 0 then v else (v <<< ((5 : Int32).toInt64 &&& 63)) ||| x.toInt64
def tx_spelt (a b c d e f : Int32) : Int64 := tx_s1 (tx_s1 (tx_s1 (tx_s1 (tx_s1 (tx_s1 0 a) b) c) d) e) f
def tx_w1 (v : Int64) : Int32 := if lg_cmp v (tx_spelt 20 5 1 13 0 0) = 0 then 0 else if lg_cmp v (tx_spelt 6 18 5 5 26 5) = 0 then 1 else if lg_cmp v (tx_spelt 20 8 1 23 0 0) = 0 then 2 else -1
def tx_w2 (v : Int64) : Int32 := if lg_cmp v (tx_spelt 1 19 11 0 0 0) = 0 then 3 else if lg_cmp v (tx_spelt 5 24 5 13 16 20) = 0 then 4 else if lg_cmp v (tx_spelt 4 15 14 5 0 0) = 0 then 5 else tx_w1 v
def tx_w3 (v : Int64) : Int32 := if lg_cmp v (tx_spelt 6 1 21 12 20 0) = 0 then 6 else if lg_cmp v (tx_spelt 4 18 15 16 0 0) = 0 then 7 else if lg_cmp v (tx_spelt 12 5 14 4 0 0) = 0 then 8 else tx_w2 v
def tx_word (v : Int64) : Int32 := if lg_cmp v (tx_spelt 18 5 16 1 25 0) = 0 then 9 else if lg_cmp v (tx_spelt 19 5 20 0 0 0) = 0 then 10 else if lg_cmp v (tx_spelt 23 5 5 11 0 0) = 0 then 11 else tx_w3 v
theorem tx_or {c : Prop} [Decidable c] {y x : Int32} (a : Nat) (ha : a < 12) (ey : y = nI a) (h : x = -1 ∨ ∃ j : Nat, j < 12 ∧ x = nI j) : (if c then y else x) = -1 ∨ ∃ j : Nat, j < 12 ∧ (if c then y else x) = nI j := by
  by_cases hc : c
  · rw [if_pos hc]
    exact Or.inr ⟨a, ha, ey⟩
  · rw [if_neg hc]
    exact h
theorem tx_w1_or (v : Int64) : tx_w1 v = -1 ∨ ∃ j : Nat, j < 12 ∧ tx_w1 v = nI j := tx_or 0 (by decide) rfl (tx_or 1 (by decide) rfl (tx_or 2 (by decide) rfl (Or.inl rfl)))
theorem tx_w2_or (v : Int64) : tx_w2 v = -1 ∨ ∃ j : Nat, j < 12 ∧ tx_w2 v = nI j := tx_or 3 (by decide) rfl (tx_or 4 (by decide) rfl (tx_or 5 (by decide) rfl (tx_w1_or v)))
theorem tx_w3_or (v : Int64) : tx_w3 v = -1 ∨ ∃ j : Nat, j < 12 ∧ tx_w3 v = nI j := tx_or 6 (by decide) rfl (tx_or 7 (by decide) rfl (tx_or 8 (by decide) rfl (tx_w2_or v)))
theorem tx_word_or (v : Int64) : tx_word v = -1 ∨ ∃ j : Nat, j < 12 ∧ tx_word v = nI j := tx_or 9 (by decide) rfl (tx_or 10 (by decide) rfl (tx_or 11 (by decide) rfl (tx_w3_or v)))
/-- how many numbers a command has -/
def tx_many : Nat → Nat
  | 0 => 1
  | 4 => 1
  | 5 => 1
  | 6 => 1
  | 7 => 1
  | 8 => 4
  | 11 => 0
  | _ => 2
theorem tx_many_le {w : Nat} (h : w < 12) : tx_many w ≤ 4 := by
  rcases (show w = 0 ∨ w = 1 ∨ w = 2 ∨ w = 3 ∨ w = 4 ∨ w = 5 ∨ w = 6 ∨ w = 7 ∨ w = 8 ∨ w = 9 ∨ w = 10 ∨ w = 11 by omega) with rfl | rfl | rfl | rfl | rfl | rfl | rfl | rfl | rfl | rfl | rfl | rfl <;> decide
/-- digits from p on, k at most: the place behind them, their number -/
def tx_nd (T : Nat → Int32) (n : Nat) : Nat → Nat → Int32 → Nat × Int32
  | 0, p, v => (p, v)
  | k + 1, p, v => bif fm_in (tx_at T n p) 48 57 then tx_nd T n k (p + 1) (10 * v + tx_at T n p - 48) else (p, v)
theorem tx_nd_y {T : Nat → Int32} {n k p : Nat} {v : Int32} (hk : 0 < k) (h : fm_in (tx_at T n p) 48 57 = true) : tx_nd T n k p v = tx_nd T n (k - 1) (p + 1) (10 * v + tx_at T n p - 48) := by
  obtain ⟨j, rfl⟩ : ∃ j, k = j + 1 := ⟨k - 1, by omega⟩
  rw [tx_nd, h]
  rfl
theorem tx_nd_n {T : Nat → Int32} {n k p : Nat} {v : Int32} (h : fm_in (tx_at T n p) 48 57 = false) : tx_nd T n k p v = (p, v) := by
  cases k
  · rfl
  · rw [tx_nd, h]
    rfl
theorem tx_nd_0 {T : Nat → Int32} {n k p : Nat} {v : Int32} (h : k = 0) : tx_nd T n k p v = (p, v) := by
  subst h
  rfl
/-- q is not before p, and not behind both p and n -/
def tx_R (n p q : Nat) : Prop := p ≤ q ∧ (q ≤ p ∨ q ≤ n)
theorem tx_R.tr {n p q r : Nat} (h : tx_R n p q) (h2 : tx_R n q r) : tx_R n p r := by
  unfold tx_R at *
  omega
theorem tx_R.rf {n p : Nat} : tx_R n p p := ⟨Nat.le_refl p, Or.inl (Nat.le_refl p)⟩
theorem tx_R_sp (T : Nat → Int32) (n p : Nat) : tx_R n p (tx_sp T n p) := ⟨tx_sp_ge T n p, tx_sp_le T n p⟩
theorem tx_R_le (T : Nat → Int32) (n p : Nat) : tx_R n p (tx_le T n p) := ⟨tx_le_ge T n p, tx_le_le T n p⟩
theorem tx_dg_lt {T : Nat → Int32} {n p : Nat} (h : fm_in (tx_at T n p) 48 57 = true) : p < n := tx_at_lt fun z => by
  rw [z] at h
  exact absurd h (by decide)
theorem tx_R_nd (T : Nat → Int32) (n : Nat) : ∀ k p v, tx_R n p (tx_nd T n k p v).1
  | 0, p, v => tx_R.rf
  | k + 1, p, v => by
    cases e : fm_in (tx_at T n p) 48 57
    · rw [tx_nd_n e]
      exact tx_R.rf
    · have h := tx_dg_lt e
      rw [tx_nd_y (by omega) e]
      exact tx_R.tr (q := p + 1) ⟨by omega, by omega⟩ (tx_R_nd T n k (p + 1) _)
/-- a number is read, the model's way: place, fault, number -/
def tx_f1 (T : Nat → Int32) (n p : Nat) (f : Int32) : Int32 := if tx_at T n p = 32 then f else tx_flt f (nI p)
def tx_f2 (T : Nat → Int32) (n p : Nat) (f : Int32) : Int32 := bif fm_in (tx_at T n (tx_sp T n p)) 48 57 then tx_f1 T n p f else tx_flt (tx_f1 T n p f) (nI (tx_sp T n p))
def tx_ne (T : Nat → Int32) (n p : Nat) : Nat × Int32 := tx_nd T n 3 (tx_sp T n p) 0
def tx_f3 (T : Nat → Int32) (n p : Nat) (f : Int32) : Int32 := bif fm_in (tx_at T n (tx_ne T n p).1) 48 57 then tx_flt (tx_f2 T n p f) (nI (tx_ne T n p).1) else tx_f2 T n p f
/-- k numbers from number i on, as long as there is no fault: place, fault, numbers -/
def tx_ns (T : Nat → Int32) (n : Nat) : Nat → Nat → Nat → Int32 → (Nat → Int32) → Nat × Int32 × (Nat → Int32)
  | 0, _, p, f, Z => (p, f, Z)
  | k + 1, i, p, f, Z => if f = -1 then tx_ns T n k (i + 1) (tx_ne T n p).1 (tx_f3 T n p f) (upd Z i (tx_ne T n p).2) else (p, f, Z)
theorem tx_ns_f {T : Nat → Int32} {n k i p : Nat} {f : Int32} {Z : Nat → Int32} (h : ¬ f = -1) : tx_ns T n k i p f Z = (p, f, Z) := by
  cases k
  · rfl
  · rw [tx_ns, if_neg h]
theorem tx_ns_s {T : Nat → Int32} {n k i p : Nat} {f : Int32} {Z : Nat → Int32} (h : f = -1) (hk : 0 < k) : tx_ns T n k i p f Z = tx_ns T n (k - 1) (i + 1) (tx_ne T n p).1 (tx_f3 T n p f) (upd Z i (tx_ne T n p).2) := by
  obtain ⟨j, rfl⟩ : ∃ j, k = j + 1 := ⟨k - 1, by omega⟩
  rw [tx_ns, if_pos h]
  rfl
theorem tx_R_ne (T : Nat → Int32) (n p : Nat) : tx_R n p (tx_ne T n p).1 := (tx_R_sp T n p).tr (tx_R_nd T n 3 _ 0)
theorem tx_R_ns (T : Nat → Int32) (n : Nat) : ∀ k i p f Z, tx_R n p (tx_ns T n k i p f Z).1
  | 0, i, p, f, Z => tx_R.rf
  | k + 1, i, p, f, Z => by
    rw [tx_ns]
    split
    · exact (tx_R_ne T n p).tr (tx_R_ns T n k (i + 1) _ _ _)
    · exact tx_R.rf
/-- a command is read from p on: place, word, fault, numbers -/
def tx_rd2 (T : Nat → Int32) (n : Nat) (w : Int32) (r : Nat × Int32 × (Nat → Int32)) : Nat × Int32 × Int32 × (Nat → Int32) := (tx_sp T n r.1 + 1, w, if tx_at T n (tx_sp T n r.1) = 59 then r.2.1 else tx_flt r.2.1 (nI (tx_sp T n r.1)), r.2.2)
def tx_wd (T : Nat → Int32) (n p : Nat) : Int32 := tx_word (tx_lw T n p (tx_le T n p - p))
def tx_rd (T : Nat → Int32) (n p : Nat) (w0 : Int32) (Z : Nat → Int32) : Nat × Int32 × Int32 × (Nat → Int32) :=
  if tx_le T n p = p then (p, w0, nI p, Z) else if tx_wd T n p = -1 then (p, -1, nI p, Z) else tx_rd2 T n (tx_wd T n p) (tx_ns T n (tx_many (tx_wd T n p).toNatClampNeg) 0 (tx_le T n p) (-1) Z)
theorem tx_rd_adv {T : Nat → Int32} {n p : Nat} {w0 : Int32} {Z : Nat → Int32} (hp : p < 1000) (h : (tx_rd T n p w0 Z).2.2.1 = -1) : p + 1 ≤ (tx_rd T n p w0 Z).1 := by
  rw [tx_rd] at h ⊢
  by_cases h1 : tx_le T n p = p
  · rw [if_pos h1] at h
    exact absurd h (fm_m1 (Nat.lt_trans hp (by decide)))
  · rw [if_neg h1] at h ⊢
    by_cases h2 : tx_wd T n p = -1
    · rw [if_pos h2] at h
      exact absurd h (fm_m1 (Nat.lt_trans hp (by decide)))
    · rw [if_neg h2]
      have a := (tx_le_ge T n p)
      have b := (tx_R_ns T n (tx_many (tx_wd T n p).toNatClampNeg) 0 (tx_le T n p) (-1) Z).1
      have c := tx_sp_ge T n (tx_ns T n (tx_many (tx_wd T n p).toNatClampNeg) 0 (tx_le T n p) (-1) Z).1
      show p + 1 ≤ tx_sp T n (tx_ns T n (tx_many (tx_wd T n p).toNatClampNeg) 0 (tx_le T n p) (-1) Z).1 + 1
      omega
theorem tx_rd_le {T : Nat → Int32} {n p : Nat} {w0 : Int32} {Z : Nat → Int32} (hp : p < n) : (tx_rd T n p w0 Z).1 ≤ n + 1 := by
  rw [tx_rd]
  by_cases h1 : tx_le T n p = p
  · rw [if_pos h1]
    show p ≤ n + 1
    omega
  · rw [if_neg h1]
    by_cases h2 : tx_wd T n p = -1
    · rw [if_pos h2]
      show p ≤ n + 1
      omega
    · rw [if_neg h2]
      have a := (tx_R_le T n p).tr ((tx_R_ns T n (tx_many (tx_wd T n p).toNatClampNeg) 0 (tx_le T n p) (-1) Z).tr (tx_R_sp T n _))
      show tx_sp T n (tx_ns T n (tx_many (tx_wd T n p).toNatClampNeg) 0 (tx_le T n p) (-1) Z).1 + 1 ≤ n + 1
      unfold tx_R at a
      omega
/-- the model with a place, word, fault and numbers -/
def fm_st (M : Nat → Nat → Int32) (S : Nat × Int32 × Int32 × (Nat → Int32)) : Nat → Nat → Int32 := fz_up (fz_up M 0 (upd (upd (upd (M 0) 4 (nI S.1)) 5 S.2.1) 6 S.2.2.1)) 5 S.2.2.2
def tx_fs (T : Nat → Int32) (n : Nat) (S : Nat × Int32 × Int32 × (Nat → Int32)) : Nat × Int32 × Int32 × (Nat → Int32) := (tx_sp T n (tx_rd T n S.1 S.2.1 S.2.2.2).1, (tx_rd T n S.1 S.2.1 S.2.2.2).2)
def tx_fo (T : Nat → Int32) (n : Nat) : Nat → Nat × Int32 × Int32 × (Nat → Int32) → Nat × Int32 × Int32 × (Nat → Int32)
  | 0, S => S
  | k + 1, S => if S.2.2.1 = -1 then (if S.1 < n then tx_fo T n k (tx_fs T n S) else S) else S
theorem tx_fo_f {T : Nat → Int32} {n k : Nat} {S : Nat × Int32 × Int32 × (Nat → Int32)} (h : ¬ S.2.2.1 = -1) : tx_fo T n k S = S := by
  cases k
  · rfl
  · rw [tx_fo, if_neg h]
theorem tx_fo_n {T : Nat → Int32} {n k : Nat} {S : Nat × Int32 × Int32 × (Nat → Int32)} (h : n ≤ S.1) : tx_fo T n k S = S := by
  cases k
  · rfl
  · rw [tx_fo]
    split
    · rw [if_neg (by omega)]
    · rfl
theorem tx_fo_s {T : Nat → Int32} {n k : Nat} {S : Nat × Int32 × Int32 × (Nat → Int32)} (h : S.2.2.1 = -1) (h2 : S.1 < n) (hk : 0 < k) : tx_fo T n k S = tx_fo T n (k - 1) (tx_fs T n S) := by
  obtain ⟨j, rfl⟩ : ∃ j, k = j + 1 := ⟨k - 1, by omega⟩
  rw [tx_fo, if_pos h, if_pos h2]
  rfl
def tx_fa (T : Nat → Int32) (n : Nat) (w0 : Int32) (Z : Nat → Int32) : Nat × Int32 × Int32 × (Nat → Int32) := tx_fo T n 200 (tx_sp T n 0, w0, -1, Z)
def tx_mu (f : Int32) (a : Nat) : Nat := if f = -1 then 1000 - a else 0
theorem tx_mu_lt {f g : Int32} {a b : Nat} (h : f = -1) (ha : a < 1000) (hb : g = -1 → a + 1 ≤ b) : tx_mu g b < tx_mu f a := by
  rw [tx_mu, tx_mu, if_pos h]
  split
  · next e => have := hb e; omega
  · omega
set_option maxHeartbeats 4000000 in
set_option maxRecDepth 100000 in
/-- the model: here -/
theorem c_X9_here (l : Launch) (D : va_G) (cy : Nat → ClassId) (b : Nat → Nat) (M : Nat → Nat → Int32) (h : Int64) (ln pp : Nat) (hln : M 0 1 = nI ln) (hln150 : ln ≤ 150) (hp : M 0 4 = nI pp) (hp9 : pp < 2000) : fz_RI l yX9_here wsX9_here 0 0 D cy [.ref (b 0)] (MW cy b M h) fz_T (tx_at (M 4) ln pp) := by
  refine Met.ofW (cc := cX9_here) (maxL := 1) (ret := (some .int)) (by decide) rfl ?_
  intro p e s m args below meth c s₁ B hml hv
  obtain ⟨rfl, hP, hK, hE⟩ := hv
  have hx := B.exec
  have hb := B.bytes
  have hr := B.returns
  have hts := atoms_spec (ws := wsX9_here) B.pre
  have hown : s.vm.findClass RX9 = some m.cls := findClass_of_methodNamed B.named
  have hlocks := B.notSynchronized
  have hl := lv_entry ([.ref (b 0)]) (n := 1) (Nat.le_of_ble_eq_true rfl)
  rw [lg_entry_eq]
  generalize (lg_sl ([.ref (b 0)]) ++ List.replicate (1 - (lg_sl ([.ref (b 0)])).length) Slot.unset).toArray = ls at hl ⊢
  have hl : lv_has ls 1 [(0, .ref (b 0))] := hl
  have k_184 := hts (.fieldLink RX9 184 "FreezeCreditsModel" "at" "I") (by decide +kernel)
  have inX9 : ∀ w ∈ u_ws RX9 TX9 13, w ∈ wsX9_here := by decide +kernel
  have k_166 := hts (.fieldLink RX9 166 "FreezeCreditsModel" "length" "I") (by decide +kernel)
  have k_19 := hts (.fieldLink RX9 19 "FreezeCreditsModel" "text" "[I") (by decide +kernel)
  refine lv_aload_n hx hb dX9_here_0 rfl (lv_at hl 0 rfl) ?_
  refine va_get (D := D) (ci := 7) (v := .int (M 0 4)) (C := RX9) (T := TX9) (N := 13) hx hb hts inX9 hown hK hP 0 rfl rfl 8 (by decide) k_184 (fun _ h9 => h9) rfl dX9_here_1 ?_
  refine lv_aload_n hx hb dX9_here_4 rfl (lv_at hl 0 rfl) ?_
  refine va_get (D := D) (ci := 7) (v := .int (M 0 1)) (C := RX9) (T := TX9) (N := 13) hx hb hts inX9 hown hK hP 0 rfl rfl 5 (by decide) k_166 (fun _ h9 => h9) rfl dX9_here_5 ?_
  refine fz_geN (tgt := 23) hx hb pp ln hp hln dX9_here_8 (by decide) (by omega) (by omega) (fun c_1 => ?_) (fun c_1 => ?_)
  · skip
    refine lv_iconst (v := (-1)) hx hb dX9_here_23 (by decide) ?_
    exact W.iret (v := (-1)) hx hb hr (fun t9 ht9 hW9 => ⟨_, rfl, (by rw [tx_at, if_neg (by omega)]), ht9⟩) (fun _ h => nomatch h) dX9_here_24
  · skip
    refine lv_aload_n hx hb dX9_here_11 rfl (lv_at hl 0 rfl) ?_
    refine va_get (D := D) (ci := 7) (v := .ref (b 4)) (C := RX9) (T := TX9) (N := 13) hx hb hts inX9 hown hK hP 0 rfl rfl 4 (by decide) k_19 (fun _ h9 => h9) rfl dX9_here_12 ?_
    refine lv_aload_n hx hb dX9_here_15 rfl (lv_at hl 0 rfl) ?_
    refine va_get (D := D) (ci := 7) (v := .int (M 0 4)) (C := RX9) (T := TX9) (N := 13) hx hb hts inX9 hown hK hP 0 rfl rfl 8 (by decide) k_184 (fun _ h9 => h9) rfl dX9_here_16 ?_
    refine fz_iald (f := M 4) hx hb hK hP 4 0 rfl rfl pp hp (by omega) (by decide) dX9_here_19 ?_
    refine lv_goto (tgt := 24) hx hb dX9_here_20 (by decide) ?_
    exact W.iret (v := (M 4 pp)) hx hb hr (fun t9 ht9 hW9 => ⟨_, rfl, (by rw [tx_at, if_pos (by omega)]), ht9⟩) (fun _ h => nomatch h) dX9_here_24
set_option maxHeartbeats 4000000 in
set_option maxRecDepth 100000 in
/-- the model: isLetter -/
theorem c_X9_isLetter (l : Launch) (D : va_G) (cy : Nat → ClassId) (x : Int32) : fz_RI l yX9_isLetter wsX9_isLetter 1 22 D cy [.int x] ([] : va_W) fz_T (fz_b (fm_in x 97 122)) := by
  refine Met.ofW (cc := cX9_isLetter) (maxL := 1) (ret := (some .boolean)) (by decide) rfl ?_
  intro p e s m args below meth c s₁ B hml hv
  obtain ⟨rfl, hP, hK, hE⟩ := hv
  have hx := B.exec
  have hb := B.bytes
  have hr := B.returns
  have hts := atoms_spec (ws := wsX9_isLetter) B.pre
  have hown : s.vm.findClass RX9 = some m.cls := findClass_of_methodNamed B.named
  have hlocks := B.notSynchronized
  have hl := lv_entry ([.int x]) (n := 1) (Nat.le_of_ble_eq_true rfl)
  rw [lg_entry_eq]
  generalize (lg_sl ([.int x]) ++ List.replicate (1 - (lg_sl ([.int x])).length) Slot.unset).toArray = ls at hl ⊢
  have hl : lv_has ls 1 [(0, .int x)] := hl
  refine lv_iload_n hx hb dX9_isLetter_0 rfl (lv_at hl 0 rfl) ?_
  refine lv_bipush (v := 97) hx hb dX9_isLetter_1 (by decide) ?_
  refine lv_bipush (v := 122) hx hb dX9_isLetter_3 (by decide) ?_
  refine fz_retR (va_runS (As := [.int x, .int 97, .int 122]) (rest := []) ⟨hx, hb, hml, hown, hts⟩ (c_X9_in l D cy x 97 122) (va_cwS 3 hts gX9_isLetter_X9_in rfl rfl rfl (by decide +kernel) ⟨Nat.le_of_ble_eq_true rfl, Nat.le_of_ble_eq_true rfl⟩) (fz_preS hK (fz_nil) fz_T_bl (fun _ _ _ => trivial)) rfl rfl hl.1 rfl (lv_room (Nat.le_of_ble_eq_true rfl)) dX9_isLetter_5 ⟨Nat.zero_le _, Nat.zero_le _⟩) ?_
  exact W.zret (v := (fz_b (fm_in x 97 122))) hx hb hr (fz_b_narrow (fm_in x 97 122)) (fun t9 ht9 hW9 => ⟨_, rfl, rfl, ht9⟩) (fun _ h => nomatch h) dX9_isLetter_8
set_option maxHeartbeats 4000000 in
set_option maxRecDepth 100000 in
/-- the model: isDigit -/
theorem c_X9_isDigit (l : Launch) (D : va_G) (cy : Nat → ClassId) (x : Int32) : fz_RI l yX9_isDigit wsX9_isDigit 1 22 D cy [.int x] ([] : va_W) fz_T (fz_b (fm_in x 48 57)) := by
  refine Met.ofW (cc := cX9_isDigit) (maxL := 1) (ret := (some .boolean)) (by decide) rfl ?_
  intro p e s m args below meth c s₁ B hml hv
  obtain ⟨rfl, hP, hK, hE⟩ := hv
  have hx := B.exec
  have hb := B.bytes
  have hr := B.returns
  have hts := atoms_spec (ws := wsX9_isDigit) B.pre
  have hown : s.vm.findClass RX9 = some m.cls := findClass_of_methodNamed B.named
  have hlocks := B.notSynchronized
  have hl := lv_entry ([.int x]) (n := 1) (Nat.le_of_ble_eq_true rfl)
  rw [lg_entry_eq]
  generalize (lg_sl ([.int x]) ++ List.replicate (1 - (lg_sl ([.int x])).length) Slot.unset).toArray = ls at hl ⊢
  have hl : lv_has ls 1 [(0, .int x)] := hl
  refine lv_iload_n hx hb dX9_isDigit_0 rfl (lv_at hl 0 rfl) ?_
  refine lv_bipush (v := 48) hx hb dX9_isDigit_1 (by decide) ?_
  refine lv_bipush (v := 57) hx hb dX9_isDigit_3 (by decide) ?_
  refine fz_retR (va_runS (As := [.int x, .int 48, .int 57]) (rest := []) ⟨hx, hb, hml, hown, hts⟩ (c_X9_in l D cy x 48 57) (va_cwS 3 hts gX9_isDigit_X9_in rfl rfl rfl (by decide +kernel) ⟨Nat.le_of_ble_eq_true rfl, Nat.le_of_ble_eq_true rfl⟩) (fz_preS hK (fz_nil) fz_T_bl (fun _ _ _ => trivial)) rfl rfl hl.1 rfl (lv_room (Nat.le_of_ble_eq_true rfl)) dX9_isDigit_5 ⟨Nat.zero_le _, Nat.zero_le _⟩) ?_
  exact W.zret (v := (fz_b (fm_in x 48 57))) hx hb hr (fz_b_narrow (fm_in x 48 57)) (fun t9 ht9 hW9 => ⟨_, rfl, rfl, ht9⟩) (fun _ h => nomatch h) dX9_isDigit_8
set_option maxHeartbeats 4000000 in
set_option maxRecDepth 100000 in
/-- the model: faults -/
theorem c_X9_faults (l : Launch) (D : va_G) (cy : Nat → ClassId) (b : Nat → Nat) (M : Nat → Nat → Int32) (h : Int64) : fz_MV l yX9_faults wsX9_faults 0 0 D cy [.ref (b 0)] (MW cy b M h) fz_T (MW cy b (fz_up M 0 (upd (M 0) 6 (tx_flt (M 0 6) (M 0 4)))) h) := by
  refine Met.ofW (cc := cX9_faults) (maxL := 1) (ret := none) (by decide) rfl ?_
  intro p e s m args below meth c s₁ B hml hv
  obtain ⟨rfl, hP, hK, hD0, hE⟩ := hv
  have hx := B.exec
  have hb := B.bytes
  have hr := B.returns
  have hts := atoms_spec (ws := wsX9_faults) B.pre
  have hown : s.vm.findClass RX9 = some m.cls := findClass_of_methodNamed B.named
  have hlocks := B.notSynchronized
  have hD := fz_self hD0
  generalize hAe : fz_in (MW cy b M h) = A at hD ⊢
  have hS : va_S A s.heap s.heap [] := va_S.rf
  have hl := lv_entry ([.ref (b 0)]) (n := 1) (Nat.le_of_ble_eq_true rfl)
  rw [lg_entry_eq]
  generalize (lg_sl ([.ref (b 0)]) ++ List.replicate (1 - (lg_sl ([.ref (b 0)])).length) Slot.unset).toArray = ls at hl ⊢
  have hl : lv_has ls 1 [(0, .ref (b 0))] := hl
  have k_187 := hts (.fieldLink RX9 187 "FreezeCreditsModel" "fault" "I") (by decide +kernel)
  have inX9 : ∀ w ∈ u_ws RX9 TX9 13, w ∈ wsX9_faults := by decide +kernel
  have k_184 := hts (.fieldLink RX9 184 "FreezeCreditsModel" "at" "I") (by decide +kernel)
  refine lv_aload_n hx hb dX9_faults_0 rfl (lv_at hl 0 rfl) ?_
  refine lv_aload_n hx hb dX9_faults_1 rfl (lv_at hl 0 rfl) ?_
  refine va_get (D := D) (ci := 7) (v := .int (M 0 6)) (C := RX9) (T := TX9) (N := 13) hx hb hts inX9 hown hK hP 0 rfl rfl 11 (by decide) k_187 (fun _ h9 => h9) rfl dX9_faults_2 ?_
  refine lv_iconst (v := (-1)) hx hb dX9_faults_5 (by decide) ?_
  refine lv_icmp_ne (tgt := 16) hx hb dX9_faults_6 (by decide) (fun c_1 => ?_) (fun c_1 => ?_)
  · skip
    refine lv_aload_n hx hb dX9_faults_16 rfl (lv_at hl 0 rfl) ?_
    refine va_get (D := D) (ci := 7) (v := .int (M 0 6)) (C := RX9) (T := TX9) (N := 13) hx hb hts inX9 hown hK hP 0 rfl rfl 11 (by decide) k_187 (fun _ h9 => h9) rfl dX9_faults_17 ?_
    refine va_put (D := D) (ci := 7) (v := .int (M 0 6)) (ty := tyX9 11) (C := RX9) (T := TX9) (N := 13) hx hb hts inX9 tyX9 tyX9_ok nmX9 hown hK hP hD hS 0 rfl rfl 11 (by decide) k_187 (fun _ h9 => h9) rfl (by decide +kernel) rfl rfl (Nat.le_of_ble_eq_true rfl) dX9_faults_20 (fun H locs hP hD hS => ?_)
    have hP : va_P D vwCl (ME cy b (M 0 0) (M 0 1) (M 0 2) (M 0 3) (M 0 4) (M 0 5) (M 0 6) (M 1) (M 2) (M 3) (M 4) (M 5) h) H := hP
    have hD : va_D A (ME cy b (M 0 0) (M 0 1) (M 0 2) (M 0 3) (M 0 4) (M 0 5) (M 0 6) (M 1) (M 2) (M 3) (M 4) (M 5) h) := hD
    exact W.vret hx hb hr (fun t9 ht9 hW9 => ⟨⟨(), rfl, trivial, fz_to ht9 (by rw [tx_flt, if_neg c_1]; exact hP)⟩, hS.F ht9⟩) hS.2.2 dX9_faults_23
  · skip
    refine lv_aload_n hx hb dX9_faults_9 rfl (lv_at hl 0 rfl) ?_
    refine va_get (D := D) (ci := 7) (v := .int (M 0 4)) (C := RX9) (T := TX9) (N := 13) hx hb hts inX9 hown hK hP 0 rfl rfl 8 (by decide) k_184 (fun _ h9 => h9) rfl dX9_faults_10 ?_
    refine lv_goto (tgt := 20) hx hb dX9_faults_13 (by decide) ?_
    refine va_put (D := D) (ci := 7) (v := .int (M 0 4)) (ty := tyX9 11) (C := RX9) (T := TX9) (N := 13) hx hb hts inX9 tyX9 tyX9_ok nmX9 hown hK hP hD hS 0 rfl rfl 11 (by decide) k_187 (fun _ h9 => h9) rfl (by decide +kernel) rfl rfl (Nat.le_of_ble_eq_true rfl) dX9_faults_20 (fun H locs hP hD hS => ?_)
    have hP : va_P D vwCl (ME cy b (M 0 0) (M 0 1) (M 0 2) (M 0 3) (M 0 4) (M 0 5) (M 0 4) (M 1) (M 2) (M 3) (M 4) (M 5) h) H := hP
    have hD : va_D A (ME cy b (M 0 0) (M 0 1) (M 0 2) (M 0 3) (M 0 4) (M 0 5) (M 0 4) (M 1) (M 2) (M 3) (M 4) (M 5) h) := hD
    exact W.vret hx hb hr (fun t9 ht9 hW9 => ⟨⟨(), rfl, trivial, fz_to ht9 (by rw [tx_flt, if_pos c_1]; exact hP)⟩, hS.F ht9⟩) hS.2.2 dX9_faults_23
set_option maxHeartbeats 4000000 in
set_option maxRecDepth 100000 in
/-- the model: spaces -/
theorem c_X9_spaces (l : Launch) (D : va_G) (cy : Nat → ClassId) (b : Nat → Nat) (M : Nat → Nat → Int32) (h : Int64) (ln pp : Nat) (hln : M 0 1 = nI ln) (hln150 : ln ≤ 150) (hp : M 0 4 = nI pp) (hp9 : pp < 2000) : fz_MV l yX9_spaces wsX9_spaces 1 20 D cy [.ref (b 0)] (MW cy b M h) fz_T (MW cy b (fz_up M 0 (upd (M 0) 4 (nI (tx_sp (M 4) ln pp)))) h) := by
  refine Met.ofW (cc := cX9_spaces) (maxL := 1) (ret := none) (by decide) rfl ?_
  intro p e s m args below meth c s₁ B hml hv
  obtain ⟨rfl, hP, hK, hD0, hE⟩ := hv
  have hx := B.exec
  have hb := B.bytes
  have hr := B.returns
  have hts := atoms_spec (ws := wsX9_spaces) B.pre
  have hown : s.vm.findClass RX9 = some m.cls := findClass_of_methodNamed B.named
  have hlocks := B.notSynchronized
  have hD := fz_self hD0
  generalize hAe : fz_in (MW cy b M h) = A at hD ⊢
  have hS : va_S A s.heap s.heap [] := va_S.rf
  have hl := lv_entry ([.ref (b 0)]) (n := 1) (Nat.le_of_ble_eq_true rfl)
  rw [lg_entry_eq]
  generalize (lg_sl ([.ref (b 0)]) ++ List.replicate (1 - (lg_sl ([.ref (b 0)])).length) Slot.unset).toArray = ls at hl ⊢
  have hl : lv_has ls 1 [(0, .ref (b 0))] := hl
  have k_184 := hts (.fieldLink RX9 184 "FreezeCreditsModel" "at" "I") (by decide +kernel)
  have inX9 : ∀ w ∈ u_ws RX9 TX9 13, w ∈ wsX9_spaces := by decide +kernel
  have hP := fz_Pw (ws2 := ME cy b (M 0 0) (M 0 1) (M 0 2) (M 0 3) (nI pp) (M 0 5) (M 0 6) (M 1) (M 2) (M 3) (M 4) (M 5) h) hP (by rw [show nI pp = M 0 4 from hp.symm])
  have hD := fz_Dw (ws2 := ME cy b (M 0 0) (M 0 1) (M 0 2) (M 0 3) (nI pp) (M 0 5) (M 0 6) (M 1) (M 2) (M 3) (M 4) (M 5) h) hD (by rw [show nI pp = M 0 4 from hp.symm])
  refine fz_loopM (σ := Nat) (pc := 0) (nL := 1) (fun q => [(0, .ref (b 0))]) (fun q => ME cy b (M 0 0) (M 0 1) (M 0 2) (M 0 3) (nI q) (M 0 5) (M 0 6) (M 1) (M 2) (M 3) (M 4) (M 5) h) (fun q => (q = pp ∨ q ≤ ln) ∧ (tx_sp (M 4) ln q = tx_sp (M 4) ln pp)) (fun q => ln - q) ?_ pp (show (pp = pp ∨ pp ≤ ln) ∧ (tx_sp (M 4) ln pp = tx_sp (M 4) ln pp) from ⟨(Or.inl rfl), rfl⟩) _ _ ls hP hD hS (lv_sub hl [0] rfl)
  rintro q ⟨hq, eS⟩ ih0 H locs ls hP hD hS hl
  have hP : va_P D vwCl (ME cy b (M 0 0) (M 0 1) (M 0 2) (M 0 3) (nI q) (M 0 5) (M 0 6) (M 1) (M 2) (M 3) (M 4) (M 5) h) H := hP
  have hD : va_D A (ME cy b (M 0 0) (M 0 1) (M 0 2) (M 0 3) (nI q) (M 0 5) (M 0 6) (M 1) (M 2) (M 3) (M 4) (M 5) h) := hD
  have hq : q = pp ∨ q ≤ ln := hq
  have eS : tx_sp (M 4) ln q = tx_sp (M 4) ln pp := eS
  have hl : lv_has ls 1 [(0, .ref (b 0))] := hl
  refine lv_aload_n hx hb dX9_spaces_0 rfl (lv_at hl 0 rfl) ?_
  refine fz_retR (va_runV (As := []) (rest := []) ⟨hx, hb, hml, hown, hts⟩ (c_X9_here l D cy b (fz_up M 0 (upd (M 0) 4 (nI q))) h ln q hln hln150 rfl (by omega)) (cwV 0 hts gX9_spaces_X9_here rfl rfl rfl (by decide +kernel) ⟨Nat.le_of_ble_eq_true rfl, Nat.le_of_ble_eq_true rfl⟩) (fz_preV (ci := 7) (q0 := 0) hK hP rfl rfl rfl fz_T_bl (fun _ _ _ => trivial)) rfl rfl hl.1 rfl (lv_room (Nat.le_of_ble_eq_true rfl)) dX9_spaces_1 ⟨Nat.zero_le _, Nat.zero_le _⟩) ?_
  refine fz_top (show _ = tx_at (M 4) ln q from rfl) ?_
  refine lv_bipush (v := 32) hx hb dX9_spaces_4 (by decide) ?_
  refine lv_icmp_ne (tgt := 22) hx hb dX9_spaces_6 (by decide) (fun c_1 => ?_) (fun c_1 => ?_)
  · skip
    exact W.vret hx hb hr (fun t9 ht9 hW9 => ⟨⟨(), rfl, trivial, fz_to ht9 (by rw [← eS, tx_sp_n c_1]; exact hP)⟩, hS.F ht9⟩) hS.2.2 dX9_spaces_22
  · skip
    refine lv_aload_n hx hb dX9_spaces_9 rfl (lv_at hl 0 rfl) ?_
    refine lv_dup hx hb dX9_spaces_10 rfl ?_
    refine va_get (D := D) (ci := 7) (v := .int (nI q)) (C := RX9) (T := TX9) (N := 13) hx hb hts inX9 hown hK hP 0 rfl rfl 8 (by decide) k_184 (fun _ h9 => h9) rfl dX9_spaces_11 ?_
    refine lv_iconst (v := 1) hx hb dX9_spaces_14 (by decide) ?_
    refine fz_iaddN hx hb q 1 rfl rfl dX9_spaces_15 ?_
    refine va_put (D := D) (ci := 7) (v := .int (nI (q + 1))) (ty := tyX9 8) (C := RX9) (T := TX9) (N := 13) hx hb hts inX9 tyX9 tyX9_ok nmX9 hown hK hP hD hS 0 rfl rfl 8 (by decide) k_184 (fun _ h9 => h9) rfl (by decide +kernel) rfl rfl (Nat.le_of_ble_eq_true rfl) dX9_spaces_16 (fun H locs hP hD hS => ?_)
    have hP : va_P D vwCl (ME cy b (M 0 0) (M 0 1) (M 0 2) (M 0 3) (nI (q + 1)) (M 0 5) (M 0 6) (M 1) (M 2) (M 3) (M 4) (M 5) h) H := hP
    have hD : va_D A (ME cy b (M 0 0) (M 0 1) (M 0 2) (M 0 3) (nI (q + 1)) (M 0 5) (M 0 6) (M 1) (M 2) (M 3) (M 4) (M 5) h) := hD
    refine lv_goto (tgt := 0) hx hb dX9_spaces_19 (by decide) ?_
    exact ih0 (q + 1) (show ((q + 1) = pp ∨ (q + 1) ≤ ln) ∧ (tx_sp (M 4) ln (q + 1) = tx_sp (M 4) ln pp) from ⟨(Or.inr (by have hy := tx_sp_y c_1; omega)), (by rw [← eS, (tx_sp_y c_1).2])⟩) (by show ln - (q + 1) < ln - q; (have hy := tx_sp_y c_1; omega)) _ _ ls hP hD hS (lv_sub hl [0] rfl)
set_option maxHeartbeats 4000000 in
set_option maxRecDepth 100000 in
/-- the model: letters -/
theorem c_X9_letters (l : Launch) (D : va_G) (cy : Nat → ClassId) (b : Nat → Nat) (M : Nat → Nat → Int32) (h : Int64) (ln pp : Nat) (hln : M 0 1 = nI ln) (hln150 : ln ≤ 150) (hp : M 0 4 = nI pp) (hp9 : pp < 2000) : fz_ML l yX9_letters wsX9_letters 2 42 D cy [.ref (b 0)] (MW cy b M h) fz_T (tx_lw (M 4) ln pp (tx_le (M 4) ln pp - pp)) (MW cy b (fz_up M 0 (upd (M 0) 4 (nI (tx_le (M 4) ln pp)))) h) := by
  refine Met.ofW (cc := cX9_letters) (maxL := 4) (ret := (some .long)) (by decide) rfl ?_
  intro p e s m args below meth c s₁ B hml hv
  obtain ⟨rfl, hP, hK, hD0, hE⟩ := hv
  have hx := B.exec
  have hb := B.bytes
  have hr := B.returns
  have hts := atoms_spec (ws := wsX9_letters) B.pre
  have hown : s.vm.findClass RX9 = some m.cls := findClass_of_methodNamed B.named
  have hlocks := B.notSynchronized
  have hD := fz_self hD0
  generalize hAe : fz_in (MW cy b M h) = A at hD ⊢
  have hS : va_S A s.heap s.heap [] := va_S.rf
  have hl := lv_entry ([.ref (b 0)]) (n := 4) (Nat.le_of_ble_eq_true rfl)
  rw [lg_entry_eq]
  generalize (lg_sl ([.ref (b 0)]) ++ List.replicate (4 - (lg_sl ([.ref (b 0)])).length) Slot.unset).toArray = ls at hl ⊢
  have hl : lv_has ls 4 [(0, .ref (b 0))] := hl
  have k_184 := hts (.fieldLink RX9 184 "FreezeCreditsModel" "at" "I") (by decide +kernel)
  have inX9 : ∀ w ∈ u_ws RX9 TX9 13, w ∈ wsX9_letters := by decide +kernel
  refine lv_lconst (v := 0) hx hb dX9_letters_0 (by decide) ?_
  refine lv_lstore_n (lv' := [(1, .long 0), (0, .ref (b 0))]) hx hb dX9_letters_1 rfl hl (by decide) rfl (fun ls hl => ?_)
  refine lv_iconst (v := 0) hx hb dX9_letters_2 (by decide) ?_
  refine lv_istore_n (lv' := [(3, .int 0), (1, .long 0), (0, .ref (b 0))]) hx hb dX9_letters_3 rfl hl (by decide) rfl (fun ls hl => ?_)
  have hP := fz_Pw (ws2 := ME cy b (M 0 0) (M 0 1) (M 0 2) (M 0 3) (nI pp) (M 0 5) (M 0 6) (M 1) (M 2) (M 3) (M 4) (M 5) h) hP (by rw [show nI pp = M 0 4 from hp.symm])
  have hD := fz_Dw (ws2 := ME cy b (M 0 0) (M 0 1) (M 0 2) (M 0 3) (nI pp) (M 0 5) (M 0 6) (M 1) (M 2) (M 3) (M 4) (M 5) h) hD (by rw [show nI pp = M 0 4 from hp.symm])
  refine fz_loopM (σ := Nat × Nat × Int64) (pc := 4) (nL := 4) (fun x9 => match x9 with | (k, q, v) => [(0, .ref (b 0)), (1, .long v), (3, .int (nI k))]) (fun x9 => match x9 with | (k, q, v) => ME cy b (M 0 0) (M 0 1) (M 0 2) (M 0 3) (nI q) (M 0 5) (M 0 6) (M 1) (M 2) (M 3) (M 4) (M 5) h) (fun x9 => match x9 with | (k, q, v) => (q = pp + k) ∧ (k = 0 ∨ q ≤ ln) ∧ (v = tx_lv (M 4) ln pp k) ∧ (tx_le (M 4) ln q = tx_le (M 4) ln pp)) (fun x9 => match x9 with | (k, q, v) => ln - q) ?_ (0, pp, 0) (show (pp = pp + 0) ∧ (0 = 0 ∨ pp ≤ ln) ∧ (0 = tx_lv (M 4) ln pp 0) ∧ (tx_le (M 4) ln pp = tx_le (M 4) ln pp) from ⟨rfl, (Or.inl rfl), rfl, rfl⟩) _ _ ls hP hD hS (lv_sub hl [2, 1, 0] rfl)
  rintro ⟨k, q, v⟩ ⟨hq, hq2, ev, eL⟩ ih4 H locs ls hP hD hS hl
  have hP : va_P D vwCl (ME cy b (M 0 0) (M 0 1) (M 0 2) (M 0 3) (nI q) (M 0 5) (M 0 6) (M 1) (M 2) (M 3) (M 4) (M 5) h) H := hP
  have hD : va_D A (ME cy b (M 0 0) (M 0 1) (M 0 2) (M 0 3) (nI q) (M 0 5) (M 0 6) (M 1) (M 2) (M 3) (M 4) (M 5) h) := hD
  have hq : q = pp + k := hq
  have hq2 : k = 0 ∨ q ≤ ln := hq2
  have ev : v = tx_lv (M 4) ln pp k := ev
  have eL : tx_le (M 4) ln q = tx_le (M 4) ln pp := eL
  have hl : lv_has ls 4 [(0, .ref (b 0)), (1, .long v), (3, .int (nI k))] := hl
  refine lv_aload_n hx hb dX9_letters_4 rfl (lv_at hl 0 rfl) ?_
  refine fz_retR (va_runV (As := []) (rest := []) ⟨hx, hb, hml, hown, hts⟩ (c_X9_here l D cy b (fz_up M 0 (upd (M 0) 4 (nI q))) h ln q hln hln150 rfl (by omega)) (cwV 0 hts gX9_letters_X9_here rfl rfl rfl (by decide +kernel) ⟨Nat.le_of_ble_eq_true rfl, Nat.le_of_ble_eq_true rfl⟩) (fz_preV (ci := 7) (q0 := 0) hK hP rfl rfl rfl fz_T_bl (fun _ _ _ => trivial)) rfl rfl hl.1 rfl (lv_room (Nat.le_of_ble_eq_true rfl)) dX9_letters_5 ⟨Nat.zero_le _, Nat.zero_le _⟩) ?_
  refine fz_top (show _ = tx_at (M 4) ln q from rfl) ?_
  refine fz_retR (va_runS (As := [.int (tx_at (M 4) ln q)]) (rest := []) ⟨hx, hb, hml, hown, hts⟩ (c_X9_isLetter l D cy (tx_at (M 4) ln q)) (va_cwS 1 hts gX9_letters_X9_isLetter rfl rfl rfl (by decide +kernel) ⟨Nat.le_of_ble_eq_true rfl, Nat.le_of_ble_eq_true rfl⟩) (fz_preS hK (fz_nil) fz_T_bl (fun _ _ _ => trivial)) rfl rfl hl.1 rfl (lv_room (Nat.le_of_ble_eq_true rfl)) dX9_letters_8 ⟨Nat.zero_le _, Nat.zero_le _⟩) ?_
  refine fz_ifeqB (tgt := 55) hx hb dX9_letters_11 (by decide) (fun c_1 => ?_) (fun c_1 => ?_)
  · skip
    refine lv_iload_n hx hb dX9_letters_55 rfl (lv_at hl 2 rfl) ?_
    refine lv_bipush (v := 6) hx hb dX9_letters_56 (by decide) ?_
    refine fz_leN (tgt := 65) hx hb k 6 rfl rfl dX9_letters_58 (by decide) (by omega) (by omega) (fun c_2 => ?_) (fun c_2 => ?_)
    · skip
      refine lv_lload_n hx hb dX9_letters_65 rfl (lv_at hl 1 rfl) ?_
      exact W.lret (v := v) hx hb hr (fun t9 ht9 hW9 => ⟨⟨_, (), rfl, (by rw [← eL, tx_le_n c_1, hq, Nat.add_sub_cancel_left, tx_lw, if_pos (by omega), ev]), fz_to ht9 (by rw [← eL, tx_le_n c_1]; exact hP)⟩, hS.F ht9⟩) hS.2.2 dX9_letters_66
    · skip
      refine lv_lconst (v := 0) hx hb dX9_letters_61 (by decide) ?_
      refine lv_goto (tgt := 66) hx hb dX9_letters_62 (by decide) ?_
      exact W.lret (v := 0) hx hb hr (fun t9 ht9 hW9 => ⟨⟨_, (), rfl, (by rw [← eL, tx_le_n c_1, hq, Nat.add_sub_cancel_left, tx_lw, if_neg (by omega)]), fz_to ht9 (by rw [← eL, tx_le_n c_1]; exact hP)⟩, hS.F ht9⟩) hS.2.2 dX9_letters_66
  · skip
    refine lv_lload_n hx hb dX9_letters_14 rfl (lv_at hl 1 rfl) ?_
    refine lv_iconst (v := 5) hx hb dX9_letters_15 (by decide) ?_
    refine lv_lshl (v := v <<< ((5 : Int32).toInt64 &&& 63)) hx hb dX9_letters_16 rfl ?_
    refine lv_aload_n hx hb dX9_letters_17 rfl (lv_at hl 0 rfl) ?_
    refine fz_retR (va_runV (As := []) (rest := [.long (v <<< ((5 : Int32).toInt64 &&& 63))]) ⟨hx, hb, hml, hown, hts⟩ (c_X9_here l D cy b (fz_up M 0 (upd (M 0) 4 (nI q))) h ln q hln hln150 rfl (by omega)) (cwV 0 hts gX9_letters_X9_here rfl rfl rfl (by decide +kernel) ⟨Nat.le_of_ble_eq_true rfl, Nat.le_of_ble_eq_true rfl⟩) (fz_preV (ci := 7) (q0 := 0) hK hP rfl rfl rfl fz_T_bl (fun _ _ _ => trivial)) rfl rfl hl.1 rfl (lv_room (Nat.le_of_ble_eq_true rfl)) dX9_letters_18 ⟨Nat.zero_le _, Nat.zero_le _⟩) ?_
    refine fz_top (show _ = tx_at (M 4) ln q from rfl) ?_
    refine lv_bipush (v := 96) hx hb dX9_letters_21 (by decide) ?_
    refine lv_isub hx hb dX9_letters_23 ?_
    refine lv_i2l (v := ((tx_at (M 4) ln q) - 96).toInt64) hx hb dX9_letters_24 rfl ?_
    refine lv_lor hx hb dX9_letters_25 ?_
    refine lv_lstore_n (lv' := [(1, .long ((v <<< ((5 : Int32).toInt64 &&& 63)) ||| (((tx_at (M 4) ln q) - 96).toInt64))), (0, .ref (b 0)), (3, .int (nI k))]) hx hb dX9_letters_26 rfl hl (by decide) rfl (fun ls hl => ?_)
    refine lv_iinc (v := nI (k + 1)) (lv' := [(3, .int (nI (k + 1))), (1, .long ((v <<< ((5 : Int32).toInt64 &&& 63)) ||| (((tx_at (M 4) ln q) - 96).toInt64))), (0, .ref (b 0))]) hx hb dX9_letters_27 hl (k := 2) rfl (fz_inc rfl) (by decide) rfl (fun ls hl => ?_)
    refine lv_aload_n hx hb dX9_letters_30 rfl (lv_at hl 2 rfl) ?_
    refine lv_dup hx hb dX9_letters_31 rfl ?_
    refine va_get (D := D) (ci := 7) (v := .int (nI q)) (C := RX9) (T := TX9) (N := 13) hx hb hts inX9 hown hK hP 0 rfl rfl 8 (by decide) k_184 (fun _ h9 => h9) rfl dX9_letters_32 ?_
    refine lv_iconst (v := 1) hx hb dX9_letters_35 (by decide) ?_
    refine fz_iaddN hx hb q 1 rfl rfl dX9_letters_36 ?_
    refine va_put (D := D) (ci := 7) (v := .int (nI (q + 1))) (ty := tyX9 8) (C := RX9) (T := TX9) (N := 13) hx hb hts inX9 tyX9 tyX9_ok nmX9 hown hK hP hD hS 0 rfl rfl 8 (by decide) k_184 (fun _ h9 => h9) rfl (by decide +kernel) rfl rfl (Nat.le_of_ble_eq_true rfl) dX9_letters_37 (fun H locs hP hD hS => ?_)
    have hP : va_P D vwCl (ME cy b (M 0 0) (M 0 1) (M 0 2) (M 0 3) (nI (q + 1)) (M 0 5) (M 0 6) (M 1) (M 2) (M 3) (M 4) (M 5) h) H := hP
    have hD : va_D A (ME cy b (M 0 0) (M 0 1) (M 0 2) (M 0 3) (nI (q + 1)) (M 0 5) (M 0 6) (M 1) (M 2) (M 3) (M 4) (M 5) h) := hD
    refine lv_iload_n hx hb dX9_letters_40 rfl (lv_at hl 0 rfl) ?_
    refine lv_bipush (v := 6) hx hb dX9_letters_41 (by decide) ?_
    refine fz_leN (tgt := 50) hx hb (k + 1) 6 rfl rfl dX9_letters_43 (by decide) (by omega) (by omega) (fun c_3 => ?_) (fun c_3 => ?_)
    · skip
      refine lv_lload_n hx hb dX9_letters_50 rfl (lv_at hl 1 rfl) ?_
      refine lv_lstore_n (lv' := [(1, .long ((v <<< ((5 : Int32).toInt64 &&& 63)) ||| (((tx_at (M 4) ln q) - 96).toInt64))), (3, .int (nI (k + 1))), (0, .ref (b 0))]) hx hb dX9_letters_51 rfl hl (by decide) rfl (fun ls hl => ?_)
      refine lv_goto (tgt := 4) hx hb dX9_letters_52 (by decide) ?_
      exact ih4 (k + 1, q + 1, (v <<< ((5 : Int32).toInt64 &&& 63)) ||| (((tx_at (M 4) ln q) - 96).toInt64)) (show ((q + 1) = pp + (k + 1)) ∧ ((k + 1) = 0 ∨ (q + 1) ≤ ln) ∧ (((v <<< ((5 : Int32).toInt64 &&& 63)) ||| (((tx_at (M 4) ln q) - 96).toInt64)) = tx_lv (M 4) ln pp (k + 1)) ∧ (tx_le (M 4) ln (q + 1) = tx_le (M 4) ln pp) from ⟨(by omega), (Or.inr (by have hy := tx_le_y c_1; omega)), (by rw [tx_lv, if_pos (by omega), ← ev, ← hq]), (by rw [← eL, (tx_le_y c_1).2])⟩) (by show ln - (q + 1) < ln - q; (have hy := tx_le_y c_1; omega)) _ _ ls hP hD hS (lv_sub hl [2, 0, 1] rfl)
    · skip
      refine lv_lconst (v := 0) hx hb dX9_letters_46 (by decide) ?_
      refine lv_goto (tgt := 51) hx hb dX9_letters_47 (by decide) ?_
      refine lv_lstore_n (lv' := [(1, .long 0), (3, .int (nI (k + 1))), (0, .ref (b 0))]) hx hb dX9_letters_51 rfl hl (by decide) rfl (fun ls hl => ?_)
      refine lv_goto (tgt := 4) hx hb dX9_letters_52 (by decide) ?_
      exact ih4 (k + 1, q + 1, 0) (show ((q + 1) = pp + (k + 1)) ∧ ((k + 1) = 0 ∨ (q + 1) ≤ ln) ∧ (0 = tx_lv (M 4) ln pp (k + 1)) ∧ (tx_le (M 4) ln (q + 1) = tx_le (M 4) ln pp) from ⟨(by omega), (Or.inr (by have hy := tx_le_y c_1; omega)), (by rw [tx_lv, if_neg (by omega)]), (by rw [← eL, (tx_le_y c_1).2])⟩) (by show ln - (q + 1) < ln - q; (have hy := tx_le_y c_1; omega)) _ _ ls hP hD hS (lv_sub hl [2, 0, 1] rfl)
set_option maxHeartbeats 4000000 in
set_option maxRecDepth 100000 in
/-- the model: spelt -/
theorem c_X9_spelt (l : Launch) (D : va_G) (cy : Nat → ClassId) (x0 x1 x2 x3 x4 x5 : Int32) : fz_RL l yX9_spelt wsX9_spelt 0 0 D cy [.int x0, .int x1, .int x2, .int x3, .int x4, .int x5] ([] : va_W) fz_T (tx_spelt x0 x1 x2 x3 x4 x5) := by
  refine Met.ofW (cc := cX9_spelt) (maxL := 8) (ret := (some .long)) (by decide) rfl ?_
  intro p e s m args below meth c s₁ B hml hv
  obtain ⟨rfl, hP, hK, hE⟩ := hv
  have hx := B.exec
  have hb := B.bytes
  have hr := B.returns
  have hts := atoms_spec (ws := wsX9_spelt) B.pre
  have hown : s.vm.findClass RX9 = some m.cls := findClass_of_methodNamed B.named
  have hlocks := B.notSynchronized
  have hl := lv_entry ([.int x0, .int x1, .int x2, .int x3, .int x4, .int x5]) (n := 8) (Nat.le_of_ble_eq_true rfl)
  rw [lg_entry_eq]
  generalize (lg_sl ([.int x0, .int x1, .int x2, .int x3, .int x4, .int x5]) ++ List.replicate (8 - (lg_sl ([.int x0, .int x1, .int x2, .int x3, .int x4, .int x5])).length) Slot.unset).toArray = ls at hl ⊢
  have hl : lv_has ls 8 [(0, .int x0), (1, .int x1), (2, .int x2), (3, .int x3), (4, .int x4), (5, .int x5)] := hl
  refine fz_cut (σ := Int64) (pcj := 95) (nL := 8) (fun v5 => [(0, .int x0), (1, .int x1), (2, .int x2), (3, .int x3), (4, .int x4), (5, .int x5), (6, .long v5)]) (fun v5 => (v5 = tx_s1 (tx_s1 (tx_s1 (tx_s1 (tx_s1 0 x0) x1) x2) x3) x4)) ?_ (fun J95 => ?_)
  · skip
    rintro v5 e5 ls hl
    have e5 : v5 = tx_s1 (tx_s1 (tx_s1 (tx_s1 (tx_s1 0 x0) x1) x2) x3) x4 := e5
    have hl : lv_has ls 8 [(0, .int x0), (1, .int x1), (2, .int x2), (3, .int x3), (4, .int x4), (5, .int x5), (6, .long v5)] := hl
    refine lv_iload hx hb dX9_spelt_95 (lv_at hl 5 rfl) ?_
    refine lv_if_le (tgt := 111) hx hb dX9_spelt_97 (by decide) (fun c_1 => ?_) (fun c_1 => ?_)
    · skip
      refine lv_lload hx hb dX9_spelt_111 (lv_at hl 6 rfl) ?_
      exact W.lret (v := v5) hx hb hr (fun t9 ht9 hW9 => ⟨_, rfl, (by rw [tx_spelt, ← e5, tx_s1, if_pos c_1]), ht9⟩) (fun _ h => nomatch h) dX9_spelt_113
    · skip
      refine lv_lload hx hb dX9_spelt_100 (lv_at hl 6 rfl) ?_
      refine lv_iconst (v := 5) hx hb dX9_spelt_102 (by decide) ?_
      refine lv_lshl (v := v5 <<< ((5 : Int32).toInt64 &&& 63)) hx hb dX9_spelt_103 rfl ?_
      refine lv_iload hx hb dX9_spelt_104 (lv_at hl 5 rfl) ?_
      refine lv_i2l (v := x5.toInt64) hx hb dX9_spelt_106 rfl ?_
      refine lv_lor hx hb dX9_spelt_107 ?_
      refine lv_goto (tgt := 113) hx hb dX9_spelt_108 (by decide) ?_
      exact W.lret (v := ((v5 <<< ((5 : Int32).toInt64 &&& 63)) ||| x5.toInt64)) hx hb hr (fun t9 ht9 hW9 => ⟨_, rfl, (by rw [tx_spelt, ← e5, tx_s1, if_neg c_1]), ht9⟩) (fun _ h => nomatch h) dX9_spelt_113
  · skip
    refine fz_cut (σ := Int64) (pcj := 75) (nL := 8) (fun v4 => [(0, .int x0), (1, .int x1), (2, .int x2), (3, .int x3), (4, .int x4), (5, .int x5), (6, .long v4)]) (fun v4 => (v4 = tx_s1 (tx_s1 (tx_s1 (tx_s1 0 x0) x1) x2) x3)) ?_ (fun J75 => ?_)
    · skip
      rintro v4 e4 ls hl
      have e4 : v4 = tx_s1 (tx_s1 (tx_s1 (tx_s1 0 x0) x1) x2) x3 := e4
      have hl : lv_has ls 8 [(0, .int x0), (1, .int x1), (2, .int x2), (3, .int x3), (4, .int x4), (5, .int x5), (6, .long v4)] := hl
      refine lv_iload hx hb dX9_spelt_75 (lv_at hl 4 rfl) ?_
      refine lv_if_le (tgt := 91) hx hb dX9_spelt_77 (by decide) (fun c_2 => ?_) (fun c_2 => ?_)
      · skip
        refine lv_lload hx hb dX9_spelt_91 (lv_at hl 6 rfl) ?_
        refine lv_lstore (lv' := [(6, .long v4), (0, .int x0), (1, .int x1), (2, .int x2), (3, .int x3), (4, .int x4), (5, .int x5)]) hx hb dX9_spelt_93 hl (by decide) rfl (fun ls hl => ?_)
        exact J95 v4 (show (v4 = tx_s1 (tx_s1 (tx_s1 (tx_s1 (tx_s1 0 x0) x1) x2) x3) x4) from (by rw [show tx_s1 (tx_s1 (tx_s1 (tx_s1 (tx_s1 0 x0) x1) x2) x3) x4 = tx_s1 (tx_s1 (tx_s1 (tx_s1 (tx_s1 0 x0) x1) x2) x3) x4 from rfl, ← e4, tx_s1, if_pos c_2])) ls (lv_sub hl [1, 2, 3, 4, 5, 6, 0] rfl)
      · skip
        refine lv_lload hx hb dX9_spelt_80 (lv_at hl 6 rfl) ?_
        refine lv_iconst (v := 5) hx hb dX9_spelt_82 (by decide) ?_
        refine lv_lshl (v := v4 <<< ((5 : Int32).toInt64 &&& 63)) hx hb dX9_spelt_83 rfl ?_
        refine lv_iload hx hb dX9_spelt_84 (lv_at hl 4 rfl) ?_
        refine lv_i2l (v := x4.toInt64) hx hb dX9_spelt_86 rfl ?_
        refine lv_lor hx hb dX9_spelt_87 ?_
        refine lv_goto (tgt := 93) hx hb dX9_spelt_88 (by decide) ?_
        refine lv_lstore (lv' := [(6, .long ((v4 <<< ((5 : Int32).toInt64 &&& 63)) ||| x4.toInt64)), (0, .int x0), (1, .int x1), (2, .int x2), (3, .int x3), (4, .int x4), (5, .int x5)]) hx hb dX9_spelt_93 hl (by decide) rfl (fun ls hl => ?_)
        exact J95 ((v4 <<< ((5 : Int32).toInt64 &&& 63)) ||| x4.toInt64) (show (((v4 <<< ((5 : Int32).toInt64 &&& 63)) ||| x4.toInt64) = tx_s1 (tx_s1 (tx_s1 (tx_s1 (tx_s1 0 x0) x1) x2) x3) x4) from (by rw [show tx_s1 (tx_s1 (tx_s1 (tx_s1 (tx_s1 0 x0) x1) x2) x3) x4 = tx_s1 (tx_s1 (tx_s1 (tx_s1 (tx_s1 0 x0) x1) x2) x3) x4 from rfl, ← e4, tx_s1, if_neg c_2])) ls (lv_sub hl [1, 2, 3, 4, 5, 6, 0] rfl)
    · skip
      refine fz_cut (σ := Int64) (pcj := 57) (nL := 8) (fun v3 => [(0, .int x0), (1, .int x1), (2, .int x2), (3, .int x3), (4, .int x4), (5, .int x5), (6, .long v3)]) (fun v3 => (v3 = tx_s1 (tx_s1 (tx_s1 0 x0) x1) x2)) ?_ (fun J57 => ?_)
      · skip
        rintro v3 e3 ls hl
        have e3 : v3 = tx_s1 (tx_s1 (tx_s1 0 x0) x1) x2 := e3
        have hl : lv_has ls 8 [(0, .int x0), (1, .int x1), (2, .int x2), (3, .int x3), (4, .int x4), (5, .int x5), (6, .long v3)] := hl
        refine lv_iload_n hx hb dX9_spelt_57 rfl (lv_at hl 3 rfl) ?_
        refine lv_if_le (tgt := 71) hx hb dX9_spelt_58 (by decide) (fun c_3 => ?_) (fun c_3 => ?_)
        · skip
          refine lv_lload hx hb dX9_spelt_71 (lv_at hl 6 rfl) ?_
          refine lv_lstore (lv' := [(6, .long v3), (0, .int x0), (1, .int x1), (2, .int x2), (3, .int x3), (4, .int x4), (5, .int x5)]) hx hb dX9_spelt_73 hl (by decide) rfl (fun ls hl => ?_)
          exact J75 v3 (show (v3 = tx_s1 (tx_s1 (tx_s1 (tx_s1 0 x0) x1) x2) x3) from (by rw [show tx_s1 (tx_s1 (tx_s1 (tx_s1 0 x0) x1) x2) x3 = tx_s1 (tx_s1 (tx_s1 (tx_s1 0 x0) x1) x2) x3 from rfl, ← e3, tx_s1, if_pos c_3])) ls (lv_sub hl [1, 2, 3, 4, 5, 6, 0] rfl)
        · skip
          refine lv_lload hx hb dX9_spelt_61 (lv_at hl 6 rfl) ?_
          refine lv_iconst (v := 5) hx hb dX9_spelt_63 (by decide) ?_
          refine lv_lshl (v := v3 <<< ((5 : Int32).toInt64 &&& 63)) hx hb dX9_spelt_64 rfl ?_
          refine lv_iload_n hx hb dX9_spelt_65 rfl (lv_at hl 3 rfl) ?_
          refine lv_i2l (v := x3.toInt64) hx hb dX9_spelt_66 rfl ?_
          refine lv_lor hx hb dX9_spelt_67 ?_
          refine lv_goto (tgt := 73) hx hb dX9_spelt_68 (by decide) ?_
          refine lv_lstore (lv' := [(6, .long ((v3 <<< ((5 : Int32).toInt64 &&& 63)) ||| x3.toInt64)), (0, .int x0), (1, .int x1), (2, .int x2), (3, .int x3), (4, .int x4), (5, .int x5)]) hx hb dX9_spelt_73 hl (by decide) rfl (fun ls hl => ?_)
          exact J75 ((v3 <<< ((5 : Int32).toInt64 &&& 63)) ||| x3.toInt64) (show (((v3 <<< ((5 : Int32).toInt64 &&& 63)) ||| x3.toInt64) = tx_s1 (tx_s1 (tx_s1 (tx_s1 0 x0) x1) x2) x3) from (by rw [show tx_s1 (tx_s1 (tx_s1 (tx_s1 0 x0) x1) x2) x3 = tx_s1 (tx_s1 (tx_s1 (tx_s1 0 x0) x1) x2) x3 from rfl, ← e3, tx_s1, if_neg c_3])) ls (lv_sub hl [1, 2, 3, 4, 5, 6, 0] rfl)
      · skip
        refine fz_cut (σ := Int64) (pcj := 39) (nL := 8) (fun v2 => [(0, .int x0), (1, .int x1), (2, .int x2), (3, .int x3), (4, .int x4), (5, .int x5), (6, .long v2)]) (fun v2 => (v2 = tx_s1 (tx_s1 0 x0) x1)) ?_ (fun J39 => ?_)
        · skip
          rintro v2 e2 ls hl
          have e2 : v2 = tx_s1 (tx_s1 0 x0) x1 := e2
          have hl : lv_has ls 8 [(0, .int x0), (1, .int x1), (2, .int x2), (3, .int x3), (4, .int x4), (5, .int x5), (6, .long v2)] := hl
          refine lv_iload_n hx hb dX9_spelt_39 rfl (lv_at hl 2 rfl) ?_
          refine lv_if_le (tgt := 53) hx hb dX9_spelt_40 (by decide) (fun c_4 => ?_) (fun c_4 => ?_)
          · skip
            refine lv_lload hx hb dX9_spelt_53 (lv_at hl 6 rfl) ?_
            refine lv_lstore (lv' := [(6, .long v2), (0, .int x0), (1, .int x1), (2, .int x2), (3, .int x3), (4, .int x4), (5, .int x5)]) hx hb dX9_spelt_55 hl (by decide) rfl (fun ls hl => ?_)
            exact J57 v2 (show (v2 = tx_s1 (tx_s1 (tx_s1 0 x0) x1) x2) from (by rw [show tx_s1 (tx_s1 (tx_s1 0 x0) x1) x2 = tx_s1 (tx_s1 (tx_s1 0 x0) x1) x2 from rfl, ← e2, tx_s1, if_pos c_4])) ls (lv_sub hl [1, 2, 3, 4, 5, 6, 0] rfl)
          · skip
            refine lv_lload hx hb dX9_spelt_43 (lv_at hl 6 rfl) ?_
            refine lv_iconst (v := 5) hx hb dX9_spelt_45 (by decide) ?_
            refine lv_lshl (v := v2 <<< ((5 : Int32).toInt64 &&& 63)) hx hb dX9_spelt_46 rfl ?_
            refine lv_iload_n hx hb dX9_spelt_47 rfl (lv_at hl 2 rfl) ?_
            refine lv_i2l (v := x2.toInt64) hx hb dX9_spelt_48 rfl ?_
            refine lv_lor hx hb dX9_spelt_49 ?_
            refine lv_goto (tgt := 55) hx hb dX9_spelt_50 (by decide) ?_
            refine lv_lstore (lv' := [(6, .long ((v2 <<< ((5 : Int32).toInt64 &&& 63)) ||| x2.toInt64)), (0, .int x0), (1, .int x1), (2, .int x2), (3, .int x3), (4, .int x4), (5, .int x5)]) hx hb dX9_spelt_55 hl (by decide) rfl (fun ls hl => ?_)
            exact J57 ((v2 <<< ((5 : Int32).toInt64 &&& 63)) ||| x2.toInt64) (show (((v2 <<< ((5 : Int32).toInt64 &&& 63)) ||| x2.toInt64) = tx_s1 (tx_s1 (tx_s1 0 x0) x1) x2) from (by rw [show tx_s1 (tx_s1 (tx_s1 0 x0) x1) x2 = tx_s1 (tx_s1 (tx_s1 0 x0) x1) x2 from rfl, ← e2, tx_s1, if_neg c_4])) ls (lv_sub hl [1, 2, 3, 4, 5, 6, 0] rfl)
        · skip
          refine fz_cut (σ := Int64) (pcj := 21) (nL := 8) (fun v1 => [(0, .int x0), (1, .int x1), (2, .int x2), (3, .int x3), (4, .int x4), (5, .int x5), (6, .long v1)]) (fun v1 => (v1 = tx_s1 0 x0)) ?_ (fun J21 => ?_)
          · skip
            rintro v1 e1 ls hl
            have e1 : v1 = tx_s1 0 x0 := e1
            have hl : lv_has ls 8 [(0, .int x0), (1, .int x1), (2, .int x2), (3, .int x3), (4, .int x4), (5, .int x5), (6, .long v1)] := hl
            refine lv_iload_n hx hb dX9_spelt_21 rfl (lv_at hl 1 rfl) ?_
            refine lv_if_le (tgt := 35) hx hb dX9_spelt_22 (by decide) (fun c_5 => ?_) (fun c_5 => ?_)
            · skip
              refine lv_lload hx hb dX9_spelt_35 (lv_at hl 6 rfl) ?_
              refine lv_lstore (lv' := [(6, .long v1), (0, .int x0), (1, .int x1), (2, .int x2), (3, .int x3), (4, .int x4), (5, .int x5)]) hx hb dX9_spelt_37 hl (by decide) rfl (fun ls hl => ?_)
              exact J39 v1 (show (v1 = tx_s1 (tx_s1 0 x0) x1) from (by rw [show tx_s1 (tx_s1 0 x0) x1 = tx_s1 (tx_s1 0 x0) x1 from rfl, ← e1, tx_s1, if_pos c_5])) ls (lv_sub hl [1, 2, 3, 4, 5, 6, 0] rfl)
            · skip
              refine lv_lload hx hb dX9_spelt_25 (lv_at hl 6 rfl) ?_
              refine lv_iconst (v := 5) hx hb dX9_spelt_27 (by decide) ?_
              refine lv_lshl (v := v1 <<< ((5 : Int32).toInt64 &&& 63)) hx hb dX9_spelt_28 rfl ?_
              refine lv_iload_n hx hb dX9_spelt_29 rfl (lv_at hl 1 rfl) ?_
              refine lv_i2l (v := x1.toInt64) hx hb dX9_spelt_30 rfl ?_
              refine lv_lor hx hb dX9_spelt_31 ?_
              refine lv_goto (tgt := 37) hx hb dX9_spelt_32 (by decide) ?_
              refine lv_lstore (lv' := [(6, .long ((v1 <<< ((5 : Int32).toInt64 &&& 63)) ||| x1.toInt64)), (0, .int x0), (1, .int x1), (2, .int x2), (3, .int x3), (4, .int x4), (5, .int x5)]) hx hb dX9_spelt_37 hl (by decide) rfl (fun ls hl => ?_)
              exact J39 ((v1 <<< ((5 : Int32).toInt64 &&& 63)) ||| x1.toInt64) (show (((v1 <<< ((5 : Int32).toInt64 &&& 63)) ||| x1.toInt64) = tx_s1 (tx_s1 0 x0) x1) from (by rw [show tx_s1 (tx_s1 0 x0) x1 = tx_s1 (tx_s1 0 x0) x1 from rfl, ← e1, tx_s1, if_neg c_5])) ls (lv_sub hl [1, 2, 3, 4, 5, 6, 0] rfl)
          · skip
            refine lv_lconst (v := 0) hx hb dX9_spelt_0 (by decide) ?_
            refine lv_lstore (lv' := [(6, .long 0), (0, .int x0), (1, .int x1), (2, .int x2), (3, .int x3), (4, .int x4), (5, .int x5)]) hx hb dX9_spelt_1 hl (by decide) rfl (fun ls hl => ?_)
            refine lv_iload_n hx hb dX9_spelt_3 rfl (lv_at hl 1 rfl) ?_
            refine lv_if_le (tgt := 17) hx hb dX9_spelt_4 (by decide) (fun c_6 => ?_) (fun c_6 => ?_)
            · skip
              refine lv_lload hx hb dX9_spelt_17 (lv_at hl 0 rfl) ?_
              refine lv_lstore (lv' := [(6, .long 0), (0, .int x0), (1, .int x1), (2, .int x2), (3, .int x3), (4, .int x4), (5, .int x5)]) hx hb dX9_spelt_19 hl (by decide) rfl (fun ls hl => ?_)
              exact J21 0 (show (0 = tx_s1 0 x0) from (by rw [show tx_s1 0 x0 = tx_s1 0 x0 from rfl, tx_s1, if_pos c_6])) ls (lv_sub hl [1, 2, 3, 4, 5, 6, 0] rfl)
            · skip
              refine lv_lload hx hb dX9_spelt_7 (lv_at hl 0 rfl) ?_
              refine lv_iconst (v := 5) hx hb dX9_spelt_9 (by decide) ?_
              refine lv_lshl (v := 0 <<< ((5 : Int32).toInt64 &&& 63)) hx hb dX9_spelt_10 rfl ?_
              refine lv_iload_n hx hb dX9_spelt_11 rfl (lv_at hl 1 rfl) ?_
              refine lv_i2l (v := x0.toInt64) hx hb dX9_spelt_12 rfl ?_
              refine lv_lor hx hb dX9_spelt_13 ?_
              refine lv_goto (tgt := 19) hx hb dX9_spelt_14 (by decide) ?_
              refine lv_lstore (lv' := [(6, .long ((0 <<< ((5 : Int32).toInt64 &&& 63)) ||| x0.toInt64)), (0, .int x0), (1, .int x1), (2, .int x2), (3, .int x3), (4, .int x4), (5, .int x5)]) hx hb dX9_spelt_19 hl (by decide) rfl (fun ls hl => ?_)
              exact J21 ((0 <<< ((5 : Int32).toInt64 &&& 63)) ||| x0.toInt64) (show (((0 <<< ((5 : Int32).toInt64 &&& 63)) ||| x0.toInt64) = tx_s1 0 x0) from (by rw [show tx_s1 0 x0 = tx_s1 0 x0 from rfl, tx_s1, if_neg c_6])) ls (lv_sub hl [1, 2, 3, 4, 5, 6, 0] rfl)
set_option maxHeartbeats 4000000 in
set_option maxRecDepth 100000 in
/-- the model: wordOf -/
theorem c_X9_wordOf (l : Launch) (D : va_G) (cy : Nat → ClassId) (v : Int64) : fz_RI l yX9_wordOf wsX9_wordOf 1 27 D cy [.long v] ([] : va_W) fz_T (tx_word v) := by
  refine Met.ofW (cc := cX9_wordOf) (maxL := 3) (ret := (some .int)) (by decide) rfl ?_
  intro p e s m args below meth c s₁ B hml hv
  obtain ⟨rfl, hP, hK, hE⟩ := hv
  have hx := B.exec
  have hb := B.bytes
  have hr := B.returns
  have hts := atoms_spec (ws := wsX9_wordOf) B.pre
  have hown : s.vm.findClass RX9 = some m.cls := findClass_of_methodNamed B.named
  have hlocks := B.notSynchronized
  have hl := lv_entry ([.long v]) (n := 3) (Nat.le_of_ble_eq_true rfl)
  rw [lg_entry_eq]
  generalize (lg_sl ([.long v]) ++ List.replicate (3 - (lg_sl ([.long v])).length) Slot.unset).toArray = ls at hl ⊢
  have hl : lv_has ls 3 [(0, .long v)] := hl
  refine fz_cut (σ := Int32) (pcj := 196) (nL := 3) (fun w3 => [(0, .long v), (2, .int w3)]) (fun w3 => (w3 = tx_w3 v)) ?_ (fun J196 => ?_)
  · skip
    rintro w3 e3 ls hl
    have e3 : w3 = tx_w3 v := e3
    have hl : lv_has ls 3 [(0, .long v), (2, .int w3)] := hl
    refine lv_lload_n hx hb dX9_wordOf_196 rfl (lv_at hl 0 rfl) ?_
    refine lv_bipush (v := 18) hx hb dX9_wordOf_197 (by decide) ?_
    refine lv_iconst (v := 5) hx hb dX9_wordOf_199 (by decide) ?_
    refine lv_bipush (v := 16) hx hb dX9_wordOf_200 (by decide) ?_
    refine lv_iconst (v := 1) hx hb dX9_wordOf_202 (by decide) ?_
    refine lv_bipush (v := 25) hx hb dX9_wordOf_203 (by decide) ?_
    refine lv_iconst (v := 0) hx hb dX9_wordOf_205 (by decide) ?_
    refine fz_retRL (va_runS (As := [.int 18, .int 5, .int 16, .int 1, .int 25, .int 0]) (rest := [.long v]) ⟨hx, hb, hml, hown, hts⟩ (c_X9_spelt l D cy 18 5 16 1 25 0) (va_cwS 6 hts gX9_wordOf_X9_spelt rfl rfl rfl (by decide +kernel) ⟨Nat.le_of_ble_eq_true rfl, Nat.le_of_ble_eq_true rfl⟩) (fz_preS hK (fz_nil) fz_T_bl (fun _ _ _ => trivial)) rfl rfl hl.1 rfl (lv_room (Nat.le_of_ble_eq_true rfl)) dX9_wordOf_206 ⟨Nat.zero_le _, Nat.zero_le _⟩) ?_
    refine W.lcmp hx hb dX9_wordOf_209 ?_
    refine lv_if_ne (tgt := 218) hx hb dX9_wordOf_210 (by decide) (fun c_1 => ?_) (fun c_1 => ?_)
    · skip
      refine lv_lload_n hx hb dX9_wordOf_218 rfl (lv_at hl 0 rfl) ?_
      refine lv_bipush (v := 19) hx hb dX9_wordOf_219 (by decide) ?_
      refine lv_iconst (v := 5) hx hb dX9_wordOf_221 (by decide) ?_
      refine lv_bipush (v := 20) hx hb dX9_wordOf_222 (by decide) ?_
      refine lv_iconst (v := 0) hx hb dX9_wordOf_224 (by decide) ?_
      refine lv_iconst (v := 0) hx hb dX9_wordOf_225 (by decide) ?_
      refine lv_iconst (v := 0) hx hb dX9_wordOf_226 (by decide) ?_
      refine fz_retRL (va_runS (As := [.int 19, .int 5, .int 20, .int 0, .int 0, .int 0]) (rest := [.long v]) ⟨hx, hb, hml, hown, hts⟩ (c_X9_spelt l D cy 19 5 20 0 0 0) (va_cwS 6 hts gX9_wordOf_X9_spelt rfl rfl rfl (by decide +kernel) ⟨Nat.le_of_ble_eq_true rfl, Nat.le_of_ble_eq_true rfl⟩) (fz_preS hK (fz_nil) fz_T_bl (fun _ _ _ => trivial)) rfl rfl hl.1 rfl (lv_room (Nat.le_of_ble_eq_true rfl)) dX9_wordOf_227 ⟨Nat.zero_le _, Nat.zero_le _⟩) ?_
      refine W.lcmp hx hb dX9_wordOf_230 ?_
      refine lv_if_ne (tgt := 239) hx hb dX9_wordOf_231 (by decide) (fun c_2 => ?_) (fun c_2 => ?_)
      · skip
        refine lv_lload_n hx hb dX9_wordOf_239 rfl (lv_at hl 0 rfl) ?_
        refine lv_bipush (v := 23) hx hb dX9_wordOf_240 (by decide) ?_
        refine lv_iconst (v := 5) hx hb dX9_wordOf_242 (by decide) ?_
        refine lv_iconst (v := 5) hx hb dX9_wordOf_243 (by decide) ?_
        refine lv_bipush (v := 11) hx hb dX9_wordOf_244 (by decide) ?_
        refine lv_iconst (v := 0) hx hb dX9_wordOf_246 (by decide) ?_
        refine lv_iconst (v := 0) hx hb dX9_wordOf_247 (by decide) ?_
        refine fz_retRL (va_runS (As := [.int 23, .int 5, .int 5, .int 11, .int 0, .int 0]) (rest := [.long v]) ⟨hx, hb, hml, hown, hts⟩ (c_X9_spelt l D cy 23 5 5 11 0 0) (va_cwS 6 hts gX9_wordOf_X9_spelt rfl rfl rfl (by decide +kernel) ⟨Nat.le_of_ble_eq_true rfl, Nat.le_of_ble_eq_true rfl⟩) (fz_preS hK (fz_nil) fz_T_bl (fun _ _ _ => trivial)) rfl rfl hl.1 rfl (lv_room (Nat.le_of_ble_eq_true rfl)) dX9_wordOf_248 ⟨Nat.zero_le _, Nat.zero_le _⟩) ?_
        refine W.lcmp hx hb dX9_wordOf_251 ?_
        refine lv_if_ne (tgt := 260) hx hb dX9_wordOf_252 (by decide) (fun c_3 => ?_) (fun c_3 => ?_)
        · skip
          refine lv_iload_n hx hb dX9_wordOf_260 rfl (lv_at hl 1 rfl) ?_
          exact W.iret (v := w3) hx hb hr (fun t9 ht9 hW9 => ⟨_, rfl, (by rw [tx_word, if_neg c_1, if_neg c_2, if_neg c_3, e3]), ht9⟩) (fun _ h => nomatch h) dX9_wordOf_261
        · skip
          refine lv_bipush (v := 11) hx hb dX9_wordOf_255 (by decide) ?_
          refine lv_goto (tgt := 261) hx hb dX9_wordOf_257 (by decide) ?_
          exact W.iret (v := 11) hx hb hr (fun t9 ht9 hW9 => ⟨_, rfl, (by rw [tx_word, if_neg c_1, if_neg c_2, if_pos c_3]), ht9⟩) (fun _ h => nomatch h) dX9_wordOf_261
      · skip
        refine lv_bipush (v := 10) hx hb dX9_wordOf_234 (by decide) ?_
        refine lv_goto (tgt := 261) hx hb dX9_wordOf_236 (by decide) ?_
        exact W.iret (v := 10) hx hb hr (fun t9 ht9 hW9 => ⟨_, rfl, (by rw [tx_word, if_neg c_1, if_pos c_2]), ht9⟩) (fun _ h => nomatch h) dX9_wordOf_261
    · skip
      refine lv_bipush (v := 9) hx hb dX9_wordOf_213 (by decide) ?_
      refine lv_goto (tgt := 261) hx hb dX9_wordOf_215 (by decide) ?_
      exact W.iret (v := 9) hx hb hr (fun t9 ht9 hW9 => ⟨_, rfl, (by rw [tx_word, if_pos c_1]), ht9⟩) (fun _ h => nomatch h) dX9_wordOf_261
  · skip
    refine fz_cut (σ := Int32) (pcj := 128) (nL := 3) (fun w2 => [(0, .long v), (2, .int w2)]) (fun w2 => (w2 = tx_w2 v)) ?_ (fun J128 => ?_)
    · skip
      rintro w2 e2 ls hl
      have e2 : w2 = tx_w2 v := e2
      have hl : lv_has ls 3 [(0, .long v), (2, .int w2)] := hl
      refine lv_lload_n hx hb dX9_wordOf_128 rfl (lv_at hl 0 rfl) ?_
      refine lv_bipush (v := 6) hx hb dX9_wordOf_129 (by decide) ?_
      refine lv_iconst (v := 1) hx hb dX9_wordOf_131 (by decide) ?_
      refine lv_bipush (v := 21) hx hb dX9_wordOf_132 (by decide) ?_
      refine lv_bipush (v := 12) hx hb dX9_wordOf_134 (by decide) ?_
      refine lv_bipush (v := 20) hx hb dX9_wordOf_136 (by decide) ?_
      refine lv_iconst (v := 0) hx hb dX9_wordOf_138 (by decide) ?_
      refine fz_retRL (va_runS (As := [.int 6, .int 1, .int 21, .int 12, .int 20, .int 0]) (rest := [.long v]) ⟨hx, hb, hml, hown, hts⟩ (c_X9_spelt l D cy 6 1 21 12 20 0) (va_cwS 6 hts gX9_wordOf_X9_spelt rfl rfl rfl (by decide +kernel) ⟨Nat.le_of_ble_eq_true rfl, Nat.le_of_ble_eq_true rfl⟩) (fz_preS hK (fz_nil) fz_T_bl (fun _ _ _ => trivial)) rfl rfl hl.1 rfl (lv_room (Nat.le_of_ble_eq_true rfl)) dX9_wordOf_139 ⟨Nat.zero_le _, Nat.zero_le _⟩) ?_
      refine W.lcmp hx hb dX9_wordOf_142 ?_
      refine lv_if_ne (tgt := 151) hx hb dX9_wordOf_143 (by decide) (fun c_4 => ?_) (fun c_4 => ?_)
      · skip
        refine lv_lload_n hx hb dX9_wordOf_151 rfl (lv_at hl 0 rfl) ?_
        refine lv_iconst (v := 4) hx hb dX9_wordOf_152 (by decide) ?_
        refine lv_bipush (v := 18) hx hb dX9_wordOf_153 (by decide) ?_
        refine lv_bipush (v := 15) hx hb dX9_wordOf_155 (by decide) ?_
        refine lv_bipush (v := 16) hx hb dX9_wordOf_157 (by decide) ?_
        refine lv_iconst (v := 0) hx hb dX9_wordOf_159 (by decide) ?_
        refine lv_iconst (v := 0) hx hb dX9_wordOf_160 (by decide) ?_
        refine fz_retRL (va_runS (As := [.int 4, .int 18, .int 15, .int 16, .int 0, .int 0]) (rest := [.long v]) ⟨hx, hb, hml, hown, hts⟩ (c_X9_spelt l D cy 4 18 15 16 0 0) (va_cwS 6 hts gX9_wordOf_X9_spelt rfl rfl rfl (by decide +kernel) ⟨Nat.le_of_ble_eq_true rfl, Nat.le_of_ble_eq_true rfl⟩) (fz_preS hK (fz_nil) fz_T_bl (fun _ _ _ => trivial)) rfl rfl hl.1 rfl (lv_room (Nat.le_of_ble_eq_true rfl)) dX9_wordOf_161 ⟨Nat.zero_le _, Nat.zero_le _⟩) ?_
        refine W.lcmp hx hb dX9_wordOf_164 ?_
        refine lv_if_ne (tgt := 173) hx hb dX9_wordOf_165 (by decide) (fun c_5 => ?_) (fun c_5 => ?_)
        · skip
          refine lv_lload_n hx hb dX9_wordOf_173 rfl (lv_at hl 0 rfl) ?_
          refine lv_bipush (v := 12) hx hb dX9_wordOf_174 (by decide) ?_
          refine lv_iconst (v := 5) hx hb dX9_wordOf_176 (by decide) ?_
          refine lv_bipush (v := 14) hx hb dX9_wordOf_177 (by decide) ?_
          refine lv_iconst (v := 4) hx hb dX9_wordOf_179 (by decide) ?_
          refine lv_iconst (v := 0) hx hb dX9_wordOf_180 (by decide) ?_
          refine lv_iconst (v := 0) hx hb dX9_wordOf_181 (by decide) ?_
          refine fz_retRL (va_runS (As := [.int 12, .int 5, .int 14, .int 4, .int 0, .int 0]) (rest := [.long v]) ⟨hx, hb, hml, hown, hts⟩ (c_X9_spelt l D cy 12 5 14 4 0 0) (va_cwS 6 hts gX9_wordOf_X9_spelt rfl rfl rfl (by decide +kernel) ⟨Nat.le_of_ble_eq_true rfl, Nat.le_of_ble_eq_true rfl⟩) (fz_preS hK (fz_nil) fz_T_bl (fun _ _ _ => trivial)) rfl rfl hl.1 rfl (lv_room (Nat.le_of_ble_eq_true rfl)) dX9_wordOf_182 ⟨Nat.zero_le _, Nat.zero_le _⟩) ?_
          refine W.lcmp hx hb dX9_wordOf_185 ?_
          refine lv_if_ne (tgt := 194) hx hb dX9_wordOf_186 (by decide) (fun c_6 => ?_) (fun c_6 => ?_)
          · skip
            refine lv_iload_n hx hb dX9_wordOf_194 rfl (lv_at hl 1 rfl) ?_
            refine lv_istore_n (lv' := [(2, .int w2), (0, .long v)]) hx hb dX9_wordOf_195 rfl hl (by decide) rfl (fun ls hl => ?_)
            exact J196 w2 (show (w2 = tx_w3 v) from (by rw [tx_w3, if_neg c_4, if_neg c_5, if_neg c_6, e2])) ls (lv_sub hl [1, 0] rfl)
          · skip
            refine lv_bipush (v := 8) hx hb dX9_wordOf_189 (by decide) ?_
            refine lv_goto (tgt := 195) hx hb dX9_wordOf_191 (by decide) ?_
            refine lv_istore_n (lv' := [(2, .int 8), (0, .long v)]) hx hb dX9_wordOf_195 rfl hl (by decide) rfl (fun ls hl => ?_)
            exact J196 8 (show (8 = tx_w3 v) from (by rw [tx_w3, if_neg c_4, if_neg c_5, if_pos c_6])) ls (lv_sub hl [1, 0] rfl)
        · skip
          refine lv_bipush (v := 7) hx hb dX9_wordOf_168 (by decide) ?_
          refine lv_goto (tgt := 195) hx hb dX9_wordOf_170 (by decide) ?_
          refine lv_istore_n (lv' := [(2, .int 7), (0, .long v)]) hx hb dX9_wordOf_195 rfl hl (by decide) rfl (fun ls hl => ?_)
          exact J196 7 (show (7 = tx_w3 v) from (by rw [tx_w3, if_neg c_4, if_pos c_5])) ls (lv_sub hl [1, 0] rfl)
      · skip
        refine lv_bipush (v := 6) hx hb dX9_wordOf_146 (by decide) ?_
        refine lv_goto (tgt := 195) hx hb dX9_wordOf_148 (by decide) ?_
        refine lv_istore_n (lv' := [(2, .int 6), (0, .long v)]) hx hb dX9_wordOf_195 rfl hl (by decide) rfl (fun ls hl => ?_)
        exact J196 6 (show (6 = tx_w3 v) from (by rw [tx_w3, if_pos c_4])) ls (lv_sub hl [1, 0] rfl)
    · skip
      refine fz_cut (σ := Int32) (pcj := 64) (nL := 3) (fun w1 => [(0, .long v), (2, .int w1)]) (fun w1 => (w1 = tx_w1 v)) ?_ (fun J64 => ?_)
      · skip
        rintro w1 e1 ls hl
        have e1 : w1 = tx_w1 v := e1
        have hl : lv_has ls 3 [(0, .long v), (2, .int w1)] := hl
        refine lv_lload_n hx hb dX9_wordOf_64 rfl (lv_at hl 0 rfl) ?_
        refine lv_iconst (v := 1) hx hb dX9_wordOf_65 (by decide) ?_
        refine lv_bipush (v := 19) hx hb dX9_wordOf_66 (by decide) ?_
        refine lv_bipush (v := 11) hx hb dX9_wordOf_68 (by decide) ?_
        refine lv_iconst (v := 0) hx hb dX9_wordOf_70 (by decide) ?_
        refine lv_iconst (v := 0) hx hb dX9_wordOf_71 (by decide) ?_
        refine lv_iconst (v := 0) hx hb dX9_wordOf_72 (by decide) ?_
        refine fz_retRL (va_runS (As := [.int 1, .int 19, .int 11, .int 0, .int 0, .int 0]) (rest := [.long v]) ⟨hx, hb, hml, hown, hts⟩ (c_X9_spelt l D cy 1 19 11 0 0 0) (va_cwS 6 hts gX9_wordOf_X9_spelt rfl rfl rfl (by decide +kernel) ⟨Nat.le_of_ble_eq_true rfl, Nat.le_of_ble_eq_true rfl⟩) (fz_preS hK (fz_nil) fz_T_bl (fun _ _ _ => trivial)) rfl rfl hl.1 rfl (lv_room (Nat.le_of_ble_eq_true rfl)) dX9_wordOf_73 ⟨Nat.zero_le _, Nat.zero_le _⟩) ?_
        refine W.lcmp hx hb dX9_wordOf_76 ?_
        refine lv_if_ne (tgt := 84) hx hb dX9_wordOf_77 (by decide) (fun c_7 => ?_) (fun c_7 => ?_)
        · skip
          refine lv_lload_n hx hb dX9_wordOf_84 rfl (lv_at hl 0 rfl) ?_
          refine lv_iconst (v := 5) hx hb dX9_wordOf_85 (by decide) ?_
          refine lv_bipush (v := 24) hx hb dX9_wordOf_86 (by decide) ?_
          refine lv_iconst (v := 5) hx hb dX9_wordOf_88 (by decide) ?_
          refine lv_bipush (v := 13) hx hb dX9_wordOf_89 (by decide) ?_
          refine lv_bipush (v := 16) hx hb dX9_wordOf_91 (by decide) ?_
          refine lv_bipush (v := 20) hx hb dX9_wordOf_93 (by decide) ?_
          refine fz_retRL (va_runS (As := [.int 5, .int 24, .int 5, .int 13, .int 16, .int 20]) (rest := [.long v]) ⟨hx, hb, hml, hown, hts⟩ (c_X9_spelt l D cy 5 24 5 13 16 20) (va_cwS 6 hts gX9_wordOf_X9_spelt rfl rfl rfl (by decide +kernel) ⟨Nat.le_of_ble_eq_true rfl, Nat.le_of_ble_eq_true rfl⟩) (fz_preS hK (fz_nil) fz_T_bl (fun _ _ _ => trivial)) rfl rfl hl.1 rfl (lv_room (Nat.le_of_ble_eq_true rfl)) dX9_wordOf_95 ⟨Nat.zero_le _, Nat.zero_le _⟩) ?_
          refine W.lcmp hx hb dX9_wordOf_98 ?_
          refine lv_if_ne (tgt := 106) hx hb dX9_wordOf_99 (by decide) (fun c_8 => ?_) (fun c_8 => ?_)
          · skip
            refine lv_lload_n hx hb dX9_wordOf_106 rfl (lv_at hl 0 rfl) ?_
            refine lv_iconst (v := 4) hx hb dX9_wordOf_107 (by decide) ?_
            refine lv_bipush (v := 15) hx hb dX9_wordOf_108 (by decide) ?_
            refine lv_bipush (v := 14) hx hb dX9_wordOf_110 (by decide) ?_
            refine lv_iconst (v := 5) hx hb dX9_wordOf_112 (by decide) ?_
            refine lv_iconst (v := 0) hx hb dX9_wordOf_113 (by decide) ?_
            refine lv_iconst (v := 0) hx hb dX9_wordOf_114 (by decide) ?_
            refine fz_retRL (va_runS (As := [.int 4, .int 15, .int 14, .int 5, .int 0, .int 0]) (rest := [.long v]) ⟨hx, hb, hml, hown, hts⟩ (c_X9_spelt l D cy 4 15 14 5 0 0) (va_cwS 6 hts gX9_wordOf_X9_spelt rfl rfl rfl (by decide +kernel) ⟨Nat.le_of_ble_eq_true rfl, Nat.le_of_ble_eq_true rfl⟩) (fz_preS hK (fz_nil) fz_T_bl (fun _ _ _ => trivial)) rfl rfl hl.1 rfl (lv_room (Nat.le_of_ble_eq_true rfl)) dX9_wordOf_115 ⟨Nat.zero_le _, Nat.zero_le _⟩) ?_
            refine W.lcmp hx hb dX9_wordOf_118 ?_
            refine lv_if_ne (tgt := 126) hx hb dX9_wordOf_119 (by decide) (fun c_9 => ?_) (fun c_9 => ?_)
            · skip
              refine lv_iload_n hx hb dX9_wordOf_126 rfl (lv_at hl 1 rfl) ?_
              refine lv_istore_n (lv' := [(2, .int w1), (0, .long v)]) hx hb dX9_wordOf_127 rfl hl (by decide) rfl (fun ls hl => ?_)
              exact J128 w1 (show (w1 = tx_w2 v) from (by rw [tx_w2, if_neg c_7, if_neg c_8, if_neg c_9, e1])) ls (lv_sub hl [1, 0] rfl)
            · skip
              refine lv_iconst (v := 5) hx hb dX9_wordOf_122 (by decide) ?_
              refine lv_goto (tgt := 127) hx hb dX9_wordOf_123 (by decide) ?_
              refine lv_istore_n (lv' := [(2, .int 5), (0, .long v)]) hx hb dX9_wordOf_127 rfl hl (by decide) rfl (fun ls hl => ?_)
              exact J128 5 (show (5 = tx_w2 v) from (by rw [tx_w2, if_neg c_7, if_neg c_8, if_pos c_9])) ls (lv_sub hl [1, 0] rfl)
          · skip
            refine lv_iconst (v := 4) hx hb dX9_wordOf_102 (by decide) ?_
            refine lv_goto (tgt := 127) hx hb dX9_wordOf_103 (by decide) ?_
            refine lv_istore_n (lv' := [(2, .int 4), (0, .long v)]) hx hb dX9_wordOf_127 rfl hl (by decide) rfl (fun ls hl => ?_)
            exact J128 4 (show (4 = tx_w2 v) from (by rw [tx_w2, if_neg c_7, if_pos c_8])) ls (lv_sub hl [1, 0] rfl)
        · skip
          refine lv_iconst (v := 3) hx hb dX9_wordOf_80 (by decide) ?_
          refine lv_goto (tgt := 127) hx hb dX9_wordOf_81 (by decide) ?_
          refine lv_istore_n (lv' := [(2, .int 3), (0, .long v)]) hx hb dX9_wordOf_127 rfl hl (by decide) rfl (fun ls hl => ?_)
          exact J128 3 (show (3 = tx_w2 v) from (by rw [tx_w2, if_pos c_7])) ls (lv_sub hl [1, 0] rfl)
      · skip
        refine lv_lload_n hx hb dX9_wordOf_0 rfl (lv_at hl 0 rfl) ?_
        refine lv_bipush (v := 20) hx hb dX9_wordOf_1 (by decide) ?_
        refine lv_iconst (v := 5) hx hb dX9_wordOf_3 (by decide) ?_
        refine lv_iconst (v := 1) hx hb dX9_wordOf_4 (by decide) ?_
        refine lv_bipush (v := 13) hx hb dX9_wordOf_5 (by decide) ?_
        refine lv_iconst (v := 0) hx hb dX9_wordOf_7 (by decide) ?_
        refine lv_iconst (v := 0) hx hb dX9_wordOf_8 (by decide) ?_
        refine fz_retRL (va_runS (As := [.int 20, .int 5, .int 1, .int 13, .int 0, .int 0]) (rest := [.long v]) ⟨hx, hb, hml, hown, hts⟩ (c_X9_spelt l D cy 20 5 1 13 0 0) (va_cwS 6 hts gX9_wordOf_X9_spelt rfl rfl rfl (by decide +kernel) ⟨Nat.le_of_ble_eq_true rfl, Nat.le_of_ble_eq_true rfl⟩) (fz_preS hK (fz_nil) fz_T_bl (fun _ _ _ => trivial)) rfl rfl hl.1 rfl (lv_room (Nat.le_of_ble_eq_true rfl)) dX9_wordOf_9 ⟨Nat.zero_le _, Nat.zero_le _⟩) ?_
        refine W.lcmp hx hb dX9_wordOf_12 ?_
        refine lv_if_ne (tgt := 20) hx hb dX9_wordOf_13 (by decide) (fun c_10 => ?_) (fun c_10 => ?_)
        · skip
          refine lv_lload_n hx hb dX9_wordOf_20 rfl (lv_at hl 0 rfl) ?_
          refine lv_bipush (v := 6) hx hb dX9_wordOf_21 (by decide) ?_
          refine lv_bipush (v := 18) hx hb dX9_wordOf_23 (by decide) ?_
          refine lv_iconst (v := 5) hx hb dX9_wordOf_25 (by decide) ?_
          refine lv_iconst (v := 5) hx hb dX9_wordOf_26 (by decide) ?_
          refine lv_bipush (v := 26) hx hb dX9_wordOf_27 (by decide) ?_
          refine lv_iconst (v := 5) hx hb dX9_wordOf_29 (by decide) ?_
          refine fz_retRL (va_runS (As := [.int 6, .int 18, .int 5, .int 5, .int 26, .int 5]) (rest := [.long v]) ⟨hx, hb, hml, hown, hts⟩ (c_X9_spelt l D cy 6 18 5 5 26 5) (va_cwS 6 hts gX9_wordOf_X9_spelt rfl rfl rfl (by decide +kernel) ⟨Nat.le_of_ble_eq_true rfl, Nat.le_of_ble_eq_true rfl⟩) (fz_preS hK (fz_nil) fz_T_bl (fun _ _ _ => trivial)) rfl rfl hl.1 rfl (lv_room (Nat.le_of_ble_eq_true rfl)) dX9_wordOf_30 ⟨Nat.zero_le _, Nat.zero_le _⟩) ?_
          refine W.lcmp hx hb dX9_wordOf_33 ?_
          refine lv_if_ne (tgt := 41) hx hb dX9_wordOf_34 (by decide) (fun c_11 => ?_) (fun c_11 => ?_)
          · skip
            refine lv_lload_n hx hb dX9_wordOf_41 rfl (lv_at hl 0 rfl) ?_
            refine lv_bipush (v := 20) hx hb dX9_wordOf_42 (by decide) ?_
            refine lv_bipush (v := 8) hx hb dX9_wordOf_44 (by decide) ?_
            refine lv_iconst (v := 1) hx hb dX9_wordOf_46 (by decide) ?_
            refine lv_bipush (v := 23) hx hb dX9_wordOf_47 (by decide) ?_
            refine lv_iconst (v := 0) hx hb dX9_wordOf_49 (by decide) ?_
            refine lv_iconst (v := 0) hx hb dX9_wordOf_50 (by decide) ?_
            refine fz_retRL (va_runS (As := [.int 20, .int 8, .int 1, .int 23, .int 0, .int 0]) (rest := [.long v]) ⟨hx, hb, hml, hown, hts⟩ (c_X9_spelt l D cy 20 8 1 23 0 0) (va_cwS 6 hts gX9_wordOf_X9_spelt rfl rfl rfl (by decide +kernel) ⟨Nat.le_of_ble_eq_true rfl, Nat.le_of_ble_eq_true rfl⟩) (fz_preS hK (fz_nil) fz_T_bl (fun _ _ _ => trivial)) rfl rfl hl.1 rfl (lv_room (Nat.le_of_ble_eq_true rfl)) dX9_wordOf_51 ⟨Nat.zero_le _, Nat.zero_le _⟩) ?_
            refine W.lcmp hx hb dX9_wordOf_54 ?_
            refine lv_if_ne (tgt := 62) hx hb dX9_wordOf_55 (by decide) (fun c_12 => ?_) (fun c_12 => ?_)
            · skip
              refine lv_iconst (v := (-1)) hx hb dX9_wordOf_62 (by decide) ?_
              refine lv_istore_n (lv' := [(2, .int (-1)), (0, .long v)]) hx hb dX9_wordOf_63 rfl hl (by decide) rfl (fun ls hl => ?_)
              exact J64 (-1) (show ((-1) = tx_w1 v) from (by rw [tx_w1, if_neg c_10, if_neg c_11, if_neg c_12])) ls (lv_sub hl [1, 0] rfl)
            · skip
              refine lv_iconst (v := 2) hx hb dX9_wordOf_58 (by decide) ?_
              refine lv_goto (tgt := 63) hx hb dX9_wordOf_59 (by decide) ?_
              refine lv_istore_n (lv' := [(2, .int 2), (0, .long v)]) hx hb dX9_wordOf_63 rfl hl (by decide) rfl (fun ls hl => ?_)
              exact J64 2 (show (2 = tx_w1 v) from (by rw [tx_w1, if_neg c_10, if_neg c_11, if_pos c_12])) ls (lv_sub hl [1, 0] rfl)
          · skip
            refine lv_iconst (v := 1) hx hb dX9_wordOf_37 (by decide) ?_
            refine lv_goto (tgt := 63) hx hb dX9_wordOf_38 (by decide) ?_
            refine lv_istore_n (lv' := [(2, .int 1), (0, .long v)]) hx hb dX9_wordOf_63 rfl hl (by decide) rfl (fun ls hl => ?_)
            exact J64 1 (show (1 = tx_w1 v) from (by rw [tx_w1, if_neg c_10, if_pos c_11])) ls (lv_sub hl [1, 0] rfl)
        · skip
          refine lv_iconst (v := 0) hx hb dX9_wordOf_16 (by decide) ?_
          refine lv_goto (tgt := 63) hx hb dX9_wordOf_17 (by decide) ?_
          refine lv_istore_n (lv' := [(2, .int 0), (0, .long v)]) hx hb dX9_wordOf_63 rfl hl (by decide) rfl (fun ls hl => ?_)
          exact J64 0 (show (0 = tx_w1 v) from (by rw [tx_w1, if_pos c_10])) ls (lv_sub hl [1, 0] rfl)
set_option maxHeartbeats 4000000 in
set_option maxRecDepth 100000 in
/-- the model: many -/
theorem c_X9_many (l : Launch) (D : va_G) (cy : Nat → ClassId) (w : Nat) (hw : w < 12) : fz_RI l yX9_many wsX9_many 0 0 D cy [.int (nI w)] ([] : va_W) fz_T (nI (tx_many w)) := by
  refine Met.ofW (cc := cX9_many) (maxL := 1) (ret := (some .int)) (by decide) rfl ?_
  intro p e s m args below meth c s₁ B hml hv
  obtain ⟨rfl, hP, hK, hE⟩ := hv
  have hx := B.exec
  have hb := B.bytes
  have hr := B.returns
  have hts := atoms_spec (ws := wsX9_many) B.pre
  have hown : s.vm.findClass RX9 = some m.cls := findClass_of_methodNamed B.named
  have hlocks := B.notSynchronized
  have hl := lv_entry ([.int (nI w)]) (n := 1) (Nat.le_of_ble_eq_true rfl)
  rw [lg_entry_eq]
  generalize (lg_sl ([.int (nI w)]) ++ List.replicate (1 - (lg_sl ([.int (nI w)])).length) Slot.unset).toArray = ls at hl ⊢
  have hl : lv_has ls 1 [(0, .int (nI w))] := hl
  refine lv_iload_n hx hb dX9_many_0 rfl (lv_at hl 0 rfl) ?_
  rcases (show w = 0 ∨ w = 1 ∨ w = 2 ∨ w = 3 ∨ w = 4 ∨ w = 5 ∨ w = 6 ∨ w = 7 ∨ w = 8 ∨ w = 9 ∨ w = 10 ∨ w = 11 from by omega) with rfl | rfl | rfl | rfl | rfl | rfl | rfl | rfl | rfl | rfl | rfl | rfl
  · skip
    refine lv_tableIn (tgt := 64) hx hb dX9_many_1 (by decide) (by decide) rfl (by decide) ?_
    refine lv_iconst (v := 1) hx hb dX9_many_64 (by decide) ?_
    exact W.iret (v := 1) hx hb hr (fun t9 ht9 hW9 => ⟨_, rfl, rfl, ht9⟩) (fun _ h => nomatch h) dX9_many_65
  · skip
    refine lv_tableIn (tgt := 70) hx hb dX9_many_1 (by decide) (by decide) rfl (by decide) ?_
    refine lv_iconst (v := 2) hx hb dX9_many_70 (by decide) ?_
    exact W.iret (v := 2) hx hb hr (fun t9 ht9 hW9 => ⟨_, rfl, rfl, ht9⟩) (fun _ h => nomatch h) dX9_many_71
  · skip
    refine lv_tableIn (tgt := 70) hx hb dX9_many_1 (by decide) (by decide) rfl (by decide) ?_
    refine lv_iconst (v := 2) hx hb dX9_many_70 (by decide) ?_
    exact W.iret (v := 2) hx hb hr (fun t9 ht9 hW9 => ⟨_, rfl, rfl, ht9⟩) (fun _ h => nomatch h) dX9_many_71
  · skip
    refine lv_tableIn (tgt := 70) hx hb dX9_many_1 (by decide) (by decide) rfl (by decide) ?_
    refine lv_iconst (v := 2) hx hb dX9_many_70 (by decide) ?_
    exact W.iret (v := 2) hx hb hr (fun t9 ht9 hW9 => ⟨_, rfl, rfl, ht9⟩) (fun _ h => nomatch h) dX9_many_71
  · skip
    refine lv_tableIn (tgt := 64) hx hb dX9_many_1 (by decide) (by decide) rfl (by decide) ?_
    refine lv_iconst (v := 1) hx hb dX9_many_64 (by decide) ?_
    exact W.iret (v := 1) hx hb hr (fun t9 ht9 hW9 => ⟨_, rfl, rfl, ht9⟩) (fun _ h => nomatch h) dX9_many_65
  · skip
    refine lv_tableIn (tgt := 64) hx hb dX9_many_1 (by decide) (by decide) rfl (by decide) ?_
    refine lv_iconst (v := 1) hx hb dX9_many_64 (by decide) ?_
    exact W.iret (v := 1) hx hb hr (fun t9 ht9 hW9 => ⟨_, rfl, rfl, ht9⟩) (fun _ h => nomatch h) dX9_many_65
  · skip
    refine lv_tableIn (tgt := 64) hx hb dX9_many_1 (by decide) (by decide) rfl (by decide) ?_
    refine lv_iconst (v := 1) hx hb dX9_many_64 (by decide) ?_
    exact W.iret (v := 1) hx hb hr (fun t9 ht9 hW9 => ⟨_, rfl, rfl, ht9⟩) (fun _ h => nomatch h) dX9_many_65
  · skip
    refine lv_tableIn (tgt := 64) hx hb dX9_many_1 (by decide) (by decide) rfl (by decide) ?_
    refine lv_iconst (v := 1) hx hb dX9_many_64 (by decide) ?_
    exact W.iret (v := 1) hx hb hr (fun t9 ht9 hW9 => ⟨_, rfl, rfl, ht9⟩) (fun _ h => nomatch h) dX9_many_65
  · skip
    refine lv_tableIn (tgt := 66) hx hb dX9_many_1 (by decide) (by decide) rfl (by decide) ?_
    refine lv_iconst (v := 4) hx hb dX9_many_66 (by decide) ?_
    exact W.iret (v := 4) hx hb hr (fun t9 ht9 hW9 => ⟨_, rfl, rfl, ht9⟩) (fun _ h => nomatch h) dX9_many_67
  · skip
    refine lv_tableIn (tgt := 70) hx hb dX9_many_1 (by decide) (by decide) rfl (by decide) ?_
    refine lv_iconst (v := 2) hx hb dX9_many_70 (by decide) ?_
    exact W.iret (v := 2) hx hb hr (fun t9 ht9 hW9 => ⟨_, rfl, rfl, ht9⟩) (fun _ h => nomatch h) dX9_many_71
  · skip
    refine lv_tableIn (tgt := 70) hx hb dX9_many_1 (by decide) (by decide) rfl (by decide) ?_
    refine lv_iconst (v := 2) hx hb dX9_many_70 (by decide) ?_
    exact W.iret (v := 2) hx hb hr (fun t9 ht9 hW9 => ⟨_, rfl, rfl, ht9⟩) (fun _ h => nomatch h) dX9_many_71
  · skip
    refine lv_tableIn (tgt := 68) hx hb dX9_many_1 (by decide) (by decide) rfl (by decide) ?_
    refine lv_iconst (v := 0) hx hb dX9_many_68 (by decide) ?_
    exact W.iret (v := 0) hx hb hr (fun t9 ht9 hW9 => ⟨_, rfl, rfl, ht9⟩) (fun _ h => nomatch h) dX9_many_69
set_option maxHeartbeats 4000000 in
set_option maxRecDepth 100000 in
/-- the model: readNumber -/
theorem c_X9_readNumber (l : Launch) (D : va_G) (cy : Nat → ClassId) (b : Nat → Nat) (M : Nat → Nat → Int32) (h : Int64) (i : Nat) (hi4 : i < 4) (ln pp : Nat) (hln : M 0 1 = nI ln) (hln150 : ln ≤ 150) (hp : M 0 4 = nI pp) (hp9 : pp < 1000) : fz_MV l yX9_readNumber wsX9_readNumber 2 42 D cy [.ref (b 0), .int (nI i)] (MW cy b M h) fz_T (MW cy b (fz_up (fz_up M 0 (upd (upd (M 0) 4 (nI (tx_ne (M 4) ln pp).1)) 6 (tx_f3 (M 4) ln pp (M 0 6)))) 5 (upd (M 5) i (tx_ne (M 4) ln pp).2)) h) := by
  refine Met.ofW (cc := cX9_readNumber) (maxL := 4) (ret := none) (by decide) rfl ?_
  intro p e s m args below meth c s₁ B hml hv
  obtain ⟨rfl, hP, hK, hD0, hE⟩ := hv
  have hx := B.exec
  have hb := B.bytes
  have hr := B.returns
  have hts := atoms_spec (ws := wsX9_readNumber) B.pre
  have hown : s.vm.findClass RX9 = some m.cls := findClass_of_methodNamed B.named
  have hlocks := B.notSynchronized
  have hD := fz_self hD0
  generalize hAe : fz_in (MW cy b M h) = A at hD ⊢
  have hS : va_S A s.heap s.heap [] := va_S.rf
  have hl := lv_entry ([.ref (b 0), .int (nI i)]) (n := 4) (Nat.le_of_ble_eq_true rfl)
  rw [lg_entry_eq]
  generalize (lg_sl ([.ref (b 0), .int (nI i)]) ++ List.replicate (4 - (lg_sl ([.ref (b 0), .int (nI i)])).length) Slot.unset).toArray = ls at hl ⊢
  have hl : lv_has ls 4 [(0, .ref (b 0)), (1, .int (nI i))] := hl
  have k_184 := hts (.fieldLink RX9 184 "FreezeCreditsModel" "at" "I") (by decide +kernel)
  have inX9 : ∀ w ∈ u_ws RX9 TX9 13, w ∈ wsX9_readNumber := by decide +kernel
  have k_22 := hts (.fieldLink RX9 22 "FreezeCreditsModel" "numbers" "[I") (by decide +kernel)
  have hsp := tx_R_sp (M 4) ln pp
  unfold tx_R at hsp
  refine fz_cutM (σ := Int32) (pcj := 31) (nL := 4) (D := D) (cl := vwCl) (A := A) (H0 := s.heap) (fun g => [(0, .ref (b 0)), (1, .int (nI i))]) (fun g => ME cy b (M 0 0) (M 0 1) (M 0 2) (M 0 3) (nI (tx_sp (M 4) ln pp)) (M 0 5) g (M 1) (M 2) (M 3) (M 4) (M 5) h) (fun g => (g = tx_f2 (M 4) ln pp (M 0 6))) ?_ (fun J31 => ?_)
  · skip
    rintro g eg H locs ls hP hD hS hl
    have hP : va_P D vwCl (ME cy b (M 0 0) (M 0 1) (M 0 2) (M 0 3) (nI (tx_sp (M 4) ln pp)) (M 0 5) g (M 1) (M 2) (M 3) (M 4) (M 5) h) H := hP
    have hD : va_D A (ME cy b (M 0 0) (M 0 1) (M 0 2) (M 0 3) (nI (tx_sp (M 4) ln pp)) (M 0 5) g (M 1) (M 2) (M 3) (M 4) (M 5) h) := hD
    have eg : g = tx_f2 (M 4) ln pp (M 0 6) := eg
    have hl : lv_has ls 4 [(0, .ref (b 0)), (1, .int (nI i))] := hl
    refine lv_aload_n hx hb dX9_readNumber_31 rfl (lv_at hl 0 rfl) ?_
    refine va_get (D := D) (ci := 7) (v := .int (nI (tx_sp (M 4) ln pp))) (C := RX9) (T := TX9) (N := 13) hx hb hts inX9 hown hK hP 0 rfl rfl 8 (by decide) k_184 (fun _ h9 => h9) rfl dX9_readNumber_32 ?_
    refine lv_istore_n (lv' := [(2, .int (nI (tx_sp (M 4) ln pp))), (0, .ref (b 0)), (1, .int (nI i))]) hx hb dX9_readNumber_35 rfl hl (by decide) rfl (fun ls hl => ?_)
    refine lv_iconst (v := 0) hx hb dX9_readNumber_36 (by decide) ?_
    refine lv_istore_n (lv' := [(3, .int 0), (2, .int (nI (tx_sp (M 4) ln pp))), (0, .ref (b 0)), (1, .int (nI i))]) hx hb dX9_readNumber_37 rfl hl (by decide) rfl (fun ls hl => ?_)
    refine fz_loopM (σ := Nat × Nat × Int32) (pc := 38) (nL := 4) (fun x9 => match x9 with | (d, eb, v) => [(0, .ref (b 0)), (1, .int (nI i)), (2, .int (nI (tx_sp (M 4) ln pp))), (3, .int v)]) (fun x9 => match x9 with | (d, eb, v) => ME cy b (M 0 0) (M 0 1) (M 0 2) (M 0 3) (nI eb) (M 0 5) g (M 1) (M 2) (M 3) (M 4) (M 5) h) (fun x9 => match x9 with | (d, eb, v) => (d ≤ 3) ∧ (eb = tx_sp (M 4) ln pp + d) ∧ (tx_nd (M 4) ln (3 - d) eb v = tx_ne (M 4) ln pp)) (fun x9 => match x9 with | (d, eb, v) => 3 - d) ?_ (0, tx_sp (M 4) ln pp, 0) (show (0 ≤ 3) ∧ ((tx_sp (M 4) ln pp) = tx_sp (M 4) ln pp + 0) ∧ (tx_nd (M 4) ln (3 - 0) (tx_sp (M 4) ln pp) 0 = tx_ne (M 4) ln pp) from ⟨(by omega), rfl, rfl⟩) _ _ ls hP hD hS (lv_sub hl [2, 3, 1, 0] rfl)
    rintro ⟨d, eb, v⟩ ⟨hd, he, eN⟩ ih38 H locs ls hP hD hS hl
    have hP : va_P D vwCl (ME cy b (M 0 0) (M 0 1) (M 0 2) (M 0 3) (nI eb) (M 0 5) g (M 1) (M 2) (M 3) (M 4) (M 5) h) H := hP
    have hD : va_D A (ME cy b (M 0 0) (M 0 1) (M 0 2) (M 0 3) (nI eb) (M 0 5) g (M 1) (M 2) (M 3) (M 4) (M 5) h) := hD
    have hd : d ≤ 3 := hd
    have he : eb = tx_sp (M 4) ln pp + d := he
    have eN : tx_nd (M 4) ln (3 - d) eb v = tx_ne (M 4) ln pp := eN
    have hl : lv_has ls 4 [(0, .ref (b 0)), (1, .int (nI i)), (2, .int (nI (tx_sp (M 4) ln pp))), (3, .int v)] := hl
    refine lv_aload_n hx hb dX9_readNumber_38 rfl (lv_at hl 0 rfl) ?_
    refine fz_retR (va_runV (As := []) (rest := []) ⟨hx, hb, hml, hown, hts⟩ (c_X9_here l D cy b (fz_up M 0 (upd (upd (M 0) 4 (nI eb)) 6 g)) h ln eb hln hln150 rfl (by omega)) (cwV 0 hts gX9_readNumber_X9_here rfl rfl rfl (by decide +kernel) ⟨Nat.le_of_ble_eq_true rfl, Nat.le_of_ble_eq_true rfl⟩) (fz_preV (ci := 7) (q0 := 0) hK hP rfl rfl rfl fz_T_bl (fun _ _ _ => trivial)) rfl rfl hl.1 rfl (lv_room (Nat.le_of_ble_eq_true rfl)) dX9_readNumber_39 ⟨Nat.zero_le _, Nat.zero_le _⟩) ?_
    refine fz_top (show _ = tx_at (M 4) ln eb from rfl) ?_
    refine fz_retR (va_runS (As := [.int (tx_at (M 4) ln eb)]) (rest := []) ⟨hx, hb, hml, hown, hts⟩ (c_X9_isDigit l D cy (tx_at (M 4) ln eb)) (va_cwS 1 hts gX9_readNumber_X9_isDigit rfl rfl rfl (by decide +kernel) ⟨Nat.le_of_ble_eq_true rfl, Nat.le_of_ble_eq_true rfl⟩) (fz_preS hK (fz_nil) fz_T_bl (fun _ _ _ => trivial)) rfl rfl hl.1 rfl (lv_room (Nat.le_of_ble_eq_true rfl)) dX9_readNumber_42 ⟨Nat.zero_le _, Nat.zero_le _⟩) ?_
    refine fz_ifeqB (tgt := 84) hx hb dX9_readNumber_45 (by decide) (fun c_1 => ?_) (fun c_1 => ?_)
    · skip
      have eN9 : tx_ne (M 4) ln pp = (eb, v) := by rw [← eN, tx_nd_n c_1]
      refine lv_aload_n hx hb dX9_readNumber_84 rfl (lv_at hl 0 rfl) ?_
      refine fz_retR (va_runV (As := []) (rest := []) ⟨hx, hb, hml, hown, hts⟩ (c_X9_here l D cy b (fz_up M 0 (upd (upd (M 0) 4 (nI eb)) 6 g)) h ln eb hln hln150 rfl (by omega)) (cwV 0 hts gX9_readNumber_X9_here rfl rfl rfl (by decide +kernel) ⟨Nat.le_of_ble_eq_true rfl, Nat.le_of_ble_eq_true rfl⟩) (fz_preV (ci := 7) (q0 := 0) hK hP rfl rfl rfl fz_T_bl (fun _ _ _ => trivial)) rfl rfl hl.1 rfl (lv_room (Nat.le_of_ble_eq_true rfl)) dX9_readNumber_85 ⟨Nat.zero_le _, Nat.zero_le _⟩) ?_
      refine fz_top (show _ = tx_at (M 4) ln eb from rfl) ?_
      refine fz_retR (va_runS (As := [.int (tx_at (M 4) ln eb)]) (rest := []) ⟨hx, hb, hml, hown, hts⟩ (c_X9_isDigit l D cy (tx_at (M 4) ln eb)) (va_cwS 1 hts gX9_readNumber_X9_isDigit rfl rfl rfl (by decide +kernel) ⟨Nat.le_of_ble_eq_true rfl, Nat.le_of_ble_eq_true rfl⟩) (fz_preS hK (fz_nil) fz_T_bl (fun _ _ _ => trivial)) rfl rfl hl.1 rfl (lv_room (Nat.le_of_ble_eq_true rfl)) dX9_readNumber_88 ⟨Nat.zero_le _, Nat.zero_le _⟩) ?_
      refine fz_ifeqB (tgt := 98) hx hb dX9_readNumber_91 (by decide) (fun c_2 => ?_) (fun c_2 => ?_)
      · skip
        refine lv_aload_n hx hb dX9_readNumber_98 rfl (lv_at hl 0 rfl) ?_
        refine va_get (D := D) (ci := 7) (v := .ref (b 5)) (C := RX9) (T := TX9) (N := 13) hx hb hts inX9 hown hK hP 0 rfl rfl 10 (by decide) k_22 (fun _ h9 => h9) rfl dX9_readNumber_99 ?_
        refine lv_iload_n hx hb dX9_readNumber_102 rfl (lv_at hl 1 rfl) ?_
        refine lv_iload_n hx hb dX9_readNumber_103 rfl (lv_at hl 3 rfl) ?_
        refine fz_iast (f := M 5) hx hb hK hP hD hS 5 0 rfl rfl i rfl (by omega) (by decide) dX9_readNumber_104 (fun H locs hP hD hS => ?_)
        have hP : va_P D vwCl (ME cy b (M 0 0) (M 0 1) (M 0 2) (M 0 3) (nI eb) (M 0 5) g (M 1) (M 2) (M 3) (M 4) (upd (M 5) i v) h) H := hP
        have hD : va_D A (ME cy b (M 0 0) (M 0 1) (M 0 2) (M 0 3) (nI eb) (M 0 5) g (M 1) (M 2) (M 3) (M 4) (upd (M 5) i v) h) := hD
        exact W.vret hx hb hr (fun t9 ht9 hW9 => ⟨⟨(), rfl, trivial, fz_to ht9 (by rw [tx_f3, eN9, c_1, ← eg]; exact hP)⟩, hS.F ht9⟩) hS.2.2 dX9_readNumber_105
      · exact absurd (c_1.symm.trans c_2) (by decide)
    · skip
      refine lv_aload_n hx hb dX9_readNumber_48 rfl (lv_at hl 0 rfl) ?_
      refine va_get (D := D) (ci := 7) (v := .int (nI eb)) (C := RX9) (T := TX9) (N := 13) hx hb hts inX9 hown hK hP 0 rfl rfl 8 (by decide) k_184 (fun _ h9 => h9) rfl dX9_readNumber_49 ?_
      refine lv_iload_n hx hb dX9_readNumber_52 rfl (lv_at hl 2 rfl) ?_
      refine fz_isubN hx hb eb (tx_sp (M 4) ln pp) rfl rfl (by omega) dX9_readNumber_53 ?_
      refine lv_iconst (v := 3) hx hb dX9_readNumber_54 (by decide) ?_
      refine fz_geN (tgt := 84) hx hb (eb - (tx_sp (M 4) ln pp)) 3 rfl rfl dX9_readNumber_55 (by decide) (by omega) (by omega) (fun c_3 => ?_) (fun c_3 => ?_)
      · skip
        have eN9 : tx_ne (M 4) ln pp = (eb, v) := by rw [← eN, tx_nd_0 (by omega)]
        refine lv_aload_n hx hb dX9_readNumber_84 rfl (lv_at hl 0 rfl) ?_
        refine fz_retR (va_runV (As := []) (rest := []) ⟨hx, hb, hml, hown, hts⟩ (c_X9_here l D cy b (fz_up M 0 (upd (upd (M 0) 4 (nI eb)) 6 g)) h ln eb hln hln150 rfl (by omega)) (cwV 0 hts gX9_readNumber_X9_here rfl rfl rfl (by decide +kernel) ⟨Nat.le_of_ble_eq_true rfl, Nat.le_of_ble_eq_true rfl⟩) (fz_preV (ci := 7) (q0 := 0) hK hP rfl rfl rfl fz_T_bl (fun _ _ _ => trivial)) rfl rfl hl.1 rfl (lv_room (Nat.le_of_ble_eq_true rfl)) dX9_readNumber_85 ⟨Nat.zero_le _, Nat.zero_le _⟩) ?_
        refine fz_top (show _ = tx_at (M 4) ln eb from rfl) ?_
        refine fz_retR (va_runS (As := [.int (tx_at (M 4) ln eb)]) (rest := []) ⟨hx, hb, hml, hown, hts⟩ (c_X9_isDigit l D cy (tx_at (M 4) ln eb)) (va_cwS 1 hts gX9_readNumber_X9_isDigit rfl rfl rfl (by decide +kernel) ⟨Nat.le_of_ble_eq_true rfl, Nat.le_of_ble_eq_true rfl⟩) (fz_preS hK (fz_nil) fz_T_bl (fun _ _ _ => trivial)) rfl rfl hl.1 rfl (lv_room (Nat.le_of_ble_eq_true rfl)) dX9_readNumber_88 ⟨Nat.zero_le _, Nat.zero_le _⟩) ?_
        refine fz_ifeqB (tgt := 98) hx hb dX9_readNumber_91 (by decide) (fun c_4 => ?_) (fun c_4 => ?_)
        · exact absurd (c_1.symm.trans c_4) (by decide)
        · skip
          refine lv_aload_n hx hb dX9_readNumber_94 rfl (lv_at hl 0 rfl) ?_
          refine fz_retMV (ws' := ME cy b (M 0 0) (M 0 1) (M 0 2) (M 0 3) (nI eb) (M 0 5) (tx_flt g (nI eb)) (M 1) (M 2) (M 3) (M 4) (M 5) h) (va_runV (As := []) (rest := []) ⟨hx, hb, hml, hown, hts⟩ (c_X9_faults l D cy b (fz_up M 0 (upd (upd (M 0) 4 (nI eb)) 6 g)) h) (cwV 0 hts gX9_readNumber_X9_faults rfl rfl rfl (by decide +kernel) ⟨Nat.le_of_ble_eq_true rfl, Nat.le_of_ble_eq_true rfl⟩) (fz_preMV (ci := 7) (q0 := 0) hK hP hD rfl rfl rfl fz_T_bl (fun _ _ _ => trivial)) rfl rfl hl.1 rfl (lv_room (Nat.le_of_ble_eq_true rfl)) dX9_readNumber_95 ⟨Nat.zero_le _, Nat.zero_le _⟩) hP hD hS [0, 1, 2, 3, 4, 5] [] rfl rfl [true, true, true, true, true, true] (And.intro rfl (And.intro rfl (And.intro rfl (And.intro rfl (And.intro rfl (And.intro rfl trivial)))))) rfl rfl (fun H locs hP hD hS => ?_)
          have hP : va_P D vwCl (ME cy b (M 0 0) (M 0 1) (M 0 2) (M 0 3) (nI eb) (M 0 5) (tx_flt g (nI eb)) (M 1) (M 2) (M 3) (M 4) (M 5) h) H := hP
          have hD : va_D A (ME cy b (M 0 0) (M 0 1) (M 0 2) (M 0 3) (nI eb) (M 0 5) (tx_flt g (nI eb)) (M 1) (M 2) (M 3) (M 4) (M 5) h) := hD
          refine lv_aload_n hx hb dX9_readNumber_98 rfl (lv_at hl 0 rfl) ?_
          refine va_get (D := D) (ci := 7) (v := .ref (b 5)) (C := RX9) (T := TX9) (N := 13) hx hb hts inX9 hown hK hP 0 rfl rfl 10 (by decide) k_22 (fun _ h9 => h9) rfl dX9_readNumber_99 ?_
          refine lv_iload_n hx hb dX9_readNumber_102 rfl (lv_at hl 1 rfl) ?_
          refine lv_iload_n hx hb dX9_readNumber_103 rfl (lv_at hl 3 rfl) ?_
          refine fz_iast (f := M 5) hx hb hK hP hD hS 5 0 rfl rfl i rfl (by omega) (by decide) dX9_readNumber_104 (fun H locs hP hD hS => ?_)
          have hP : va_P D vwCl (ME cy b (M 0 0) (M 0 1) (M 0 2) (M 0 3) (nI eb) (M 0 5) (tx_flt g (nI eb)) (M 1) (M 2) (M 3) (M 4) (upd (M 5) i v) h) H := hP
          have hD : va_D A (ME cy b (M 0 0) (M 0 1) (M 0 2) (M 0 3) (nI eb) (M 0 5) (tx_flt g (nI eb)) (M 1) (M 2) (M 3) (M 4) (upd (M 5) i v) h) := hD
          exact W.vret hx hb hr (fun t9 ht9 hW9 => ⟨⟨(), rfl, trivial, fz_to ht9 (by rw [tx_f3, eN9, c_1, ← eg]; exact hP)⟩, hS.F ht9⟩) hS.2.2 dX9_readNumber_105
      · skip
        refine lv_bipush (v := 10) hx hb dX9_readNumber_58 (by decide) ?_
        refine lv_iload_n hx hb dX9_readNumber_60 rfl (lv_at hl 3 rfl) ?_
        refine lv_imul hx hb dX9_readNumber_61 ?_
        refine lv_aload_n hx hb dX9_readNumber_62 rfl (lv_at hl 0 rfl) ?_
        refine fz_retR (va_runV (As := []) (rest := [.int (10 * v)]) ⟨hx, hb, hml, hown, hts⟩ (c_X9_here l D cy b (fz_up M 0 (upd (upd (M 0) 4 (nI eb)) 6 g)) h ln eb hln hln150 rfl (by omega)) (cwV 0 hts gX9_readNumber_X9_here rfl rfl rfl (by decide +kernel) ⟨Nat.le_of_ble_eq_true rfl, Nat.le_of_ble_eq_true rfl⟩) (fz_preV (ci := 7) (q0 := 0) hK hP rfl rfl rfl fz_T_bl (fun _ _ _ => trivial)) rfl rfl hl.1 rfl (lv_room (Nat.le_of_ble_eq_true rfl)) dX9_readNumber_63 ⟨Nat.zero_le _, Nat.zero_le _⟩) ?_
        refine fz_top (show _ = tx_at (M 4) ln eb from rfl) ?_
        refine lv_iadd hx hb dX9_readNumber_66 ?_
        refine lv_bipush (v := 48) hx hb dX9_readNumber_67 (by decide) ?_
        refine lv_isub hx hb dX9_readNumber_69 ?_
        refine lv_istore_n (lv' := [(3, .int (((10 * v) + (tx_at (M 4) ln eb)) - 48)), (0, .ref (b 0)), (1, .int (nI i)), (2, .int (nI (tx_sp (M 4) ln pp)))]) hx hb dX9_readNumber_70 rfl hl (by decide) rfl (fun ls hl => ?_)
        refine lv_aload_n hx hb dX9_readNumber_71 rfl (lv_at hl 1 rfl) ?_
        refine lv_dup hx hb dX9_readNumber_72 rfl ?_
        refine va_get (D := D) (ci := 7) (v := .int (nI eb)) (C := RX9) (T := TX9) (N := 13) hx hb hts inX9 hown hK hP 0 rfl rfl 8 (by decide) k_184 (fun _ h9 => h9) rfl dX9_readNumber_73 ?_
        refine lv_iconst (v := 1) hx hb dX9_readNumber_76 (by decide) ?_
        refine fz_iaddN hx hb eb 1 rfl rfl dX9_readNumber_77 ?_
        refine va_put (D := D) (ci := 7) (v := .int (nI (eb + 1))) (ty := tyX9 8) (C := RX9) (T := TX9) (N := 13) hx hb hts inX9 tyX9 tyX9_ok nmX9 hown hK hP hD hS 0 rfl rfl 8 (by decide) k_184 (fun _ h9 => h9) rfl (by decide +kernel) rfl rfl (Nat.le_of_ble_eq_true rfl) dX9_readNumber_78 (fun H locs hP hD hS => ?_)
        have hP : va_P D vwCl (ME cy b (M 0 0) (M 0 1) (M 0 2) (M 0 3) (nI (eb + 1)) (M 0 5) g (M 1) (M 2) (M 3) (M 4) (M 5) h) H := hP
        have hD : va_D A (ME cy b (M 0 0) (M 0 1) (M 0 2) (M 0 3) (nI (eb + 1)) (M 0 5) g (M 1) (M 2) (M 3) (M 4) (M 5) h) := hD
        refine lv_goto (tgt := 38) hx hb dX9_readNumber_81 (by decide) ?_
        exact ih38 (d + 1, eb + 1, ((10 * v) + (tx_at (M 4) ln eb)) - 48) (show ((d + 1) ≤ 3) ∧ ((eb + 1) = tx_sp (M 4) ln pp + (d + 1)) ∧ (tx_nd (M 4) ln (3 - (d + 1)) (eb + 1) (((10 * v) + (tx_at (M 4) ln eb)) - 48) = tx_ne (M 4) ln pp) from ⟨(by omega), (by omega), (by rw [← eN, tx_nd_y (k := 3 - d) (by omega) c_1, show 3 - (d + 1) = 3 - d - 1 by omega])⟩) (by show 3 - (d + 1) < 3 - d; omega) _ _ ls hP hD hS (lv_sub hl [1, 2, 3, 0] rfl)
  · skip
    refine fz_cutM (σ := Int32) (pcj := 13) (nL := 4) (D := D) (cl := vwCl) (A := A) (H0 := s.heap) (fun f => [(0, .ref (b 0)), (1, .int (nI i))]) (fun f => ME cy b (M 0 0) (M 0 1) (M 0 2) (M 0 3) (M 0 4) (M 0 5) f (M 1) (M 2) (M 3) (M 4) (M 5) h) (fun f => (f = tx_f1 (M 4) ln pp (M 0 6))) ?_ (fun J13 => ?_)
    · skip
      rintro f ef H locs ls hP hD hS hl
      have hP : va_P D vwCl (ME cy b (M 0 0) (M 0 1) (M 0 2) (M 0 3) (M 0 4) (M 0 5) f (M 1) (M 2) (M 3) (M 4) (M 5) h) H := hP
      have hD : va_D A (ME cy b (M 0 0) (M 0 1) (M 0 2) (M 0 3) (M 0 4) (M 0 5) f (M 1) (M 2) (M 3) (M 4) (M 5) h) := hD
      have ef : f = tx_f1 (M 4) ln pp (M 0 6) := ef
      have hl : lv_has ls 4 [(0, .ref (b 0)), (1, .int (nI i))] := hl
      refine lv_aload_n hx hb dX9_readNumber_13 rfl (lv_at hl 0 rfl) ?_
      refine fz_retMV (ws' := ME cy b (M 0 0) (M 0 1) (M 0 2) (M 0 3) (nI (tx_sp (M 4) ln pp)) (M 0 5) f (M 1) (M 2) (M 3) (M 4) (M 5) h) (va_runV (As := []) (rest := []) ⟨hx, hb, hml, hown, hts⟩ (c_X9_spaces l D cy b (fz_up M 0 (upd (M 0) 6 f)) h ln pp hln hln150 hp (by omega)) (cwV 0 hts gX9_readNumber_X9_spaces rfl rfl rfl (by decide +kernel) ⟨Nat.le_of_ble_eq_true rfl, Nat.le_of_ble_eq_true rfl⟩) (fz_preMV (ci := 7) (q0 := 0) hK hP hD rfl rfl rfl fz_T_bl (fun _ _ _ => trivial)) rfl rfl hl.1 rfl (lv_room (Nat.le_of_ble_eq_true rfl)) dX9_readNumber_14 ⟨Nat.zero_le _, Nat.zero_le _⟩) hP hD hS [0, 1, 2, 3, 4, 5] [] rfl rfl [true, true, true, true, true, true] (And.intro rfl (And.intro rfl (And.intro rfl (And.intro rfl (And.intro rfl (And.intro rfl trivial)))))) rfl rfl (fun H locs hP hD hS => ?_)
      have hP : va_P D vwCl (ME cy b (M 0 0) (M 0 1) (M 0 2) (M 0 3) (nI (tx_sp (M 4) ln pp)) (M 0 5) f (M 1) (M 2) (M 3) (M 4) (M 5) h) H := hP
      have hD : va_D A (ME cy b (M 0 0) (M 0 1) (M 0 2) (M 0 3) (nI (tx_sp (M 4) ln pp)) (M 0 5) f (M 1) (M 2) (M 3) (M 4) (M 5) h) := hD
      refine lv_aload_n hx hb dX9_readNumber_17 rfl (lv_at hl 0 rfl) ?_
      refine fz_retR (va_runV (As := []) (rest := []) ⟨hx, hb, hml, hown, hts⟩ (c_X9_here l D cy b (fz_up M 0 (upd (upd (M 0) 4 (nI (tx_sp (M 4) ln pp))) 6 f)) h ln (tx_sp (M 4) ln pp) hln hln150 rfl (by omega)) (cwV 0 hts gX9_readNumber_X9_here rfl rfl rfl (by decide +kernel) ⟨Nat.le_of_ble_eq_true rfl, Nat.le_of_ble_eq_true rfl⟩) (fz_preV (ci := 7) (q0 := 0) hK hP rfl rfl rfl fz_T_bl (fun _ _ _ => trivial)) rfl rfl hl.1 rfl (lv_room (Nat.le_of_ble_eq_true rfl)) dX9_readNumber_18 ⟨Nat.zero_le _, Nat.zero_le _⟩) ?_
      refine fz_top (show _ = tx_at (M 4) ln (tx_sp (M 4) ln pp) from rfl) ?_
      refine fz_retR (va_runS (As := [.int (tx_at (M 4) ln (tx_sp (M 4) ln pp))]) (rest := []) ⟨hx, hb, hml, hown, hts⟩ (c_X9_isDigit l D cy (tx_at (M 4) ln (tx_sp (M 4) ln pp))) (va_cwS 1 hts gX9_readNumber_X9_isDigit rfl rfl rfl (by decide +kernel) ⟨Nat.le_of_ble_eq_true rfl, Nat.le_of_ble_eq_true rfl⟩) (fz_preS hK (fz_nil) fz_T_bl (fun _ _ _ => trivial)) rfl rfl hl.1 rfl (lv_room (Nat.le_of_ble_eq_true rfl)) dX9_readNumber_21 ⟨Nat.zero_le _, Nat.zero_le _⟩) ?_
      refine fz_ifneB (tgt := 31) hx hb dX9_readNumber_24 (by decide) (fun c_5 => ?_) (fun c_5 => ?_)
      · skip
        exact J31 f (show (f = tx_f2 (M 4) ln pp (M 0 6)) from (by rw [tx_f2, c_5, ← ef]; rfl)) _ _ ls hP hD hS (lv_sub hl [0, 1] rfl)
      · skip
        refine lv_aload_n hx hb dX9_readNumber_27 rfl (lv_at hl 0 rfl) ?_
        refine fz_retMV (ws' := ME cy b (M 0 0) (M 0 1) (M 0 2) (M 0 3) (nI (tx_sp (M 4) ln pp)) (M 0 5) (tx_flt f (nI (tx_sp (M 4) ln pp))) (M 1) (M 2) (M 3) (M 4) (M 5) h) (va_runV (As := []) (rest := []) ⟨hx, hb, hml, hown, hts⟩ (c_X9_faults l D cy b (fz_up M 0 (upd (upd (M 0) 4 (nI (tx_sp (M 4) ln pp))) 6 f)) h) (cwV 0 hts gX9_readNumber_X9_faults rfl rfl rfl (by decide +kernel) ⟨Nat.le_of_ble_eq_true rfl, Nat.le_of_ble_eq_true rfl⟩) (fz_preMV (ci := 7) (q0 := 0) hK hP hD rfl rfl rfl fz_T_bl (fun _ _ _ => trivial)) rfl rfl hl.1 rfl (lv_room (Nat.le_of_ble_eq_true rfl)) dX9_readNumber_28 ⟨Nat.zero_le _, Nat.zero_le _⟩) hP hD hS [0, 1, 2, 3, 4, 5] [] rfl rfl [true, true, true, true, true, true] (And.intro rfl (And.intro rfl (And.intro rfl (And.intro rfl (And.intro rfl (And.intro rfl trivial)))))) rfl rfl (fun H locs hP hD hS => ?_)
        have hP : va_P D vwCl (ME cy b (M 0 0) (M 0 1) (M 0 2) (M 0 3) (nI (tx_sp (M 4) ln pp)) (M 0 5) (tx_flt f (nI (tx_sp (M 4) ln pp))) (M 1) (M 2) (M 3) (M 4) (M 5) h) H := hP
        have hD : va_D A (ME cy b (M 0 0) (M 0 1) (M 0 2) (M 0 3) (nI (tx_sp (M 4) ln pp)) (M 0 5) (tx_flt f (nI (tx_sp (M 4) ln pp))) (M 1) (M 2) (M 3) (M 4) (M 5) h) := hD
        exact J31 (tx_flt f (nI (tx_sp (M 4) ln pp))) (show ((tx_flt f (nI (tx_sp (M 4) ln pp))) = tx_f2 (M 4) ln pp (M 0 6)) from (by rw [tx_f2, c_5, ← ef]; rfl)) _ _ ls hP hD hS (lv_sub hl [0, 1] rfl)
    · skip
      refine lv_aload_n hx hb dX9_readNumber_0 rfl (lv_at hl 0 rfl) ?_
      refine fz_retR (va_runV (As := []) (rest := []) ⟨hx, hb, hml, hown, hts⟩ (c_X9_here l D cy b M h ln pp hln hln150 hp (by omega)) (cwV 0 hts gX9_readNumber_X9_here rfl rfl rfl (by decide +kernel) ⟨Nat.le_of_ble_eq_true rfl, Nat.le_of_ble_eq_true rfl⟩) (fz_preV (ci := 7) (q0 := 0) hK hP rfl rfl rfl fz_T_bl (fun _ _ _ => trivial)) rfl rfl hl.1 rfl (lv_room (Nat.le_of_ble_eq_true rfl)) dX9_readNumber_1 ⟨Nat.zero_le _, Nat.zero_le _⟩) ?_
      refine lv_bipush (v := 32) hx hb dX9_readNumber_4 (by decide) ?_
      refine lv_icmp_eq (tgt := 13) hx hb dX9_readNumber_6 (by decide) (fun c_6 => ?_) (fun c_6 => ?_)
      · skip
        exact J13 (M 0 6) (show ((M 0 6) = tx_f1 (M 4) ln pp (M 0 6)) from (by rw [tx_f1, if_pos c_6])) _ _ ls hP hD hS (lv_sub hl [0, 1] rfl)
      · skip
        refine lv_aload_n hx hb dX9_readNumber_9 rfl (lv_at hl 0 rfl) ?_
        refine fz_retMV (ws' := ME cy b (M 0 0) (M 0 1) (M 0 2) (M 0 3) (M 0 4) (M 0 5) (tx_flt (M 0 6) (M 0 4)) (M 1) (M 2) (M 3) (M 4) (M 5) h) (va_runV (As := []) (rest := []) ⟨hx, hb, hml, hown, hts⟩ (c_X9_faults l D cy b M h) (cwV 0 hts gX9_readNumber_X9_faults rfl rfl rfl (by decide +kernel) ⟨Nat.le_of_ble_eq_true rfl, Nat.le_of_ble_eq_true rfl⟩) (fz_preMV (ci := 7) (q0 := 0) hK hP hD rfl rfl rfl fz_T_bl (fun _ _ _ => trivial)) rfl rfl hl.1 rfl (lv_room (Nat.le_of_ble_eq_true rfl)) dX9_readNumber_10 ⟨Nat.zero_le _, Nat.zero_le _⟩) hP hD hS [0, 1, 2, 3, 4, 5] [] rfl rfl [true, true, true, true, true, true] (And.intro rfl (And.intro rfl (And.intro rfl (And.intro rfl (And.intro rfl (And.intro rfl trivial)))))) rfl rfl (fun H locs hP hD hS => ?_)
        have hP : va_P D vwCl (ME cy b (M 0 0) (M 0 1) (M 0 2) (M 0 3) (M 0 4) (M 0 5) (tx_flt (M 0 6) (M 0 4)) (M 1) (M 2) (M 3) (M 4) (M 5) h) H := hP
        have hD : va_D A (ME cy b (M 0 0) (M 0 1) (M 0 2) (M 0 3) (M 0 4) (M 0 5) (tx_flt (M 0 6) (M 0 4)) (M 1) (M 2) (M 3) (M 4) (M 5) h) := hD
        exact J13 (tx_flt (M 0 6) (M 0 4)) (show ((tx_flt (M 0 6) (M 0 4)) = tx_f1 (M 4) ln pp (M 0 6)) from (by rw [tx_f1, if_neg c_6, hp])) _ _ ls hP hD hS (lv_sub hl [0, 1] rfl)
