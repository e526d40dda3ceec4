/-! texts: they are read by their bytes alone -/
theorem tx_sk_cong {f g : Nat → Bool} : ∀ k p, (∀ q, p ≤ q → q < p + k → f q = g q) → tx_sk f k p = tx_sk g k p
  | 0, _, _ => rfl
  | k + 1, p, h => by
    rw [tx_sk, tx_sk, h p (Nat.le_refl p) (by omega), tx_sk_cong k (p + 1) (fun q h1 h2 => h q (by omega) (by omega))]
section TXC
variable {T T' : Nat → Int32} {n : Nat} (h : ∀ i, i < n → T i = T' i)
theorem at_cong (h : ∀ i, i < n → T i = T' i) : tx_at T n = tx_at T' n := by
  funext p
  rw [tx_at, tx_at]
  by_cases c : p < n
  · rw [if_pos c, if_pos c, h p c]
  · rw [if_neg c, if_neg c]
theorem sp_cong (h : ∀ i, i < n → T i = T' i) : tx_sp T n = tx_sp T' n := by
  funext p
  exact tx_sk_cong _ _ (fun q h1 h2 => by rw [h q (by omega)])
theorem le_cong (h : ∀ i, i < n → T i = T' i) : tx_le T n = tx_le T' n := by
  funext p
  exact tx_sk_cong _ _ (fun q h1 h2 => by rw [h q (by omega)])
theorem nd_cong (h : ∀ i, i < n → T i = T' i) : ∀ k p v, tx_nd T n k p v = tx_nd T' n k p v
  | 0, _, _ => rfl
  | k + 1, p, v => by
    rw [tx_nd, tx_nd, at_cong h, nd_cong h k (p + 1)]
theorem ne_cong (h : ∀ i, i < n → T i = T' i) (p : Nat) : tx_ne T n p = tx_ne T' n p := by
  rw [tx_ne, tx_ne, nd_cong h, sp_cong h]
theorem any_cong2 {f g : Nat → Bool} {k : Nat} (q : ∀ i, i < k → f i = g i) : fz_any f k = fz_any g k := fz_any_cong q
theorem find_cong (h : ∀ i, i < n → T i = T' i) {p q : Nat} (hq : q ≤ p ∨ q ≤ n) : vb_find T p q = vb_find T' p q := by
  rw [vb_find, vb_find]
  congr 1
  funext i
  rw [vb_st, vb_st]
  by_cases c : vbl i = q - p
  · rw [any_cong2 (f := fun k => !(decide (vbc i k = T (p + k)))) (g := fun k => !(decide (vbc i k = T' (p + k)))) (fun k hk => by rw [h (p + k) (by omega)])]
  · rw [decide_eq_false c]
    rfl
theorem ok_cong (h : ∀ i, i < n → T i = T' i) (p : Nat) : cx_ok T n p = cx_ok T' n p := by
  rw [cx_ok, cx_ok, at_cong h, sp_cong h]
theorem cat_cong (h : ∀ i, i < n → T i = T' i) (p : Nat) : cx_at T n p = cx_at T' n p := by
  rw [cx_at, cx_at, at_cong h, sp_cong h, ne_cong h]
theorem cz_cong (h : ∀ i, i < n → T i = T' i) (p i : Nat) (Z : Nat → Int32) : cx_Z T n p i Z = cx_Z T' n p i Z := by
  rw [cx_Z, cx_Z, ok_cong h, ne_cong h]
theorem ns_cong (h : ∀ i, i < n → T i = T' i) : ∀ k i p Z, cx_ns T n k i p Z = cx_ns T' n k i p Z
  | 0, _, _, _ => rfl
  | k + 1, i, p, Z => by
    rw [cx_ns, cx_ns, ok_cong h, cat_cong h, cz_cong h, ns_cong h k (i + 1)]
theorem rd_cong (h : ∀ i, i < n → T i = T' i) (p : Nat) (Z : Nat → Int32) : cx_rd T n p Z = cx_rd T' n p Z := by
  have e1 : vb_find T p (tx_le T n p) = vb_find T' p (tx_le T' n p) := by
    rw [← le_cong h]
    exact find_cong h (tx_le_le T n p)
  cases e2 : vb_find T' p (tx_le T' n p) with
  | none =>
    rw [cx_rd_none (e1.trans e2), cx_rd_none e2, le_cong h]
  | some w =>
    rw [cx_rd_some (e1.trans e2), cx_rd_some e2, ns_cong h, le_cong h, cx_rd2, cx_rd2, sp_cong h, at_cong h]
theorem ff_cong (h : ∀ i, i < n → T i = T' i) : ∀ k a v Z, cx_ff T n k a v Z = cx_ff T' n k a v Z
  | 0, _, _, _ => rfl
  | k + 1, a, v, Z => by
    rw [cx_ff, cx_ff, sp_cong h, rd_cong h, ff_cong h k]
theorem rl_cong (h : ∀ i, i < n → T i = T' i) : ∀ k a v Z V c, cx_rl T n k a v Z V c = cx_rl T' n k a v Z V c
  | 0, _, _, _, _, _ => rfl
  | k + 1, a, v, Z, V, c => by
    rw [cx_rl, cx_rl, sp_cong h, rd_cong h, rl_cong h k]
end TXC
theorem rd_yes {T : Nat → Int32} {n p w q r : Nat} {Z Y : Nat → Int32} (h1 : vb_find T p (tx_le T n p) = some w) (h2 : cx_ns T n (tx_many w) 0 (tx_le T n p) Z = (true, q, Y)) (h3 : tx_sp T n q = r) (h4 : tx_at T n r = 59) : cx_rd T n p Z = (-1, r + 1, some w, Y) := by
  rw [cx_rd_some h1, cx_rd2, h2, cond_true, h3, if_pos h4]
/-- the text that runs writes -/
def txA (t r : Nat) : List Int32 := [32, 97, 115, 107, 32, 48, 48, nI (48 + t), 32, 48, 48, nI (48 + r), 59, 119, 101, 101, 107, 59]
def txT (L : List Int32) : Nat → Int32 := fun i => L.getD i 0
theorem txA_1 : ∀ t, t < 6 → ∀ r, r < 10 → tx_sp (txT (txA t r)) 18 0 = 1 ∧ tx_le (txT (txA t r)) 18 1 = 4 ∧ vb_find (txT (txA t r)) 1 4 = some 3 ∧ cx_ok (txT (txA t r)) 18 4 = true ∧ cx_at (txT (txA t r)) 18 4 = 8 ∧ (tx_ne (txT (txA t r)) 18 4).2 = nI t := by decide +kernel
theorem txA_2 : ∀ t, t < 6 → ∀ r, r < 10 → cx_ok (txT (txA t r)) 18 8 = true ∧ cx_at (txT (txA t r)) 18 8 = 12 ∧ (tx_ne (txT (txA t r)) 18 8).2 = nI r ∧ tx_sp (txT (txA t r)) 18 12 = 12 ∧ tx_at (txT (txA t r)) 18 12 = 59 := by decide +kernel
theorem txA_3 : ∀ t, t < 6 → ∀ r, r < 10 → tx_sp (txT (txA t r)) 18 13 = 13 ∧ tx_le (txT (txA t r)) 18 13 = 17 ∧ vb_find (txT (txA t r)) 13 17 = some 11 ∧ tx_sp (txT (txA t r)) 18 17 = 17 ∧ tx_at (txT (txA t r)) 18 17 = 59 ∧ tx_sp (txT (txA t r)) 18 18 = 18 := by decide +kernel
theorem txA_rd1 {t r : Nat} (ht : t < 6) (hr : r < 10) (Z : Nat → Int32) : cx_rd (txT (txA t r)) 18 1 Z = (-1, 13, some 3, upd (upd Z 0 (nI t)) 1 (nI r)) := by
  obtain ⟨a1, a2, a3, a4, a5, a6⟩ := txA_1 t ht r hr
  obtain ⟨b1, b2, b3, b4, b5⟩ := txA_2 t ht r hr
  refine rd_yes (q := 12) (by rw [a2]; exact a3) ?_ b4 b5
  rw [a2, show tx_many 3 = 2 from rfl, cx_ns_y (by decide) a4, a5, show 2 - 1 = 1 from rfl, show 0 + 1 = 1 from rfl, cx_ns_y (by decide) b1, b2, show 1 - 1 = 0 from rfl, cx_ns, cx_Z, cx_Z, a4, b1, a6, b3]
  rfl
theorem txA_rd2 {t r : Nat} (ht : t < 6) (hr : r < 10) (Z : Nat → Int32) : cx_rd (txT (txA t r)) 18 13 Z = (-1, 18, some 11, Z) := by
  obtain ⟨a1, a2, a3, a4, a5, a6⟩ := txA_3 t ht r hr
  refine rd_yes (q := 17) (by rw [a2]; exact a3) ?_ a4 a5
  rw [a2]
  rfl
theorem txA_F {t r : Nat} (ht : t < 6) (hr : r < 10) : tFis (txA t r) (-1) := by
  intro T v Z hT
  have e : ∀ i, i < 18 → T i = txT (txA t r) i := hT
  obtain ⟨a1, -⟩ := txA_1 t ht r hr
  obtain ⟨b1, b2, b3, b4, b5, b6⟩ := txA_3 t ht r hr
  show (cx_ff T 18 150 0 v Z).1 = -1
  rw [ff_cong e, cx_ff_s (by decide) (by rw [a1]; decide) (by rw [a1, txA_rd1 ht hr]), a1, txA_rd1 ht hr]
  show (cx_ff (txT (txA t r)) 18 149 13 _ _).1 = -1
  rw [cx_ff_s (by decide) (by rw [b1]; decide) (by rw [b1, txA_rd2 ht hr]), b1, txA_rd2 ht hr]
  show (cx_ff (txT (txA t r)) 18 148 18 _ _).1 = -1
  rw [cx_ff_e (by decide) (by rw [b6]; decide)]
theorem rl_step {T : Nat → Int32} {n k a c p q w : Nat} {v : Option Nat} {Z Y : Nat → Int32} {V : Nat → Nat → Int32} (h1 : tx_sp T n a = p) (hp : p < n) (h2 : cx_rd T n p Z = (-1, q, some w, Y)) (h3 : 0 ≤ (cx_dm V Y w).1) : cx_rl T n (k + 1) a v Z V c = cx_rl T n k q (some w) Y (cx_dm V Y w).2 (c + 1) := by
  rw [cx_rl, h1, if_pos hp, h2, if_pos rfl]
  exact if_pos h3
theorem rl_stop {T : Nat → Int32} {n k j a c p q w : Nat} {v : Option Nat} {Z Y : Nat → Int32} {V : Nat → Nat → Int32} (hj : j = k + 1) (h1 : tx_sp T n a = p) (hp : p < n) (h2 : cx_rd T n p Z = (-1, q, some w, Y)) {x : Int32} {U : Nat → Nat → Int32} (hd : cx_dm V Y w = (x, U)) (h3 : ¬ 0 ≤ x) : (cx_rl T n j a v Z V c).1 = c ∧ (cx_rl T n j a v Z V c).2.1 = U := by
  subst hj
  rw [cx_rl, h1, if_pos hp, h2, if_pos rfl]
  have hd' : cx_dm V Y ((some w).getD 0) = (x, U) := hd
  show (if 0 ≤ (cx_dm V Y ((some w).getD 0)).1 then cx_rl T n k q (some w) Y (cx_dm V Y ((some w).getD 0)).2 (c + 1) else (c, (cx_dm V Y ((some w).getD 0)).2, q, some w, Y)).1 = c ∧ (if 0 ≤ (cx_dm V Y ((some w).getD 0)).1 then cx_rl T n k q (some w) Y (cx_dm V Y ((some w).getD 0)).2 (c + 1) else (c, (cx_dm V Y ((some w).getD 0)).2, q, some w, Y)).2.1 = U
  rw [hd', if_neg h3]
  exact ⟨rfl, rfl⟩
theorem rl_end {T : Nat → Int32} {n k a c p : Nat} {v : Option Nat} {Z : Nat → Int32} {V : Nat → Nat → Int32} (h1 : tx_sp T n a = p) (hp : ¬ p < n) : (cx_rl T n (k + 1) a v Z V c).1 = c ∧ (cx_rl T n (k + 1) a v Z V c).2.1 = V := by
  rw [cx_rl, h1, if_neg hp]
  exact ⟨rfl, rfl⟩
/-- asked, and the week ended -/
theorem txA_C2 {V : Nat → Nat → Int32} {nt nc nq nl wk nt1 nc1 nq1 nl1 wk1 t r : Nat} (ht : t < 6) (hr : r < 10) (wf : fz_wf V nt nc nq nl wk) (h1 : 0 ≤ (fz_enter V nc nq (nI t) (nI r)).1) (wf1 : fz_wf (fz_enter V nc nq (nI t) (nI r)).2 nt1 nc1 nq1 nl1 wk1) (h2 : 0 ≤ (fz_close (fz_enter V nc nq (nI t) (nI r)).2 nt1 nc1 nl1 wk1).1) : tCis (txA t r) V 2 (fz_close (fz_enter V nc nq (nI t) (nI r)).2 nt1 nc1 nl1 wk1).2 := by
  intro T v Z hT
  have e : ∀ i, i < 18 → T i = txT (txA t r) i := hT
  obtain ⟨a1, -⟩ := txA_1 t ht r hr
  obtain ⟨b1, b2, b3, b4, b5, b6⟩ := txA_3 t ht r hr
  have d1 : cx_dm V (upd (upd Z 0 (nI t)) 1 (nI r)) 3 = fz_enter V nc nq (nI t) (nI r) := cx_dm_eq wf
  have d2 : cx_dm (fz_enter V nc nq (nI t) (nI r)).2 (upd (upd Z 0 (nI t)) 1 (nI r)) 11 = fz_close (fz_enter V nc nq (nI t) (nI r)).2 nt1 nc1 nl1 wk1 := cx_dm_eq wf1
  show (cx_rl T 18 150 0 v Z V 0).1 = 2 ∧ (cx_rl T 18 150 0 v Z V 0).2.1 = _
  rw [rl_cong e, rl_step (k := 149) a1 (by decide) (txA_rd1 ht hr Z) (by rw [d1]; exact h1), d1, rl_step (k := 148) b1 (by decide) (txA_rd2 ht hr _) (by rw [d2]; exact h2), d2]
  exact rl_end (k := 147) b6 (by decide)
/-- asked; the week can't end -/
theorem txA_C1 {V : Nat → Nat → Int32} {nt nc nq nl wk nt1 nc1 nq1 nl1 wk1 t r : Nat} (ht : t < 6) (hr : r < 10) (wf : fz_wf V nt nc nq nl wk) (h1 : 0 ≤ (fz_enter V nc nq (nI t) (nI r)).1) (wf1 : fz_wf (fz_enter V nc nq (nI t) (nI r)).2 nt1 nc1 nq1 nl1 wk1) (h2 : fz_close (fz_enter V nc nq (nI t) (nI r)).2 nt1 nc1 nl1 wk1 = (-3, (fz_enter V nc nq (nI t) (nI r)).2)) : tCis (txA t r) V 1 (fz_enter V nc nq (nI t) (nI r)).2 := by
  intro T v Z hT
  have e : ∀ i, i < 18 → T i = txT (txA t r) i := hT
  obtain ⟨a1, -⟩ := txA_1 t ht r hr
  obtain ⟨b1, b2, b3, b4, b5, b6⟩ := txA_3 t ht r hr
  have d1 : cx_dm V (upd (upd Z 0 (nI t)) 1 (nI r)) 3 = fz_enter V nc nq (nI t) (nI r) := cx_dm_eq wf
  have d2 : cx_dm (fz_enter V nc nq (nI t) (nI r)).2 (upd (upd Z 0 (nI t)) 1 (nI r)) 11 = (-3, (fz_enter V nc nq (nI t) (nI r)).2) := (cx_dm_eq wf1).trans h2
  show (cx_rl T 18 150 0 v Z V 0).1 = 1 ∧ (cx_rl T 18 150 0 v Z V 0).2.1 = _
  rw [rl_cong e, rl_step (k := 149) a1 (by decide) (txA_rd1 ht hr Z) (by rw [d1]; exact h1), d1]
  exact rl_stop (j := 149) (k := 148) (v := some 3) rfl b1 (by decide) (txA_rd2 ht hr (upd (upd Z 0 (nI t)) 1 (nI r))) d2 (by decide)
/-- no change can be asked for -/
theorem txA_C0 {V : Nat → Nat → Int32} {nt nc nq nl wk t r : Nat} (ht : t < 6) (hr : r < 10) (wf : fz_wf V nt nc nq nl wk) (h1 : fz_enter V nc nq (nI t) (nI r) = (-3, V)) : tCis (txA t r) V 0 V := by
  intro T v Z hT
  have e : ∀ i, i < 18 → T i = txT (txA t r) i := hT
  obtain ⟨a1, -⟩ := txA_1 t ht r hr
  have d1 : cx_dm V (upd (upd Z 0 (nI t)) 1 (nI r)) 3 = (-3, V) := (cx_dm_eq wf).trans h1
  show (cx_rl T 18 150 0 v Z V 0).1 = 0 ∧ (cx_rl T 18 150 0 v Z V 0).2.1 = _
  rw [rl_cong e]
  exact rl_stop (j := 150) (k := 149) (v := v) rfl a1 (by decide) (txA_rd1 ht hr Z) d1 (by decide)
/-! the other texts -/
theorem tx0_F : tFis [] (-1) := by
  intro T v Z _
  show (cx_ff T 0 150 0 v Z).1 = -1
  rw [cx_ff_e (by decide) (by rw [tx_sp_e (Nat.le_refl 0)]; decide)]
theorem tx0_C {V : Nat → Nat → Int32} : tCis [] V 0 V := by
  intro T v Z _
  exact rl_end (k := 149) (tx_sp_e (T := T) (n := 0) (Nat.le_refl 0)) (by decide)
theorem tx1_F : tFis [32] (-1) := by
  intro T v Z hT
  have e : ∀ i, i < 1 → T i = txT [32] i := hT
  show (cx_ff T 1 150 0 v Z).1 = -1
  rw [ff_cong e, cx_ff_e (by decide) (by decide +kernel)]
theorem tx1_C {V : Nat → Nat → Int32} : tCis [32] V 0 V := by
  intro T v Z hT
  have e : ∀ i, i < 1 → T i = txT [32] i := hT
  show (cx_rl T 1 150 0 v Z V 0).1 = 0 ∧ (cx_rl T 1 150 0 v Z V 0).2.1 = V
  rw [rl_cong e]
  exact rl_end (k := 149) (p := 1) (by decide +kernel) (by decide)
/-- a text whose first command is at fault -/
theorem txF1 {L : List Int32} {p : Nat} {F : Int32} (h1 : tx_sp (txT L) L.length 0 = p) (hp : p < L.length) (h2 : ∀ Z, (cx_rd (txT L) L.length p Z).1 = F) (h3 : ¬ F = -1) : tFis L F := by
  intro T v Z hT
  rw [ff_cong (T' := txT L) hT, cx_ff_f (by decide) (by rw [h1]; exact hp) (by rw [h1, h2]; exact h3), h1, h2]
theorem rd_bad {T : Nat → Int32} {n p : Nat} {F : Int32} (h : vb_find T p (tx_le T n p) = none) (hF : nI p = F) (Z : Nat → Int32) : (cx_rd T n p Z).1 = F := by
  rw [cx_rd_none h]
  exact hF
theorem rd_num {T : Nat → Int32} {n p w q : Nat} {F : Int32} (h : vb_find T p (tx_le T n p) = some w) (hm : 0 < tx_many w) (h2 : cx_ok T n (tx_le T n p) = false) (h3 : cx_at T n (tx_le T n p) = q) (hF : nI q = F) (Z : Nat → Int32) : (cx_rd T n p Z).1 = F := by
  rw [cx_rd_some h, cx_ns_n hm h2, cx_rd2]
  show nI (cx_at T n (tx_le T n p)) = F
  rw [h3]
  exact hF
theorem txteam_F : tFis [116, 101, 97, 109] 4 := txF1 (p := 0) (by decide +kernel) (by decide) (rd_num (w := 0) (q := 4) (by decide +kernel) (by decide) (by decide +kernel) (by decide +kernel) rfl) (by decide)
theorem txteam1_F : tFis [116, 101, 97, 109, 32] 5 := txF1 (p := 0) (by decide +kernel) (by decide) (rd_num (w := 0) (q := 5) (by decide +kernel) (by decide) (by decide +kernel) (by decide +kernel) rfl) (by decide)
theorem txteam5_F : tFis [116, 101, 97, 109, 32, 55, 55, 55, 55] 8 := txF1 (p := 0) (by decide +kernel) (by decide) (fun Z => by
  have e1 : vb_find (txT [116, 101, 97, 109, 32, 55, 55, 55, 55]) 0 (tx_le (txT [116, 101, 97, 109, 32, 55, 55, 55, 55]) 9 0) = some 0 := by decide +kernel
  have e2 : cx_ok (txT [116, 101, 97, 109, 32, 55, 55, 55, 55]) 9 (tx_le (txT [116, 101, 97, 109, 32, 55, 55, 55, 55]) 9 0) = true := by decide +kernel
  have e3 : cx_at (txT [116, 101, 97, 109, 32, 55, 55, 55, 55]) 9 (tx_le (txT [116, 101, 97, 109, 32, 55, 55, 55, 55]) 9 0) = 8 := by decide +kernel
  show (cx_rd (txT [116, 101, 97, 109, 32, 55, 55, 55, 55]) 9 0 Z).1 = 8
  rw [cx_rd_some e1, show tx_many 0 = 1 from rfl, cx_ns_y (by decide) e2, e3, show 1 - 1 = 0 from rfl, cx_ns, cx_rd2]
  show (if tx_at (txT [116, 101, 97, 109, 32, 55, 55, 55, 55]) 9 (tx_sp (txT [116, 101, 97, 109, 32, 55, 55, 55, 55]) 9 8) = 59 then ((-1 : Int32), tx_sp (txT [116, 101, 97, 109, 32, 55, 55, 55, 55]) 9 8 + 1, some 0, cx_Z (txT [116, 101, 97, 109, 32, 55, 55, 55, 55]) 9 (tx_le (txT [116, 101, 97, 109, 32, 55, 55, 55, 55]) 9 0) 0 Z) else (nI (tx_sp (txT [116, 101, 97, 109, 32, 55, 55, 55, 55]) 9 8), tx_sp (txT [116, 101, 97, 109, 32, 55, 55, 55, 55]) 9 8, some 0, cx_Z (txT [116, 101, 97, 109, 32, 55, 55, 55, 55]) 9 (tx_le (txT [116, 101, 97, 109, 32, 55, 55, 55, 55]) 9 0) 0 Z)).1 = 8
  rw [if_neg (by decide +kernel), show tx_sp (txT [116, 101, 97, 109, 32, 55, 55, 55, 55]) 9 8 = 8 by decide +kernel]
  rfl) (by decide)
theorem txsemi_F : tFis [59] 0 := txF1 (p := 0) (by decide +kernel) (by decide) (rd_bad (by decide +kernel) rfl) (by decide)
/-! behind the two commands a word that is not complete -/
def txB (t r : Nat) (M : List Int32) : List Int32 := txA t r ++ M
theorem txB_1 : ∀ t, t < 6 → ∀ r, r < 10 → ∀ M ∈ [[119], [119, 32]], (txB t r M).length = 18 + M.length ∧ tx_sp (txT (txB t r M)) (18 + M.length) 0 = 1 ∧ tx_le (txT (txB t r M)) (18 + M.length) 1 = 4 ∧ vb_find (txT (txB t r M)) 1 4 = some 3 ∧ cx_ok (txT (txB t r M)) (18 + M.length) 4 = true ∧ cx_at (txT (txB t r M)) (18 + M.length) 4 = 8 := by decide +kernel
theorem txB_2 : ∀ t, t < 6 → ∀ r, r < 10 → ∀ M ∈ [[119], [119, 32]], cx_ok (txT (txB t r M)) (18 + M.length) 8 = true ∧ cx_at (txT (txB t r M)) (18 + M.length) 8 = 12 ∧ tx_sp (txT (txB t r M)) (18 + M.length) 12 = 12 ∧ tx_at (txT (txB t r M)) (18 + M.length) 12 = 59 := by decide +kernel
theorem txB_3 : ∀ t, t < 6 → ∀ r, r < 10 → ∀ M ∈ [[119], [119, 32]], tx_sp (txT (txB t r M)) (18 + M.length) 13 = 13 ∧ tx_le (txT (txB t r M)) (18 + M.length) 13 = 17 ∧ vb_find (txT (txB t r M)) 13 17 = some 11 ∧ tx_sp (txT (txB t r M)) (18 + M.length) 17 = 17 ∧ tx_at (txT (txB t r M)) (18 + M.length) 17 = 59 ∧ tx_sp (txT (txB t r M)) (18 + M.length) 18 = 18 ∧ vb_find (txT (txB t r M)) 18 (tx_le (txT (txB t r M)) (18 + M.length) 18) = none := by decide +kernel
theorem txB_F {t r : Nat} (ht : t < 6) (hr : r < 10) {M : List Int32} (hM : M ∈ [[119], [119, 32]]) : tFis (txB t r M) 18 := by
  intro T v Z hT
  obtain ⟨a0, a1, a2, a3, a4, a5⟩ := txB_1 t ht r hr M hM
  obtain ⟨c1, c2, c3, c4⟩ := txB_2 t ht r hr M hM
  obtain ⟨b1, b2, b3, b4, b5, b6, b7⟩ := txB_3 t ht r hr M hM
  have hl : 0 < M.length := by
    simp only [List.mem_cons, List.not_mem_nil, or_false] at hM
    rcases hM with rfl | rfl <;> decide
  rw [a0] at hT ⊢
  have e : ∀ i, i < 18 + M.length → T i = txT (txB t r M) i := hT
  have r1 : ∀ Z, ∃ Y, cx_rd (txT (txB t r M)) (18 + M.length) 1 Z = (-1, 13, some 3, Y) := fun Z => by
    refine ⟨cx_Z (txT (txB t r M)) (18 + M.length) 8 1 (cx_Z (txT (txB t r M)) (18 + M.length) 4 0 Z), rd_yes (q := 12) (by rw [a2]; exact a3) ?_ c3 c4⟩
    rw [a2, show tx_many 3 = 2 from rfl, cx_ns_y (by decide) a4, a5, show 2 - 1 = 1 from rfl, show 0 + 1 = 1 from rfl, cx_ns_y (by decide) c1, c2]
    rfl
  have r2 : ∀ Z, cx_rd (txT (txB t r M)) (18 + M.length) 13 Z = (-1, 18, some 11, Z) := fun Z => by
    refine rd_yes (q := 17) (by rw [b2]; exact b3) ?_ b4 b5
    rw [b2]
    rfl
  obtain ⟨Y, e1⟩ := r1 Z
  rw [ff_cong e, cx_ff_s (by decide) (by rw [a1]; omega) (by rw [a1, e1]), a1, e1]
  show (cx_ff (txT (txB t r M)) (18 + M.length) 149 13 _ _).1 = 18
  rw [cx_ff_s (by decide) (by rw [b1]; omega) (by rw [b1, r2]), b1, r2]
  show (cx_ff (txT (txB t r M)) (18 + M.length) 148 18 _ _).1 = 18
  have r3 := rd_bad (n := 18 + M.length) b7 (F := 18) rfl
  rw [cx_ff_f (by decide) (by rw [b6]; omega) (by rw [b6, r3]; decide), b6, r3]
