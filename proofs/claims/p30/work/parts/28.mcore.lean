/-! the model: its row of numbers, read as the class's rows; worlds that agree where they are read -/
def fz_same : va_W → va_W → Prop
  | [], [] => True
  | (a, e) :: w, (b, f) :: v => a = b ∧ (e = f ∨ ∃ (c : ClassId) (n : Nat) (x y : Nat → Int32), e = .inl (c, n, .inl x) ∧ f = .inl (c, n, .inl y) ∧ ∀ j, j < n → x j = y j) ∧ fz_same w v
  | _, _ => False
theorem fz_P_same {D : va_G} {cl : List vw_C} {H : Heap} : ∀ (w v : va_W), fz_same w v → va_P D cl w H → va_P D cl v H
  | [], [], _, h => h
  | (a, e) :: w, (b, f) :: v, hs, h => by
    obtain ⟨hab, he, ht⟩ := hs
    have h0 : va_at D cl (a, e) H := h 0 _ rfl
    have h1 : va_P D cl v H := fz_P_same w v ht (fun k q hk => h (k + 1) q hk)
    intro k q hk
    cases k with
    | zero =>
      have hq : (b, f) = q := Option.some.inj hk
      subst hq
      subst hab
      rcases he with he | ⟨c, n, x, y, he, hf, hxy⟩
      · subst he
        exact h0
      · subst he
        subst hf
        exact fz_atE (fz_cellE hxy c) h0
    | succ k => exact h1 k q hk
  | [], _ :: _, hs, _ => False.elim hs
  | _ :: _, [], hs, _ => False.elim hs
theorem ME_same {D : va_G} {cl : List vw_C} {H : Heap} {cy : Nat → ClassId} {b : Nat → Nat} {s0 s1 s2 s3 s4 s5 s6 : Int32} {r1 r2 r3 r4 r5 q1 q2 q3 q4 q5 : Nat → Int32} {h : Int64} (h1 : ∀ j, j < 349 → r1 j = q1 j) (h2 : ∀ j, j < 1396 → r2 j = q2 j) (h3 : ∀ j, j < 349 → r3 j = q3 j) (h4 : ∀ j, j < 150 → r4 j = q4 j) (h5 : ∀ j, j < 4 → r5 j = q5 j) (hP : va_P D cl (ME cy b s0 s1 s2 s3 s4 s5 s6 r1 r2 r3 r4 r5 h) H) : va_P D cl (ME cy b s0 s1 s2 s3 s4 s5 s6 q1 q2 q3 q4 q5 h) H :=
  fz_P_same (ME cy b s0 s1 s2 s3 s4 s5 s6 r1 r2 r3 r4 r5 h) (ME cy b s0 s1 s2 s3 s4 s5 s6 q1 q2 q3 q4 q5 h) (And.intro rfl (And.intro (Or.inl rfl) (And.intro rfl (And.intro (Or.inr ⟨_, _, _, _, rfl, rfl, h1⟩) (And.intro rfl (And.intro (Or.inr ⟨_, _, _, _, rfl, rfl, h2⟩) (And.intro rfl (And.intro (Or.inr ⟨_, _, _, _, rfl, rfl, h3⟩) (And.intro rfl (And.intro (Or.inr ⟨_, _, _, _, rfl, rfl, h4⟩) (And.intro rfl (And.intro (Or.inr ⟨_, _, _, _, rfl, rfl, h5⟩) trivial)))))))))))) hP
def fm_t (N : Nat → Int32) (w t : Nat) : Int32 := N (49 + 3 * t + w)
def fm_c (N : Nat → Int32) (w c : Nat) : Int32 := N (67 + 7 * c + w)
def fm_l (N : Nat → Int32) (w q : Nat) : Int32 := N (277 + 6 * q + w)
def fm_V (N : Nat → Int32) (r : Nat) : Nat → Int32 := match r with
  | 0 => N
  | 1 => fun i => N (4 + i)
  | 2 => fun i => N (9 + i)
  | 3 => fun _ => N 1
  | 4 => fm_t N 0
  | 6 => fm_t N 1
  | 7 => fm_t N 2
  | 8 => fun _ => N 2
  | 9 => fm_c N 0
  | 10 => fm_c N 1
  | 11 => fm_c N 2
  | 12 => fm_c N 3
  | 13 => fm_c N 4
  | 14 => fm_c N 5
  | 15 => fm_c N 6
  | 17 => fun _ => N 3
  | 18 => fm_l N 0
  | 19 => fm_l N 1
  | 20 => fm_l N 2
  | 21 => fm_l N 3
  | 22 => fm_l N 4
  | 23 => fm_l N 5
  | _ => fun _ => 0
def fm_wf (N : Nat → Int32) (nt nc nl wk : Nat) : Prop := N 1 = nI nt ∧ nt ≤ 6 ∧ N 2 = nI nc ∧ nc ≤ 30 ∧ N 3 = nI nl ∧ nl ≤ 12 ∧ N 0 = nI wk ∧ wk ≤ 39 ∧ (∀ i, i < nc → ∃ j, j < nt ∧ fm_c N 0 i = nI j) ∧ (∀ i, i < nl → ∃ j, j < nt ∧ fm_l N 0 i = nI j) ∧ (∀ i, i < nl → ∃ j, j < nt ∧ fm_l N 1 i = nI j) ∧ fz_zo (fun i => N (9 + i)) 40
def fm_in (x lo hi : Int32) : Bool := !(decide (x < lo)) && !(decide (hi < x))
theorem fm_in_ix {x : Int32} {n : Nat} (hn : n < 2 ^ 31) : fm_in x 0 (nI n - 1) = fz_ix x (nI n) := by
  by_cases h : x < 0
  · simp [fm_in, fz_ix, h]
  · obtain ⟨j, hj, rfl⟩ := nI_of h
    have e : (nI n - 1 < nI j) ↔ (nI n ≤ nI j) := by
      rw [nI_leI hn hj]
      cases n with
      | zero =>
        simp only [Nat.zero_le, iff_true]
        rw [nI_0]
        exact Int32.lt_of_lt_of_le (by decide) (nI_pos' hj)
      | succ n =>
        rw [nI_pred, nI_ltI (by omega) hj]
        omega
    simp [fm_in, fz_ix, e]
/-- team t's number w grows by x; change c's number w becomes x; x credits of loan z are paid back -/
def fm_ta (N : Nat → Int32) (w t : Nat) (x : Int32) : Nat → Int32 := upd N (49 + 3 * t + w) (fm_t N w t + x)
def fm_cs (N : Nat → Int32) (w c : Nat) (x : Int32) : Nat → Int32 := upd N (67 + 7 * c + w) x
theorem fm_ta_ne {N : Nat → Int32} {w t : Nat} {x : Int32} {p : Nat} (h : p ≠ 49 + 3 * t + w) : fm_ta N w t x p = N p := pk_un h
theorem fm_cs_ne {N : Nat → Int32} {w c : Nat} {x : Int32} {p : Nat} (h : p ≠ 67 + 7 * c + w) : fm_cs N w c x p = N p := pk_un h
theorem fm_l_ta {N : Nat → Int32} {w t : Nat} {x : Int32} {v q : Nat} (ht : t < 6) (hw : w < 3) : fm_l (fm_ta N w t x) v q = fm_l N v q := fm_ta_ne (by omega)
theorem fm_c_ta {N : Nat → Int32} {w t : Nat} {x : Int32} {v q : Nat} (ht : t < 6) (hw : w < 3) : fm_c (fm_ta N w t x) v q = fm_c N v q := fm_ta_ne (by omega)
def fm_pay2 (R : Nat → Int32) (z : Nat) (x : Int32) : Nat → Int32 := upd R (277 + 6 * z + 3) (R (277 + 6 * z + 3) - x)
def fm_pays (N : Nat → Int32) (z : Nat) (x : Int32) : Nat → Int32 := fm_pay2 (fm_ta (fm_ta N 0 (fm_l N 1 z).toNatClampNeg (-x)) 0 (fm_l N 0 z).toNatClampNeg x) z x
theorem fm_pays_eq {N : Nat → Int32} {z : Nat} {x : Int32} {j g : Nat} (ej : fm_l N 1 z = nI j) (eg : fm_l N 0 z = nI g) (hj : j < 6) (hg : g < 6) : fm_pays N z x = fm_pay2 (fm_ta (fm_ta N 0 j (-x)) 0 g x) z x := by
  rw [fm_pays, fz_tnat ej (by omega), fz_tnat eg (by omega)]
/-- the first k of f, then g -/
def fm_cp (f g : Nat → Int32) (k : Nat) : Nat → Int32 := fun i => if i < k then f i else g i
theorem fm_cp_0 (f g : Nat → Int32) : fm_cp f g 0 = g := by
  funext i
  rw [fm_cp, if_neg (by omega)]
theorem fm_cp_s (f g : Nat → Int32) (k : Nat) : upd (fm_cp f g k) k (f k) = fm_cp f g (k + 1) := by
  funext i
  by_cases h : i = k
  · subst h
    rw [pk_us, fm_cp, if_pos (by omega)]
  · rw [pk_un h, fm_cp, fm_cp]
    by_cases h2 : i < k
    · rw [if_pos h2, if_pos (by omega)]
    · rw [if_neg h2, if_neg (by omega)]
/-- the first k of A stand at place m of the saved states -/
def fm_put (Y A : Nat → Int32) (m k : Nat) : Nat → Int32 := fun i => if 349 * m ≤ i ∧ i < 349 * m + k then A (i - 349 * m) else Y i
theorem fm_put_0 (Y A : Nat → Int32) (m : Nat) : fm_put Y A m 0 = Y := by
  funext i
  rw [fm_put, if_neg (by omega)]
set_option maxRecDepth 100000 in
theorem fm_put_s (Y A : Nat → Int32) (m k : Nat) : upd (fm_put Y A m k) (349 * m + k) (A k) = fm_put Y A m (k + 1) := by
  funext i
  by_cases h : i = 349 * m + k
  · subst h
    rw [pk_us, fm_put, if_pos (by omega), Nat.add_sub_cancel_left]
  · rw [pk_un h, fm_put, fm_put]
    by_cases h2 : 349 * m ≤ i ∧ i < 349 * m + k
    · rw [if_pos h2, if_pos (by omega)]
    · rw [if_neg h2, if_neg (by omega)]
/-- the saved states, those below place k moved down by one state -/
def fm_sh (K : Nat → Int32) (k : Nat) : Nat → Int32 := fun i => if i + 349 < k then K (i + 349) else K i
theorem fm_sh_0 (K : Nat → Int32) : fm_sh K 349 = K := by
  funext i
  rw [fm_sh, if_neg (by omega)]
set_option maxRecDepth 100000 in
theorem fm_sh_s {K : Nat → Int32} {k : Nat} (hk : 349 ≤ k) : upd (fm_sh K k) (k - 349) (fm_sh K k k) = fm_sh K (k + 1) := by
  funext i
  by_cases h : i = k - 349
  · subst h
    rw [pk_us, fm_sh, fm_sh, if_neg (by omega), if_pos (by omega), show k - 349 + 349 = k by omega]
  · rw [pk_un h, fm_sh, fm_sh]
    by_cases h2 : i + 349 < k
    · rw [if_pos h2, if_pos (by omega)]
    · rw [if_neg h2, if_neg (by omega)]
def fm_ns (ns : Nat) : Nat := if ns = 4 then 4 else ns + 1
def fm_sv (K A : Nat → Int32) (ns : Nat) : Nat → Int32 := if ns = 4 then fm_put (fm_sh K 1396) A 3 349 else fm_put K A ns 349
/-- an undoable call's end: refused with code x, or the state that was laid aside is saved -/
def fm_ends (M : Nat → Nat → Int32) (ns : Nat) (x : Int32) : Int32 × (Nat → Nat → Int32) := if x ≤ 0 then (M 0 3, fz_up (fz_up M 0 (upd (upd (M 0) 0 (nI (fm_ns ns))) 2 0)) 2 (fm_sv (M 2) (M 3) ns)) else (0, fz_up M 0 (upd (M 0) 2 x))
def fm_undo (M : Nat → Nat → Int32) (ns : Nat) : Int32 × (Nat → Nat → Int32) := if ns = 0 then (0, fz_up M 0 (upd (M 0) 2 1)) else (nI (ns - 1), fz_up (fz_up M 0 (upd (upd (M 0) 0 (nI (ns - 1))) 2 0)) 1 (fun i => M 2 (349 * (ns - 1) + i)))
