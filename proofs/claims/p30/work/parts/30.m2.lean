/-! the model: what changes it -/
theorem fm_nz {x : Int32} (h : x = 0 ∨ x = 1) : fz_nz x = x := by
  rcases h with h | h <;> rw [h] <;> decide
theorem fm_cs_0 {N : Nat → Int32} {w c : Nat} {x : Int32} : fm_cs N w c x 0 = N 0 := fm_cs_ne (by omega)
theorem fm_cs_2 {N : Nat → Int32} {w c : Nat} {x : Int32} : fm_cs N w c x 2 = N 2 := fm_cs_ne (by omega)
theorem fm_ta_0 {N : Nat → Int32} {w t : Nat} {x : Int32} : fm_ta N w t x 0 = N 0 := fm_ta_ne (by omega)
theorem fm_ta_3 {N : Nat → Int32} {w t : Nat} {x : Int32} : fm_ta N w t x 3 = N 3 := fm_ta_ne (by omega)
def fm_tm (N : Nat → Int32) (nt : Nat) (x : Int32) : Nat → Int32 := upd (upd (upd (upd (upd N (49 + 3 * nt) x) (49 + 3 * nt + 1) 0) (49 + 3 * nt + 2) 0) 8 (N 8 + x)) 1 (nI (nt + 1))
def fm_team (M : Nat → Nat → Int32) (nt : Nat) (x : Int32) : Int32 × (Nat → Nat → Int32) := if fm_in x 0 999 = true then (if nt = 6 then (2, M) else (0, fz_up (fz_up M 0 (upd (M 0) 3 (M 1 1))) 1 (fm_tm (M 1) nt x))) else (1, M)
/-- weeks i to k - 1 become x -/
def fm_mkw (N : Nat → Int32) (i : Nat) (x : Int32) (k : Nat) : Nat → Int32 := fun q => if 9 + i ≤ q ∧ q < 9 + k then x else N q
theorem fm_mkw_0 (N : Nat → Int32) (i : Nat) (x : Int32) : fm_mkw N i x i = N := by
  funext q
  rw [fm_mkw, if_neg (by omega)]
theorem fm_mkw_s {N : Nat → Int32} {i k : Nat} {x : Int32} (h : i ≤ k) : upd (fm_mkw N i x k) (9 + k) x = fm_mkw N i x (k + 1) := by
  funext q
  by_cases hq : q = 9 + k
  · subst hq
    rw [pk_us, fm_mkw, if_pos (by omega)]
  · rw [pk_un hq, fm_mkw, fm_mkw]
    by_cases h1 : 9 + i ≤ q ∧ q < 9 + k
    · rw [if_pos h1, if_pos (by omega)]
    · rw [if_neg h1, if_neg (by omega)]
theorem fm_mkw_zo {N : Nat → Int32} {i k : Nat} {fr : Bool} (h : fz_zo (fun q => N (9 + q)) 40) : fz_zo (fun q => fm_mkw N i (fz_b fr) k (9 + q)) 40 := by
  intro q hq
  show fm_mkw N i (fz_b fr) k (9 + q) = 0 ∨ fm_mkw N i (fz_b fr) k (9 + q) = 1
  rw [fm_mkw]
  by_cases h1 : 9 + i ≤ 9 + q ∧ 9 + q < 9 + k
  · rw [if_pos h1]
    cases fr
    · exact Or.inl rfl
    · exact Or.inr rfl
  · rw [if_neg h1]
    exact h q hq
theorem fm_rng {f g : Int32} (h1 : fm_in f 0 39 = true) (h2 : fm_in g f 39 = true) : ∃ i j : Nat, i ≤ j ∧ j ≤ 39 ∧ f = nI i ∧ g = nI j := by
  simp only [fm_in, Bool.and_eq_true, Bool.not_eq_true', decide_eq_false_iff_not] at h1 h2
  exact fz_rng h1.1 h2.1 (Int32.not_lt.mp h2.2)
def fm_frees (M : Nat → Nat → Int32) (f g : Int32) (fr : Bool) : Int32 × (Nat → Nat → Int32) := if fm_in f 0 39 = true then (if fm_in g f 39 = true then (if M 1 0 ≤ f then (0, fz_up (fz_up M 0 (upd (M 0) 3 (fz_frz (fun i => fm_mkw (M 1) f.toNatClampNeg (fz_b fr) (g.toNatClampNeg + 1) (9 + i)) 0))) 1 (fm_mkw (M 1) f.toNatClampNeg (fz_b fr) (g.toNatClampNeg + 1))) else (2, M)) else (1, M)) else (1, M)
def fm_sok (x y : Int32) : Bool := if x = 0 then fm_in y 1 20 else if x = 1 then fm_in y 0 50 else if x = 2 then fm_in y 0 50 else if x = 3 then fm_in y 1 2000 else false
def fm_sets (M : Nat → Nat → Int32) (x y : Int32) : Int32 × (Nat → Nat → Int32) := if fm_sok x y = true then (0, fz_up (fz_up M 0 (upd (M 0) 3 (M 1 (4 + x.toNatClampNeg)))) 1 (upd (M 1) (4 + x.toNatClampNeg) y)) else (1, M)
/-- all but teams' numbers and what is left of loans is as it was -/
def fm_fr (N Z : Nat → Int32) : Prop := ∀ p, (p < 49 ∨ (67 ≤ p ∧ ¬ (277 ≤ p ∧ (p - 277) % 6 = 3))) → Z p = N p
theorem fm_fr_rfl (N : Nat → Int32) : fm_fr N N := fun _ _ => rfl
theorem fm_fr.l {N Z : Nat → Int32} (h : fm_fr N Z) {w q : Nat} (hq : q < 12) (hw : w < 6) (hw3 : w ≠ 3) : fm_l Z w q = fm_l N w q := h _ (by omega)
theorem fm_fr.c {N Z : Nat → Int32} (h : fm_fr N Z) {w q : Nat} (hq : q < 30) (hw : w < 7) : fm_c Z w q = fm_c N w q := h _ (by omega)
theorem fm_fr_ta {N Z : Nat → Int32} {w t : Nat} {x : Int32} (ht : t < 6) (hw : w < 3) (h : fm_fr N Z) : fm_fr N (fm_ta Z w t x) := fun p hp => by
  rw [fm_ta_ne (by omega)]
  exact h p hp
theorem fm_fr_pays {N Z : Nat → Int32} {z : Nat} {x : Int32} {j g : Nat} (ej : fm_l Z 1 z = nI j) (eg : fm_l Z 0 z = nI g) (hj : j < 6) (hg : g < 6) (h : fm_fr N Z) : fm_fr N (fm_pays Z z x) := fun p hp => by
  rw [fm_pays_eq ej eg hj hg, fm_pay2, pk_un (by omega)]
  exact fm_fr_ta hg (by omega) (fm_fr_ta hj (by omega) h) p hp
def fm_lo (x y : Int32) : Int32 := if y ≤ x then y else x
/-- what team k earns -/
def fm_ern (N : Nat → Int32) (nc k : Nat) : Int32 := if N 7 - fm_t N 0 k < 0 then 0 else bif fz_flt (fm_c N 0) (fm_c N 2) (fm_c N 5) nc (nI k) (N 0) then 0 else if N 5 ≤ N 7 - fm_t N 0 k then N 5 else N 7 - fm_t N 0 k
def fm_ea (N : Nat → Int32) (nc : Nat) : Nat → Int32 × (Nat → Int32)
  | 0 => (0, N)
  | k + 1 => ((fm_ea N nc k).1 + fm_ern (fm_ea N nc k).2 nc k, fm_ta (fm_ta (fm_ea N nc k).2 0 k (fm_ern (fm_ea N nc k).2 nc k)) 1 k (fm_ern (fm_ea N nc k).2 nc k))
def fm_c1 (N : Nat → Int32) (d : Nat) : Nat → (Nat → Int32)
  | 0 => N
  | k + 1 => if fm_l (fm_c1 N d k) 4 k = nI d then fm_pays (fm_c1 N d k) k (fm_lo (fm_l (fm_c1 N d k) 3 k) (fm_t (fm_c1 N d k) 0 (fm_l (fm_c1 N d k) 1 k).toNatClampNeg)) else fm_c1 N d k
def fm_c2 (N : Nat → Int32) (nl : Nat) : Nat → (Nat → Int32)
  | 0 => N
  | d + 1 => fm_c1 (fm_c2 N nl d) d nl
def fm_week (N : Nat → Int32) (nt nc nl wk : Nat) : Int32 × (Nat → Int32) := ((fm_ea N nc nt).1, upd (fm_c2 (fm_ea N nc nt).2 nl (wk + 1)) 0 (nI (wk + 1)))
def fm_ends1 (M : Nat → Nat → Int32) (nt nc nl wk : Nat) : Int32 × (Nat → Nat → Int32) := if wk = 39 then (1, M) else (0, fz_up (fz_up M 0 (upd (M 0) 3 (fm_week (M 1) nt nc nl wk).1)) 1 (fm_week (M 1) nt nc nl wk).2)
def fm_ask (N : Nat → Int32) (nc : Nat) (t x : Int32) : Nat → Int32 := upd (fm_cs (fm_cs (fm_cs (fm_cs (fm_cs (fm_cs (fm_cs N 0 nc t) 1 nc x) 2 nc 0) 3 nc 0) 4 nc (N 0)) 5 nc (-1)) 6 nc 0) 2 (nI (nc + 1))
def fm_asks (M : Nat → Nat → Int32) (nc : Nat) (t x : Int32) : Int32 × (Nat → Nat → Int32) := if fz_ix t (M 1 1) = true then (if fm_in x 1 9 = true then (if nc = 30 then (3, M) else (0, fz_up (fz_up M 0 (upd (M 0) 3 (M 1 2))) 1 (fm_ask (M 1) nc t x))) else (2, M)) else (1, M)
theorem fm_reason {N : Nat → Int32} {nl z : Nat} : fz_reason (fm_V N) nl z = if fm_c N 2 z = 0 then (if fz_owes (fm_l N 1) (fm_l N 3) (fm_l N 4) (N 0) nl (fm_c N 0 z) = true then 2 else if fm_c N 1 z * N 4 ≤ fm_t N 0 (fm_c N 0 z).toNatClampNeg then 0 else 3) else 1 := rfl
def fm_exm2 (M : Nat → Nat → Int32) (z j : Nat) : Int32 × (Nat → Nat → Int32) := (0, fz_up (fz_up M 0 (upd (M 0) 3 (fm_c (M 1) 1 z * M 1 4))) 1 (fm_cs (fm_cs (fm_ta (M 1) 0 j (-(fm_c (M 1) 1 z * M 1 4))) 3 z (fm_c (M 1) 1 z * M 1 4)) 2 z 1))
def fm_exm (M : Nat → Nat → Int32) (nl : Nat) (x : Int32) : Int32 × (Nat → Nat → Int32) := if fz_ix x (M 1 2) = true then (if fz_reason (fm_V (M 1)) nl x.toNatClampNeg = 0 then fm_exm2 M x.toNatClampNeg (fm_c (M 1) 0 x.toNatClampNeg).toNatClampNeg else (2, M)) else (1, M)
def fm_give2 (M : Nat → Nat → Int32) (z j : Nat) : Int32 × (Nat → Nat → Int32) := (0, fz_up (fz_up M 0 (upd (M 0) 3 (fm_c (M 1) 3 z))) 1 (fm_cs (fm_cs (fm_ta (M 1) 0 j (fm_c (M 1) 3 z)) 3 z 0) 2 z 4))
def fm_give (M : Nat → Nat → Int32) (x : Int32) : Int32 × (Nat → Nat → Int32) := if fz_ix x (M 1 2) = true then (if fm_c (M 1) 2 x.toNatClampNeg ≤ 1 then fm_give2 M x.toNatClampNeg (fm_c (M 1) 0 x.toNatClampNeg).toNatClampNeg else (2, M)) else (1, M)
def fm_fine (N : Nat → Int32) (z j : Nat) : Int32 := fm_lo (N 6 * fm_c N 1 z) (fm_t N 0 j)
def fm_mk (N : Nat → Int32) (z : Nat) (en w s : Int32) : Nat → Int32 := fm_cs (fm_cs (fm_cs (fm_cs N 2 z en) 3 z 0) 5 z w) 6 z s
def fm_make2 (M : Nat → Nat → Int32) (z j : Nat) (fr : Bool) : Int32 × (Nat → Nat → Int32) :=
  bif fr then (0, fz_up (fz_up M 0 (upd (M 0) 3 (fm_c (M 1) 3 z + fm_fine (M 1) z j))) 1 (fm_mk (fm_ta (fm_ta (M 1) 0 j (-(fm_fine (M 1) z j))) 2 j (fm_c (M 1) 3 z + fm_fine (M 1) z j)) z 3 (M 1 0) (fm_c (M 1) 2 z)))
  else (0, fz_up (fz_up M 0 (upd (M 0) 3 0)) 1 (fm_mk (fm_ta (M 1) 0 j (fm_c (M 1) 3 z)) z 2 (M 1 0) (fm_c (M 1) 2 z)))
def fm_make (M : Nat → Nat → Int32) (wk : Nat) (x : Int32) (fr : Bool) : Int32 × (Nat → Nat → Int32) := if fz_ix x (M 1 2) = true then (if 1 < fm_c (M 1) 2 x.toNatClampNeg then (2, M) else if fm_c (M 1) 2 x.toNatClampNeg = 0 then (if decide (M 1 (9 + wk) = 1) = true then (2, M) else fm_make2 M x.toNatClampNeg (fm_c (M 1) 0 x.toNatClampNeg).toNatClampNeg fr) else fm_make2 M x.toNatClampNeg (fm_c (M 1) 0 x.toNatClampNeg).toNatClampNeg fr) else (1, M)
def fm_lnt (N : Nat → Int32) (nl : Nat) (f g : Int32) (i j : Nat) (y w : Int32) : Nat → Int32 := upd (fm_ta (fm_ta (upd (upd (upd (upd (upd (upd N (277 + (6 * nl)) f) (277 + (6 * nl) + 1) g) (277 + (6 * nl) + 2) y) (277 + (6 * nl) + 3) y) (277 + (6 * nl) + 4) w) (277 + (6 * nl) + 5) (N 0)) 0 i (-y)) 0 j y) 3 (nI (nl + 1))
def fm_lend (M : Nat → Nat → Int32) (nl : Nat) (f g y w : Int32) : Int32 × (Nat → Nat → Int32) := if fz_ix f (M 1 1) = true then (if fz_ix g (M 1 1) = true then (if f = g then (2, M) else if fm_in y 1 500 = true then (if fm_in w 0 39 = true then (if w < M 1 0 then (3, M) else if nl = 12 then (3, M) else if fm_t (M 1) 0 f.toNatClampNeg < y then (3, M) else if fz_owes (fm_l (M 1) 1) (fm_l (M 1) 3) (fm_l (M 1) 4) (M 1 0) nl g = true then (3, M) else (0, fz_up (fz_up M 0 (upd (M 0) 3 (M 1 3))) 1 (fm_lnt (M 1) nl f g f.toNatClampNeg g.toNatClampNeg y w))) else (2, M)) else (2, M)) else (1, M)) else (1, M)
def fm_rep (M : Nat → Nat → Int32) (x y : Int32) : Int32 × (Nat → Nat → Int32) := if fz_ix x (M 1 3) = true then (if fm_in y 1 500 = true then (if fm_l (M 1) 3 x.toNatClampNeg < y then (3, M) else if y ≤ fm_t (M 1) 0 (fm_l (M 1) 1 x.toNatClampNeg).toNatClampNeg then (0, fz_up (fz_up M 0 (upd (M 0) 3 (fm_l (fm_pays (M 1) x.toNatClampNeg y) 3 x.toNatClampNeg))) 1 (fm_pays (M 1) x.toNatClampNeg y)) else (3, M)) else (2, M)) else (1, M)
