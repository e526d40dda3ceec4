/-! the model: what changes it -/
theorem fm_nz {x : Int32} (h : x = 0 ∨ x = 1) : fz_nz x = x := by
  rcases h with h | h <;> rw [h] <;> decide
theorem fm_cs_0 {N : Nat → Int32} {w c : Nat} {x : Int32} : fm_cs N w c x 0 = N 0 := fm_cs_ne (by omega)
theorem fm_cs_2 {N : Nat → Int32} {w c : Nat} {x : Int32} : fm_cs N w c x 2 = N 2 := fm_cs_ne (by omega)
theorem fm_ta_0 {N : Nat → Int32} {w t : Nat} {x : Int32} : fm_ta N w t x 0 = N 0 := fm_ta_ne (by omega)
theorem fm_ta_3 {N : Nat → Int32} {w t : Nat} {x : Int32} : fm_ta N w t x 3 = N 3 := fm_ta_ne (by omega)
def fm_tm (N : Nat → Int32) (nt : Nat) (x : Int32) : Nat → Int32 := upd (upd (upd (upd (upd N (49 + 3 * nt) x) (49 + 3 * nt + 1) 0) (49 + 3 * nt + 2) 0) 8 (N 8 + x)) 1 (nI (nt + 1))
def fm_team (M : Nat → Nat → Int32) (nt : Nat) (x : Int32) : Int32 × (Nat → Nat → Int32) := if fm_in x 0 999 = true then (if nt = 6 then (2, M) else (0, fz_up (fz_up M 0 (upd (M 0) 3 (M 1 1))) 1 (fm_tm (M 1) nt x))) else (1, M)
/-- weeks i to k - 1 become x -/
def fm_mkw (N : Nat → Int32) (i : Nat) (x : Int32) (k : Nat) : Nat → Int32 := fun q => if 9 + i ≤ q ∧ q < 9 + k then x else N q
theorem fm_mkw_0 (N : Nat → Int32) (i : Nat) (x : Int32) : fm_mkw N i x i = N := by
  funext q
  rw [fm_mkw, if_neg (by omega)]
theorem fm_mkw_s {N : Nat → Int32} {i k : Nat} {x : Int32} (h : i ≤ k) : upd (fm_mkw N i x k) (9 + k) x = fm_mkw N i x (k + 1) := by
  funext q
  by_cases hq : q = 9 + k
  · subst hq
    rw [pk_us, fm_mkw, if_pos (by omega)]
  · rw [pk_un hq, fm_mkw, fm_mkw]
    by_cases h1 : 9 + i ≤ q ∧ q < 9 + k
    · rw [if_pos h1, if_pos (by omega)]
    · rw [if_neg h1, if_neg (by omega)]
theorem fm_mkw_zo {N : Nat → Int32} {i k : Nat} {fr : Bool} (h : fz_zo (fun q => N (9 + q)) 40) : fz_zo (fun q => fm_mkw N i (fz_b fr) k (9 + q)) 40 := by
  intro q hq
  show fm_mkw N i (fz_b fr) k (9 + q) = 0 ∨ fm_mkw N i (fz_b fr) k (9 + q) = 1
  rw [fm_mkw]
  by_cases h1 : 9 + i ≤ 9 + q ∧ 9 + q < 9 + k
  · rw [if_pos h1]
    cases fr
    · exact Or.inl rfl
    · exact Or.inr rfl
  · rw [if_neg h1]
    exact h q hq
theorem fm_rng {f g : Int32} (h1 : fm_in f 0 39 = true) (h2 : fm_in g f 39 = true) : ∃ i j : Nat, i ≤ j ∧ j ≤ 39 ∧ f = nI i ∧ g = nI j := by
  simp only [fm_in, Bool.and_eq_true, Bool.not_eq_true', decide_eq_false_iff_not] at h1 h2
  exact fz_rng h1.1 h2.1 (Int32.not_lt.mp h2.2)
def fm_frees (M : Nat → Nat → Int32) (f g : Int32) (fr : Bool) : Int32 × (Nat → Nat → Int32) := if fm_in f 0 39 = true then (if fm_in g f 39 = true then (if M 1 0 ≤ f then (0, fz_up (fz_up M 0 (upd (M 0) 3 (fz_frz (fun i => fm_mkw (M 1) f.toNatClampNeg (fz_b fr) (g.toNatClampNeg + 1) (9 + i)) 0))) 1 (fm_mkw (M 1) f.toNatClampNeg (fz_b fr) (g.toNatClampNeg + 1))) else (2, M)) else (1, M)) else (1, M)
def fm_sok (x y : Int32) : Bool := if x = 0 then fm_in y 1 20 else if x = 1 then fm_in y 0 50 else if x = 2 then fm_in y 0 50 else if x = 3 then fm_in y 1 2000 else false
def fm_sets (M : Nat → Nat → Int32) (x y : Int32) : Int32 × (Nat → Nat → Int32) := if fm_sok x y = true then (0, fz_up (fz_up M 0 (upd (M 0) 3 (M 1 (4 + x.toNatClampNeg)))) 1 (upd (M 1) (4 + x.toNatClampNeg) y)) else (1, M)
/-- all but teams' numbers and what is left of loans is as it was -/
def fm_fr (N Z : Nat → Int32) : Prop := ∀ p, (p < 49 ∨ (67 ≤ p ∧ ¬ (277 ≤ p ∧ (p - 277) % 6 = 3))) → Z p = N p
theorem fm_fr_rfl (N : Nat → Int32) : fm_fr N N := fun _ _ => rfl
theorem fm_fr.l {N Z : Nat → Int32} (h : fm_fr N Z) {w q : Nat} (hq : q < 12) (hw : w < 6) (hw3 : w ≠ 3) : fm_l Z w q = fm_l N w q := h _ (by omega)
theorem fm_fr.c {N Z : Nat → Int32} (h : fm_fr N Z) {w q : Nat} (hq : q < 30) (hw : w < 7) : fm_c Z w q = fm_c N w q := h _ (by omega)
theorem fm_fr_ta {N Z : Nat → Int32} {w t : Nat} {x : Int32} (ht : t < 6) (hw : w < 3) (h : fm_fr N Z) : fm_fr N (fm_ta Z w t x) := fun p hp => by
  rw [fm_ta_ne (by omega)]
  exact h p hp
theorem fm_fr_pays {N Z : Nat → Int32} {z : Nat} {x : Int32} {j g : Nat} (ej : fm_l Z 1 z = nI j) (eg : fm_l Z 0 z = nI g) (hj : j < 6) (hg : g < 6) (h : fm_fr N Z) : fm_fr N (fm_pays Z z x) := fun p hp => by
  rw [fm_pays_eq ej eg hj hg, fm_pay2, pk_un (by omega)]
  exact fm_fr_ta hg (by omega) (fm_fr_ta hj (by omega) h) p hp
def fm_lo (x y : Int32) : Int32 := if y ≤ x then y else x
/-- what team k earns -/
def fm_ern (N : Nat → Int32) (nc k : Nat) : Int32 := if N 7 - fm_t N 0 k < 0 then 0 else bif fz_flt (fm_c N 0) (fm_c N 2) (fm_c N 5) nc (nI k) (N 0) then 0 else if N 5 ≤ N 7 - fm_t N 0 k then N 5 else N 7 - fm_t N 0 k
def fm_ea (N : Nat → Int32) (nc : Nat) : Nat → Int32 × (Nat → Int32)
  | 0 => (0, N)
  | k + 1 => ((fm_ea N nc k).1 + fm_ern (fm_ea N nc k).2 nc k, fm_ta (fm_ta (fm_ea N nc k).2 0 k (fm_ern (fm_ea N nc k).2 nc k)) 1 k (fm_ern (fm_ea N nc k).2 nc k))
def fm_c1 (N : Nat → Int32) (d : Nat) : Nat → (Nat → Int32)
  | 0 => N
  | k + 1 => if fm_l (fm_c1 N d k) 4 k = nI d then fm_pays (fm_c1 N d k) k (fm_lo (fm_l (fm_c1 N d k) 3 k) (fm_t (fm_c1 N d k) 0 (fm_l (fm_c1 N d k) 1 k).toNatClampNeg)) else fm_c1 N d k
def fm_c2 (N : Nat → Int32) (nl : Nat) : Nat → (Nat → Int32)
  | 0 => N
  | d + 1 => fm_c1 (fm_c2 N nl d) d nl
def fm_week (N : Nat → Int32) (nt nc nl wk : Nat) : Int32 × (Nat → Int32) := ((fm_ea N nc nt).1, upd (fm_c2 (fm_ea N nc nt).2 nl (wk + 1)) 0 (nI (wk + 1)))
def fm_ends1 (M : Nat → Nat → Int32) (nt nc nl wk : Nat) : Int32 × (Nat → Nat → Int32) := if wk = 39 then (1, M) else (0, fz_up (fz_up M 0 (upd (M 0) 3 (fm_week (M 1) nt nc nl wk).1)) 1 (fm_week (M 1) nt nc nl wk).2)
def fm_ask (N : Nat → Int32) (nc : Nat) (t x : Int32) : Nat → Int32 := upd (fm_cs (fm_cs (fm_cs (fm_cs (fm_cs (fm_cs (fm_cs N 0 nc t) 1 nc x) 2 nc 0) 3 nc 0) 4 nc (N 0)) 5 nc (-1)) 6 nc 0) 2 (nI (nc + 1))
def fm_asks (M : Nat → Nat → Int32) (nc : Nat) (t x : Int32) : Int32 × (Nat → Nat → Int32) := if fz_ix t (M 1 1) = true then (if fm_in x 1 9 = true then (if nc = 30 then (3, M) else (0, fz_up (fz_up M 0 (upd (M 0) 3 (M 1 2))) 1 (fm_ask (M 1) nc t x))) else (2, M)) else (1, M)
theorem fm_reason {N : Nat → Int32} {nl z : Nat} : fz_reason (fm_V N) nl z = if fm_c N 2 z = 0 then (if fz_owes (fm_l N 1) (fm_l N 3) (fm_l N 4) (N 0) nl (fm_c N 0 z) = true then 2 else if fm_c N 1 z * N 4 ≤ fm_t N 0 (fm_c N 0 z).toNatClampNeg then 0 else 3) else 1 := rfl
def fm_exm2 (M : Nat → Nat → Int32) (z j : Nat) : Int32 × (Nat → Nat → Int32) := (0, fz_up (fz_up M 0 (upd (M 0) 3 (fm_c (M 1) 1 z * M 1 4))) 1 (fm_cs (fm_cs (fm_ta (M 1) 0 j (-(fm_c (M 1) 1 z * M 1 4))) 3 z (fm_c (M 1) 1 z * M 1 4)) 2 z 1))
def fm_exm (M : Nat → Nat → Int32) (nl : Nat) (x : Int32) : Int32 × (Nat → Nat → Int32) := if fz_ix x (M 1 2) = true then (if fz_reason (fm_V (M 1)) nl x.toNatClampNeg = 0 then fm_exm2 M x.toNatClampNeg (fm_c (M 1) 0 x.toNatClampNeg).toNatClampNeg else (2, M)) else (1, M)
def fm_give2 (M : Nat → Nat → Int32) (z j : Nat) : Int32 × (Nat → Nat → Int32) := (0, fz_up (fz_up M 0 (upd (M 0) 3 (fm_c (M 1) 3 z))) 1 (fm_cs (fm_cs (fm_ta (M 1) 0 j (fm_c (M 1) 3 z)) 3 z 0) 2 z 4))
def fm_give (M : Nat → Nat → Int32) (x : Int32) : Int32 × (Nat → Nat → Int32) := if fz_ix x (M 1 2) = true then (if fm_c (M 1) 2 x.toNatClampNeg ≤ 1 then fm_give2 M x.toNatClampNeg (fm_c (M 1) 0 x.toNatClampNeg).toNatClampNeg else (2, M)) else (1, M)
def fm_fine (N : Nat → Int32) (z j : Nat) : Int32 := fm_lo (N 6 * fm_c N 1 z) (fm_t N 0 j)
def fm_mk (N : Nat → Int32) (z : Nat) (en w s : Int32) : Nat → Int32 := fm_cs (fm_cs (fm_cs (fm_cs N 2 z en) 3 z 0) 5 z w) 6 z s
def fm_make2 (M : Nat → Nat → Int32) (z j : Nat) (fr : Bool) : Int32 × (Nat → Nat → Int32) :=
  bif fr then (0, fz_up (fz_up M 0 (upd (M 0) 3 (fm_c (M 1) 3 z + fm_fine (M 1) z j))) 1 (fm_mk (fm_ta (fm_ta (M 1) 0 j (-(fm_fine (M 1) z j))) 2 j (fm_c (M 1) 3 z + fm_fine (M 1) z j)) z 3 (M 1 0) (fm_c (M 1) 2 z)))
  else (0, fz_up (fz_up M 0 (upd (M 0) 3 0)) 1 (fm_mk (fm_ta (M 1) 0 j (fm_c (M 1) 3 z)) z 2 (M 1 0) (fm_c (M 1) 2 z)))
def fm_make (M : Nat → Nat → Int32) (wk : Nat) (x : Int32) (fr : Bool) : Int32 × (Nat → Nat → Int32) := if fz_ix x (M 1 2) = true then (if 1 < fm_c (M 1) 2 x.toNatClampNeg then (2, M) else if fm_c (M 1) 2 x.toNatClampNeg = 0 then (if decide (M 1 (9 + wk) = 1) = true then (2, M) else fm_make2 M x.toNatClampNeg (fm_c (M 1) 0 x.toNatClampNeg).toNatClampNeg fr) else fm_make2 M x.toNatClampNeg (fm_c (M 1) 0 x.toNatClampNeg).toNatClampNeg fr) else (1, M)
def fm_lnt (N : Nat → Int32) (nl : Nat) (f g : Int32) (i j : Nat) (y w : Int32) : Nat → Int32 := upd (fm_ta (fm_ta (upd (upd (upd (upd (upd (upd N (277 + (6 * nl)) f) (277 + (6 * nl) + 1) g) (277 + (6 * nl) + 2) y) (277 + (6 * nl) + 3) y) (277 + (6 * nl) + 4) w) (277 + (6 * nl) + 5) (N 0)) 0 i (-y)) 0 j y) 3 (nI (nl + 1))
def fm_lend (M : Nat → Nat → Int32) (nl : Nat) (f g y w : Int32) : Int32 × (Nat → Nat → Int32) := if fz_ix f (M 1 1) = true then (if fz_ix g (M 1 1) = true then (if f = g then (2, M) else if fm_in y 1 500 = true then (if fm_in w 0 39 = true then (if w < M 1 0 then (3, M) else if nl = 12 then (3, M) else if fm_t (M 1) 0 f.toNatClampNeg < y then (3, M) else if fz_owes (fm_l (M 1) 1) (fm_l (M 1) 3) (fm_l (M 1) 4) (M 1 0) nl g = true then (3, M) else (0, fz_up (fz_up M 0 (upd (M 0) 3 (M 1 3))) 1 (fm_lnt (M 1) nl f g f.toNatClampNeg g.toNatClampNeg y w))) else (2, M)) else (2, M)) else (1, M)) else (1, M)
def fm_rep (M : Nat → Nat → Int32) (x y : Int32) : Int32 × (Nat → Nat → Int32) := if fz_ix x (M 1 3) = true then (if fm_in y 1 500 = true then (if fm_l (M 1) 3 x.toNatClampNeg < y then (3, M) else if y ≤ fm_t (M 1) 0 (fm_l (M 1) 1 x.toNatClampNeg).toNatClampNeg then (0, fz_up (fz_up M 0 (upd (M 0) 3 (fm_l (fm_pays (M 1) x.toNatClampNeg y) 3 x.toNatClampNeg))) 1 (fm_pays (M 1) x.toNatClampNeg y)) else (3, M)) else (2, M)) else (1, M)
set_option maxHeartbeats 4000000 in
set_option maxRecDepth 100000 in
/-- the model: teamComes -/
theorem c_X9_teamComes (l : Launch) (D : va_G) (cy : Nat → ClassId) (b : Nat → Nat) (M : Nat → Nat → Int32) (h : Int64) (nt nc nl wk : Nat) (wf : fm_wf (M 1) nt nc nl wk) (x : Int32) : fz_MI l yX9_teamComes wsX9_teamComes 1 22 D cy [.ref (b 0), .int x] (MW cy b M h) fz_T ((fm_team M nt x).1) (MW cy b ((fm_team M nt x).2) h) := by
  refine Met.ofW (cc := cX9_teamComes) (maxL := 3) (ret := (some .int)) (by decide) rfl ?_
  intro p e s m args below meth c s₁ B hml hv
  obtain ⟨rfl, hP, hK, hD0, hE⟩ := hv
  have hx := B.exec
  have hb := B.bytes
  have hr := B.returns
  have hts := atoms_spec (ws := wsX9_teamComes) B.pre
  have hown : s.vm.findClass RX9 = some m.cls := findClass_of_methodNamed B.named
  have hlocks := B.notSynchronized
  have hD := fz_self hD0
  generalize hAe : fz_in (MW cy b M h) = A at hD ⊢
  have hS : va_S A s.heap s.heap [] := va_S.rf
  have hl := lv_entry ([.ref (b 0), .int x]) (n := 3) (Nat.le_of_ble_eq_true rfl)
  rw [lg_entry_eq]
  generalize (lg_sl ([.ref (b 0), .int x]) ++ List.replicate (3 - (lg_sl ([.ref (b 0), .int x])).length) Slot.unset).toArray = ls at hl ⊢
  have hl : lv_has ls 3 [(0, .ref (b 0)), (1, .int x)] := hl
  have k_7 := hts (.fieldLink RX9 7 "FreezeCreditsModel" "now" "[I") (by decide +kernel)
  have inX9 : ∀ w ∈ u_ws RX9 TX9 13, w ∈ wsX9_teamComes := by decide +kernel
  have k_47 := hts (.fieldLink RX9 47 "FreezeCreditsModel" "answer" "I") (by decide +kernel)
  obtain ⟨hnt, hnt6, hnc, hnc30, hnl, hnl12, hwk, hwk39, hT, hG, hB, hZo⟩ := id wf
  refine lv_iload_n hx hb dX9_teamComes_0 rfl (lv_at hl 1 rfl) ?_
  refine lv_iconst (v := 0) hx hb dX9_teamComes_1 (by decide) ?_
  refine lv_sipush (v := 999) hx hb dX9_teamComes_2 (by decide) ?_
  refine fz_retR (va_runS (As := [.int x, .int 0, .int 999]) (rest := []) ⟨hx, hb, hml, hown, hts⟩ (c_X9_in l D cy x 0 999) (va_cwS 3 hts gX9_teamComes_X9_in rfl rfl rfl (by decide +kernel) ⟨Nat.le_of_ble_eq_true rfl, Nat.le_of_ble_eq_true rfl⟩) (fz_preS hK (fz_nil) fz_T_bl (fun _ _ _ => trivial)) rfl rfl hl.1 rfl (lv_room (Nat.le_of_ble_eq_true rfl)) dX9_teamComes_5 ⟨Nat.zero_le _, Nat.zero_le _⟩) ?_
  refine fz_ifneB (tgt := 13) hx hb dX9_teamComes_8 (by decide) (fun c_1 => ?_) (fun c_1 => ?_)
  · skip
    refine lv_aload_n hx hb dX9_teamComes_13 rfl (lv_at hl 0 rfl) ?_
    refine va_get (D := D) (ci := 7) (v := .ref (b 1)) (C := RX9) (T := TX9) (N := 13) hx hb hts inX9 hown hK hP 0 rfl rfl 0 (by decide) k_7 (fun _ h9 => h9) rfl dX9_teamComes_14 ?_
    refine lv_iconst (v := 1) hx hb dX9_teamComes_17 (by decide) ?_
    refine fz_iald (f := M 1) hx hb hK hP 1 0 rfl rfl 1 rfl (by omega) (by decide) dX9_teamComes_18 ?_
    refine lv_bipush (v := 6) hx hb dX9_teamComes_19 (by decide) ?_
    refine fz_neN (tgt := 26) hx hb nt 6 hnt rfl dX9_teamComes_21 (by decide) (by omega) (by omega) (fun c_2 => ?_) (fun c_2 => ?_)
    · skip
      refine lv_aload_n hx hb dX9_teamComes_26 rfl (lv_at hl 0 rfl) ?_
      refine va_get (D := D) (ci := 7) (v := .ref (b 1)) (C := RX9) (T := TX9) (N := 13) hx hb hts inX9 hown hK hP 0 rfl rfl 0 (by decide) k_7 (fun _ h9 => h9) rfl dX9_teamComes_27 ?_
      refine lv_iconst (v := 1) hx hb dX9_teamComes_30 (by decide) ?_
      refine fz_iald (f := M 1) hx hb hK hP 1 0 rfl rfl 1 rfl (by omega) (by decide) dX9_teamComes_31 ?_
      refine lv_istore_n (lv' := [(2, .int (M 1 1)), (0, .ref (b 0)), (1, .int x)]) hx hb dX9_teamComes_32 rfl hl (by decide) rfl (fun ls hl => ?_)
      refine lv_aload_n hx hb dX9_teamComes_33 rfl (lv_at hl 1 rfl) ?_
      refine va_get (D := D) (ci := 7) (v := .ref (b 1)) (C := RX9) (T := TX9) (N := 13) hx hb hts inX9 hown hK hP 0 rfl rfl 0 (by decide) k_7 (fun _ h9 => h9) rfl dX9_teamComes_34 ?_
      refine lv_bipush (v := 49) hx hb dX9_teamComes_37 (by decide) ?_
      refine lv_iconst (v := 3) hx hb dX9_teamComes_39 (by decide) ?_
      refine lv_iload_n hx hb dX9_teamComes_40 rfl (lv_at hl 0 rfl) ?_
      refine fz_imulN hx hb 3 nt rfl hnt dX9_teamComes_41 ?_
      refine fz_iaddN hx hb 49 (3 * nt) rfl rfl dX9_teamComes_42 ?_
      refine lv_iload_n hx hb dX9_teamComes_43 rfl (lv_at hl 2 rfl) ?_
      refine fz_iast (f := M 1) hx hb hK hP hD hS 1 0 rfl rfl (49 + (3 * nt)) rfl (by omega) (by decide) dX9_teamComes_44 (fun H locs hP hD hS => ?_)
      have hP : va_P D vwCl (ME cy b (M 0 0) (M 0 1) (M 0 2) (M 0 3) (M 0 4) (M 0 5) (M 0 6) (upd (M 1) (49 + (3 * nt)) x) (M 2) (M 3) (M 4) (M 5) h) H := hP
      have hD : va_D A (ME cy b (M 0 0) (M 0 1) (M 0 2) (M 0 3) (M 0 4) (M 0 5) (M 0 6) (upd (M 1) (49 + (3 * nt)) x) (M 2) (M 3) (M 4) (M 5) h) := hD
      refine lv_aload_n hx hb dX9_teamComes_45 rfl (lv_at hl 1 rfl) ?_
      refine va_get (D := D) (ci := 7) (v := .ref (b 1)) (C := RX9) (T := TX9) (N := 13) hx hb hts inX9 hown hK hP 0 rfl rfl 0 (by decide) k_7 (fun _ h9 => h9) rfl dX9_teamComes_46 ?_
      refine lv_bipush (v := 49) hx hb dX9_teamComes_49 (by decide) ?_
      refine lv_iconst (v := 3) hx hb dX9_teamComes_51 (by decide) ?_
      refine lv_iload_n hx hb dX9_teamComes_52 rfl (lv_at hl 0 rfl) ?_
      refine fz_imulN hx hb 3 nt rfl hnt dX9_teamComes_53 ?_
      refine fz_iaddN hx hb 49 (3 * nt) rfl rfl dX9_teamComes_54 ?_
      refine lv_iconst (v := 1) hx hb dX9_teamComes_55 (by decide) ?_
      refine fz_iaddN hx hb (49 + (3 * nt)) 1 rfl rfl dX9_teamComes_56 ?_
      refine lv_iconst (v := 0) hx hb dX9_teamComes_57 (by decide) ?_
      refine fz_iast (f := upd (M 1) (49 + (3 * nt)) x) hx hb hK hP hD hS 1 0 rfl rfl ((49 + (3 * nt)) + 1) rfl (by omega) (by decide) dX9_teamComes_58 (fun H locs hP hD hS => ?_)
      have hP : va_P D vwCl (ME cy b (M 0 0) (M 0 1) (M 0 2) (M 0 3) (M 0 4) (M 0 5) (M 0 6) (upd (upd (M 1) (49 + (3 * nt)) x) ((49 + (3 * nt)) + 1) 0) (M 2) (M 3) (M 4) (M 5) h) H := hP
      have hD : va_D A (ME cy b (M 0 0) (M 0 1) (M 0 2) (M 0 3) (M 0 4) (M 0 5) (M 0 6) (upd (upd (M 1) (49 + (3 * nt)) x) ((49 + (3 * nt)) + 1) 0) (M 2) (M 3) (M 4) (M 5) h) := hD
      refine lv_aload_n hx hb dX9_teamComes_59 rfl (lv_at hl 1 rfl) ?_
      refine va_get (D := D) (ci := 7) (v := .ref (b 1)) (C := RX9) (T := TX9) (N := 13) hx hb hts inX9 hown hK hP 0 rfl rfl 0 (by decide) k_7 (fun _ h9 => h9) rfl dX9_teamComes_60 ?_
      refine lv_bipush (v := 49) hx hb dX9_teamComes_63 (by decide) ?_
      refine lv_iconst (v := 3) hx hb dX9_teamComes_65 (by decide) ?_
      refine lv_iload_n hx hb dX9_teamComes_66 rfl (lv_at hl 0 rfl) ?_
      refine fz_imulN hx hb 3 nt rfl hnt dX9_teamComes_67 ?_
      refine fz_iaddN hx hb 49 (3 * nt) rfl rfl dX9_teamComes_68 ?_
      refine lv_iconst (v := 2) hx hb dX9_teamComes_69 (by decide) ?_
      refine fz_iaddN hx hb (49 + (3 * nt)) 2 rfl rfl dX9_teamComes_70 ?_
      refine lv_iconst (v := 0) hx hb dX9_teamComes_71 (by decide) ?_
      refine fz_iast (f := upd (upd (M 1) (49 + (3 * nt)) x) ((49 + (3 * nt)) + 1) 0) hx hb hK hP hD hS 1 0 rfl rfl ((49 + (3 * nt)) + 2) rfl (by omega) (by decide) dX9_teamComes_72 (fun H locs hP hD hS => ?_)
      have hP : va_P D vwCl (ME cy b (M 0 0) (M 0 1) (M 0 2) (M 0 3) (M 0 4) (M 0 5) (M 0 6) (upd (upd (upd (M 1) (49 + (3 * nt)) x) ((49 + (3 * nt)) + 1) 0) ((49 + (3 * nt)) + 2) 0) (M 2) (M 3) (M 4) (M 5) h) H := hP
      have hD : va_D A (ME cy b (M 0 0) (M 0 1) (M 0 2) (M 0 3) (M 0 4) (M 0 5) (M 0 6) (upd (upd (upd (M 1) (49 + (3 * nt)) x) ((49 + (3 * nt)) + 1) 0) ((49 + (3 * nt)) + 2) 0) (M 2) (M 3) (M 4) (M 5) h) := hD
      refine lv_aload_n hx hb dX9_teamComes_73 rfl (lv_at hl 1 rfl) ?_
      refine va_get (D := D) (ci := 7) (v := .ref (b 1)) (C := RX9) (T := TX9) (N := 13) hx hb hts inX9 hown hK hP 0 rfl rfl 0 (by decide) k_7 (fun _ h9 => h9) rfl dX9_teamComes_74 ?_
      refine lv_bipush (v := 8) hx hb dX9_teamComes_77 (by decide) ?_
      refine lv_dup2_11 hx hb dX9_teamComes_79 rfl rfl ?_
      refine fz_iald (f := upd (upd (upd (M 1) (49 + (3 * nt)) x) ((49 + (3 * nt)) + 1) 0) ((49 + (3 * nt)) + 2) 0) hx hb hK hP 1 0 rfl rfl 8 rfl (by omega) (by decide) dX9_teamComes_80 ?_
      refine fz_top (show _ = M 1 8 from (by rw [pk_un (by omega), pk_un (by omega), pk_un (by omega)])) ?_
      refine lv_iload_n hx hb dX9_teamComes_81 rfl (lv_at hl 2 rfl) ?_
      refine lv_iadd hx hb dX9_teamComes_82 ?_
      refine fz_iast (f := upd (upd (upd (M 1) (49 + (3 * nt)) x) ((49 + (3 * nt)) + 1) 0) ((49 + (3 * nt)) + 2) 0) hx hb hK hP hD hS 1 0 rfl rfl 8 rfl (by omega) (by decide) dX9_teamComes_83 (fun H locs hP hD hS => ?_)
      have hP : va_P D vwCl (ME cy b (M 0 0) (M 0 1) (M 0 2) (M 0 3) (M 0 4) (M 0 5) (M 0 6) (upd (upd (upd (upd (M 1) (49 + (3 * nt)) x) ((49 + (3 * nt)) + 1) 0) ((49 + (3 * nt)) + 2) 0) 8 ((M 1 8) + x)) (M 2) (M 3) (M 4) (M 5) h) H := hP
      have hD : va_D A (ME cy b (M 0 0) (M 0 1) (M 0 2) (M 0 3) (M 0 4) (M 0 5) (M 0 6) (upd (upd (upd (upd (M 1) (49 + (3 * nt)) x) ((49 + (3 * nt)) + 1) 0) ((49 + (3 * nt)) + 2) 0) 8 ((M 1 8) + x)) (M 2) (M 3) (M 4) (M 5) h) := hD
      refine lv_aload_n hx hb dX9_teamComes_84 rfl (lv_at hl 1 rfl) ?_
      refine va_get (D := D) (ci := 7) (v := .ref (b 1)) (C := RX9) (T := TX9) (N := 13) hx hb hts inX9 hown hK hP 0 rfl rfl 0 (by decide) k_7 (fun _ h9 => h9) rfl dX9_teamComes_85 ?_
      refine lv_iconst (v := 1) hx hb dX9_teamComes_88 (by decide) ?_
      refine lv_dup2_11 hx hb dX9_teamComes_89 rfl rfl ?_
      refine fz_iald (f := upd (upd (upd (upd (M 1) (49 + (3 * nt)) x) ((49 + (3 * nt)) + 1) 0) ((49 + (3 * nt)) + 2) 0) 8 ((M 1 8) + x)) hx hb hK hP 1 0 rfl rfl 1 rfl (by omega) (by decide) dX9_teamComes_90 ?_
      refine fz_top (show _ = M 1 1 from (by rw [pk_un (by omega), pk_un (by omega), pk_un (by omega), pk_un (by omega)])) ?_
      refine lv_iconst (v := 1) hx hb dX9_teamComes_91 (by decide) ?_
      refine fz_iaddN hx hb nt 1 hnt rfl dX9_teamComes_92 ?_
      refine fz_iast (f := upd (upd (upd (upd (M 1) (49 + (3 * nt)) x) ((49 + (3 * nt)) + 1) 0) ((49 + (3 * nt)) + 2) 0) 8 ((M 1 8) + x)) hx hb hK hP hD hS 1 0 rfl rfl 1 rfl (by omega) (by decide) dX9_teamComes_93 (fun H locs hP hD hS => ?_)
      have hP : va_P D vwCl (ME cy b (M 0 0) (M 0 1) (M 0 2) (M 0 3) (M 0 4) (M 0 5) (M 0 6) (upd (upd (upd (upd (upd (M 1) (49 + (3 * nt)) x) ((49 + (3 * nt)) + 1) 0) ((49 + (3 * nt)) + 2) 0) 8 ((M 1 8) + x)) 1 (nI (nt + 1))) (M 2) (M 3) (M 4) (M 5) h) H := hP
      have hD : va_D A (ME cy b (M 0 0) (M 0 1) (M 0 2) (M 0 3) (M 0 4) (M 0 5) (M 0 6) (upd (upd (upd (upd (upd (M 1) (49 + (3 * nt)) x) ((49 + (3 * nt)) + 1) 0) ((49 + (3 * nt)) + 2) 0) 8 ((M 1 8) + x)) 1 (nI (nt + 1))) (M 2) (M 3) (M 4) (M 5) h) := hD
      refine lv_aload_n hx hb dX9_teamComes_94 rfl (lv_at hl 1 rfl) ?_
      refine lv_iload_n hx hb dX9_teamComes_95 rfl (lv_at hl 0 rfl) ?_
      refine va_put (D := D) (ci := 7) (v := .int (M 1 1)) (ty := tyX9 7) (C := RX9) (T := TX9) (N := 13) hx hb hts inX9 tyX9 tyX9_ok nmX9 hown hK hP hD hS 0 rfl rfl 7 (by decide) k_47 (fun _ h9 => h9) rfl (by decide +kernel) rfl rfl (Nat.le_of_ble_eq_true rfl) dX9_teamComes_96 (fun H locs hP hD hS => ?_)
      have hP : va_P D vwCl (ME cy b (M 0 0) (M 0 1) (M 0 2) (M 1 1) (M 0 4) (M 0 5) (M 0 6) (upd (upd (upd (upd (upd (M 1) (49 + (3 * nt)) x) ((49 + (3 * nt)) + 1) 0) ((49 + (3 * nt)) + 2) 0) 8 ((M 1 8) + x)) 1 (nI (nt + 1))) (M 2) (M 3) (M 4) (M 5) h) H := hP
      have hD : va_D A (ME cy b (M 0 0) (M 0 1) (M 0 2) (M 1 1) (M 0 4) (M 0 5) (M 0 6) (upd (upd (upd (upd (upd (M 1) (49 + (3 * nt)) x) ((49 + (3 * nt)) + 1) 0) ((49 + (3 * nt)) + 2) 0) 8 ((M 1 8) + x)) 1 (nI (nt + 1))) (M 2) (M 3) (M 4) (M 5) h) := hD
      refine lv_iconst (v := 0) hx hb dX9_teamComes_99 (by decide) ?_
      have eF : fm_team M nt x = (0, fz_up (fz_up M 0 (upd (M 0) 3 (M 1 1))) 1 (fm_tm (M 1) nt x)) := by simp only [fm_team, c_1, c_2, ↓reduceIte, Bool.false_eq_true]
      exact W.iret (v := 0) hx hb hr (fun t9 ht9 hW9 => ⟨⟨_, (), rfl, (by rw [eF] <;> rfl), fz_to ht9 (by rw [eF]; exact hP)⟩, hS.F ht9⟩) hS.2.2 dX9_teamComes_100
    · skip
      refine lv_iconst (v := 2) hx hb dX9_teamComes_24 (by decide) ?_
      have eF : fm_team M nt x = (2, M) := by simp only [fm_team, c_1, c_2, ↓reduceIte, Bool.false_eq_true]
      exact W.iret (v := 2) hx hb hr (fun t9 ht9 hW9 => ⟨⟨_, (), rfl, (by rw [eF] <;> rfl), fz_to ht9 (by rw [eF]; exact hP)⟩, hS.F ht9⟩) hS.2.2 dX9_teamComes_25
  · skip
    refine lv_iconst (v := 1) hx hb dX9_teamComes_11 (by decide) ?_
    have eF : fm_team M nt x = (1, M) := by simp only [fm_team, c_1, ↓reduceIte, Bool.false_eq_true]
    exact W.iret (v := 1) hx hb hr (fun t9 ht9 hW9 => ⟨⟨_, (), rfl, (by rw [eF] <;> rfl), fz_to ht9 (by rw [eF]; exact hP)⟩, hS.F ht9⟩) hS.2.2 dX9_teamComes_12
set_option maxHeartbeats 4000000 in
set_option maxRecDepth 100000 in
/-- the model: frozenFrom -/
theorem c_X9_frozenFrom (l : Launch) (D : va_G) (cy : Nat → ClassId) (b : Nat → Nat) (M : Nat → Nat → Int32) (h : Int64) (f : Nat) (hf : f ≤ 40) (hZo : fz_zo (fun i => M 1 (9 + i)) 40) : fz_RI l yX9_frozenFrom wsX9_frozenFrom 0 0 D cy [.ref (b 0), .int (nI f)] (MW cy b M h) fz_T (fz_frz (fun i => M 1 (9 + i)) f) := by
  refine Met.ofW (cc := cX9_frozenFrom) (maxL := 4) (ret := (some .int)) (by decide) rfl ?_
  intro p e s m args below meth c s₁ B hml hv
  obtain ⟨rfl, hP, hK, hE⟩ := hv
  have hx := B.exec
  have hb := B.bytes
  have hr := B.returns
  have hts := atoms_spec (ws := wsX9_frozenFrom) B.pre
  have hown : s.vm.findClass RX9 = some m.cls := findClass_of_methodNamed B.named
  have hlocks := B.notSynchronized
  have hl := lv_entry ([.ref (b 0), .int (nI f)]) (n := 4) (Nat.le_of_ble_eq_true rfl)
  rw [lg_entry_eq]
  generalize (lg_sl ([.ref (b 0), .int (nI f)]) ++ List.replicate (4 - (lg_sl ([.ref (b 0), .int (nI f)])).length) Slot.unset).toArray = ls at hl ⊢
  have hl : lv_has ls 4 [(0, .ref (b 0)), (1, .int (nI f))] := hl
  have k_7 := hts (.fieldLink RX9 7 "FreezeCreditsModel" "now" "[I") (by decide +kernel)
  have inX9 : ∀ w ∈ u_ws RX9 TX9 13, w ∈ wsX9_frozenFrom := by decide +kernel
  refine lv_iconst (v := 0) hx hb dX9_frozenFrom_0 (by decide) ?_
  refine lv_istore_n (lv' := [(2, .int 0), (0, .ref (b 0)), (1, .int (nI f))]) hx hb dX9_frozenFrom_1 rfl hl (by decide) rfl (fun ls hl => ?_)
  refine lv_iload_n hx hb dX9_frozenFrom_2 rfl (lv_at hl 2 rfl) ?_
  refine lv_istore_n (lv' := [(3, .int (nI f)), (2, .int 0), (0, .ref (b 0)), (1, .int (nI f))]) hx hb dX9_frozenFrom_3 rfl hl (by decide) rfl (fun ls hl => ?_)
  refine fz_loop (σ := Nat × Int32) (pc := 4) (nL := 4) (fun x => match x with | (k, r) => [(0, .ref (b 0)), (2, .int r), (3, .int (nI k))]) (fun x => match x with | (k, r) => (f ≤ k) ∧ (k ≤ 40) ∧ (r + fz_frz (fun i => M 1 (9 + i)) k = fz_frz (fun i => M 1 (9 + i)) f)) (fun x => match x with | (k, r) => 40 - k) ?_ (f, 0) (show (f ≤ f) ∧ (f ≤ 40) ∧ (0 + fz_frz (fun i => M 1 (9 + i)) f = fz_frz (fun i => M 1 (9 + i)) f) from ⟨(by omega), (by omega), (by rw [Int32.zero_add])⟩) ls (lv_sub hl [2, 1, 0] rfl)
  rintro ⟨k, r⟩ ⟨hfk, hk, er⟩ ih4 ls hl
  have hfk : f ≤ k := hfk
  have hk : k ≤ 40 := hk
  have er : r + fz_frz (fun i => M 1 (9 + i)) k = fz_frz (fun i => M 1 (9 + i)) f := er
  have hl : lv_has ls 4 [(0, .ref (b 0)), (2, .int r), (3, .int (nI k))] := hl
  refine lv_iload_n hx hb dX9_frozenFrom_4 rfl (lv_at hl 2 rfl) ?_
  refine lv_bipush (v := 40) hx hb dX9_frozenFrom_5 (by decide) ?_
  refine fz_geN (tgt := 28) hx hb k 40 rfl rfl dX9_frozenFrom_7 (by decide) (by omega) (by omega) (fun c_1 => ?_) (fun c_1 => ?_)
  · skip
    refine lv_iload_n hx hb dX9_frozenFrom_28 rfl (lv_at hl 1 rfl) ?_
    exact W.iret (v := r) hx hb hr (fun t9 ht9 hW9 => ⟨_, rfl, (by rw [← er, show k = 40 by omega, fz_frz_e, Int32.add_zero]), ht9⟩) (fun _ h => nomatch h) dX9_frozenFrom_29
  · skip
    refine lv_iload_n hx hb dX9_frozenFrom_10 rfl (lv_at hl 1 rfl) ?_
    refine lv_aload_n hx hb dX9_frozenFrom_11 rfl (lv_at hl 0 rfl) ?_
    refine va_get (D := D) (ci := 7) (v := .ref (b 1)) (C := RX9) (T := TX9) (N := 13) hx hb hts inX9 hown hK hP 0 rfl rfl 0 (by decide) k_7 (fun _ h9 => h9) rfl dX9_frozenFrom_12 ?_
    refine lv_bipush (v := 9) hx hb dX9_frozenFrom_15 (by decide) ?_
    refine lv_iload_n hx hb dX9_frozenFrom_17 rfl (lv_at hl 2 rfl) ?_
    refine fz_iaddN hx hb 9 k rfl rfl dX9_frozenFrom_18 ?_
    refine fz_iald (f := M 1) hx hb hK hP 1 0 rfl rfl (9 + k) rfl (by omega) (by decide) dX9_frozenFrom_19 ?_
    refine lv_iadd hx hb dX9_frozenFrom_20 ?_
    refine lv_istore_n (lv' := [(2, .int (r + (M 1 (9 + k)))), (0, .ref (b 0)), (3, .int (nI k))]) hx hb dX9_frozenFrom_21 rfl hl (by decide) rfl (fun ls hl => ?_)
    refine lv_iinc (v := nI (k + 1)) (lv' := [(3, .int (nI (k + 1))), (2, .int (r + (M 1 (9 + k)))), (0, .ref (b 0))]) hx hb dX9_frozenFrom_22 hl (k := 2) rfl (fz_inc rfl) (by decide) rfl (fun ls hl => ?_)
    refine lv_goto (tgt := 4) hx hb dX9_frozenFrom_25 (by decide) ?_
    exact ih4 (k + 1, r + (M 1 (9 + k))) (show (f ≤ (k + 1)) ∧ ((k + 1) ≤ 40) ∧ ((r + (M 1 (9 + k))) + fz_frz (fun i => M 1 (9 + i)) (k + 1) = fz_frz (fun i => M 1 (9 + i)) f) from ⟨(by omega), (by omega), (by rw [← er, fz_frz_s (show k < 40 by omega), Int32.add_assoc, fm_nz (hZo k (by omega))])⟩) (by show 40 - (k + 1) < 40 - k; omega) ls (lv_sub hl [2, 1, 0] rfl)
set_option maxHeartbeats 4000000 in
set_option maxRecDepth 100000 in
/-- the model: freezes -/
theorem c_X9_freezes (l : Launch) (D : va_G) (cy : Nat → ClassId) (b : Nat → Nat) (M : Nat → Nat → Int32) (h : Int64) (nt nc nl wk : Nat) (wf : fm_wf (M 1) nt nc nl wk) (f g : Int32) (fr : Bool) : fz_MI l yX9_freezes wsX9_freezes 1 23 D cy [.ref (b 0), .int f, .int g, .int (fz_b fr)] (MW cy b M h) fz_T ((fm_frees M f g fr).1) (MW cy b ((fm_frees M f g fr).2) h) := by
  refine Met.ofW (cc := cX9_freezes) (maxL := 5) (ret := (some .int)) (by decide) rfl ?_
  intro p e s m args below meth c s₁ B hml hv
  obtain ⟨rfl, hP, hK, hD0, hE⟩ := hv
  have hx := B.exec
  have hb := B.bytes
  have hr := B.returns
  have hts := atoms_spec (ws := wsX9_freezes) B.pre
  have hown : s.vm.findClass RX9 = some m.cls := findClass_of_methodNamed B.named
  have hlocks := B.notSynchronized
  have hD := fz_self hD0
  generalize hAe : fz_in (MW cy b M h) = A at hD ⊢
  have hS : va_S A s.heap s.heap [] := va_S.rf
  have hl := lv_entry ([.ref (b 0), .int f, .int g, .int (fz_b fr)]) (n := 5) (Nat.le_of_ble_eq_true rfl)
  rw [lg_entry_eq]
  generalize (lg_sl ([.ref (b 0), .int f, .int g, .int (fz_b fr)]) ++ List.replicate (5 - (lg_sl ([.ref (b 0), .int f, .int g, .int (fz_b fr)])).length) Slot.unset).toArray = ls at hl ⊢
  have hl : lv_has ls 5 [(0, .ref (b 0)), (1, .int f), (2, .int g), (3, .int (fz_b fr))] := hl
  have k_7 := hts (.fieldLink RX9 7 "FreezeCreditsModel" "now" "[I") (by decide +kernel)
  have inX9 : ∀ w ∈ u_ws RX9 TX9 13, w ∈ wsX9_freezes := by decide +kernel
  have k_47 := hts (.fieldLink RX9 47 "FreezeCreditsModel" "answer" "I") (by decide +kernel)
  obtain ⟨hnt, hnt6, hnc, hnc30, hnl, hnl12, hwk, hwk39, hT, hG, hB, hZo⟩ := id wf
  refine lv_iload_n hx hb dX9_freezes_0 rfl (lv_at hl 1 rfl) ?_
  refine lv_iconst (v := 0) hx hb dX9_freezes_1 (by decide) ?_
  refine lv_bipush (v := 39) hx hb dX9_freezes_2 (by decide) ?_
  refine fz_retR (va_runS (As := [.int f, .int 0, .int 39]) (rest := []) ⟨hx, hb, hml, hown, hts⟩ (c_X9_in l D cy f 0 39) (va_cwS 3 hts gX9_freezes_X9_in rfl rfl rfl (by decide +kernel) ⟨Nat.le_of_ble_eq_true rfl, Nat.le_of_ble_eq_true rfl⟩) (fz_preS hK (fz_nil) fz_T_bl (fun _ _ _ => trivial)) rfl rfl hl.1 rfl (lv_room (Nat.le_of_ble_eq_true rfl)) dX9_freezes_4 ⟨Nat.zero_le _, Nat.zero_le _⟩) ?_
  refine fz_ifeqB (tgt := 20) hx hb dX9_freezes_7 (by decide) (fun c_1 => ?_) (fun c_1 => ?_)
  · skip
    refine lv_iconst (v := 1) hx hb dX9_freezes_20 (by decide) ?_
    have eF : fm_frees M f g fr = (1, M) := by simp only [fm_frees, c_1, ↓reduceIte, Bool.false_eq_true, cond_true, cond_false]
    exact W.iret (v := 1) hx hb hr (fun t9 ht9 hW9 => ⟨⟨_, (), rfl, (by rw [eF] <;> rfl), fz_to ht9 (by rw [eF]; exact hP)⟩, hS.F ht9⟩) hS.2.2 dX9_freezes_21
  · skip
    refine lv_iload_n hx hb dX9_freezes_10 rfl (lv_at hl 2 rfl) ?_
    refine lv_iload_n hx hb dX9_freezes_11 rfl (lv_at hl 1 rfl) ?_
    refine lv_bipush (v := 39) hx hb dX9_freezes_12 (by decide) ?_
    refine fz_retR (va_runS (As := [.int g, .int f, .int 39]) (rest := []) ⟨hx, hb, hml, hown, hts⟩ (c_X9_in l D cy g f 39) (va_cwS 3 hts gX9_freezes_X9_in rfl rfl rfl (by decide +kernel) ⟨Nat.le_of_ble_eq_true rfl, Nat.le_of_ble_eq_true rfl⟩) (fz_preS hK (fz_nil) fz_T_bl (fun _ _ _ => trivial)) rfl rfl hl.1 rfl (lv_room (Nat.le_of_ble_eq_true rfl)) dX9_freezes_14 ⟨Nat.zero_le _, Nat.zero_le _⟩) ?_
    refine fz_ifneB (tgt := 22) hx hb dX9_freezes_17 (by decide) (fun c_2 => ?_) (fun c_2 => ?_)
    · skip
      refine lv_iload_n hx hb dX9_freezes_22 rfl (lv_at hl 1 rfl) ?_
      refine lv_aload_n hx hb dX9_freezes_23 rfl (lv_at hl 0 rfl) ?_
      refine va_get (D := D) (ci := 7) (v := .ref (b 1)) (C := RX9) (T := TX9) (N := 13) hx hb hts inX9 hown hK hP 0 rfl rfl 0 (by decide) k_7 (fun _ h9 => h9) rfl dX9_freezes_24 ?_
      refine lv_iconst (v := 0) hx hb dX9_freezes_27 (by decide) ?_
      refine fz_iald (f := M 1) hx hb hK hP 1 0 rfl rfl 0 rfl (by omega) (by decide) dX9_freezes_28 ?_
      refine lv_icmp_ge (tgt := 34) hx hb dX9_freezes_29 (by decide) (fun c_3 => ?_) (fun c_3 => ?_)
      · skip
        obtain ⟨i, j, hij, hj, ei, ej⟩ := fm_rng c_1 c_2
        refine lv_iload_n hx hb dX9_freezes_34 rfl (lv_at hl 1 rfl) ?_
        refine lv_istore (lv' := [(4, .int f), (0, .ref (b 0)), (1, .int f), (2, .int g), (3, .int (fz_b fr))]) hx hb dX9_freezes_35 hl (by decide) rfl (fun ls hl => ?_)
        rw [show g = nI j from ej] at hl
        rw [show f = nI i from ei] at hl
        refine fz_loopM (σ := Nat × (Nat → Int32)) (pc := 37) (nL := 5) (fun x => match x with | (k, Z) => [(0, .ref (b 0)), (2, .int (nI j)), (3, .int (fz_b fr)), (4, .int (nI k))]) (fun x => match x with | (k, Z) => ME cy b (M 0 0) (M 0 1) (M 0 2) (M 0 3) (M 0 4) (M 0 5) (M 0 6) Z (M 2) (M 3) (M 4) (M 5) h) (fun x => match x with | (k, Z) => (i ≤ k) ∧ (k ≤ j + 1) ∧ (Z = fm_mkw (M 1) i (fz_b fr) k)) (fun x => match x with | (k, Z) => j + 1 - k) ?_ (i, M 1) (show (i ≤ i) ∧ (i ≤ j + 1) ∧ ((M 1) = fm_mkw (M 1) i (fz_b fr) i) from ⟨(by omega), (by omega), (fm_mkw_0 _ _ _).symm⟩) _ _ ls hP hD hS (lv_sub hl [1, 3, 4, 0] rfl)
        rintro ⟨k, Z⟩ ⟨hik, hkj, eZ⟩ ih37 H locs ls hP hD hS hl
        have hP : va_P D vwCl (ME cy b (M 0 0) (M 0 1) (M 0 2) (M 0 3) (M 0 4) (M 0 5) (M 0 6) Z (M 2) (M 3) (M 4) (M 5) h) H := hP
        have hD : va_D A (ME cy b (M 0 0) (M 0 1) (M 0 2) (M 0 3) (M 0 4) (M 0 5) (M 0 6) Z (M 2) (M 3) (M 4) (M 5) h) := hD
        have hik : i ≤ k := hik
        have hkj : k ≤ j + 1 := hkj
        have eZ : Z = fm_mkw (M 1) i (fz_b fr) k := eZ
        have hl : lv_has ls 5 [(0, .ref (b 0)), (2, .int (nI j)), (3, .int (fz_b fr)), (4, .int (nI k))] := hl
        refine lv_iload hx hb dX9_freezes_37 (lv_at hl 3 rfl) ?_
        refine lv_iload_n hx hb dX9_freezes_39 rfl (lv_at hl 1 rfl) ?_
        refine fz_gtN (tgt := 60) hx hb k j rfl rfl dX9_freezes_40 (by decide) (by omega) (by omega) (fun c_4 => ?_) (fun c_4 => ?_)
        · skip
          refine lv_aload_n hx hb dX9_freezes_60 rfl (lv_at hl 0 rfl) ?_
          refine lv_aload_n hx hb dX9_freezes_61 rfl (lv_at hl 0 rfl) ?_
          refine lv_iconst (v := 0) hx hb dX9_freezes_62 (by decide) ?_
          refine fz_retR (va_runV (As := [.int (nI 0)]) (rest := [.ref (b 0)]) ⟨hx, hb, hml, hown, hts⟩ (c_X9_frozenFrom l D cy b (fz_up M 1 Z) h 0 (by omega) (by rw [eZ]; exact fm_mkw_zo hZo)) (cwV 1 hts gX9_freezes_X9_frozenFrom rfl rfl rfl (by decide +kernel) ⟨Nat.le_of_ble_eq_true rfl, Nat.le_of_ble_eq_true rfl⟩) (fz_preV (ci := 7) (q0 := 0) hK hP rfl rfl rfl fz_T_bl (fun _ _ _ => trivial)) rfl rfl hl.1 rfl (lv_room (Nat.le_of_ble_eq_true rfl)) dX9_freezes_63 ⟨Nat.zero_le _, Nat.zero_le _⟩) ?_
          refine fz_top (show _ = fz_frz (fun i => Z (9 + i)) 0 from rfl) ?_
          refine va_put (D := D) (ci := 7) (v := .int (fz_frz (fun i => Z (9 + i)) 0)) (ty := tyX9 7) (C := RX9) (T := TX9) (N := 13) hx hb hts inX9 tyX9 tyX9_ok nmX9 hown hK hP hD hS 0 rfl rfl 7 (by decide) k_47 (fun _ h9 => h9) rfl (by decide +kernel) rfl rfl (Nat.le_of_ble_eq_true rfl) dX9_freezes_66 (fun H locs hP hD hS => ?_)
          have hP : va_P D vwCl (ME cy b (M 0 0) (M 0 1) (M 0 2) (fz_frz (fun i => Z (9 + i)) 0) (M 0 4) (M 0 5) (M 0 6) Z (M 2) (M 3) (M 4) (M 5) h) H := hP
          have hD : va_D A (ME cy b (M 0 0) (M 0 1) (M 0 2) (fz_frz (fun i => Z (9 + i)) 0) (M 0 4) (M 0 5) (M 0 6) Z (M 2) (M 3) (M 4) (M 5) h) := hD
          refine lv_iconst (v := 0) hx hb dX9_freezes_69 (by decide) ?_
          have eF : fm_frees M f g fr = (0, fz_up (fz_up M 0 (upd (M 0) 3 (fz_frz (fun i => Z (9 + i)) 0))) 1 Z) := by rw [fm_frees, if_pos c_1, if_pos c_2, if_pos c_3, fz_tnat ei (by omega), fz_tnat ej (by omega), show j + 1 = k by omega, ← eZ]
          exact W.iret (v := 0) hx hb hr (fun t9 ht9 hW9 => ⟨⟨_, (), rfl, (by rw [eF] <;> rfl), fz_to ht9 (by rw [eF]; exact hP)⟩, hS.F ht9⟩) hS.2.2 dX9_freezes_70
        · skip
          refine lv_aload_n hx hb dX9_freezes_43 rfl (lv_at hl 0 rfl) ?_
          refine va_get (D := D) (ci := 7) (v := .ref (b 1)) (C := RX9) (T := TX9) (N := 13) hx hb hts inX9 hown hK hP 0 rfl rfl 0 (by decide) k_7 (fun _ h9 => h9) rfl dX9_freezes_44 ?_
          refine lv_bipush (v := 9) hx hb dX9_freezes_47 (by decide) ?_
          refine lv_iload hx hb dX9_freezes_49 (lv_at hl 3 rfl) ?_
          refine fz_iaddN hx hb 9 k rfl rfl dX9_freezes_51 ?_
          refine lv_iload_n hx hb dX9_freezes_52 rfl (lv_at hl 2 rfl) ?_
          refine fz_iast (f := Z) hx hb hK hP hD hS 1 0 rfl rfl (9 + k) rfl (by omega) (by decide) dX9_freezes_53 (fun H locs hP hD hS => ?_)
          have hP : va_P D vwCl (ME cy b (M 0 0) (M 0 1) (M 0 2) (M 0 3) (M 0 4) (M 0 5) (M 0 6) (upd Z (9 + k) (fz_b fr)) (M 2) (M 3) (M 4) (M 5) h) H := hP
          have hD : va_D A (ME cy b (M 0 0) (M 0 1) (M 0 2) (M 0 3) (M 0 4) (M 0 5) (M 0 6) (upd Z (9 + k) (fz_b fr)) (M 2) (M 3) (M 4) (M 5) h) := hD
          refine lv_iinc (v := nI (k + 1)) (lv' := [(4, .int (nI (k + 1))), (0, .ref (b 0)), (2, .int (nI j)), (3, .int (fz_b fr))]) hx hb dX9_freezes_54 hl (k := 3) rfl (fz_inc rfl) (by decide) rfl (fun ls hl => ?_)
          refine lv_goto (tgt := 37) hx hb dX9_freezes_57 (by decide) ?_
          exact ih37 (k + 1, upd Z (9 + k) (fz_b fr)) (show (i ≤ (k + 1)) ∧ ((k + 1) ≤ j + 1) ∧ ((upd Z (9 + k) (fz_b fr)) = fm_mkw (M 1) i (fz_b fr) (k + 1)) from ⟨(by omega), (by omega), (by rw [eZ, fm_mkw_s hik])⟩) (by show j + 1 - (k + 1) < j + 1 - k; omega) _ _ ls hP hD hS (lv_sub hl [1, 2, 3, 0] rfl)
      · skip
        refine lv_iconst (v := 2) hx hb dX9_freezes_32 (by decide) ?_
        have eF : fm_frees M f g fr = (2, M) := by simp only [fm_frees, c_1, c_2, c_3, ↓reduceIte, Bool.false_eq_true, cond_true, cond_false]
        exact W.iret (v := 2) hx hb hr (fun t9 ht9 hW9 => ⟨⟨_, (), rfl, (by rw [eF] <;> rfl), fz_to ht9 (by rw [eF]; exact hP)⟩, hS.F ht9⟩) hS.2.2 dX9_freezes_33
    · skip
      refine lv_iconst (v := 1) hx hb dX9_freezes_20 (by decide) ?_
      have eF : fm_frees M f g fr = (1, M) := by simp only [fm_frees, c_1, c_2, ↓reduceIte, Bool.false_eq_true, cond_true, cond_false]
      exact W.iret (v := 1) hx hb hr (fun t9 ht9 hW9 => ⟨⟨_, (), rfl, (by rw [eF] <;> rfl), fz_to ht9 (by rw [eF]; exact hP)⟩, hS.F ht9⟩) hS.2.2 dX9_freezes_21
set_option maxHeartbeats 4000000 in
set_option maxRecDepth 100000 in
/-- the model: sets -/
theorem c_X9_sets (l : Launch) (D : va_G) (cy : Nat → ClassId) (b : Nat → Nat) (M : Nat → Nat → Int32) (h : Int64) (nt nc nl wk : Nat) (wf : fm_wf (M 1) nt nc nl wk) (x y : Int32) : fz_MI l yX9_sets wsX9_sets 1 22 D cy [.ref (b 0), .int x, .int y] (MW cy b M h) fz_T ((fm_sets M x y).1) (MW cy b ((fm_sets M x y).2) h) := by
  refine Met.ofW (cc := cX9_sets) (maxL := 4) (ret := (some .int)) (by decide) rfl ?_
  intro p e s m args below meth c s₁ B hml hv
  obtain ⟨rfl, hP, hK, hD0, hE⟩ := hv
  have hx := B.exec
  have hb := B.bytes
  have hr := B.returns
  have hts := atoms_spec (ws := wsX9_sets) B.pre
  have hown : s.vm.findClass RX9 = some m.cls := findClass_of_methodNamed B.named
  have hlocks := B.notSynchronized
  have hD := fz_self hD0
  generalize hAe : fz_in (MW cy b M h) = A at hD ⊢
  have hS : va_S A s.heap s.heap [] := va_S.rf
  have hl := lv_entry ([.ref (b 0), .int x, .int y]) (n := 4) (Nat.le_of_ble_eq_true rfl)
  rw [lg_entry_eq]
  generalize (lg_sl ([.ref (b 0), .int x, .int y]) ++ List.replicate (4 - (lg_sl ([.ref (b 0), .int x, .int y])).length) Slot.unset).toArray = ls at hl ⊢
  have hl : lv_has ls 4 [(0, .ref (b 0)), (1, .int x), (2, .int y)] := hl
  have k_7 := hts (.fieldLink RX9 7 "FreezeCreditsModel" "now" "[I") (by decide +kernel)
  have inX9 : ∀ w ∈ u_ws RX9 TX9 13, w ∈ wsX9_sets := by decide +kernel
  have k_47 := hts (.fieldLink RX9 47 "FreezeCreditsModel" "answer" "I") (by decide +kernel)
  obtain ⟨hnt, hnt6, hnc, hnc30, hnl, hnl12, hwk, hwk39, hT, hG, hB, hZo⟩ := id wf
  refine lv_iload_n hx hb dX9_sets_0 rfl (lv_at hl 1 rfl) ?_
  refine lv_if_ne (tgt := 14) hx hb dX9_sets_1 (by decide) (fun c_1 => ?_) (fun c_1 => ?_)
  · skip
    refine lv_iload_n hx hb dX9_sets_14 rfl (lv_at hl 1 rfl) ?_
    refine lv_iconst (v := 1) hx hb dX9_sets_15 (by decide) ?_
    refine lv_icmp_eq (tgt := 24) hx hb dX9_sets_16 (by decide) (fun c_2 => ?_) (fun c_2 => ?_)
    · skip
      refine lv_iload_n hx hb dX9_sets_24 rfl (lv_at hl 2 rfl) ?_
      refine lv_iconst (v := 0) hx hb dX9_sets_25 (by decide) ?_
      refine lv_bipush (v := 50) hx hb dX9_sets_26 (by decide) ?_
      refine fz_retR (va_runS (As := [.int y, .int 0, .int 50]) (rest := []) ⟨hx, hb, hml, hown, hts⟩ (c_X9_in l D cy y 0 50) (va_cwS 3 hts gX9_sets_X9_in rfl rfl rfl (by decide +kernel) ⟨Nat.le_of_ble_eq_true rfl, Nat.le_of_ble_eq_true rfl⟩) (fz_preS hK (fz_nil) fz_T_bl (fun _ _ _ => trivial)) rfl rfl hl.1 rfl (lv_room (Nat.le_of_ble_eq_true rfl)) dX9_sets_28 ⟨Nat.zero_le _, Nat.zero_le _⟩) ?_
      refine lv_goto (tgt := 55) hx hb dX9_sets_31 (by decide) ?_
      refine lv_istore_n (lv' := [(3, .int (fz_b (fm_in y 0 50))), (0, .ref (b 0)), (1, .int x), (2, .int y)]) hx hb dX9_sets_55 rfl hl (by decide) rfl (fun ls hl => ?_)
      refine lv_iload_n hx hb dX9_sets_56 rfl (lv_at hl 0 rfl) ?_
      refine fz_ifneB (tgt := 62) hx hb dX9_sets_57 (by decide) (fun c_3 => ?_) (fun c_3 => ?_)
      · skip
        refine lv_aload_n hx hb dX9_sets_62 rfl (lv_at hl 1 rfl) ?_
        refine lv_aload_n hx hb dX9_sets_63 rfl (lv_at hl 1 rfl) ?_
        refine va_get (D := D) (ci := 7) (v := .ref (b 1)) (C := RX9) (T := TX9) (N := 13) hx hb hts inX9 hown hK hP 0 rfl rfl 0 (by decide) k_7 (fun _ h9 => h9) rfl dX9_sets_64 ?_
        refine lv_iconst (v := 4) hx hb dX9_sets_67 (by decide) ?_
        refine lv_iload_n hx hb dX9_sets_68 rfl (lv_at hl 2 rfl) ?_
        refine fz_iaddN hx hb 4 1 rfl c_2 dX9_sets_69 ?_
        refine fz_iald (f := M 1) hx hb hK hP 1 0 rfl rfl (4 + 1) rfl (by omega) (by decide) dX9_sets_70 ?_
        refine va_put (D := D) (ci := 7) (v := .int (M 1 (4 + 1))) (ty := tyX9 7) (C := RX9) (T := TX9) (N := 13) hx hb hts inX9 tyX9 tyX9_ok nmX9 hown hK hP hD hS 0 rfl rfl 7 (by decide) k_47 (fun _ h9 => h9) rfl (by decide +kernel) rfl rfl (Nat.le_of_ble_eq_true rfl) dX9_sets_71 (fun H locs hP hD hS => ?_)
        have hP : va_P D vwCl (ME cy b (M 0 0) (M 0 1) (M 0 2) (M 1 (4 + 1)) (M 0 4) (M 0 5) (M 0 6) (M 1) (M 2) (M 3) (M 4) (M 5) h) H := hP
        have hD : va_D A (ME cy b (M 0 0) (M 0 1) (M 0 2) (M 1 (4 + 1)) (M 0 4) (M 0 5) (M 0 6) (M 1) (M 2) (M 3) (M 4) (M 5) h) := hD
        refine lv_aload_n hx hb dX9_sets_74 rfl (lv_at hl 1 rfl) ?_
        refine va_get (D := D) (ci := 7) (v := .ref (b 1)) (C := RX9) (T := TX9) (N := 13) hx hb hts inX9 hown hK hP 0 rfl rfl 0 (by decide) k_7 (fun _ h9 => h9) rfl dX9_sets_75 ?_
        refine lv_iconst (v := 4) hx hb dX9_sets_78 (by decide) ?_
        refine lv_iload_n hx hb dX9_sets_79 rfl (lv_at hl 2 rfl) ?_
        refine fz_iaddN hx hb 4 1 rfl c_2 dX9_sets_80 ?_
        refine lv_iload_n hx hb dX9_sets_81 rfl (lv_at hl 3 rfl) ?_
        refine fz_iast (f := M 1) hx hb hK hP hD hS 1 0 rfl rfl (4 + 1) rfl (by omega) (by decide) dX9_sets_82 (fun H locs hP hD hS => ?_)
        have hP : va_P D vwCl (ME cy b (M 0 0) (M 0 1) (M 0 2) (M 1 (4 + 1)) (M 0 4) (M 0 5) (M 0 6) (upd (M 1) (4 + 1) y) (M 2) (M 3) (M 4) (M 5) h) H := hP
        have hD : va_D A (ME cy b (M 0 0) (M 0 1) (M 0 2) (M 1 (4 + 1)) (M 0 4) (M 0 5) (M 0 6) (upd (M 1) (4 + 1) y) (M 2) (M 3) (M 4) (M 5) h) := hD
        refine lv_iconst (v := 0) hx hb dX9_sets_83 (by decide) ?_
        have eF : fm_sets M x y = (0, fz_up (fz_up M 0 (upd (M 0) 3 (M 1 (4 + 1)))) 1 (upd (M 1) (4 + 1) y)) := by rw [fm_sets, if_pos (by simp [fm_sok, c_1, c_2, c_3]), fz_tnat (j := 1) c_2 (by decide)]
        exact W.iret (v := 0) hx hb hr (fun t9 ht9 hW9 => ⟨⟨_, (), rfl, (by rw [eF] <;> rfl), fz_to ht9 (by rw [eF]; exact hP)⟩, hS.F ht9⟩) hS.2.2 dX9_sets_84
      · skip
        refine lv_iconst (v := 1) hx hb dX9_sets_60 (by decide) ?_
        have eF : fm_sets M x y = (1, M) := by simp [fm_sets, fm_sok, c_1, c_2, c_3]
        exact W.iret (v := 1) hx hb hr (fun t9 ht9 hW9 => ⟨⟨_, (), rfl, (by rw [eF] <;> rfl), fz_to ht9 (by rw [eF]; exact hP)⟩, hS.F ht9⟩) hS.2.2 dX9_sets_61
    · skip
      refine lv_iload_n hx hb dX9_sets_19 rfl (lv_at hl 1 rfl) ?_
      refine lv_iconst (v := 2) hx hb dX9_sets_20 (by decide) ?_
      refine lv_icmp_ne (tgt := 34) hx hb dX9_sets_21 (by decide) (fun c_4 => ?_) (fun c_4 => ?_)
      · skip
        refine lv_iload_n hx hb dX9_sets_34 rfl (lv_at hl 1 rfl) ?_
        refine lv_iconst (v := 3) hx hb dX9_sets_35 (by decide) ?_
        refine lv_icmp_ne (tgt := 54) hx hb dX9_sets_36 (by decide) (fun c_5 => ?_) (fun c_5 => ?_)
        · skip
          refine lv_iconst (v := 0) hx hb dX9_sets_54 (by decide) ?_
          refine lv_istore_n (lv' := [(3, .int 0), (0, .ref (b 0)), (1, .int x), (2, .int y)]) hx hb dX9_sets_55 rfl hl (by decide) rfl (fun ls hl => ?_)
          refine lv_iload_n hx hb dX9_sets_56 rfl (lv_at hl 0 rfl) ?_
          refine lv_if_ne (tgt := 62) hx hb dX9_sets_57 (by decide) (fun c_6 => ?_) (fun c_6 => ?_)
          · exact absurd c_6 (by decide)
          · skip
            refine lv_iconst (v := 1) hx hb dX9_sets_60 (by decide) ?_
            have eF : fm_sets M x y = (1, M) := by simp [fm_sets, fm_sok, c_1, c_2, c_4, c_5]
            exact W.iret (v := 1) hx hb hr (fun t9 ht9 hW9 => ⟨⟨_, (), rfl, (by rw [eF] <;> rfl), fz_to ht9 (by rw [eF]; exact hP)⟩, hS.F ht9⟩) hS.2.2 dX9_sets_61
        · skip
          refine lv_iload_n hx hb dX9_sets_39 rfl (lv_at hl 2 rfl) ?_
          refine lv_iconst (v := 1) hx hb dX9_sets_40 (by decide) ?_
          refine lv_sipush (v := 2000) hx hb dX9_sets_41 (by decide) ?_
          refine fz_retR (va_runS (As := [.int y, .int 1, .int 2000]) (rest := []) ⟨hx, hb, hml, hown, hts⟩ (c_X9_in l D cy y 1 2000) (va_cwS 3 hts gX9_sets_X9_in rfl rfl rfl (by decide +kernel) ⟨Nat.le_of_ble_eq_true rfl, Nat.le_of_ble_eq_true rfl⟩) (fz_preS hK (fz_nil) fz_T_bl (fun _ _ _ => trivial)) rfl rfl hl.1 rfl (lv_room (Nat.le_of_ble_eq_true rfl)) dX9_sets_44 ⟨Nat.zero_le _, Nat.zero_le _⟩) ?_
          refine fz_ifeqB (tgt := 54) hx hb dX9_sets_47 (by decide) (fun c_7 => ?_) (fun c_7 => ?_)
          · skip
            refine lv_iconst (v := 0) hx hb dX9_sets_54 (by decide) ?_
            refine lv_istore_n (lv' := [(3, .int 0), (0, .ref (b 0)), (1, .int x), (2, .int y)]) hx hb dX9_sets_55 rfl hl (by decide) rfl (fun ls hl => ?_)
            refine lv_iload_n hx hb dX9_sets_56 rfl (lv_at hl 0 rfl) ?_
            refine lv_if_ne (tgt := 62) hx hb dX9_sets_57 (by decide) (fun c_8 => ?_) (fun c_8 => ?_)
            · exact absurd c_8 (by decide)
            · skip
              refine lv_iconst (v := 1) hx hb dX9_sets_60 (by decide) ?_
              have eF : fm_sets M x y = (1, M) := by simp [fm_sets, fm_sok, c_1, c_2, c_4, c_5, c_7]
              exact W.iret (v := 1) hx hb hr (fun t9 ht9 hW9 => ⟨⟨_, (), rfl, (by rw [eF] <;> rfl), fz_to ht9 (by rw [eF]; exact hP)⟩, hS.F ht9⟩) hS.2.2 dX9_sets_61
          · skip
            refine lv_iconst (v := 1) hx hb dX9_sets_50 (by decide) ?_
            refine lv_goto (tgt := 55) hx hb dX9_sets_51 (by decide) ?_
            refine lv_istore_n (lv' := [(3, .int 1), (0, .ref (b 0)), (1, .int x), (2, .int y)]) hx hb dX9_sets_55 rfl hl (by decide) rfl (fun ls hl => ?_)
            refine lv_iload_n hx hb dX9_sets_56 rfl (lv_at hl 0 rfl) ?_
            refine lv_if_ne (tgt := 62) hx hb dX9_sets_57 (by decide) (fun c_9 => ?_) (fun c_9 => ?_)
            · skip
              refine lv_aload_n hx hb dX9_sets_62 rfl (lv_at hl 1 rfl) ?_
              refine lv_aload_n hx hb dX9_sets_63 rfl (lv_at hl 1 rfl) ?_
              refine va_get (D := D) (ci := 7) (v := .ref (b 1)) (C := RX9) (T := TX9) (N := 13) hx hb hts inX9 hown hK hP 0 rfl rfl 0 (by decide) k_7 (fun _ h9 => h9) rfl dX9_sets_64 ?_
              refine lv_iconst (v := 4) hx hb dX9_sets_67 (by decide) ?_
              refine lv_iload_n hx hb dX9_sets_68 rfl (lv_at hl 2 rfl) ?_
              refine fz_iaddN hx hb 4 3 rfl c_5 dX9_sets_69 ?_
              refine fz_iald (f := M 1) hx hb hK hP 1 0 rfl rfl (4 + 3) rfl (by omega) (by decide) dX9_sets_70 ?_
              refine va_put (D := D) (ci := 7) (v := .int (M 1 (4 + 3))) (ty := tyX9 7) (C := RX9) (T := TX9) (N := 13) hx hb hts inX9 tyX9 tyX9_ok nmX9 hown hK hP hD hS 0 rfl rfl 7 (by decide) k_47 (fun _ h9 => h9) rfl (by decide +kernel) rfl rfl (Nat.le_of_ble_eq_true rfl) dX9_sets_71 (fun H locs hP hD hS => ?_)
              have hP : va_P D vwCl (ME cy b (M 0 0) (M 0 1) (M 0 2) (M 1 (4 + 3)) (M 0 4) (M 0 5) (M 0 6) (M 1) (M 2) (M 3) (M 4) (M 5) h) H := hP
              have hD : va_D A (ME cy b (M 0 0) (M 0 1) (M 0 2) (M 1 (4 + 3)) (M 0 4) (M 0 5) (M 0 6) (M 1) (M 2) (M 3) (M 4) (M 5) h) := hD
              refine lv_aload_n hx hb dX9_sets_74 rfl (lv_at hl 1 rfl) ?_
              refine va_get (D := D) (ci := 7) (v := .ref (b 1)) (C := RX9) (T := TX9) (N := 13) hx hb hts inX9 hown hK hP 0 rfl rfl 0 (by decide) k_7 (fun _ h9 => h9) rfl dX9_sets_75 ?_
              refine lv_iconst (v := 4) hx hb dX9_sets_78 (by decide) ?_
              refine lv_iload_n hx hb dX9_sets_79 rfl (lv_at hl 2 rfl) ?_
              refine fz_iaddN hx hb 4 3 rfl c_5 dX9_sets_80 ?_
              refine lv_iload_n hx hb dX9_sets_81 rfl (lv_at hl 3 rfl) ?_
              refine fz_iast (f := M 1) hx hb hK hP hD hS 1 0 rfl rfl (4 + 3) rfl (by omega) (by decide) dX9_sets_82 (fun H locs hP hD hS => ?_)
              have hP : va_P D vwCl (ME cy b (M 0 0) (M 0 1) (M 0 2) (M 1 (4 + 3)) (M 0 4) (M 0 5) (M 0 6) (upd (M 1) (4 + 3) y) (M 2) (M 3) (M 4) (M 5) h) H := hP
              have hD : va_D A (ME cy b (M 0 0) (M 0 1) (M 0 2) (M 1 (4 + 3)) (M 0 4) (M 0 5) (M 0 6) (upd (M 1) (4 + 3) y) (M 2) (M 3) (M 4) (M 5) h) := hD
              refine lv_iconst (v := 0) hx hb dX9_sets_83 (by decide) ?_
              have eF : fm_sets M x y = (0, fz_up (fz_up M 0 (upd (M 0) 3 (M 1 (4 + 3)))) 1 (upd (M 1) (4 + 3) y)) := by rw [fm_sets, if_pos (by simp [fm_sok, c_1, c_2, c_4, c_5, c_7]), fz_tnat (j := 3) c_5 (by decide)]
              exact W.iret (v := 0) hx hb hr (fun t9 ht9 hW9 => ⟨⟨_, (), rfl, (by rw [eF] <;> rfl), fz_to ht9 (by rw [eF]; exact hP)⟩, hS.F ht9⟩) hS.2.2 dX9_sets_84
            · exact absurd c_9 (by decide)
      · skip
        refine lv_iload_n hx hb dX9_sets_24 rfl (lv_at hl 2 rfl) ?_
        refine lv_iconst (v := 0) hx hb dX9_sets_25 (by decide) ?_
        refine lv_bipush (v := 50) hx hb dX9_sets_26 (by decide) ?_
        refine fz_retR (va_runS (As := [.int y, .int 0, .int 50]) (rest := []) ⟨hx, hb, hml, hown, hts⟩ (c_X9_in l D cy y 0 50) (va_cwS 3 hts gX9_sets_X9_in rfl rfl rfl (by decide +kernel) ⟨Nat.le_of_ble_eq_true rfl, Nat.le_of_ble_eq_true rfl⟩) (fz_preS hK (fz_nil) fz_T_bl (fun _ _ _ => trivial)) rfl rfl hl.1 rfl (lv_room (Nat.le_of_ble_eq_true rfl)) dX9_sets_28 ⟨Nat.zero_le _, Nat.zero_le _⟩) ?_
        refine lv_goto (tgt := 55) hx hb dX9_sets_31 (by decide) ?_
        refine lv_istore_n (lv' := [(3, .int (fz_b (fm_in y 0 50))), (0, .ref (b 0)), (1, .int x), (2, .int y)]) hx hb dX9_sets_55 rfl hl (by decide) rfl (fun ls hl => ?_)
        refine lv_iload_n hx hb dX9_sets_56 rfl (lv_at hl 0 rfl) ?_
        refine fz_ifneB (tgt := 62) hx hb dX9_sets_57 (by decide) (fun c_10 => ?_) (fun c_10 => ?_)
        · skip
          refine lv_aload_n hx hb dX9_sets_62 rfl (lv_at hl 1 rfl) ?_
          refine lv_aload_n hx hb dX9_sets_63 rfl (lv_at hl 1 rfl) ?_
          refine va_get (D := D) (ci := 7) (v := .ref (b 1)) (C := RX9) (T := TX9) (N := 13) hx hb hts inX9 hown hK hP 0 rfl rfl 0 (by decide) k_7 (fun _ h9 => h9) rfl dX9_sets_64 ?_
          refine lv_iconst (v := 4) hx hb dX9_sets_67 (by decide) ?_
          refine lv_iload_n hx hb dX9_sets_68 rfl (lv_at hl 2 rfl) ?_
          refine fz_iaddN hx hb 4 2 rfl c_4 dX9_sets_69 ?_
          refine fz_iald (f := M 1) hx hb hK hP 1 0 rfl rfl (4 + 2) rfl (by omega) (by decide) dX9_sets_70 ?_
          refine va_put (D := D) (ci := 7) (v := .int (M 1 (4 + 2))) (ty := tyX9 7) (C := RX9) (T := TX9) (N := 13) hx hb hts inX9 tyX9 tyX9_ok nmX9 hown hK hP hD hS 0 rfl rfl 7 (by decide) k_47 (fun _ h9 => h9) rfl (by decide +kernel) rfl rfl (Nat.le_of_ble_eq_true rfl) dX9_sets_71 (fun H locs hP hD hS => ?_)
          have hP : va_P D vwCl (ME cy b (M 0 0) (M 0 1) (M 0 2) (M 1 (4 + 2)) (M 0 4) (M 0 5) (M 0 6) (M 1) (M 2) (M 3) (M 4) (M 5) h) H := hP
          have hD : va_D A (ME cy b (M 0 0) (M 0 1) (M 0 2) (M 1 (4 + 2)) (M 0 4) (M 0 5) (M 0 6) (M 1) (M 2) (M 3) (M 4) (M 5) h) := hD
          refine lv_aload_n hx hb dX9_sets_74 rfl (lv_at hl 1 rfl) ?_
          refine va_get (D := D) (ci := 7) (v := .ref (b 1)) (C := RX9) (T := TX9) (N := 13) hx hb hts inX9 hown hK hP 0 rfl rfl 0 (by decide) k_7 (fun _ h9 => h9) rfl dX9_sets_75 ?_
          refine lv_iconst (v := 4) hx hb dX9_sets_78 (by decide) ?_
          refine lv_iload_n hx hb dX9_sets_79 rfl (lv_at hl 2 rfl) ?_
          refine fz_iaddN hx hb 4 2 rfl c_4 dX9_sets_80 ?_
          refine lv_iload_n hx hb dX9_sets_81 rfl (lv_at hl 3 rfl) ?_
          refine fz_iast (f := M 1) hx hb hK hP hD hS 1 0 rfl rfl (4 + 2) rfl (by omega) (by decide) dX9_sets_82 (fun H locs hP hD hS => ?_)
          have hP : va_P D vwCl (ME cy b (M 0 0) (M 0 1) (M 0 2) (M 1 (4 + 2)) (M 0 4) (M 0 5) (M 0 6) (upd (M 1) (4 + 2) y) (M 2) (M 3) (M 4) (M 5) h) H := hP
          have hD : va_D A (ME cy b (M 0 0) (M 0 1) (M 0 2) (M 1 (4 + 2)) (M 0 4) (M 0 5) (M 0 6) (upd (M 1) (4 + 2) y) (M 2) (M 3) (M 4) (M 5) h) := hD
          refine lv_iconst (v := 0) hx hb dX9_sets_83 (by decide) ?_
          have eF : fm_sets M x y = (0, fz_up (fz_up M 0 (upd (M 0) 3 (M 1 (4 + 2)))) 1 (upd (M 1) (4 + 2) y)) := by rw [fm_sets, if_pos (by simp [fm_sok, c_1, c_2, c_4, c_10]), fz_tnat (j := 2) c_4 (by decide)]
          exact W.iret (v := 0) hx hb hr (fun t9 ht9 hW9 => ⟨⟨_, (), rfl, (by rw [eF] <;> rfl), fz_to ht9 (by rw [eF]; exact hP)⟩, hS.F ht9⟩) hS.2.2 dX9_sets_84
        · skip
          refine lv_iconst (v := 1) hx hb dX9_sets_60 (by decide) ?_
          have eF : fm_sets M x y = (1, M) := by simp [fm_sets, fm_sok, c_1, c_2, c_4, c_10]
          exact W.iret (v := 1) hx hb hr (fun t9 ht9 hW9 => ⟨⟨_, (), rfl, (by rw [eF] <;> rfl), fz_to ht9 (by rw [eF]; exact hP)⟩, hS.F ht9⟩) hS.2.2 dX9_sets_61
  · skip
    refine lv_iload_n hx hb dX9_sets_4 rfl (lv_at hl 2 rfl) ?_
    refine lv_iconst (v := 1) hx hb dX9_sets_5 (by decide) ?_
    refine lv_bipush (v := 20) hx hb dX9_sets_6 (by decide) ?_
    refine fz_retR (va_runS (As := [.int y, .int 1, .int 20]) (rest := []) ⟨hx, hb, hml, hown, hts⟩ (c_X9_in l D cy y 1 20) (va_cwS 3 hts gX9_sets_X9_in rfl rfl rfl (by decide +kernel) ⟨Nat.le_of_ble_eq_true rfl, Nat.le_of_ble_eq_true rfl⟩) (fz_preS hK (fz_nil) fz_T_bl (fun _ _ _ => trivial)) rfl rfl hl.1 rfl (lv_room (Nat.le_of_ble_eq_true rfl)) dX9_sets_8 ⟨Nat.zero_le _, Nat.zero_le _⟩) ?_
    refine lv_goto (tgt := 55) hx hb dX9_sets_11 (by decide) ?_
    refine lv_istore_n (lv' := [(3, .int (fz_b (fm_in y 1 20))), (0, .ref (b 0)), (1, .int x), (2, .int y)]) hx hb dX9_sets_55 rfl hl (by decide) rfl (fun ls hl => ?_)
    refine lv_iload_n hx hb dX9_sets_56 rfl (lv_at hl 0 rfl) ?_
    refine fz_ifneB (tgt := 62) hx hb dX9_sets_57 (by decide) (fun c_11 => ?_) (fun c_11 => ?_)
    · skip
      refine lv_aload_n hx hb dX9_sets_62 rfl (lv_at hl 1 rfl) ?_
      refine lv_aload_n hx hb dX9_sets_63 rfl (lv_at hl 1 rfl) ?_
      refine va_get (D := D) (ci := 7) (v := .ref (b 1)) (C := RX9) (T := TX9) (N := 13) hx hb hts inX9 hown hK hP 0 rfl rfl 0 (by decide) k_7 (fun _ h9 => h9) rfl dX9_sets_64 ?_
      refine lv_iconst (v := 4) hx hb dX9_sets_67 (by decide) ?_
      refine lv_iload_n hx hb dX9_sets_68 rfl (lv_at hl 2 rfl) ?_
      refine fz_iaddN hx hb 4 0 rfl c_1 dX9_sets_69 ?_
      refine fz_iald (f := M 1) hx hb hK hP 1 0 rfl rfl (4 + 0) rfl (by omega) (by decide) dX9_sets_70 ?_
      refine va_put (D := D) (ci := 7) (v := .int (M 1 (4 + 0))) (ty := tyX9 7) (C := RX9) (T := TX9) (N := 13) hx hb hts inX9 tyX9 tyX9_ok nmX9 hown hK hP hD hS 0 rfl rfl 7 (by decide) k_47 (fun _ h9 => h9) rfl (by decide +kernel) rfl rfl (Nat.le_of_ble_eq_true rfl) dX9_sets_71 (fun H locs hP hD hS => ?_)
      have hP : va_P D vwCl (ME cy b (M 0 0) (M 0 1) (M 0 2) (M 1 (4 + 0)) (M 0 4) (M 0 5) (M 0 6) (M 1) (M 2) (M 3) (M 4) (M 5) h) H := hP
      have hD : va_D A (ME cy b (M 0 0) (M 0 1) (M 0 2) (M 1 (4 + 0)) (M 0 4) (M 0 5) (M 0 6) (M 1) (M 2) (M 3) (M 4) (M 5) h) := hD
      refine lv_aload_n hx hb dX9_sets_74 rfl (lv_at hl 1 rfl) ?_
      refine va_get (D := D) (ci := 7) (v := .ref (b 1)) (C := RX9) (T := TX9) (N := 13) hx hb hts inX9 hown hK hP 0 rfl rfl 0 (by decide) k_7 (fun _ h9 => h9) rfl dX9_sets_75 ?_
      refine lv_iconst (v := 4) hx hb dX9_sets_78 (by decide) ?_
      refine lv_iload_n hx hb dX9_sets_79 rfl (lv_at hl 2 rfl) ?_
      refine fz_iaddN hx hb 4 0 rfl c_1 dX9_sets_80 ?_
      refine lv_iload_n hx hb dX9_sets_81 rfl (lv_at hl 3 rfl) ?_
      refine fz_iast (f := M 1) hx hb hK hP hD hS 1 0 rfl rfl (4 + 0) rfl (by omega) (by decide) dX9_sets_82 (fun H locs hP hD hS => ?_)
      have hP : va_P D vwCl (ME cy b (M 0 0) (M 0 1) (M 0 2) (M 1 (4 + 0)) (M 0 4) (M 0 5) (M 0 6) (upd (M 1) (4 + 0) y) (M 2) (M 3) (M 4) (M 5) h) H := hP
      have hD : va_D A (ME cy b (M 0 0) (M 0 1) (M 0 2) (M 1 (4 + 0)) (M 0 4) (M 0 5) (M 0 6) (upd (M 1) (4 + 0) y) (M 2) (M 3) (M 4) (M 5) h) := hD
      refine lv_iconst (v := 0) hx hb dX9_sets_83 (by decide) ?_
      have eF : fm_sets M x y = (0, fz_up (fz_up M 0 (upd (M 0) 3 (M 1 (4 + 0)))) 1 (upd (M 1) (4 + 0) y)) := by rw [fm_sets, if_pos (by simp [fm_sok, c_1, c_11]), fz_tnat (j := 0) c_1 (by decide)]
      exact W.iret (v := 0) hx hb hr (fun t9 ht9 hW9 => ⟨⟨_, (), rfl, (by rw [eF] <;> rfl), fz_to ht9 (by rw [eF]; exact hP)⟩, hS.F ht9⟩) hS.2.2 dX9_sets_84
    · skip
      refine lv_iconst (v := 1) hx hb dX9_sets_60 (by decide) ?_
      have eF : fm_sets M x y = (1, M) := by simp [fm_sets, fm_sok, c_1, c_11]
      exact W.iret (v := 1) hx hb hr (fun t9 ht9 hW9 => ⟨⟨_, (), rfl, (by rw [eF] <;> rfl), fz_to ht9 (by rw [eF]; exact hP)⟩, hS.F ht9⟩) hS.2.2 dX9_sets_61
set_option maxHeartbeats 4000000 in
set_option maxRecDepth 100000 in
/-- the model: pays -/
theorem c_X9_pays (l : Launch) (D : va_G) (cy : Nat → ClassId) (b : Nat → Nat) (M : Nat → Nat → Int32) (h : Int64) (z : Nat) (hz : z < 12) (x : Int32) (j g : Nat) (hj : j < 6) (hg : g < 6) (ej : fm_l (M 1) 1 z = nI j) (eg : fm_l (M 1) 0 z = nI g) : fz_MV l yX9_pays wsX9_pays 1 23 D cy [.ref (b 0), .int (nI z), .int x] (MW cy b M h) fz_T (MW cy b (fz_up M 1 (fm_pays (M 1) z x)) h) := by
  refine Met.ofW (cc := cX9_pays) (maxL := 3) (ret := none) (by decide) rfl ?_
  intro p e s m args below meth c s₁ B hml hv
  obtain ⟨rfl, hP, hK, hD0, hE⟩ := hv
  have hx := B.exec
  have hb := B.bytes
  have hr := B.returns
  have hts := atoms_spec (ws := wsX9_pays) B.pre
  have hown : s.vm.findClass RX9 = some m.cls := findClass_of_methodNamed B.named
  have hlocks := B.notSynchronized
  have hD := fz_self hD0
  generalize hAe : fz_in (MW cy b M h) = A at hD ⊢
  have hS : va_S A s.heap s.heap [] := va_S.rf
  have hl := lv_entry ([.ref (b 0), .int (nI z), .int x]) (n := 3) (Nat.le_of_ble_eq_true rfl)
  rw [lg_entry_eq]
  generalize (lg_sl ([.ref (b 0), .int (nI z), .int x]) ++ List.replicate (3 - (lg_sl ([.ref (b 0), .int (nI z), .int x])).length) Slot.unset).toArray = ls at hl ⊢
  have hl : lv_has ls 3 [(0, .ref (b 0)), (1, .int (nI z)), (2, .int x)] := hl
  have k_7 := hts (.fieldLink RX9 7 "FreezeCreditsModel" "now" "[I") (by decide +kernel)
  have inX9 : ∀ w ∈ u_ws RX9 TX9 13, w ∈ wsX9_pays := by decide +kernel
  refine lv_aload_n hx hb dX9_pays_0 rfl (lv_at hl 0 rfl) ?_
  refine lv_aload_n hx hb dX9_pays_1 rfl (lv_at hl 0 rfl) ?_
  refine lv_iload_n hx hb dX9_pays_2 rfl (lv_at hl 1 rfl) ?_
  refine lv_iconst (v := 1) hx hb dX9_pays_3 (by decide) ?_
  refine fz_retR (va_runV (As := [.int (nI z), .int (nI 1)]) (rest := [.ref (b 0)]) ⟨hx, hb, hml, hown, hts⟩ (c_X9_loanOf l D cy b M h z 1 (by omega) (by omega)) (cwV 2 hts gX9_pays_X9_loanOf rfl rfl rfl (by decide +kernel) ⟨Nat.le_of_ble_eq_true rfl, Nat.le_of_ble_eq_true rfl⟩) (fz_preV (ci := 7) (q0 := 0) hK hP rfl rfl rfl fz_T_bl (fun _ _ _ => trivial)) rfl rfl hl.1 rfl (lv_room (Nat.le_of_ble_eq_true rfl)) dX9_pays_4 ⟨Nat.zero_le _, Nat.zero_le _⟩) ?_
  refine lv_iconst (v := 0) hx hb dX9_pays_7 (by decide) ?_
  refine lv_iload_n hx hb dX9_pays_8 rfl (lv_at hl 2 rfl) ?_
  refine lv_ineg hx hb dX9_pays_9 ?_
  refine fz_at2 (show fm_l (M 1) 1 z = nI j from ej) ?_
  refine fz_retMV (ws' := ME cy b (M 0 0) (M 0 1) (M 0 2) (M 0 3) (M 0 4) (M 0 5) (M 0 6) (fm_ta (M 1) 0 j (-x)) (M 2) (M 3) (M 4) (M 5) h) (va_runV (As := [.int (nI j), .int (nI 0), .int (-x)]) (rest := []) ⟨hx, hb, hml, hown, hts⟩ (c_X9_adds l D cy b M h j 0 (by omega) (by omega) (-x)) (cwV 3 hts gX9_pays_X9_adds rfl rfl rfl (by decide +kernel) ⟨Nat.le_of_ble_eq_true rfl, Nat.le_of_ble_eq_true rfl⟩) (fz_preMV (ci := 7) (q0 := 0) hK hP hD rfl rfl rfl fz_T_bl (fun _ _ _ => trivial)) rfl rfl hl.1 rfl (lv_room (Nat.le_of_ble_eq_true rfl)) dX9_pays_10 ⟨Nat.zero_le _, Nat.zero_le _⟩) hP hD hS [0, 1, 2, 3, 4, 5] [] rfl rfl [true, true, true, true, true, true] (And.intro rfl (And.intro rfl (And.intro rfl (And.intro rfl (And.intro rfl (And.intro rfl trivial)))))) rfl rfl (fun H locs hP hD hS => ?_)
  have hP : va_P D vwCl (ME cy b (M 0 0) (M 0 1) (M 0 2) (M 0 3) (M 0 4) (M 0 5) (M 0 6) (fm_ta (M 1) 0 j (-x)) (M 2) (M 3) (M 4) (M 5) h) H := hP
  have hD : va_D A (ME cy b (M 0 0) (M 0 1) (M 0 2) (M 0 3) (M 0 4) (M 0 5) (M 0 6) (fm_ta (M 1) 0 j (-x)) (M 2) (M 3) (M 4) (M 5) h) := hD
  refine lv_aload_n hx hb dX9_pays_13 rfl (lv_at hl 0 rfl) ?_
  refine lv_aload_n hx hb dX9_pays_14 rfl (lv_at hl 0 rfl) ?_
  refine lv_iload_n hx hb dX9_pays_15 rfl (lv_at hl 1 rfl) ?_
  refine lv_iconst (v := 0) hx hb dX9_pays_16 (by decide) ?_
  refine fz_retR (va_runV (As := [.int (nI z), .int (nI 0)]) (rest := [.ref (b 0)]) ⟨hx, hb, hml, hown, hts⟩ (c_X9_loanOf l D cy b (fz_up M 1 (fm_ta (M 1) 0 j (-x))) h z 0 (by omega) (by omega)) (cwV 2 hts gX9_pays_X9_loanOf rfl rfl rfl (by decide +kernel) ⟨Nat.le_of_ble_eq_true rfl, Nat.le_of_ble_eq_true rfl⟩) (fz_preV (ci := 7) (q0 := 0) hK hP rfl rfl rfl fz_T_bl (fun _ _ _ => trivial)) rfl rfl hl.1 rfl (lv_room (Nat.le_of_ble_eq_true rfl)) dX9_pays_17 ⟨Nat.zero_le _, Nat.zero_le _⟩) ?_
  refine fz_top (show _ = fm_l (fm_ta (M 1) 0 j (-x)) 0 z from rfl) ?_
  refine fz_top (show _ = fm_l (M 1) 0 z from (fm_l_ta hj (by omega))) ?_
  refine lv_iconst (v := 0) hx hb dX9_pays_20 (by decide) ?_
  refine lv_iload_n hx hb dX9_pays_21 rfl (lv_at hl 2 rfl) ?_
  refine fz_at2 (show fm_l (M 1) 0 z = nI g from eg) ?_
  refine fz_retMV (ws' := ME cy b (M 0 0) (M 0 1) (M 0 2) (M 0 3) (M 0 4) (M 0 5) (M 0 6) (fm_ta (fm_ta (M 1) 0 j (-x)) 0 g x) (M 2) (M 3) (M 4) (M 5) h) (va_runV (As := [.int (nI g), .int (nI 0), .int x]) (rest := []) ⟨hx, hb, hml, hown, hts⟩ (c_X9_adds l D cy b (fz_up M 1 (fm_ta (M 1) 0 j (-x))) h g 0 (by omega) (by omega) x) (cwV 3 hts gX9_pays_X9_adds rfl rfl rfl (by decide +kernel) ⟨Nat.le_of_ble_eq_true rfl, Nat.le_of_ble_eq_true rfl⟩) (fz_preMV (ci := 7) (q0 := 0) hK hP hD rfl rfl rfl fz_T_bl (fun _ _ _ => trivial)) rfl rfl hl.1 rfl (lv_room (Nat.le_of_ble_eq_true rfl)) dX9_pays_22 ⟨Nat.zero_le _, Nat.zero_le _⟩) hP hD hS [0, 1, 2, 3, 4, 5] [] rfl rfl [true, true, true, true, true, true] (And.intro rfl (And.intro rfl (And.intro rfl (And.intro rfl (And.intro rfl (And.intro rfl trivial)))))) rfl rfl (fun H locs hP hD hS => ?_)
  have hP : va_P D vwCl (ME cy b (M 0 0) (M 0 1) (M 0 2) (M 0 3) (M 0 4) (M 0 5) (M 0 6) (fm_ta (fm_ta (M 1) 0 j (-x)) 0 g x) (M 2) (M 3) (M 4) (M 5) h) H := hP
  have hD : va_D A (ME cy b (M 0 0) (M 0 1) (M 0 2) (M 0 3) (M 0 4) (M 0 5) (M 0 6) (fm_ta (fm_ta (M 1) 0 j (-x)) 0 g x) (M 2) (M 3) (M 4) (M 5) h) := hD
  refine lv_aload_n hx hb dX9_pays_25 rfl (lv_at hl 0 rfl) ?_
  refine va_get (D := D) (ci := 7) (v := .ref (b 1)) (C := RX9) (T := TX9) (N := 13) hx hb hts inX9 hown hK hP 0 rfl rfl 0 (by decide) k_7 (fun _ h9 => h9) rfl dX9_pays_26 ?_
  refine lv_sipush (v := 277) hx hb dX9_pays_29 (by decide) ?_
  refine lv_bipush (v := 6) hx hb dX9_pays_32 (by decide) ?_
  refine lv_iload_n hx hb dX9_pays_34 rfl (lv_at hl 1 rfl) ?_
  refine fz_imulN hx hb 6 z rfl rfl dX9_pays_35 ?_
  refine fz_iaddN hx hb 277 (6 * z) rfl rfl dX9_pays_36 ?_
  refine lv_iconst (v := 3) hx hb dX9_pays_37 (by decide) ?_
  refine fz_iaddN hx hb (277 + (6 * z)) 3 rfl rfl dX9_pays_38 ?_
  refine lv_dup2_11 hx hb dX9_pays_39 rfl rfl ?_
  refine fz_iald (f := fm_ta (fm_ta (M 1) 0 j (-x)) 0 g x) hx hb hK hP 1 0 rfl rfl ((277 + (6 * z)) + 3) rfl (by omega) (by decide) dX9_pays_40 ?_
  refine lv_iload_n hx hb dX9_pays_41 rfl (lv_at hl 2 rfl) ?_
  refine lv_isub hx hb dX9_pays_42 ?_
  refine fz_iast (f := fm_ta (fm_ta (M 1) 0 j (-x)) 0 g x) hx hb hK hP hD hS 1 0 rfl rfl ((277 + (6 * z)) + 3) rfl (by omega) (by decide) dX9_pays_43 (fun H locs hP hD hS => ?_)
  have hP : va_P D vwCl (ME cy b (M 0 0) (M 0 1) (M 0 2) (M 0 3) (M 0 4) (M 0 5) (M 0 6) (upd (fm_ta (fm_ta (M 1) 0 j (-x)) 0 g x) ((277 + (6 * z)) + 3) (((fm_ta (fm_ta (M 1) 0 j (-x)) 0 g x) ((277 + (6 * z)) + 3)) - x)) (M 2) (M 3) (M 4) (M 5) h) H := hP
  have hD : va_D A (ME cy b (M 0 0) (M 0 1) (M 0 2) (M 0 3) (M 0 4) (M 0 5) (M 0 6) (upd (fm_ta (fm_ta (M 1) 0 j (-x)) 0 g x) ((277 + (6 * z)) + 3) (((fm_ta (fm_ta (M 1) 0 j (-x)) 0 g x) ((277 + (6 * z)) + 3)) - x)) (M 2) (M 3) (M 4) (M 5) h) := hD
  exact W.vret hx hb hr (fun t9 ht9 hW9 => ⟨⟨(), rfl, trivial, fz_to ht9 (by rw [fm_pays_eq ej eg hj hg]; exact hP)⟩, hS.F ht9⟩) hS.2.2 dX9_pays_44
set_option maxHeartbeats 4000000 in
set_option maxRecDepth 100000 in
/-- the model: weekEnds -/
theorem c_X9_weekEnds (l : Launch) (D : va_G) (cy : Nat → ClassId) (b : Nat → Nat) (M : Nat → Nat → Int32) (h : Int64) (nt nc nl wk : Nat) (wf : fm_wf (M 1) nt nc nl wk) : fz_MI l yX9_weekEnds wsX9_weekEnds 2 45 D cy [.ref (b 0)] (MW cy b M h) fz_T ((fm_week (M 1) nt nc nl wk).1) (MW cy b (fz_up M 1 (fm_week (M 1) nt nc nl wk).2) h) := by
  refine Met.ofW (cc := cX9_weekEnds) (maxL := 6) (ret := (some .int)) (by decide) rfl ?_
  intro p e s m args below meth c s₁ B hml hv
  obtain ⟨rfl, hP, hK, hD0, hE⟩ := hv
  have hx := B.exec
  have hb := B.bytes
  have hr := B.returns
  have hts := atoms_spec (ws := wsX9_weekEnds) B.pre
  have hown : s.vm.findClass RX9 = some m.cls := findClass_of_methodNamed B.named
  have hlocks := B.notSynchronized
  have hD := fz_self hD0
  generalize hAe : fz_in (MW cy b M h) = A at hD ⊢
  have hS : va_S A s.heap s.heap [] := va_S.rf
  have hl := lv_entry ([.ref (b 0)]) (n := 6) (Nat.le_of_ble_eq_true rfl)
  rw [lg_entry_eq]
  generalize (lg_sl ([.ref (b 0)]) ++ List.replicate (6 - (lg_sl ([.ref (b 0)])).length) Slot.unset).toArray = ls at hl ⊢
  have hl : lv_has ls 6 [(0, .ref (b 0))] := hl
  have k_7 := hts (.fieldLink RX9 7 "FreezeCreditsModel" "now" "[I") (by decide +kernel)
  have inX9 : ∀ w ∈ u_ws RX9 TX9 13, w ∈ wsX9_weekEnds := by decide +kernel
  obtain ⟨hnt, hnt6, hnc, hnc30, hnl, hnl12, hwk, hwk39, hT, hG, hB, hZo⟩ := id wf
  refine lv_iconst (v := 0) hx hb dX9_weekEnds_0 (by decide) ?_
  refine lv_istore_n (lv' := [(1, .int 0), (0, .ref (b 0))]) hx hb dX9_weekEnds_1 rfl hl (by decide) rfl (fun ls hl => ?_)
  refine lv_iconst (v := 0) hx hb dX9_weekEnds_2 (by decide) ?_
  refine lv_istore_n (lv' := [(2, .int 0), (1, .int 0), (0, .ref (b 0))]) hx hb dX9_weekEnds_3 rfl hl (by decide) rfl (fun ls hl => ?_)
  refine fz_loopM (σ := Nat × Int32 × (Nat → Int32)) (pc := 4) (nL := 6) (fun x => match x with | (k, r, Z) => [(0, .ref (b 0)), (1, .int r), (2, .int (nI k))]) (fun x => match x with | (k, r, Z) => ME cy b (M 0 0) (M 0 1) (M 0 2) (M 0 3) (M 0 4) (M 0 5) (M 0 6) Z (M 2) (M 3) (M 4) (M 5) h) (fun x => match x with | (k, r, Z) => (k ≤ nt) ∧ (fm_fr (M 1) Z) ∧ (fm_ea (M 1) nc k = (r, Z))) (fun x => match x with | (k, r, Z) => nt - k) ?_ (0, 0, M 1) (show (0 ≤ nt) ∧ (fm_fr (M 1) (M 1)) ∧ (fm_ea (M 1) nc 0 = (0, (M 1))) from ⟨(by omega), (fm_fr_rfl _), rfl⟩) _ _ ls hP hD hS (lv_sub hl [2, 1, 0] rfl)
  rintro ⟨k, r, Z⟩ ⟨hk, hF, eA⟩ ih4 H locs ls hP hD hS hl
  have hP : va_P D vwCl (ME cy b (M 0 0) (M 0 1) (M 0 2) (M 0 3) (M 0 4) (M 0 5) (M 0 6) Z (M 2) (M 3) (M 4) (M 5) h) H := hP
  have hD : va_D A (ME cy b (M 0 0) (M 0 1) (M 0 2) (M 0 3) (M 0 4) (M 0 5) (M 0 6) Z (M 2) (M 3) (M 4) (M 5) h) := hD
  have hk : k ≤ nt := hk
  have hF : fm_fr (M 1) Z := hF
  have eA : fm_ea (M 1) nc k = (r, Z) := eA
  have hl : lv_has ls 6 [(0, .ref (b 0)), (1, .int r), (2, .int (nI k))] := hl
  refine lv_iload_n hx hb dX9_weekEnds_4 rfl (lv_at hl 2 rfl) ?_
  refine lv_aload_n hx hb dX9_weekEnds_5 rfl (lv_at hl 0 rfl) ?_
  refine va_get (D := D) (ci := 7) (v := .ref (b 1)) (C := RX9) (T := TX9) (N := 13) hx hb hts inX9 hown hK hP 0 rfl rfl 0 (by decide) k_7 (fun _ h9 => h9) rfl dX9_weekEnds_6 ?_
  refine lv_iconst (v := 1) hx hb dX9_weekEnds_9 (by decide) ?_
  refine fz_iald (f := Z) hx hb hK hP 1 0 rfl rfl 1 rfl (by omega) (by decide) dX9_weekEnds_10 ?_
  refine fz_geN (tgt := 94) hx hb k nt rfl ((hF 1 (by omega)).trans hnt) dX9_weekEnds_11 (by decide) (by omega) (by omega) (fun c_1 => ?_) (fun c_1 => ?_)
  · skip
    refine lv_iconst (v := 0) hx hb dX9_weekEnds_94 (by decide) ?_
    refine lv_istore_n (lv' := [(2, .int 0), (0, .ref (b 0)), (1, .int r)]) hx hb dX9_weekEnds_95 rfl hl (by decide) rfl (fun ls hl => ?_)
    refine fz_loopM (σ := Nat × (Nat → Int32)) (pc := 96) (nL := 6) (fun x => match x with | (d, Z2) => [(0, .ref (b 0)), (1, .int r), (2, .int (nI d))]) (fun x => match x with | (d, Z2) => ME cy b (M 0 0) (M 0 1) (M 0 2) (M 0 3) (M 0 4) (M 0 5) (M 0 6) Z2 (M 2) (M 3) (M 4) (M 5) h) (fun x => match x with | (d, Z2) => (d ≤ wk + 1) ∧ (fm_fr (M 1) Z2) ∧ (fm_c2 (fm_ea (M 1) nc nt).2 nl d = Z2)) (fun x => match x with | (d, Z2) => wk + 1 - d) ?_ (0, Z) (show (0 ≤ wk + 1) ∧ (fm_fr (M 1) Z) ∧ (fm_c2 (fm_ea (M 1) nc nt).2 nl 0 = Z) from ⟨(by omega), hF, (by rw [fm_c2, show nt = k by omega, eA])⟩) _ _ ls hP hD hS (lv_sub hl [1, 2, 0] rfl)
    rintro ⟨d, Z2⟩ ⟨hd, hF1, eD⟩ ih96 H locs ls hP hD hS hl
    have hP : va_P D vwCl (ME cy b (M 0 0) (M 0 1) (M 0 2) (M 0 3) (M 0 4) (M 0 5) (M 0 6) Z2 (M 2) (M 3) (M 4) (M 5) h) H := hP
    have hD : va_D A (ME cy b (M 0 0) (M 0 1) (M 0 2) (M 0 3) (M 0 4) (M 0 5) (M 0 6) Z2 (M 2) (M 3) (M 4) (M 5) h) := hD
    have hd : d ≤ wk + 1 := hd
    have hF1 : fm_fr (M 1) Z2 := hF1
    have eD : fm_c2 (fm_ea (M 1) nc nt).2 nl d = Z2 := eD
    have hl : lv_has ls 6 [(0, .ref (b 0)), (1, .int r), (2, .int (nI d))] := hl
    refine lv_iload_n hx hb dX9_weekEnds_96 rfl (lv_at hl 2 rfl) ?_
    refine lv_aload_n hx hb dX9_weekEnds_97 rfl (lv_at hl 0 rfl) ?_
    refine va_get (D := D) (ci := 7) (v := .ref (b 1)) (C := RX9) (T := TX9) (N := 13) hx hb hts inX9 hown hK hP 0 rfl rfl 0 (by decide) k_7 (fun _ h9 => h9) rfl dX9_weekEnds_98 ?_
    refine lv_iconst (v := 0) hx hb dX9_weekEnds_101 (by decide) ?_
    refine fz_iald (f := Z2) hx hb hK hP 1 0 rfl rfl 0 rfl (by omega) (by decide) dX9_weekEnds_102 ?_
    refine fz_gtN (tgt := 180) hx hb d wk rfl ((hF1 0 (by omega)).trans hwk) dX9_weekEnds_103 (by decide) (by omega) (by omega) (fun c_2 => ?_) (fun c_2 => ?_)
    · skip
      have eD9 : fm_c2 (fm_ea (M 1) nc nt).2 nl (wk + 1) = Z2 := by rw [show wk + 1 = d by omega]; exact eD
      refine lv_aload_n hx hb dX9_weekEnds_180 rfl (lv_at hl 0 rfl) ?_
      refine va_get (D := D) (ci := 7) (v := .ref (b 1)) (C := RX9) (T := TX9) (N := 13) hx hb hts inX9 hown hK hP 0 rfl rfl 0 (by decide) k_7 (fun _ h9 => h9) rfl dX9_weekEnds_181 ?_
      refine lv_iconst (v := 0) hx hb dX9_weekEnds_184 (by decide) ?_
      refine lv_dup2_11 hx hb dX9_weekEnds_185 rfl rfl ?_
      refine fz_iald (f := Z2) hx hb hK hP 1 0 rfl rfl 0 rfl (by omega) (by decide) dX9_weekEnds_186 ?_
      refine lv_iconst (v := 1) hx hb dX9_weekEnds_187 (by decide) ?_
      refine fz_iaddN hx hb wk 1 ((hF1 0 (by omega)).trans hwk) rfl dX9_weekEnds_188 ?_
      refine fz_iast (f := Z2) hx hb hK hP hD hS 1 0 rfl rfl 0 rfl (by omega) (by decide) dX9_weekEnds_189 (fun H locs hP hD hS => ?_)
      have hP : va_P D vwCl (ME cy b (M 0 0) (M 0 1) (M 0 2) (M 0 3) (M 0 4) (M 0 5) (M 0 6) (upd Z2 0 (nI (wk + 1))) (M 2) (M 3) (M 4) (M 5) h) H := hP
      have hD : va_D A (ME cy b (M 0 0) (M 0 1) (M 0 2) (M 0 3) (M 0 4) (M 0 5) (M 0 6) (upd Z2 0 (nI (wk + 1))) (M 2) (M 3) (M 4) (M 5) h) := hD
      refine lv_iload_n hx hb dX9_weekEnds_190 rfl (lv_at hl 1 rfl) ?_
      exact W.iret (v := r) hx hb hr (fun t9 ht9 hW9 => ⟨⟨_, (), rfl, (by rw [fm_week, show nt = k by omega, eA]), fz_to ht9 (by rw [fm_week, eD9]; exact hP)⟩, hS.F ht9⟩) hS.2.2 dX9_weekEnds_191
    · skip
      refine lv_iconst (v := 0) hx hb dX9_weekEnds_106 (by decide) ?_
      refine lv_istore_n (lv' := [(3, .int 0), (0, .ref (b 0)), (1, .int r), (2, .int (nI d))]) hx hb dX9_weekEnds_107 rfl hl (by decide) rfl (fun ls hl => ?_)
      refine fz_loopM (σ := Nat × (Nat → Int32)) (pc := 108) (nL := 6) (fun x => match x with | (k2, Y) => [(0, .ref (b 0)), (1, .int r), (2, .int (nI d)), (3, .int (nI k2))]) (fun x => match x with | (k2, Y) => ME cy b (M 0 0) (M 0 1) (M 0 2) (M 0 3) (M 0 4) (M 0 5) (M 0 6) Y (M 2) (M 3) (M 4) (M 5) h) (fun x => match x with | (k2, Y) => (k2 ≤ nl) ∧ (fm_fr (M 1) Y) ∧ (fm_c1 Z2 d k2 = Y)) (fun x => match x with | (k2, Y) => nl - k2) ?_ (0, Z2) (show (0 ≤ nl) ∧ (fm_fr (M 1) Z2) ∧ (fm_c1 Z2 d 0 = Z2) from ⟨(by omega), hF1, rfl⟩) _ _ ls hP hD hS (lv_sub hl [1, 2, 3, 0] rfl)
      rintro ⟨k2, Y⟩ ⟨hk2, hF2, eC⟩ ih108 H locs ls hP hD hS hl
      have hP : va_P D vwCl (ME cy b (M 0 0) (M 0 1) (M 0 2) (M 0 3) (M 0 4) (M 0 5) (M 0 6) Y (M 2) (M 3) (M 4) (M 5) h) H := hP
      have hD : va_D A (ME cy b (M 0 0) (M 0 1) (M 0 2) (M 0 3) (M 0 4) (M 0 5) (M 0 6) Y (M 2) (M 3) (M 4) (M 5) h) := hD
      have hk2 : k2 ≤ nl := hk2
      have hF2 : fm_fr (M 1) Y := hF2
      have eC : fm_c1 Z2 d k2 = Y := eC
      have hl : lv_has ls 6 [(0, .ref (b 0)), (1, .int r), (2, .int (nI d)), (3, .int (nI k2))] := hl
      refine lv_iload_n hx hb dX9_weekEnds_108 rfl (lv_at hl 3 rfl) ?_
      refine lv_aload_n hx hb dX9_weekEnds_109 rfl (lv_at hl 0 rfl) ?_
      refine va_get (D := D) (ci := 7) (v := .ref (b 1)) (C := RX9) (T := TX9) (N := 13) hx hb hts inX9 hown hK hP 0 rfl rfl 0 (by decide) k_7 (fun _ h9 => h9) rfl dX9_weekEnds_110 ?_
      refine lv_iconst (v := 3) hx hb dX9_weekEnds_113 (by decide) ?_
      refine fz_iald (f := Y) hx hb hK hP 1 0 rfl rfl 3 rfl (by omega) (by decide) dX9_weekEnds_114 ?_
      refine fz_geN (tgt := 174) hx hb k2 nl rfl ((hF2 3 (by omega)).trans hnl) dX9_weekEnds_115 (by decide) (by omega) (by omega) (fun c_3 => ?_) (fun c_3 => ?_)
      · skip
        refine lv_iinc (v := nI (d + 1)) (lv' := [(2, .int (nI (d + 1))), (0, .ref (b 0)), (1, .int r), (3, .int (nI k2))]) hx hb dX9_weekEnds_174 hl (k := 2) rfl (fz_inc rfl) (by decide) rfl (fun ls hl => ?_)
        refine lv_goto (tgt := 96) hx hb dX9_weekEnds_177 (by decide) ?_
        exact ih96 (d + 1, Y) (show ((d + 1) ≤ wk + 1) ∧ (fm_fr (M 1) Y) ∧ (fm_c2 (fm_ea (M 1) nc nt).2 nl (d + 1) = Y) from ⟨(by omega), hF2, (by rw [fm_c2, eD, show nl = k2 by omega, eC])⟩) (by show wk + 1 - (d + 1) < wk + 1 - d; omega) _ _ ls hP hD hS (lv_sub hl [1, 2, 0] rfl)
      · skip
        refine lv_aload_n hx hb dX9_weekEnds_118 rfl (lv_at hl 0 rfl) ?_
        refine lv_iload_n hx hb dX9_weekEnds_119 rfl (lv_at hl 3 rfl) ?_
        refine lv_iconst (v := 4) hx hb dX9_weekEnds_120 (by decide) ?_
        refine fz_retR (va_runV (As := [.int (nI k2), .int (nI 4)]) (rest := []) ⟨hx, hb, hml, hown, hts⟩ (c_X9_loanOf l D cy b (fz_up M 1 Y) h k2 4 (by omega) (by omega)) (cwV 2 hts gX9_weekEnds_X9_loanOf rfl rfl rfl (by decide +kernel) ⟨Nat.le_of_ble_eq_true rfl, Nat.le_of_ble_eq_true rfl⟩) (fz_preV (ci := 7) (q0 := 0) hK hP rfl rfl rfl fz_T_bl (fun _ _ _ => trivial)) rfl rfl hl.1 rfl (lv_room (Nat.le_of_ble_eq_true rfl)) dX9_weekEnds_121 ⟨Nat.zero_le _, Nat.zero_le _⟩) ?_
        refine fz_top (show _ = fm_l Y 4 k2 from rfl) ?_
        refine lv_iload_n hx hb dX9_weekEnds_124 rfl (lv_at hl 2 rfl) ?_
        refine lv_icmp_ne (tgt := 168) hx hb dX9_weekEnds_125 (by decide) (fun c_4 => ?_) (fun c_4 => ?_)
        · skip
          refine lv_iinc (v := nI (k2 + 1)) (lv' := [(3, .int (nI (k2 + 1))), (0, .ref (b 0)), (1, .int r), (2, .int (nI d))]) hx hb dX9_weekEnds_168 hl (k := 3) rfl (fz_inc rfl) (by decide) rfl (fun ls hl => ?_)
          refine lv_goto (tgt := 108) hx hb dX9_weekEnds_171 (by decide) ?_
          exact ih108 (k2 + 1, Y) (show ((k2 + 1) ≤ nl) ∧ (fm_fr (M 1) Y) ∧ (fm_c1 Z2 d (k2 + 1) = Y) from ⟨(by omega), hF2, (by rw [fm_c1, eC, if_neg c_4])⟩) (by show nl - (k2 + 1) < nl - k2; omega) _ _ ls hP hD hS (lv_sub hl [1, 2, 3, 0] rfl)
        · skip
          refine lv_aload_n hx hb dX9_weekEnds_128 rfl (lv_at hl 0 rfl) ?_
          refine lv_iload_n hx hb dX9_weekEnds_129 rfl (lv_at hl 3 rfl) ?_
          refine lv_iconst (v := 3) hx hb dX9_weekEnds_130 (by decide) ?_
          refine fz_retR (va_runV (As := [.int (nI k2), .int (nI 3)]) (rest := []) ⟨hx, hb, hml, hown, hts⟩ (c_X9_loanOf l D cy b (fz_up M 1 Y) h k2 3 (by omega) (by omega)) (cwV 2 hts gX9_weekEnds_X9_loanOf rfl rfl rfl (by decide +kernel) ⟨Nat.le_of_ble_eq_true rfl, Nat.le_of_ble_eq_true rfl⟩) (fz_preV (ci := 7) (q0 := 0) hK hP rfl rfl rfl fz_T_bl (fun _ _ _ => trivial)) rfl rfl hl.1 rfl (lv_room (Nat.le_of_ble_eq_true rfl)) dX9_weekEnds_131 ⟨Nat.zero_le _, Nat.zero_le _⟩) ?_
          refine fz_top (show _ = fm_l Y 3 k2 from rfl) ?_
          refine lv_istore (lv' := [(4, .int (fm_l Y 3 k2)), (0, .ref (b 0)), (1, .int r), (2, .int (nI d)), (3, .int (nI k2))]) hx hb dX9_weekEnds_134 hl (by decide) rfl (fun ls hl => ?_)
          obtain ⟨j, hj, ej⟩ := hB k2 (by omega)
          obtain ⟨g, hg, eg⟩ := hG k2 (by omega)
          have ej : fm_l Y 1 k2 = nI j := (hF2.l (by omega) (by omega) (by omega)).trans ej
          have eg : fm_l Y 0 k2 = nI g := (hF2.l (by omega) (by omega) (by omega)).trans eg
          have ej' := fz_tnat ej (by omega)
          refine lv_aload_n hx hb dX9_weekEnds_136 rfl (lv_at hl 1 rfl) ?_
          refine lv_aload_n hx hb dX9_weekEnds_137 rfl (lv_at hl 1 rfl) ?_
          refine lv_iload_n hx hb dX9_weekEnds_138 rfl (lv_at hl 4 rfl) ?_
          refine lv_iconst (v := 1) hx hb dX9_weekEnds_139 (by decide) ?_
          refine fz_retR (va_runV (As := [.int (nI k2), .int (nI 1)]) (rest := [.ref (b 0)]) ⟨hx, hb, hml, hown, hts⟩ (c_X9_loanOf l D cy b (fz_up M 1 Y) h k2 1 (by omega) (by omega)) (cwV 2 hts gX9_weekEnds_X9_loanOf rfl rfl rfl (by decide +kernel) ⟨Nat.le_of_ble_eq_true rfl, Nat.le_of_ble_eq_true rfl⟩) (fz_preV (ci := 7) (q0 := 0) hK hP rfl rfl rfl fz_T_bl (fun _ _ _ => trivial)) rfl rfl hl.1 rfl (lv_room (Nat.le_of_ble_eq_true rfl)) dX9_weekEnds_140 ⟨Nat.zero_le _, Nat.zero_le _⟩) ?_
          refine fz_top (show _ = fm_l Y 1 k2 from rfl) ?_
          refine lv_iconst (v := 0) hx hb dX9_weekEnds_143 (by decide) ?_
          refine fz_at1 (show fm_l Y 1 k2 = nI j from ej) ?_
          refine fz_retR (va_runV (As := [.int (nI j), .int (nI 0)]) (rest := []) ⟨hx, hb, hml, hown, hts⟩ (c_X9_of l D cy b (fz_up M 1 Y) h j 0 (by omega) (by omega)) (cwV 2 hts gX9_weekEnds_X9_of rfl rfl rfl (by decide +kernel) ⟨Nat.le_of_ble_eq_true rfl, Nat.le_of_ble_eq_true rfl⟩) (fz_preV (ci := 7) (q0 := 0) hK hP rfl rfl rfl fz_T_bl (fun _ _ _ => trivial)) rfl rfl hl.1 rfl (lv_room (Nat.le_of_ble_eq_true rfl)) dX9_weekEnds_144 ⟨Nat.zero_le _, Nat.zero_le _⟩) ?_
          refine fz_top (show _ = fm_t Y 0 j from rfl) ?_
          refine lv_istore (lv' := [(5, .int (fm_t Y 0 j)), (4, .int (fm_l Y 3 k2)), (0, .ref (b 0)), (1, .int r), (2, .int (nI d)), (3, .int (nI k2))]) hx hb dX9_weekEnds_147 hl (by decide) rfl (fun ls hl => ?_)
          refine lv_aload_n hx hb dX9_weekEnds_149 rfl (lv_at hl 2 rfl) ?_
          refine lv_iload_n hx hb dX9_weekEnds_150 rfl (lv_at hl 5 rfl) ?_
          refine lv_iload hx hb dX9_weekEnds_151 (lv_at hl 1 rfl) ?_
          refine lv_iload hx hb dX9_weekEnds_153 (lv_at hl 0 rfl) ?_
          refine lv_icmp_ge (tgt := 163) hx hb dX9_weekEnds_155 (by decide) (fun c_5 => ?_) (fun c_5 => ?_)
          · skip
            refine lv_iload hx hb dX9_weekEnds_163 (lv_at hl 0 rfl) ?_
            refine fz_retMV (ws' := ME cy b (M 0 0) (M 0 1) (M 0 2) (M 0 3) (M 0 4) (M 0 5) (M 0 6) (fm_pays Y k2 (fm_t Y 0 j)) (M 2) (M 3) (M 4) (M 5) h) (va_runV (As := [.int (nI k2), .int (fm_t Y 0 j)]) (rest := []) ⟨hx, hb, hml, hown, hts⟩ (c_X9_pays l D cy b (fz_up M 1 Y) h k2 (by omega) (fm_t Y 0 j) j g (by omega) (by omega) ej eg) (cwV 2 hts gX9_weekEnds_X9_pays rfl rfl rfl (by decide +kernel) ⟨Nat.le_of_ble_eq_true rfl, Nat.le_of_ble_eq_true rfl⟩) (fz_preMV (ci := 7) (q0 := 0) hK hP hD rfl rfl rfl fz_T_bl (fun _ _ _ => trivial)) rfl rfl hl.1 rfl (lv_room (Nat.le_of_ble_eq_true rfl)) dX9_weekEnds_165 ⟨Nat.zero_le _, Nat.zero_le _⟩) hP hD hS [0, 1, 2, 3, 4, 5] [] rfl rfl [true, true, true, true, true, true] (And.intro rfl (And.intro rfl (And.intro rfl (And.intro rfl (And.intro rfl (And.intro rfl trivial)))))) rfl rfl (fun H locs hP hD hS => ?_)
            have hP : va_P D vwCl (ME cy b (M 0 0) (M 0 1) (M 0 2) (M 0 3) (M 0 4) (M 0 5) (M 0 6) (fm_pays Y k2 (fm_t Y 0 j)) (M 2) (M 3) (M 4) (M 5) h) H := hP
            have hD : va_D A (ME cy b (M 0 0) (M 0 1) (M 0 2) (M 0 3) (M 0 4) (M 0 5) (M 0 6) (fm_pays Y k2 (fm_t Y 0 j)) (M 2) (M 3) (M 4) (M 5) h) := hD
            refine lv_iinc (v := nI (k2 + 1)) (lv' := [(3, .int (nI (k2 + 1))), (5, .int (fm_t Y 0 j)), (4, .int (fm_l Y 3 k2)), (0, .ref (b 0)), (1, .int r), (2, .int (nI d))]) hx hb dX9_weekEnds_168 hl (k := 5) rfl (fz_inc rfl) (by decide) rfl (fun ls hl => ?_)
            refine lv_goto (tgt := 108) hx hb dX9_weekEnds_171 (by decide) ?_
            exact ih108 (k2 + 1, fm_pays Y k2 (fm_t Y 0 j)) (show ((k2 + 1) ≤ nl) ∧ (fm_fr (M 1) (fm_pays Y k2 (fm_t Y 0 j))) ∧ (fm_c1 Z2 d (k2 + 1) = (fm_pays Y k2 (fm_t Y 0 j))) from ⟨(by omega), (fm_fr_pays ej eg (by omega) (by omega) hF2), (by rw [fm_c1, eC, if_pos c_4, ej', fm_lo, if_pos c_5])⟩) (by show nl - (k2 + 1) < nl - k2; omega) _ _ ls hP hD hS (lv_sub hl [3, 4, 5, 0] rfl)
          · skip
            refine lv_iload hx hb dX9_weekEnds_158 (lv_at hl 1 rfl) ?_
            refine lv_goto (tgt := 165) hx hb dX9_weekEnds_160 (by decide) ?_
            refine fz_retMV (ws' := ME cy b (M 0 0) (M 0 1) (M 0 2) (M 0 3) (M 0 4) (M 0 5) (M 0 6) (fm_pays Y k2 (fm_l Y 3 k2)) (M 2) (M 3) (M 4) (M 5) h) (va_runV (As := [.int (nI k2), .int (fm_l Y 3 k2)]) (rest := []) ⟨hx, hb, hml, hown, hts⟩ (c_X9_pays l D cy b (fz_up M 1 Y) h k2 (by omega) (fm_l Y 3 k2) j g (by omega) (by omega) ej eg) (cwV 2 hts gX9_weekEnds_X9_pays rfl rfl rfl (by decide +kernel) ⟨Nat.le_of_ble_eq_true rfl, Nat.le_of_ble_eq_true rfl⟩) (fz_preMV (ci := 7) (q0 := 0) hK hP hD rfl rfl rfl fz_T_bl (fun _ _ _ => trivial)) rfl rfl hl.1 rfl (lv_room (Nat.le_of_ble_eq_true rfl)) dX9_weekEnds_165 ⟨Nat.zero_le _, Nat.zero_le _⟩) hP hD hS [0, 1, 2, 3, 4, 5] [] rfl rfl [true, true, true, true, true, true] (And.intro rfl (And.intro rfl (And.intro rfl (And.intro rfl (And.intro rfl (And.intro rfl trivial)))))) rfl rfl (fun H locs hP hD hS => ?_)
            have hP : va_P D vwCl (ME cy b (M 0 0) (M 0 1) (M 0 2) (M 0 3) (M 0 4) (M 0 5) (M 0 6) (fm_pays Y k2 (fm_l Y 3 k2)) (M 2) (M 3) (M 4) (M 5) h) H := hP
            have hD : va_D A (ME cy b (M 0 0) (M 0 1) (M 0 2) (M 0 3) (M 0 4) (M 0 5) (M 0 6) (fm_pays Y k2 (fm_l Y 3 k2)) (M 2) (M 3) (M 4) (M 5) h) := hD
            refine lv_iinc (v := nI (k2 + 1)) (lv' := [(3, .int (nI (k2 + 1))), (5, .int (fm_t Y 0 j)), (4, .int (fm_l Y 3 k2)), (0, .ref (b 0)), (1, .int r), (2, .int (nI d))]) hx hb dX9_weekEnds_168 hl (k := 5) rfl (fz_inc rfl) (by decide) rfl (fun ls hl => ?_)
            refine lv_goto (tgt := 108) hx hb dX9_weekEnds_171 (by decide) ?_
            exact ih108 (k2 + 1, fm_pays Y k2 (fm_l Y 3 k2)) (show ((k2 + 1) ≤ nl) ∧ (fm_fr (M 1) (fm_pays Y k2 (fm_l Y 3 k2))) ∧ (fm_c1 Z2 d (k2 + 1) = (fm_pays Y k2 (fm_l Y 3 k2))) from ⟨(by omega), (fm_fr_pays ej eg (by omega) (by omega) hF2), (by rw [fm_c1, eC, if_pos c_4, ej', fm_lo, if_neg c_5])⟩) (by show nl - (k2 + 1) < nl - k2; omega) _ _ ls hP hD hS (lv_sub hl [3, 4, 5, 0] rfl)
  · skip
    refine lv_aload_n hx hb dX9_weekEnds_14 rfl (lv_at hl 0 rfl) ?_
    refine va_get (D := D) (ci := 7) (v := .ref (b 1)) (C := RX9) (T := TX9) (N := 13) hx hb hts inX9 hown hK hP 0 rfl rfl 0 (by decide) k_7 (fun _ h9 => h9) rfl dX9_weekEnds_15 ?_
    refine lv_bipush (v := 7) hx hb dX9_weekEnds_18 (by decide) ?_
    refine fz_iald (f := Z) hx hb hK hP 1 0 rfl rfl 7 rfl (by omega) (by decide) dX9_weekEnds_20 ?_
    refine lv_aload_n hx hb dX9_weekEnds_21 rfl (lv_at hl 0 rfl) ?_
    refine lv_iload_n hx hb dX9_weekEnds_22 rfl (lv_at hl 2 rfl) ?_
    refine lv_iconst (v := 0) hx hb dX9_weekEnds_23 (by decide) ?_
    refine fz_retR (va_runV (As := [.int (nI k), .int (nI 0)]) (rest := [.int (Z 7)]) ⟨hx, hb, hml, hown, hts⟩ (c_X9_of l D cy b (fz_up M 1 Z) h k 0 (by omega) (by omega)) (cwV 2 hts gX9_weekEnds_X9_of rfl rfl rfl (by decide +kernel) ⟨Nat.le_of_ble_eq_true rfl, Nat.le_of_ble_eq_true rfl⟩) (fz_preV (ci := 7) (q0 := 0) hK hP rfl rfl rfl fz_T_bl (fun _ _ _ => trivial)) rfl rfl hl.1 rfl (lv_room (Nat.le_of_ble_eq_true rfl)) dX9_weekEnds_24 ⟨Nat.zero_le _, Nat.zero_le _⟩) ?_
    refine fz_top (show _ = fm_t Z 0 k from rfl) ?_
    refine lv_isub hx hb dX9_weekEnds_27 ?_
    refine lv_istore_n (lv' := [(3, .int ((Z 7) - (fm_t Z 0 k))), (0, .ref (b 0)), (1, .int r), (2, .int (nI k))]) hx hb dX9_weekEnds_28 rfl hl (by decide) rfl (fun ls hl => ?_)
    refine lv_iload_n hx hb dX9_weekEnds_29 rfl (lv_at hl 0 rfl) ?_
    refine lv_if_lt (tgt := 41) hx hb dX9_weekEnds_30 (by decide) (fun c_6 => ?_) (fun c_6 => ?_)
    · skip
      refine lv_iconst (v := 0) hx hb dX9_weekEnds_41 (by decide) ?_
      refine lv_goto (tgt := 65) hx hb dX9_weekEnds_42 (by decide) ?_
      refine lv_istore (lv' := [(4, .int 0), (3, .int ((Z 7) - (fm_t Z 0 k))), (0, .ref (b 0)), (1, .int r), (2, .int (nI k))]) hx hb dX9_weekEnds_65 hl (by decide) rfl (fun ls hl => ?_)
      refine lv_aload_n hx hb dX9_weekEnds_67 rfl (lv_at hl 2 rfl) ?_
      refine lv_iload_n hx hb dX9_weekEnds_68 rfl (lv_at hl 4 rfl) ?_
      refine lv_iconst (v := 0) hx hb dX9_weekEnds_69 (by decide) ?_
      refine lv_iload hx hb dX9_weekEnds_70 (lv_at hl 0 rfl) ?_
      refine fz_retMV (ws' := ME cy b (M 0 0) (M 0 1) (M 0 2) (M 0 3) (M 0 4) (M 0 5) (M 0 6) (fm_ta Z 0 k 0) (M 2) (M 3) (M 4) (M 5) h) (va_runV (As := [.int (nI k), .int (nI 0), .int 0]) (rest := []) ⟨hx, hb, hml, hown, hts⟩ (c_X9_adds l D cy b (fz_up M 1 Z) h k 0 (by omega) (by omega) 0) (cwV 3 hts gX9_weekEnds_X9_adds rfl rfl rfl (by decide +kernel) ⟨Nat.le_of_ble_eq_true rfl, Nat.le_of_ble_eq_true rfl⟩) (fz_preMV (ci := 7) (q0 := 0) hK hP hD rfl rfl rfl fz_T_bl (fun _ _ _ => trivial)) rfl rfl hl.1 rfl (lv_room (Nat.le_of_ble_eq_true rfl)) dX9_weekEnds_72 ⟨Nat.zero_le _, Nat.zero_le _⟩) hP hD hS [0, 1, 2, 3, 4, 5] [] rfl rfl [true, true, true, true, true, true] (And.intro rfl (And.intro rfl (And.intro rfl (And.intro rfl (And.intro rfl (And.intro rfl trivial)))))) rfl rfl (fun H locs hP hD hS => ?_)
      have hP : va_P D vwCl (ME cy b (M 0 0) (M 0 1) (M 0 2) (M 0 3) (M 0 4) (M 0 5) (M 0 6) (fm_ta Z 0 k 0) (M 2) (M 3) (M 4) (M 5) h) H := hP
      have hD : va_D A (ME cy b (M 0 0) (M 0 1) (M 0 2) (M 0 3) (M 0 4) (M 0 5) (M 0 6) (fm_ta Z 0 k 0) (M 2) (M 3) (M 4) (M 5) h) := hD
      refine lv_aload_n hx hb dX9_weekEnds_75 rfl (lv_at hl 2 rfl) ?_
      refine lv_iload_n hx hb dX9_weekEnds_76 rfl (lv_at hl 4 rfl) ?_
      refine lv_iconst (v := 1) hx hb dX9_weekEnds_77 (by decide) ?_
      refine lv_iload hx hb dX9_weekEnds_78 (lv_at hl 0 rfl) ?_
      refine fz_retMV (ws' := ME cy b (M 0 0) (M 0 1) (M 0 2) (M 0 3) (M 0 4) (M 0 5) (M 0 6) (fm_ta (fm_ta Z 0 k 0) 1 k 0) (M 2) (M 3) (M 4) (M 5) h) (va_runV (As := [.int (nI k), .int (nI 1), .int 0]) (rest := []) ⟨hx, hb, hml, hown, hts⟩ (c_X9_adds l D cy b (fz_up M 1 (fm_ta Z 0 k 0)) h k 1 (by omega) (by omega) 0) (cwV 3 hts gX9_weekEnds_X9_adds rfl rfl rfl (by decide +kernel) ⟨Nat.le_of_ble_eq_true rfl, Nat.le_of_ble_eq_true rfl⟩) (fz_preMV (ci := 7) (q0 := 0) hK hP hD rfl rfl rfl fz_T_bl (fun _ _ _ => trivial)) rfl rfl hl.1 rfl (lv_room (Nat.le_of_ble_eq_true rfl)) dX9_weekEnds_80 ⟨Nat.zero_le _, Nat.zero_le _⟩) hP hD hS [0, 1, 2, 3, 4, 5] [] rfl rfl [true, true, true, true, true, true] (And.intro rfl (And.intro rfl (And.intro rfl (And.intro rfl (And.intro rfl (And.intro rfl trivial)))))) rfl rfl (fun H locs hP hD hS => ?_)
      have hP : va_P D vwCl (ME cy b (M 0 0) (M 0 1) (M 0 2) (M 0 3) (M 0 4) (M 0 5) (M 0 6) (fm_ta (fm_ta Z 0 k 0) 1 k 0) (M 2) (M 3) (M 4) (M 5) h) H := hP
      have hD : va_D A (ME cy b (M 0 0) (M 0 1) (M 0 2) (M 0 3) (M 0 4) (M 0 5) (M 0 6) (fm_ta (fm_ta Z 0 k 0) 1 k 0) (M 2) (M 3) (M 4) (M 5) h) := hD
      refine lv_iload_n hx hb dX9_weekEnds_83 rfl (lv_at hl 3 rfl) ?_
      refine lv_iload hx hb dX9_weekEnds_84 (lv_at hl 0 rfl) ?_
      refine lv_iadd hx hb dX9_weekEnds_86 ?_
      refine lv_istore_n (lv' := [(1, .int (r + 0)), (4, .int 0), (3, .int ((Z 7) - (fm_t Z 0 k))), (0, .ref (b 0)), (2, .int (nI k))]) hx hb dX9_weekEnds_87 rfl hl (by decide) rfl (fun ls hl => ?_)
      refine lv_iinc (v := nI (k + 1)) (lv' := [(2, .int (nI (k + 1))), (1, .int (r + 0)), (4, .int 0), (3, .int ((Z 7) - (fm_t Z 0 k))), (0, .ref (b 0))]) hx hb dX9_weekEnds_88 hl (k := 4) rfl (fz_inc rfl) (by decide) rfl (fun ls hl => ?_)
      refine lv_goto (tgt := 4) hx hb dX9_weekEnds_91 (by decide) ?_
      exact ih4 (k + 1, r + 0, fm_ta (fm_ta Z 0 k 0) 1 k 0) (show ((k + 1) ≤ nt) ∧ (fm_fr (M 1) (fm_ta (fm_ta Z 0 k 0) 1 k 0)) ∧ (fm_ea (M 1) nc (k + 1) = ((r + 0), (fm_ta (fm_ta Z 0 k 0) 1 k 0))) from ⟨(by omega), (fm_fr_ta (by omega) (by omega) (fm_fr_ta (by omega) (by omega) hF)), (by simp only [fm_ea, eA, fm_ern, c_1, c_6, ↓reduceIte, cond_true, cond_false])⟩) (by show nt - (k + 1) < nt - k; omega) _ _ ls hP hD hS (lv_sub hl [4, 1, 0] rfl)
    · skip
      refine lv_aload_n hx hb dX9_weekEnds_33 rfl (lv_at hl 1 rfl) ?_
      refine lv_iload_n hx hb dX9_weekEnds_34 rfl (lv_at hl 3 rfl) ?_
      refine fz_retR (va_runV (As := [.int (nI k)]) (rest := []) ⟨hx, hb, hml, hown, hts⟩ (c_X9_wasFaulty l D cy b (fz_up M 1 Z) h (nI k) nc ((hF 2 (by omega)).trans hnc) hnc30) (cwV 1 hts gX9_weekEnds_X9_wasFaulty rfl rfl rfl (by decide +kernel) ⟨Nat.le_of_ble_eq_true rfl, Nat.le_of_ble_eq_true rfl⟩) (fz_preV (ci := 7) (q0 := 0) hK hP rfl rfl rfl fz_T_bl (fun _ _ _ => trivial)) rfl rfl hl.1 rfl (lv_room (Nat.le_of_ble_eq_true rfl)) dX9_weekEnds_35 ⟨Nat.zero_le _, Nat.zero_le _⟩) ?_
      refine fz_top (show _ = fz_b (fz_flt (fm_c Z 0) (fm_c Z 2) (fm_c Z 5) nc (nI k) (Z 0)) from rfl) ?_
      refine fz_ifeqB (tgt := 45) hx hb dX9_weekEnds_38 (by decide) (fun c_7 => ?_) (fun c_7 => ?_)
      · skip
        refine lv_iload_n hx hb dX9_weekEnds_45 rfl (lv_at hl 0 rfl) ?_
        refine lv_aload_n hx hb dX9_weekEnds_46 rfl (lv_at hl 1 rfl) ?_
        refine va_get (D := D) (ci := 7) (v := .ref (b 1)) (C := RX9) (T := TX9) (N := 13) hx hb hts inX9 hown hK hP 0 rfl rfl 0 (by decide) k_7 (fun _ h9 => h9) rfl dX9_weekEnds_47 ?_
        refine lv_iconst (v := 5) hx hb dX9_weekEnds_50 (by decide) ?_
        refine fz_iald (f := Z) hx hb hK hP 1 0 rfl rfl 5 rfl (by omega) (by decide) dX9_weekEnds_51 ?_
        refine lv_icmp_ge (tgt := 59) hx hb dX9_weekEnds_52 (by decide) (fun c_8 => ?_) (fun c_8 => ?_)
        · skip
          refine lv_aload_n hx hb dX9_weekEnds_59 rfl (lv_at hl 1 rfl) ?_
          refine va_get (D := D) (ci := 7) (v := .ref (b 1)) (C := RX9) (T := TX9) (N := 13) hx hb hts inX9 hown hK hP 0 rfl rfl 0 (by decide) k_7 (fun _ h9 => h9) rfl dX9_weekEnds_60 ?_
          refine lv_iconst (v := 5) hx hb dX9_weekEnds_63 (by decide) ?_
          refine fz_iald (f := Z) hx hb hK hP 1 0 rfl rfl 5 rfl (by omega) (by decide) dX9_weekEnds_64 ?_
          refine lv_istore (lv' := [(4, .int (Z 5)), (3, .int ((Z 7) - (fm_t Z 0 k))), (0, .ref (b 0)), (1, .int r), (2, .int (nI k))]) hx hb dX9_weekEnds_65 hl (by decide) rfl (fun ls hl => ?_)
          refine lv_aload_n hx hb dX9_weekEnds_67 rfl (lv_at hl 2 rfl) ?_
          refine lv_iload_n hx hb dX9_weekEnds_68 rfl (lv_at hl 4 rfl) ?_
          refine lv_iconst (v := 0) hx hb dX9_weekEnds_69 (by decide) ?_
          refine lv_iload hx hb dX9_weekEnds_70 (lv_at hl 0 rfl) ?_
          refine fz_retMV (ws' := ME cy b (M 0 0) (M 0 1) (M 0 2) (M 0 3) (M 0 4) (M 0 5) (M 0 6) (fm_ta Z 0 k (Z 5)) (M 2) (M 3) (M 4) (M 5) h) (va_runV (As := [.int (nI k), .int (nI 0), .int (Z 5)]) (rest := []) ⟨hx, hb, hml, hown, hts⟩ (c_X9_adds l D cy b (fz_up M 1 Z) h k 0 (by omega) (by omega) (Z 5)) (cwV 3 hts gX9_weekEnds_X9_adds rfl rfl rfl (by decide +kernel) ⟨Nat.le_of_ble_eq_true rfl, Nat.le_of_ble_eq_true rfl⟩) (fz_preMV (ci := 7) (q0 := 0) hK hP hD rfl rfl rfl fz_T_bl (fun _ _ _ => trivial)) rfl rfl hl.1 rfl (lv_room (Nat.le_of_ble_eq_true rfl)) dX9_weekEnds_72 ⟨Nat.zero_le _, Nat.zero_le _⟩) hP hD hS [0, 1, 2, 3, 4, 5] [] rfl rfl [true, true, true, true, true, true] (And.intro rfl (And.intro rfl (And.intro rfl (And.intro rfl (And.intro rfl (And.intro rfl trivial)))))) rfl rfl (fun H locs hP hD hS => ?_)
          have hP : va_P D vwCl (ME cy b (M 0 0) (M 0 1) (M 0 2) (M 0 3) (M 0 4) (M 0 5) (M 0 6) (fm_ta Z 0 k (Z 5)) (M 2) (M 3) (M 4) (M 5) h) H := hP
          have hD : va_D A (ME cy b (M 0 0) (M 0 1) (M 0 2) (M 0 3) (M 0 4) (M 0 5) (M 0 6) (fm_ta Z 0 k (Z 5)) (M 2) (M 3) (M 4) (M 5) h) := hD
          refine lv_aload_n hx hb dX9_weekEnds_75 rfl (lv_at hl 2 rfl) ?_
          refine lv_iload_n hx hb dX9_weekEnds_76 rfl (lv_at hl 4 rfl) ?_
          refine lv_iconst (v := 1) hx hb dX9_weekEnds_77 (by decide) ?_
          refine lv_iload hx hb dX9_weekEnds_78 (lv_at hl 0 rfl) ?_
          refine fz_retMV (ws' := ME cy b (M 0 0) (M 0 1) (M 0 2) (M 0 3) (M 0 4) (M 0 5) (M 0 6) (fm_ta (fm_ta Z 0 k (Z 5)) 1 k (Z 5)) (M 2) (M 3) (M 4) (M 5) h) (va_runV (As := [.int (nI k), .int (nI 1), .int (Z 5)]) (rest := []) ⟨hx, hb, hml, hown, hts⟩ (c_X9_adds l D cy b (fz_up M 1 (fm_ta Z 0 k (Z 5))) h k 1 (by omega) (by omega) (Z 5)) (cwV 3 hts gX9_weekEnds_X9_adds rfl rfl rfl (by decide +kernel) ⟨Nat.le_of_ble_eq_true rfl, Nat.le_of_ble_eq_true rfl⟩) (fz_preMV (ci := 7) (q0 := 0) hK hP hD rfl rfl rfl fz_T_bl (fun _ _ _ => trivial)) rfl rfl hl.1 rfl (lv_room (Nat.le_of_ble_eq_true rfl)) dX9_weekEnds_80 ⟨Nat.zero_le _, Nat.zero_le _⟩) hP hD hS [0, 1, 2, 3, 4, 5] [] rfl rfl [true, true, true, true, true, true] (And.intro rfl (And.intro rfl (And.intro rfl (And.intro rfl (And.intro rfl (And.intro rfl trivial)))))) rfl rfl (fun H locs hP hD hS => ?_)
          have hP : va_P D vwCl (ME cy b (M 0 0) (M 0 1) (M 0 2) (M 0 3) (M 0 4) (M 0 5) (M 0 6) (fm_ta (fm_ta Z 0 k (Z 5)) 1 k (Z 5)) (M 2) (M 3) (M 4) (M 5) h) H := hP
          have hD : va_D A (ME cy b (M 0 0) (M 0 1) (M 0 2) (M 0 3) (M 0 4) (M 0 5) (M 0 6) (fm_ta (fm_ta Z 0 k (Z 5)) 1 k (Z 5)) (M 2) (M 3) (M 4) (M 5) h) := hD
          refine lv_iload_n hx hb dX9_weekEnds_83 rfl (lv_at hl 3 rfl) ?_
          refine lv_iload hx hb dX9_weekEnds_84 (lv_at hl 0 rfl) ?_
          refine lv_iadd hx hb dX9_weekEnds_86 ?_
          refine lv_istore_n (lv' := [(1, .int (r + (Z 5))), (4, .int (Z 5)), (3, .int ((Z 7) - (fm_t Z 0 k))), (0, .ref (b 0)), (2, .int (nI k))]) hx hb dX9_weekEnds_87 rfl hl (by decide) rfl (fun ls hl => ?_)
          refine lv_iinc (v := nI (k + 1)) (lv' := [(2, .int (nI (k + 1))), (1, .int (r + (Z 5))), (4, .int (Z 5)), (3, .int ((Z 7) - (fm_t Z 0 k))), (0, .ref (b 0))]) hx hb dX9_weekEnds_88 hl (k := 4) rfl (fz_inc rfl) (by decide) rfl (fun ls hl => ?_)
          refine lv_goto (tgt := 4) hx hb dX9_weekEnds_91 (by decide) ?_
          exact ih4 (k + 1, r + (Z 5), fm_ta (fm_ta Z 0 k (Z 5)) 1 k (Z 5)) (show ((k + 1) ≤ nt) ∧ (fm_fr (M 1) (fm_ta (fm_ta Z 0 k (Z 5)) 1 k (Z 5))) ∧ (fm_ea (M 1) nc (k + 1) = ((r + (Z 5)), (fm_ta (fm_ta Z 0 k (Z 5)) 1 k (Z 5)))) from ⟨(by omega), (fm_fr_ta (by omega) (by omega) (fm_fr_ta (by omega) (by omega) hF)), (by simp only [fm_ea, eA, fm_ern, c_1, c_6, c_7, c_8, ↓reduceIte, cond_true, cond_false])⟩) (by show nt - (k + 1) < nt - k; omega) _ _ ls hP hD hS (lv_sub hl [4, 1, 0] rfl)
        · skip
          refine lv_iload_n hx hb dX9_weekEnds_55 rfl (lv_at hl 0 rfl) ?_
          refine lv_goto (tgt := 65) hx hb dX9_weekEnds_56 (by decide) ?_
          refine lv_istore (lv' := [(4, .int ((Z 7) - (fm_t Z 0 k))), (3, .int ((Z 7) - (fm_t Z 0 k))), (0, .ref (b 0)), (1, .int r), (2, .int (nI k))]) hx hb dX9_weekEnds_65 hl (by decide) rfl (fun ls hl => ?_)
          refine lv_aload_n hx hb dX9_weekEnds_67 rfl (lv_at hl 2 rfl) ?_
          refine lv_iload_n hx hb dX9_weekEnds_68 rfl (lv_at hl 4 rfl) ?_
          refine lv_iconst (v := 0) hx hb dX9_weekEnds_69 (by decide) ?_
          refine lv_iload hx hb dX9_weekEnds_70 (lv_at hl 0 rfl) ?_
          refine fz_retMV (ws' := ME cy b (M 0 0) (M 0 1) (M 0 2) (M 0 3) (M 0 4) (M 0 5) (M 0 6) (fm_ta Z 0 k ((Z 7) - (fm_t Z 0 k))) (M 2) (M 3) (M 4) (M 5) h) (va_runV (As := [.int (nI k), .int (nI 0), .int ((Z 7) - (fm_t Z 0 k))]) (rest := []) ⟨hx, hb, hml, hown, hts⟩ (c_X9_adds l D cy b (fz_up M 1 Z) h k 0 (by omega) (by omega) ((Z 7) - (fm_t Z 0 k))) (cwV 3 hts gX9_weekEnds_X9_adds rfl rfl rfl (by decide +kernel) ⟨Nat.le_of_ble_eq_true rfl, Nat.le_of_ble_eq_true rfl⟩) (fz_preMV (ci := 7) (q0 := 0) hK hP hD rfl rfl rfl fz_T_bl (fun _ _ _ => trivial)) rfl rfl hl.1 rfl (lv_room (Nat.le_of_ble_eq_true rfl)) dX9_weekEnds_72 ⟨Nat.zero_le _, Nat.zero_le _⟩) hP hD hS [0, 1, 2, 3, 4, 5] [] rfl rfl [true, true, true, true, true, true] (And.intro rfl (And.intro rfl (And.intro rfl (And.intro rfl (And.intro rfl (And.intro rfl trivial)))))) rfl rfl (fun H locs hP hD hS => ?_)
          have hP : va_P D vwCl (ME cy b (M 0 0) (M 0 1) (M 0 2) (M 0 3) (M 0 4) (M 0 5) (M 0 6) (fm_ta Z 0 k ((Z 7) - (fm_t Z 0 k))) (M 2) (M 3) (M 4) (M 5) h) H := hP
          have hD : va_D A (ME cy b (M 0 0) (M 0 1) (M 0 2) (M 0 3) (M 0 4) (M 0 5) (M 0 6) (fm_ta Z 0 k ((Z 7) - (fm_t Z 0 k))) (M 2) (M 3) (M 4) (M 5) h) := hD
          refine lv_aload_n hx hb dX9_weekEnds_75 rfl (lv_at hl 2 rfl) ?_
          refine lv_iload_n hx hb dX9_weekEnds_76 rfl (lv_at hl 4 rfl) ?_
          refine lv_iconst (v := 1) hx hb dX9_weekEnds_77 (by decide) ?_
          refine lv_iload hx hb dX9_weekEnds_78 (lv_at hl 0 rfl) ?_
          refine fz_retMV (ws' := ME cy b (M 0 0) (M 0 1) (M 0 2) (M 0 3) (M 0 4) (M 0 5) (M 0 6) (fm_ta (fm_ta Z 0 k ((Z 7) - (fm_t Z 0 k))) 1 k ((Z 7) - (fm_t Z 0 k))) (M 2) (M 3) (M 4) (M 5) h) (va_runV (As := [.int (nI k), .int (nI 1), .int ((Z 7) - (fm_t Z 0 k))]) (rest := []) ⟨hx, hb, hml, hown, hts⟩ (c_X9_adds l D cy b (fz_up M 1 (fm_ta Z 0 k ((Z 7) - (fm_t Z 0 k)))) h k 1 (by omega) (by omega) ((Z 7) - (fm_t Z 0 k))) (cwV 3 hts gX9_weekEnds_X9_adds rfl rfl rfl (by decide +kernel) ⟨Nat.le_of_ble_eq_true rfl, Nat.le_of_ble_eq_true rfl⟩) (fz_preMV (ci := 7) (q0 := 0) hK hP hD rfl rfl rfl fz_T_bl (fun _ _ _ => trivial)) rfl rfl hl.1 rfl (lv_room (Nat.le_of_ble_eq_true rfl)) dX9_weekEnds_80 ⟨Nat.zero_le _, Nat.zero_le _⟩) hP hD hS [0, 1, 2, 3, 4, 5] [] rfl rfl [true, true, true, true, true, true] (And.intro rfl (And.intro rfl (And.intro rfl (And.intro rfl (And.intro rfl (And.intro rfl trivial)))))) rfl rfl (fun H locs hP hD hS => ?_)
          have hP : va_P D vwCl (ME cy b (M 0 0) (M 0 1) (M 0 2) (M 0 3) (M 0 4) (M 0 5) (M 0 6) (fm_ta (fm_ta Z 0 k ((Z 7) - (fm_t Z 0 k))) 1 k ((Z 7) - (fm_t Z 0 k))) (M 2) (M 3) (M 4) (M 5) h) H := hP
          have hD : va_D A (ME cy b (M 0 0) (M 0 1) (M 0 2) (M 0 3) (M 0 4) (M 0 5) (M 0 6) (fm_ta (fm_ta Z 0 k ((Z 7) - (fm_t Z 0 k))) 1 k ((Z 7) - (fm_t Z 0 k))) (M 2) (M 3) (M 4) (M 5) h) := hD
          refine lv_iload_n hx hb dX9_weekEnds_83 rfl (lv_at hl 3 rfl) ?_
          refine lv_iload hx hb dX9_weekEnds_84 (lv_at hl 0 rfl) ?_
          refine lv_iadd hx hb dX9_weekEnds_86 ?_
          refine lv_istore_n (lv' := [(1, .int (r + ((Z 7) - (fm_t Z 0 k)))), (4, .int ((Z 7) - (fm_t Z 0 k))), (3, .int ((Z 7) - (fm_t Z 0 k))), (0, .ref (b 0)), (2, .int (nI k))]) hx hb dX9_weekEnds_87 rfl hl (by decide) rfl (fun ls hl => ?_)
          refine lv_iinc (v := nI (k + 1)) (lv' := [(2, .int (nI (k + 1))), (1, .int (r + ((Z 7) - (fm_t Z 0 k)))), (4, .int ((Z 7) - (fm_t Z 0 k))), (3, .int ((Z 7) - (fm_t Z 0 k))), (0, .ref (b 0))]) hx hb dX9_weekEnds_88 hl (k := 4) rfl (fz_inc rfl) (by decide) rfl (fun ls hl => ?_)
          refine lv_goto (tgt := 4) hx hb dX9_weekEnds_91 (by decide) ?_
          exact ih4 (k + 1, r + ((Z 7) - (fm_t Z 0 k)), fm_ta (fm_ta Z 0 k ((Z 7) - (fm_t Z 0 k))) 1 k ((Z 7) - (fm_t Z 0 k))) (show ((k + 1) ≤ nt) ∧ (fm_fr (M 1) (fm_ta (fm_ta Z 0 k ((Z 7) - (fm_t Z 0 k))) 1 k ((Z 7) - (fm_t Z 0 k)))) ∧ (fm_ea (M 1) nc (k + 1) = ((r + ((Z 7) - (fm_t Z 0 k))), (fm_ta (fm_ta Z 0 k ((Z 7) - (fm_t Z 0 k))) 1 k ((Z 7) - (fm_t Z 0 k))))) from ⟨(by omega), (fm_fr_ta (by omega) (by omega) (fm_fr_ta (by omega) (by omega) hF)), (by simp only [fm_ea, eA, fm_ern, c_1, c_6, c_7, c_8, ↓reduceIte, cond_true, cond_false])⟩) (by show nt - (k + 1) < nt - k; omega) _ _ ls hP hD hS (lv_sub hl [4, 1, 0] rfl)
      · skip
        refine lv_iconst (v := 0) hx hb dX9_weekEnds_41 (by decide) ?_
        refine lv_goto (tgt := 65) hx hb dX9_weekEnds_42 (by decide) ?_
        refine lv_istore (lv' := [(4, .int 0), (3, .int ((Z 7) - (fm_t Z 0 k))), (0, .ref (b 0)), (1, .int r), (2, .int (nI k))]) hx hb dX9_weekEnds_65 hl (by decide) rfl (fun ls hl => ?_)
        refine lv_aload_n hx hb dX9_weekEnds_67 rfl (lv_at hl 2 rfl) ?_
        refine lv_iload_n hx hb dX9_weekEnds_68 rfl (lv_at hl 4 rfl) ?_
        refine lv_iconst (v := 0) hx hb dX9_weekEnds_69 (by decide) ?_
        refine lv_iload hx hb dX9_weekEnds_70 (lv_at hl 0 rfl) ?_
        refine fz_retMV (ws' := ME cy b (M 0 0) (M 0 1) (M 0 2) (M 0 3) (M 0 4) (M 0 5) (M 0 6) (fm_ta Z 0 k 0) (M 2) (M 3) (M 4) (M 5) h) (va_runV (As := [.int (nI k), .int (nI 0), .int 0]) (rest := []) ⟨hx, hb, hml, hown, hts⟩ (c_X9_adds l D cy b (fz_up M 1 Z) h k 0 (by omega) (by omega) 0) (cwV 3 hts gX9_weekEnds_X9_adds rfl rfl rfl (by decide +kernel) ⟨Nat.le_of_ble_eq_true rfl, Nat.le_of_ble_eq_true rfl⟩) (fz_preMV (ci := 7) (q0 := 0) hK hP hD rfl rfl rfl fz_T_bl (fun _ _ _ => trivial)) rfl rfl hl.1 rfl (lv_room (Nat.le_of_ble_eq_true rfl)) dX9_weekEnds_72 ⟨Nat.zero_le _, Nat.zero_le _⟩) hP hD hS [0, 1, 2, 3, 4, 5] [] rfl rfl [true, true, true, true, true, true] (And.intro rfl (And.intro rfl (And.intro rfl (And.intro rfl (And.intro rfl (And.intro rfl trivial)))))) rfl rfl (fun H locs hP hD hS => ?_)
        have hP : va_P D vwCl (ME cy b (M 0 0) (M 0 1) (M 0 2) (M 0 3) (M 0 4) (M 0 5) (M 0 6) (fm_ta Z 0 k 0) (M 2) (M 3) (M 4) (M 5) h) H := hP
        have hD : va_D A (ME cy b (M 0 0) (M 0 1) (M 0 2) (M 0 3) (M 0 4) (M 0 5) (M 0 6) (fm_ta Z 0 k 0) (M 2) (M 3) (M 4) (M 5) h) := hD
        refine lv_aload_n hx hb dX9_weekEnds_75 rfl (lv_at hl 2 rfl) ?_
        refine lv_iload_n hx hb dX9_weekEnds_76 rfl (lv_at hl 4 rfl) ?_
        refine lv_iconst (v := 1) hx hb dX9_weekEnds_77 (by decide) ?_
        refine lv_iload hx hb dX9_weekEnds_78 (lv_at hl 0 rfl) ?_
        refine fz_retMV (ws' := ME cy b (M 0 0) (M 0 1) (M 0 2) (M 0 3) (M 0 4) (M 0 5) (M 0 6) (fm_ta (fm_ta Z 0 k 0) 1 k 0) (M 2) (M 3) (M 4) (M 5) h) (va_runV (As := [.int (nI k), .int (nI 1), .int 0]) (rest := []) ⟨hx, hb, hml, hown, hts⟩ (c_X9_adds l D cy b (fz_up M 1 (fm_ta Z 0 k 0)) h k 1 (by omega) (by omega) 0) (cwV 3 hts gX9_weekEnds_X9_adds rfl rfl rfl (by decide +kernel) ⟨Nat.le_of_ble_eq_true rfl, Nat.le_of_ble_eq_true rfl⟩) (fz_preMV (ci := 7) (q0 := 0) hK hP hD rfl rfl rfl fz_T_bl (fun _ _ _ => trivial)) rfl rfl hl.1 rfl (lv_room (Nat.le_of_ble_eq_true rfl)) dX9_weekEnds_80 ⟨Nat.zero_le _, Nat.zero_le _⟩) hP hD hS [0, 1, 2, 3, 4, 5] [] rfl rfl [true, true, true, true, true, true] (And.intro rfl (And.intro rfl (And.intro rfl (And.intro rfl (And.intro rfl (And.intro rfl trivial)))))) rfl rfl (fun H locs hP hD hS => ?_)
        have hP : va_P D vwCl (ME cy b (M 0 0) (M 0 1) (M 0 2) (M 0 3) (M 0 4) (M 0 5) (M 0 6) (fm_ta (fm_ta Z 0 k 0) 1 k 0) (M 2) (M 3) (M 4) (M 5) h) H := hP
        have hD : va_D A (ME cy b (M 0 0) (M 0 1) (M 0 2) (M 0 3) (M 0 4) (M 0 5) (M 0 6) (fm_ta (fm_ta Z 0 k 0) 1 k 0) (M 2) (M 3) (M 4) (M 5) h) := hD
        refine lv_iload_n hx hb dX9_weekEnds_83 rfl (lv_at hl 3 rfl) ?_
        refine lv_iload hx hb dX9_weekEnds_84 (lv_at hl 0 rfl) ?_
        refine lv_iadd hx hb dX9_weekEnds_86 ?_
        refine lv_istore_n (lv' := [(1, .int (r + 0)), (4, .int 0), (3, .int ((Z 7) - (fm_t Z 0 k))), (0, .ref (b 0)), (2, .int (nI k))]) hx hb dX9_weekEnds_87 rfl hl (by decide) rfl (fun ls hl => ?_)
        refine lv_iinc (v := nI (k + 1)) (lv' := [(2, .int (nI (k + 1))), (1, .int (r + 0)), (4, .int 0), (3, .int ((Z 7) - (fm_t Z 0 k))), (0, .ref (b 0))]) hx hb dX9_weekEnds_88 hl (k := 4) rfl (fz_inc rfl) (by decide) rfl (fun ls hl => ?_)
        refine lv_goto (tgt := 4) hx hb dX9_weekEnds_91 (by decide) ?_
        exact ih4 (k + 1, r + 0, fm_ta (fm_ta Z 0 k 0) 1 k 0) (show ((k + 1) ≤ nt) ∧ (fm_fr (M 1) (fm_ta (fm_ta Z 0 k 0) 1 k 0)) ∧ (fm_ea (M 1) nc (k + 1) = ((r + 0), (fm_ta (fm_ta Z 0 k 0) 1 k 0))) from ⟨(by omega), (fm_fr_ta (by omega) (by omega) (fm_fr_ta (by omega) (by omega) hF)), (by simp only [fm_ea, eA, fm_ern, c_1, c_6, c_7, ↓reduceIte, cond_true, cond_false])⟩) (by show nt - (k + 1) < nt - k; omega) _ _ ls hP hD hS (lv_sub hl [4, 1, 0] rfl)
set_option maxHeartbeats 4000000 in
set_option maxRecDepth 100000 in
/-- the model: endsOne -/
theorem c_X9_endsOne (l : Launch) (D : va_G) (cy : Nat → ClassId) (b : Nat → Nat) (M : Nat → Nat → Int32) (h : Int64) (nt nc nl wk : Nat) (wf : fm_wf (M 1) nt nc nl wk) : fz_MI l yX9_endsOne wsX9_endsOne 3 70 D cy [.ref (b 0)] (MW cy b M h) fz_T ((fm_ends1 M nt nc nl wk).1) (MW cy b ((fm_ends1 M nt nc nl wk).2) h) := by
  refine Met.ofW (cc := cX9_endsOne) (maxL := 1) (ret := (some .int)) (by decide) rfl ?_
  intro p e s m args below meth c s₁ B hml hv
  obtain ⟨rfl, hP, hK, hD0, hE⟩ := hv
  have hx := B.exec
  have hb := B.bytes
  have hr := B.returns
  have hts := atoms_spec (ws := wsX9_endsOne) B.pre
  have hown : s.vm.findClass RX9 = some m.cls := findClass_of_methodNamed B.named
  have hlocks := B.notSynchronized
  have hD := fz_self hD0
  generalize hAe : fz_in (MW cy b M h) = A at hD ⊢
  have hS : va_S A s.heap s.heap [] := va_S.rf
  have hl := lv_entry ([.ref (b 0)]) (n := 1) (Nat.le_of_ble_eq_true rfl)
  rw [lg_entry_eq]
  generalize (lg_sl ([.ref (b 0)]) ++ List.replicate (1 - (lg_sl ([.ref (b 0)])).length) Slot.unset).toArray = ls at hl ⊢
  have hl : lv_has ls 1 [(0, .ref (b 0))] := hl
  have k_7 := hts (.fieldLink RX9 7 "FreezeCreditsModel" "now" "[I") (by decide +kernel)
  have inX9 : ∀ w ∈ u_ws RX9 TX9 13, w ∈ wsX9_endsOne := by decide +kernel
  have k_47 := hts (.fieldLink RX9 47 "FreezeCreditsModel" "answer" "I") (by decide +kernel)
  obtain ⟨hnt, hnt6, hnc, hnc30, hnl, hnl12, hwk, hwk39, hT, hG, hB, hZo⟩ := id wf
  refine lv_aload_n hx hb dX9_endsOne_0 rfl (lv_at hl 0 rfl) ?_
  refine va_get (D := D) (ci := 7) (v := .ref (b 1)) (C := RX9) (T := TX9) (N := 13) hx hb hts inX9 hown hK hP 0 rfl rfl 0 (by decide) k_7 (fun _ h9 => h9) rfl dX9_endsOne_1 ?_
  refine lv_iconst (v := 0) hx hb dX9_endsOne_4 (by decide) ?_
  refine fz_iald (f := M 1) hx hb hK hP 1 0 rfl rfl 0 rfl (by omega) (by decide) dX9_endsOne_5 ?_
  refine lv_bipush (v := 39) hx hb dX9_endsOne_6 (by decide) ?_
  refine fz_neN (tgt := 13) hx hb wk 39 hwk rfl dX9_endsOne_8 (by decide) (by omega) (by omega) (fun c_1 => ?_) (fun c_1 => ?_)
  · skip
    refine lv_aload_n hx hb dX9_endsOne_13 rfl (lv_at hl 0 rfl) ?_
    refine lv_aload_n hx hb dX9_endsOne_14 rfl (lv_at hl 0 rfl) ?_
    refine fz_retM (ws' := ME cy b (M 0 0) (M 0 1) (M 0 2) (M 0 3) (M 0 4) (M 0 5) (M 0 6) ((fm_week (M 1) nt nc nl wk).2) (M 2) (M 3) (M 4) (M 5) h) (va_runV (As := []) (rest := [.ref (b 0)]) ⟨hx, hb, hml, hown, hts⟩ (c_X9_weekEnds l D cy b M h nt nc nl wk wf) (cwV 0 hts gX9_endsOne_X9_weekEnds rfl rfl rfl (by decide +kernel) ⟨Nat.le_of_ble_eq_true rfl, Nat.le_of_ble_eq_true rfl⟩) (fz_preMV (ci := 7) (q0 := 0) hK hP hD rfl rfl rfl fz_T_bl (fun _ _ _ => trivial)) rfl rfl hl.1 rfl (lv_room (Nat.le_of_ble_eq_true rfl)) dX9_endsOne_15 ⟨Nat.zero_le _, Nat.zero_le _⟩) hP hD hS [0, 1, 2, 3, 4, 5] [] rfl rfl [true, true, true, true, true, true] (And.intro rfl (And.intro rfl (And.intro rfl (And.intro rfl (And.intro rfl (And.intro rfl trivial)))))) rfl rfl (fun H locs hP hD hS => ?_)
    have hP : va_P D vwCl (ME cy b (M 0 0) (M 0 1) (M 0 2) (M 0 3) (M 0 4) (M 0 5) (M 0 6) ((fm_week (M 1) nt nc nl wk).2) (M 2) (M 3) (M 4) (M 5) h) H := hP
    have hD : va_D A (ME cy b (M 0 0) (M 0 1) (M 0 2) (M 0 3) (M 0 4) (M 0 5) (M 0 6) ((fm_week (M 1) nt nc nl wk).2) (M 2) (M 3) (M 4) (M 5) h) := hD
    refine fz_top (show _ = (fm_week (M 1) nt nc nl wk).1 from rfl) ?_
    refine va_put (D := D) (ci := 7) (v := .int ((fm_week (M 1) nt nc nl wk).1)) (ty := tyX9 7) (C := RX9) (T := TX9) (N := 13) hx hb hts inX9 tyX9 tyX9_ok nmX9 hown hK hP hD hS 0 rfl rfl 7 (by decide) k_47 (fun _ h9 => h9) rfl (by decide +kernel) rfl rfl (Nat.le_of_ble_eq_true rfl) dX9_endsOne_18 (fun H locs hP hD hS => ?_)
    have hP : va_P D vwCl (ME cy b (M 0 0) (M 0 1) (M 0 2) ((fm_week (M 1) nt nc nl wk).1) (M 0 4) (M 0 5) (M 0 6) ((fm_week (M 1) nt nc nl wk).2) (M 2) (M 3) (M 4) (M 5) h) H := hP
    have hD : va_D A (ME cy b (M 0 0) (M 0 1) (M 0 2) ((fm_week (M 1) nt nc nl wk).1) (M 0 4) (M 0 5) (M 0 6) ((fm_week (M 1) nt nc nl wk).2) (M 2) (M 3) (M 4) (M 5) h) := hD
    refine lv_iconst (v := 0) hx hb dX9_endsOne_21 (by decide) ?_
    have eF : fm_ends1 M nt nc nl wk = (0, fz_up (fz_up M 0 (upd (M 0) 3 ((fm_week (M 1) nt nc nl wk).1))) 1 ((fm_week (M 1) nt nc nl wk).2)) := by simp only [fm_ends1, c_1, ↓reduceIte, Bool.false_eq_true]
    exact W.iret (v := 0) hx hb hr (fun t9 ht9 hW9 => ⟨⟨_, (), rfl, (by rw [eF] <;> rfl), fz_to ht9 (by rw [eF]; exact hP)⟩, hS.F ht9⟩) hS.2.2 dX9_endsOne_22
  · skip
    refine lv_iconst (v := 1) hx hb dX9_endsOne_11 (by decide) ?_
    have eF : fm_ends1 M nt nc nl wk = (1, M) := by simp only [fm_ends1, c_1, ↓reduceIte, Bool.false_eq_true]
    exact W.iret (v := 1) hx hb hr (fun t9 ht9 hW9 => ⟨⟨_, (), rfl, (by rw [eF] <;> rfl), fz_to ht9 (by rw [eF]; exact hP)⟩, hS.F ht9⟩) hS.2.2 dX9_endsOne_12
set_option maxHeartbeats 4000000 in
set_option maxRecDepth 100000 in
/-- the model: asks -/
theorem c_X9_asks (l : Launch) (D : va_G) (cy : Nat → ClassId) (b : Nat → Nat) (M : Nat → Nat → Int32) (h : Int64) (nt nc nl wk : Nat) (wf : fm_wf (M 1) nt nc nl wk) (t x : Int32) : fz_MI l yX9_asks wsX9_asks 2 43 D cy [.ref (b 0), .int t, .int x] (MW cy b M h) fz_T ((fm_asks M nc t x).1) (MW cy b ((fm_asks M nc t x).2) h) := by
  refine Met.ofW (cc := cX9_asks) (maxL := 4) (ret := (some .int)) (by decide) rfl ?_
  intro p e s m args below meth c s₁ B hml hv
  obtain ⟨rfl, hP, hK, hD0, hE⟩ := hv
  have hx := B.exec
  have hb := B.bytes
  have hr := B.returns
  have hts := atoms_spec (ws := wsX9_asks) B.pre
  have hown : s.vm.findClass RX9 = some m.cls := findClass_of_methodNamed B.named
  have hlocks := B.notSynchronized
  have hD := fz_self hD0
  generalize hAe : fz_in (MW cy b M h) = A at hD ⊢
  have hS : va_S A s.heap s.heap [] := va_S.rf
  have hl := lv_entry ([.ref (b 0), .int t, .int x]) (n := 4) (Nat.le_of_ble_eq_true rfl)
  rw [lg_entry_eq]
  generalize (lg_sl ([.ref (b 0), .int t, .int x]) ++ List.replicate (4 - (lg_sl ([.ref (b 0), .int t, .int x])).length) Slot.unset).toArray = ls at hl ⊢
  have hl : lv_has ls 4 [(0, .ref (b 0)), (1, .int t), (2, .int x)] := hl
  have k_7 := hts (.fieldLink RX9 7 "FreezeCreditsModel" "now" "[I") (by decide +kernel)
  have inX9 : ∀ w ∈ u_ws RX9 TX9 13, w ∈ wsX9_asks := by decide +kernel
  have k_47 := hts (.fieldLink RX9 47 "FreezeCreditsModel" "answer" "I") (by decide +kernel)
  obtain ⟨hnt, hnt6, hnc, hnc30, hnl, hnl12, hwk, hwk39, hT, hG, hB, hZo⟩ := id wf
  refine lv_aload_n hx hb dX9_asks_0 rfl (lv_at hl 0 rfl) ?_
  refine lv_iload_n hx hb dX9_asks_1 rfl (lv_at hl 1 rfl) ?_
  refine fz_retR (va_runV (As := [.int t]) (rest := []) ⟨hx, hb, hml, hown, hts⟩ (c_X9_isTeam l D cy b M h t nt hnt (by omega)) (cwV 1 hts gX9_asks_X9_isTeam rfl rfl rfl (by decide +kernel) ⟨Nat.le_of_ble_eq_true rfl, Nat.le_of_ble_eq_true rfl⟩) (fz_preV (ci := 7) (q0 := 0) hK hP rfl rfl rfl fz_T_bl (fun _ _ _ => trivial)) rfl rfl hl.1 rfl (lv_room (Nat.le_of_ble_eq_true rfl)) dX9_asks_2 ⟨Nat.zero_le _, Nat.zero_le _⟩) ?_
  refine fz_ifneB (tgt := 10) hx hb dX9_asks_5 (by decide) (fun c_1 => ?_) (fun c_1 => ?_)
  · skip
    refine lv_iload_n hx hb dX9_asks_10 rfl (lv_at hl 2 rfl) ?_
    refine lv_iconst (v := 1) hx hb dX9_asks_11 (by decide) ?_
    refine lv_bipush (v := 9) hx hb dX9_asks_12 (by decide) ?_
    refine fz_retR (va_runS (As := [.int x, .int 1, .int 9]) (rest := []) ⟨hx, hb, hml, hown, hts⟩ (c_X9_in l D cy x 1 9) (va_cwS 3 hts gX9_asks_X9_in rfl rfl rfl (by decide +kernel) ⟨Nat.le_of_ble_eq_true rfl, Nat.le_of_ble_eq_true rfl⟩) (fz_preS hK (fz_nil) fz_T_bl (fun _ _ _ => trivial)) rfl rfl hl.1 rfl (lv_room (Nat.le_of_ble_eq_true rfl)) dX9_asks_14 ⟨Nat.zero_le _, Nat.zero_le _⟩) ?_
    refine fz_ifneB (tgt := 22) hx hb dX9_asks_17 (by decide) (fun c_2 => ?_) (fun c_2 => ?_)
    · skip
      refine lv_aload_n hx hb dX9_asks_22 rfl (lv_at hl 0 rfl) ?_
      refine va_get (D := D) (ci := 7) (v := .ref (b 1)) (C := RX9) (T := TX9) (N := 13) hx hb hts inX9 hown hK hP 0 rfl rfl 0 (by decide) k_7 (fun _ h9 => h9) rfl dX9_asks_23 ?_
      refine lv_iconst (v := 2) hx hb dX9_asks_26 (by decide) ?_
      refine fz_iald (f := M 1) hx hb hK hP 1 0 rfl rfl 2 rfl (by omega) (by decide) dX9_asks_27 ?_
      refine lv_bipush (v := 30) hx hb dX9_asks_28 (by decide) ?_
      refine fz_neN (tgt := 35) hx hb nc 30 hnc rfl dX9_asks_30 (by decide) (by omega) (by omega) (fun c_3 => ?_) (fun c_3 => ?_)
      · skip
        refine lv_aload_n hx hb dX9_asks_35 rfl (lv_at hl 0 rfl) ?_
        refine va_get (D := D) (ci := 7) (v := .ref (b 1)) (C := RX9) (T := TX9) (N := 13) hx hb hts inX9 hown hK hP 0 rfl rfl 0 (by decide) k_7 (fun _ h9 => h9) rfl dX9_asks_36 ?_
        refine lv_iconst (v := 2) hx hb dX9_asks_39 (by decide) ?_
        refine fz_iald (f := M 1) hx hb hK hP 1 0 rfl rfl 2 rfl (by omega) (by decide) dX9_asks_40 ?_
        refine lv_istore_n (lv' := [(3, .int (M 1 2)), (0, .ref (b 0)), (1, .int t), (2, .int x)]) hx hb dX9_asks_41 rfl hl (by decide) rfl (fun ls hl => ?_)
        refine lv_aload_n hx hb dX9_asks_42 rfl (lv_at hl 1 rfl) ?_
        refine lv_iload_n hx hb dX9_asks_43 rfl (lv_at hl 0 rfl) ?_
        refine lv_iconst (v := 0) hx hb dX9_asks_44 (by decide) ?_
        refine lv_iload_n hx hb dX9_asks_45 rfl (lv_at hl 2 rfl) ?_
        refine fz_at2 (show M 1 2 = nI nc from hnc) ?_
        refine fz_retMV (ws' := ME cy b (M 0 0) (M 0 1) (M 0 2) (M 0 3) (M 0 4) (M 0 5) (M 0 6) (fm_cs (M 1) 0 nc t) (M 2) (M 3) (M 4) (M 5) h) (va_runV (As := [.int (nI nc), .int (nI 0), .int t]) (rest := []) ⟨hx, hb, hml, hown, hts⟩ (c_X9_tells l D cy b M h nc 0 (by omega) (by omega) t) (cwV 3 hts gX9_asks_X9_tells rfl rfl rfl (by decide +kernel) ⟨Nat.le_of_ble_eq_true rfl, Nat.le_of_ble_eq_true rfl⟩) (fz_preMV (ci := 7) (q0 := 0) hK hP hD rfl rfl rfl fz_T_bl (fun _ _ _ => trivial)) rfl rfl hl.1 rfl (lv_room (Nat.le_of_ble_eq_true rfl)) dX9_asks_46 ⟨Nat.zero_le _, Nat.zero_le _⟩) hP hD hS [0, 1, 2, 3, 4, 5] [] rfl rfl [true, true, true, true, true, true] (And.intro rfl (And.intro rfl (And.intro rfl (And.intro rfl (And.intro rfl (And.intro rfl trivial)))))) rfl rfl (fun H locs hP hD hS => ?_)
        have hP : va_P D vwCl (ME cy b (M 0 0) (M 0 1) (M 0 2) (M 0 3) (M 0 4) (M 0 5) (M 0 6) (fm_cs (M 1) 0 nc t) (M 2) (M 3) (M 4) (M 5) h) H := hP
        have hD : va_D A (ME cy b (M 0 0) (M 0 1) (M 0 2) (M 0 3) (M 0 4) (M 0 5) (M 0 6) (fm_cs (M 1) 0 nc t) (M 2) (M 3) (M 4) (M 5) h) := hD
        refine lv_aload_n hx hb dX9_asks_49 rfl (lv_at hl 1 rfl) ?_
        refine lv_iload_n hx hb dX9_asks_50 rfl (lv_at hl 0 rfl) ?_
        refine lv_iconst (v := 1) hx hb dX9_asks_51 (by decide) ?_
        refine lv_iload_n hx hb dX9_asks_52 rfl (lv_at hl 3 rfl) ?_
        refine fz_at2 (show M 1 2 = nI nc from hnc) ?_
        refine fz_retMV (ws' := ME cy b (M 0 0) (M 0 1) (M 0 2) (M 0 3) (M 0 4) (M 0 5) (M 0 6) (fm_cs (fm_cs (M 1) 0 nc t) 1 nc x) (M 2) (M 3) (M 4) (M 5) h) (va_runV (As := [.int (nI nc), .int (nI 1), .int x]) (rest := []) ⟨hx, hb, hml, hown, hts⟩ (c_X9_tells l D cy b (fz_up M 1 (fm_cs (M 1) 0 nc t)) h nc 1 (by omega) (by omega) x) (cwV 3 hts gX9_asks_X9_tells rfl rfl rfl (by decide +kernel) ⟨Nat.le_of_ble_eq_true rfl, Nat.le_of_ble_eq_true rfl⟩) (fz_preMV (ci := 7) (q0 := 0) hK hP hD rfl rfl rfl fz_T_bl (fun _ _ _ => trivial)) rfl rfl hl.1 rfl (lv_room (Nat.le_of_ble_eq_true rfl)) dX9_asks_53 ⟨Nat.zero_le _, Nat.zero_le _⟩) hP hD hS [0, 1, 2, 3, 4, 5] [] rfl rfl [true, true, true, true, true, true] (And.intro rfl (And.intro rfl (And.intro rfl (And.intro rfl (And.intro rfl (And.intro rfl trivial)))))) rfl rfl (fun H locs hP hD hS => ?_)
        have hP : va_P D vwCl (ME cy b (M 0 0) (M 0 1) (M 0 2) (M 0 3) (M 0 4) (M 0 5) (M 0 6) (fm_cs (fm_cs (M 1) 0 nc t) 1 nc x) (M 2) (M 3) (M 4) (M 5) h) H := hP
        have hD : va_D A (ME cy b (M 0 0) (M 0 1) (M 0 2) (M 0 3) (M 0 4) (M 0 5) (M 0 6) (fm_cs (fm_cs (M 1) 0 nc t) 1 nc x) (M 2) (M 3) (M 4) (M 5) h) := hD
        refine lv_aload_n hx hb dX9_asks_56 rfl (lv_at hl 1 rfl) ?_
        refine lv_iload_n hx hb dX9_asks_57 rfl (lv_at hl 0 rfl) ?_
        refine lv_iconst (v := 2) hx hb dX9_asks_58 (by decide) ?_
        refine lv_iconst (v := 0) hx hb dX9_asks_59 (by decide) ?_
        refine fz_at2 (show M 1 2 = nI nc from hnc) ?_
        refine fz_retMV (ws' := ME cy b (M 0 0) (M 0 1) (M 0 2) (M 0 3) (M 0 4) (M 0 5) (M 0 6) (fm_cs (fm_cs (fm_cs (M 1) 0 nc t) 1 nc x) 2 nc 0) (M 2) (M 3) (M 4) (M 5) h) (va_runV (As := [.int (nI nc), .int (nI 2), .int 0]) (rest := []) ⟨hx, hb, hml, hown, hts⟩ (c_X9_tells l D cy b (fz_up M 1 (fm_cs (fm_cs (M 1) 0 nc t) 1 nc x)) h nc 2 (by omega) (by omega) 0) (cwV 3 hts gX9_asks_X9_tells rfl rfl rfl (by decide +kernel) ⟨Nat.le_of_ble_eq_true rfl, Nat.le_of_ble_eq_true rfl⟩) (fz_preMV (ci := 7) (q0 := 0) hK hP hD rfl rfl rfl fz_T_bl (fun _ _ _ => trivial)) rfl rfl hl.1 rfl (lv_room (Nat.le_of_ble_eq_true rfl)) dX9_asks_60 ⟨Nat.zero_le _, Nat.zero_le _⟩) hP hD hS [0, 1, 2, 3, 4, 5] [] rfl rfl [true, true, true, true, true, true] (And.intro rfl (And.intro rfl (And.intro rfl (And.intro rfl (And.intro rfl (And.intro rfl trivial)))))) rfl rfl (fun H locs hP hD hS => ?_)
        have hP : va_P D vwCl (ME cy b (M 0 0) (M 0 1) (M 0 2) (M 0 3) (M 0 4) (M 0 5) (M 0 6) (fm_cs (fm_cs (fm_cs (M 1) 0 nc t) 1 nc x) 2 nc 0) (M 2) (M 3) (M 4) (M 5) h) H := hP
        have hD : va_D A (ME cy b (M 0 0) (M 0 1) (M 0 2) (M 0 3) (M 0 4) (M 0 5) (M 0 6) (fm_cs (fm_cs (fm_cs (M 1) 0 nc t) 1 nc x) 2 nc 0) (M 2) (M 3) (M 4) (M 5) h) := hD
        refine lv_aload_n hx hb dX9_asks_63 rfl (lv_at hl 1 rfl) ?_
        refine lv_iload_n hx hb dX9_asks_64 rfl (lv_at hl 0 rfl) ?_
        refine lv_iconst (v := 3) hx hb dX9_asks_65 (by decide) ?_
        refine lv_iconst (v := 0) hx hb dX9_asks_66 (by decide) ?_
        refine fz_at2 (show M 1 2 = nI nc from hnc) ?_
        refine fz_retMV (ws' := ME cy b (M 0 0) (M 0 1) (M 0 2) (M 0 3) (M 0 4) (M 0 5) (M 0 6) (fm_cs (fm_cs (fm_cs (fm_cs (M 1) 0 nc t) 1 nc x) 2 nc 0) 3 nc 0) (M 2) (M 3) (M 4) (M 5) h) (va_runV (As := [.int (nI nc), .int (nI 3), .int 0]) (rest := []) ⟨hx, hb, hml, hown, hts⟩ (c_X9_tells l D cy b (fz_up M 1 (fm_cs (fm_cs (fm_cs (M 1) 0 nc t) 1 nc x) 2 nc 0)) h nc 3 (by omega) (by omega) 0) (cwV 3 hts gX9_asks_X9_tells rfl rfl rfl (by decide +kernel) ⟨Nat.le_of_ble_eq_true rfl, Nat.le_of_ble_eq_true rfl⟩) (fz_preMV (ci := 7) (q0 := 0) hK hP hD rfl rfl rfl fz_T_bl (fun _ _ _ => trivial)) rfl rfl hl.1 rfl (lv_room (Nat.le_of_ble_eq_true rfl)) dX9_asks_67 ⟨Nat.zero_le _, Nat.zero_le _⟩) hP hD hS [0, 1, 2, 3, 4, 5] [] rfl rfl [true, true, true, true, true, true] (And.intro rfl (And.intro rfl (And.intro rfl (And.intro rfl (And.intro rfl (And.intro rfl trivial)))))) rfl rfl (fun H locs hP hD hS => ?_)
        have hP : va_P D vwCl (ME cy b (M 0 0) (M 0 1) (M 0 2) (M 0 3) (M 0 4) (M 0 5) (M 0 6) (fm_cs (fm_cs (fm_cs (fm_cs (M 1) 0 nc t) 1 nc x) 2 nc 0) 3 nc 0) (M 2) (M 3) (M 4) (M 5) h) H := hP
        have hD : va_D A (ME cy b (M 0 0) (M 0 1) (M 0 2) (M 0 3) (M 0 4) (M 0 5) (M 0 6) (fm_cs (fm_cs (fm_cs (fm_cs (M 1) 0 nc t) 1 nc x) 2 nc 0) 3 nc 0) (M 2) (M 3) (M 4) (M 5) h) := hD
        refine lv_aload_n hx hb dX9_asks_70 rfl (lv_at hl 1 rfl) ?_
        refine lv_iload_n hx hb dX9_asks_71 rfl (lv_at hl 0 rfl) ?_
        refine lv_iconst (v := 4) hx hb dX9_asks_72 (by decide) ?_
        refine lv_aload_n hx hb dX9_asks_73 rfl (lv_at hl 1 rfl) ?_
        refine va_get (D := D) (ci := 7) (v := .ref (b 1)) (C := RX9) (T := TX9) (N := 13) hx hb hts inX9 hown hK hP 0 rfl rfl 0 (by decide) k_7 (fun _ h9 => h9) rfl dX9_asks_74 ?_
        refine lv_iconst (v := 0) hx hb dX9_asks_77 (by decide) ?_
        refine fz_iald (f := fm_cs (fm_cs (fm_cs (fm_cs (M 1) 0 nc t) 1 nc x) 2 nc 0) 3 nc 0) hx hb hK hP 1 0 rfl rfl 0 rfl (by omega) (by decide) dX9_asks_78 ?_
        refine fz_top (show _ = M 1 0 from (by simp only [fm_cs_0])) ?_
        refine fz_at2 (show M 1 2 = nI nc from hnc) ?_
        refine fz_retMV (ws' := ME cy b (M 0 0) (M 0 1) (M 0 2) (M 0 3) (M 0 4) (M 0 5) (M 0 6) (fm_cs (fm_cs (fm_cs (fm_cs (fm_cs (M 1) 0 nc t) 1 nc x) 2 nc 0) 3 nc 0) 4 nc (M 1 0)) (M 2) (M 3) (M 4) (M 5) h) (va_runV (As := [.int (nI nc), .int (nI 4), .int (M 1 0)]) (rest := []) ⟨hx, hb, hml, hown, hts⟩ (c_X9_tells l D cy b (fz_up M 1 (fm_cs (fm_cs (fm_cs (fm_cs (M 1) 0 nc t) 1 nc x) 2 nc 0) 3 nc 0)) h nc 4 (by omega) (by omega) (M 1 0)) (cwV 3 hts gX9_asks_X9_tells rfl rfl rfl (by decide +kernel) ⟨Nat.le_of_ble_eq_true rfl, Nat.le_of_ble_eq_true rfl⟩) (fz_preMV (ci := 7) (q0 := 0) hK hP hD rfl rfl rfl fz_T_bl (fun _ _ _ => trivial)) rfl rfl hl.1 rfl (lv_room (Nat.le_of_ble_eq_true rfl)) dX9_asks_79 ⟨Nat.zero_le _, Nat.zero_le _⟩) hP hD hS [0, 1, 2, 3, 4, 5] [] rfl rfl [true, true, true, true, true, true] (And.intro rfl (And.intro rfl (And.intro rfl (And.intro rfl (And.intro rfl (And.intro rfl trivial)))))) rfl rfl (fun H locs hP hD hS => ?_)
        have hP : va_P D vwCl (ME cy b (M 0 0) (M 0 1) (M 0 2) (M 0 3) (M 0 4) (M 0 5) (M 0 6) (fm_cs (fm_cs (fm_cs (fm_cs (fm_cs (M 1) 0 nc t) 1 nc x) 2 nc 0) 3 nc 0) 4 nc (M 1 0)) (M 2) (M 3) (M 4) (M 5) h) H := hP
        have hD : va_D A (ME cy b (M 0 0) (M 0 1) (M 0 2) (M 0 3) (M 0 4) (M 0 5) (M 0 6) (fm_cs (fm_cs (fm_cs (fm_cs (fm_cs (M 1) 0 nc t) 1 nc x) 2 nc 0) 3 nc 0) 4 nc (M 1 0)) (M 2) (M 3) (M 4) (M 5) h) := hD
        refine lv_aload_n hx hb dX9_asks_82 rfl (lv_at hl 1 rfl) ?_
        refine lv_iload_n hx hb dX9_asks_83 rfl (lv_at hl 0 rfl) ?_
        refine lv_iconst (v := 5) hx hb dX9_asks_84 (by decide) ?_
        refine lv_iconst (v := (-1)) hx hb dX9_asks_85 (by decide) ?_
        refine fz_at2 (show M 1 2 = nI nc from hnc) ?_
        refine fz_retMV (ws' := ME cy b (M 0 0) (M 0 1) (M 0 2) (M 0 3) (M 0 4) (M 0 5) (M 0 6) (fm_cs (fm_cs (fm_cs (fm_cs (fm_cs (fm_cs (M 1) 0 nc t) 1 nc x) 2 nc 0) 3 nc 0) 4 nc (M 1 0)) 5 nc (-1)) (M 2) (M 3) (M 4) (M 5) h) (va_runV (As := [.int (nI nc), .int (nI 5), .int (-1)]) (rest := []) ⟨hx, hb, hml, hown, hts⟩ (c_X9_tells l D cy b (fz_up M 1 (fm_cs (fm_cs (fm_cs (fm_cs (fm_cs (M 1) 0 nc t) 1 nc x) 2 nc 0) 3 nc 0) 4 nc (M 1 0))) h nc 5 (by omega) (by omega) (-1)) (cwV 3 hts gX9_asks_X9_tells rfl rfl rfl (by decide +kernel) ⟨Nat.le_of_ble_eq_true rfl, Nat.le_of_ble_eq_true rfl⟩) (fz_preMV (ci := 7) (q0 := 0) hK hP hD rfl rfl rfl fz_T_bl (fun _ _ _ => trivial)) rfl rfl hl.1 rfl (lv_room (Nat.le_of_ble_eq_true rfl)) dX9_asks_86 ⟨Nat.zero_le _, Nat.zero_le _⟩) hP hD hS [0, 1, 2, 3, 4, 5] [] rfl rfl [true, true, true, true, true, true] (And.intro rfl (And.intro rfl (And.intro rfl (And.intro rfl (And.intro rfl (And.intro rfl trivial)))))) rfl rfl (fun H locs hP hD hS => ?_)
        have hP : va_P D vwCl (ME cy b (M 0 0) (M 0 1) (M 0 2) (M 0 3) (M 0 4) (M 0 5) (M 0 6) (fm_cs (fm_cs (fm_cs (fm_cs (fm_cs (fm_cs (M 1) 0 nc t) 1 nc x) 2 nc 0) 3 nc 0) 4 nc (M 1 0)) 5 nc (-1)) (M 2) (M 3) (M 4) (M 5) h) H := hP
        have hD : va_D A (ME cy b (M 0 0) (M 0 1) (M 0 2) (M 0 3) (M 0 4) (M 0 5) (M 0 6) (fm_cs (fm_cs (fm_cs (fm_cs (fm_cs (fm_cs (M 1) 0 nc t) 1 nc x) 2 nc 0) 3 nc 0) 4 nc (M 1 0)) 5 nc (-1)) (M 2) (M 3) (M 4) (M 5) h) := hD
        refine lv_aload_n hx hb dX9_asks_89 rfl (lv_at hl 1 rfl) ?_
        refine lv_iload_n hx hb dX9_asks_90 rfl (lv_at hl 0 rfl) ?_
        refine lv_bipush (v := 6) hx hb dX9_asks_91 (by decide) ?_
        refine lv_iconst (v := 0) hx hb dX9_asks_93 (by decide) ?_
        refine fz_at2 (show M 1 2 = nI nc from hnc) ?_
        refine fz_retMV (ws' := ME cy b (M 0 0) (M 0 1) (M 0 2) (M 0 3) (M 0 4) (M 0 5) (M 0 6) (fm_cs (fm_cs (fm_cs (fm_cs (fm_cs (fm_cs (fm_cs (M 1) 0 nc t) 1 nc x) 2 nc 0) 3 nc 0) 4 nc (M 1 0)) 5 nc (-1)) 6 nc 0) (M 2) (M 3) (M 4) (M 5) h) (va_runV (As := [.int (nI nc), .int (nI 6), .int 0]) (rest := []) ⟨hx, hb, hml, hown, hts⟩ (c_X9_tells l D cy b (fz_up M 1 (fm_cs (fm_cs (fm_cs (fm_cs (fm_cs (fm_cs (M 1) 0 nc t) 1 nc x) 2 nc 0) 3 nc 0) 4 nc (M 1 0)) 5 nc (-1))) h nc 6 (by omega) (by omega) 0) (cwV 3 hts gX9_asks_X9_tells rfl rfl rfl (by decide +kernel) ⟨Nat.le_of_ble_eq_true rfl, Nat.le_of_ble_eq_true rfl⟩) (fz_preMV (ci := 7) (q0 := 0) hK hP hD rfl rfl rfl fz_T_bl (fun _ _ _ => trivial)) rfl rfl hl.1 rfl (lv_room (Nat.le_of_ble_eq_true rfl)) dX9_asks_94 ⟨Nat.zero_le _, Nat.zero_le _⟩) hP hD hS [0, 1, 2, 3, 4, 5] [] rfl rfl [true, true, true, true, true, true] (And.intro rfl (And.intro rfl (And.intro rfl (And.intro rfl (And.intro rfl (And.intro rfl trivial)))))) rfl rfl (fun H locs hP hD hS => ?_)
        have hP : va_P D vwCl (ME cy b (M 0 0) (M 0 1) (M 0 2) (M 0 3) (M 0 4) (M 0 5) (M 0 6) (fm_cs (fm_cs (fm_cs (fm_cs (fm_cs (fm_cs (fm_cs (M 1) 0 nc t) 1 nc x) 2 nc 0) 3 nc 0) 4 nc (M 1 0)) 5 nc (-1)) 6 nc 0) (M 2) (M 3) (M 4) (M 5) h) H := hP
        have hD : va_D A (ME cy b (M 0 0) (M 0 1) (M 0 2) (M 0 3) (M 0 4) (M 0 5) (M 0 6) (fm_cs (fm_cs (fm_cs (fm_cs (fm_cs (fm_cs (fm_cs (M 1) 0 nc t) 1 nc x) 2 nc 0) 3 nc 0) 4 nc (M 1 0)) 5 nc (-1)) 6 nc 0) (M 2) (M 3) (M 4) (M 5) h) := hD
        refine lv_aload_n hx hb dX9_asks_97 rfl (lv_at hl 1 rfl) ?_
        refine va_get (D := D) (ci := 7) (v := .ref (b 1)) (C := RX9) (T := TX9) (N := 13) hx hb hts inX9 hown hK hP 0 rfl rfl 0 (by decide) k_7 (fun _ h9 => h9) rfl dX9_asks_98 ?_
        refine lv_iconst (v := 2) hx hb dX9_asks_101 (by decide) ?_
        refine lv_dup2_11 hx hb dX9_asks_102 rfl rfl ?_
        refine fz_iald (f := fm_cs (fm_cs (fm_cs (fm_cs (fm_cs (fm_cs (fm_cs (M 1) 0 nc t) 1 nc x) 2 nc 0) 3 nc 0) 4 nc (M 1 0)) 5 nc (-1)) 6 nc 0) hx hb hK hP 1 0 rfl rfl 2 rfl (by omega) (by decide) dX9_asks_103 ?_
        refine fz_top (show _ = M 1 2 from (by simp only [fm_cs_2])) ?_
        refine lv_iconst (v := 1) hx hb dX9_asks_104 (by decide) ?_
        refine fz_iaddN hx hb nc 1 hnc rfl dX9_asks_105 ?_
        refine fz_iast (f := fm_cs (fm_cs (fm_cs (fm_cs (fm_cs (fm_cs (fm_cs (M 1) 0 nc t) 1 nc x) 2 nc 0) 3 nc 0) 4 nc (M 1 0)) 5 nc (-1)) 6 nc 0) hx hb hK hP hD hS 1 0 rfl rfl 2 rfl (by omega) (by decide) dX9_asks_106 (fun H locs hP hD hS => ?_)
        have hP : va_P D vwCl (ME cy b (M 0 0) (M 0 1) (M 0 2) (M 0 3) (M 0 4) (M 0 5) (M 0 6) (upd (fm_cs (fm_cs (fm_cs (fm_cs (fm_cs (fm_cs (fm_cs (M 1) 0 nc t) 1 nc x) 2 nc 0) 3 nc 0) 4 nc (M 1 0)) 5 nc (-1)) 6 nc 0) 2 (nI (nc + 1))) (M 2) (M 3) (M 4) (M 5) h) H := hP
        have hD : va_D A (ME cy b (M 0 0) (M 0 1) (M 0 2) (M 0 3) (M 0 4) (M 0 5) (M 0 6) (upd (fm_cs (fm_cs (fm_cs (fm_cs (fm_cs (fm_cs (fm_cs (M 1) 0 nc t) 1 nc x) 2 nc 0) 3 nc 0) 4 nc (M 1 0)) 5 nc (-1)) 6 nc 0) 2 (nI (nc + 1))) (M 2) (M 3) (M 4) (M 5) h) := hD
        refine lv_aload_n hx hb dX9_asks_107 rfl (lv_at hl 1 rfl) ?_
        refine lv_iload_n hx hb dX9_asks_108 rfl (lv_at hl 0 rfl) ?_
        refine va_put (D := D) (ci := 7) (v := .int (M 1 2)) (ty := tyX9 7) (C := RX9) (T := TX9) (N := 13) hx hb hts inX9 tyX9 tyX9_ok nmX9 hown hK hP hD hS 0 rfl rfl 7 (by decide) k_47 (fun _ h9 => h9) rfl (by decide +kernel) rfl rfl (Nat.le_of_ble_eq_true rfl) dX9_asks_109 (fun H locs hP hD hS => ?_)
        have hP : va_P D vwCl (ME cy b (M 0 0) (M 0 1) (M 0 2) (M 1 2) (M 0 4) (M 0 5) (M 0 6) (upd (fm_cs (fm_cs (fm_cs (fm_cs (fm_cs (fm_cs (fm_cs (M 1) 0 nc t) 1 nc x) 2 nc 0) 3 nc 0) 4 nc (M 1 0)) 5 nc (-1)) 6 nc 0) 2 (nI (nc + 1))) (M 2) (M 3) (M 4) (M 5) h) H := hP
        have hD : va_D A (ME cy b (M 0 0) (M 0 1) (M 0 2) (M 1 2) (M 0 4) (M 0 5) (M 0 6) (upd (fm_cs (fm_cs (fm_cs (fm_cs (fm_cs (fm_cs (fm_cs (M 1) 0 nc t) 1 nc x) 2 nc 0) 3 nc 0) 4 nc (M 1 0)) 5 nc (-1)) 6 nc 0) 2 (nI (nc + 1))) (M 2) (M 3) (M 4) (M 5) h) := hD
        refine lv_iconst (v := 0) hx hb dX9_asks_112 (by decide) ?_
        have eF : fm_asks M nc t x = (0, fz_up (fz_up M 0 (upd (M 0) 3 (M 1 2))) 1 (fm_ask (M 1) nc t x)) := by simp only [fm_asks, c_1, c_2, c_3, ↓reduceIte, Bool.false_eq_true, cond_true, cond_false]
        exact W.iret (v := 0) hx hb hr (fun t9 ht9 hW9 => ⟨⟨_, (), rfl, (by rw [eF] <;> rfl), fz_to ht9 (by rw [eF]; exact hP)⟩, hS.F ht9⟩) hS.2.2 dX9_asks_113
      · skip
        refine lv_iconst (v := 3) hx hb dX9_asks_33 (by decide) ?_
        have eF : fm_asks M nc t x = (3, M) := by simp only [fm_asks, c_1, c_2, c_3, ↓reduceIte, Bool.false_eq_true, cond_true, cond_false]
        exact W.iret (v := 3) hx hb hr (fun t9 ht9 hW9 => ⟨⟨_, (), rfl, (by rw [eF] <;> rfl), fz_to ht9 (by rw [eF]; exact hP)⟩, hS.F ht9⟩) hS.2.2 dX9_asks_34
    · skip
      refine lv_iconst (v := 2) hx hb dX9_asks_20 (by decide) ?_
      have eF : fm_asks M nc t x = (2, M) := by simp only [fm_asks, c_1, c_2, ↓reduceIte, Bool.false_eq_true, cond_true, cond_false]
      exact W.iret (v := 2) hx hb hr (fun t9 ht9 hW9 => ⟨⟨_, (), rfl, (by rw [eF] <;> rfl), fz_to ht9 (by rw [eF]; exact hP)⟩, hS.F ht9⟩) hS.2.2 dX9_asks_21
  · skip
    refine lv_iconst (v := 1) hx hb dX9_asks_8 (by decide) ?_
    have eF : fm_asks M nc t x = (1, M) := by simp only [fm_asks, c_1, ↓reduceIte, Bool.false_eq_true, cond_true, cond_false]
    exact W.iret (v := 1) hx hb hr (fun t9 ht9 hW9 => ⟨⟨_, (), rfl, (by rw [eF] <;> rfl), fz_to ht9 (by rw [eF]; exact hP)⟩, hS.F ht9⟩) hS.2.2 dX9_asks_9
set_option maxHeartbeats 4000000 in
set_option maxRecDepth 100000 in
/-- the model: price -/
theorem c_X9_price (l : Launch) (D : va_G) (cy : Nat → ClassId) (b : Nat → Nat) (M : Nat → Nat → Int32) (h : Int64) (x : Int32) : fz_RI l yX9_price wsX9_price 0 0 D cy [.ref (b 0), .int x] (MW cy b M h) fz_T (x * M 1 4) := by
  refine Met.ofW (cc := cX9_price) (maxL := 2) (ret := (some .int)) (by decide) rfl ?_
  intro p e s m args below meth c s₁ B hml hv
  obtain ⟨rfl, hP, hK, hE⟩ := hv
  have hx := B.exec
  have hb := B.bytes
  have hr := B.returns
  have hts := atoms_spec (ws := wsX9_price) B.pre
  have hown : s.vm.findClass RX9 = some m.cls := findClass_of_methodNamed B.named
  have hlocks := B.notSynchronized
  have hl := lv_entry ([.ref (b 0), .int x]) (n := 2) (Nat.le_of_ble_eq_true rfl)
  rw [lg_entry_eq]
  generalize (lg_sl ([.ref (b 0), .int x]) ++ List.replicate (2 - (lg_sl ([.ref (b 0), .int x])).length) Slot.unset).toArray = ls at hl ⊢
  have hl : lv_has ls 2 [(0, .ref (b 0)), (1, .int x)] := hl
  have k_7 := hts (.fieldLink RX9 7 "FreezeCreditsModel" "now" "[I") (by decide +kernel)
  have inX9 : ∀ w ∈ u_ws RX9 TX9 13, w ∈ wsX9_price := by decide +kernel
  refine lv_iload_n hx hb dX9_price_0 rfl (lv_at hl 1 rfl) ?_
  refine lv_aload_n hx hb dX9_price_1 rfl (lv_at hl 0 rfl) ?_
  refine va_get (D := D) (ci := 7) (v := .ref (b 1)) (C := RX9) (T := TX9) (N := 13) hx hb hts inX9 hown hK hP 0 rfl rfl 0 (by decide) k_7 (fun _ h9 => h9) rfl dX9_price_2 ?_
  refine lv_iconst (v := 4) hx hb dX9_price_5 (by decide) ?_
  refine fz_iald (f := M 1) hx hb hK hP 1 0 rfl rfl 4 rfl (by omega) (by decide) dX9_price_6 ?_
  refine lv_imul hx hb dX9_price_7 ?_
  exact W.iret (v := (x * (M 1 4))) hx hb hr (fun t9 ht9 hW9 => ⟨_, rfl, rfl, ht9⟩) (fun _ h => nomatch h) dX9_price_8
set_option maxHeartbeats 4000000 in
set_option maxRecDepth 100000 in
/-- the model: why -/
theorem c_X9_why (l : Launch) (D : va_G) (cy : Nat → ClassId) (b : Nat → Nat) (M : Nat → Nat → Int32) (h : Int64) (nt nc nl wk : Nat) (wf : fm_wf (M 1) nt nc nl wk) (z : Nat) (hz : z < nc) : fz_RI l yX9_why wsX9_why 2 44 D cy [.ref (b 0), .int (nI z)] (MW cy b M h) fz_T (fz_reason (fm_V (M 1)) nl z) := by
  refine Met.ofW (cc := cX9_why) (maxL := 3) (ret := (some .int)) (by decide) rfl ?_
  intro p e s m args below meth c s₁ B hml hv
  obtain ⟨rfl, hP, hK, hE⟩ := hv
  have hx := B.exec
  have hb := B.bytes
  have hr := B.returns
  have hts := atoms_spec (ws := wsX9_why) B.pre
  have hown : s.vm.findClass RX9 = some m.cls := findClass_of_methodNamed B.named
  have hlocks := B.notSynchronized
  have hl := lv_entry ([.ref (b 0), .int (nI z)]) (n := 3) (Nat.le_of_ble_eq_true rfl)
  rw [lg_entry_eq]
  generalize (lg_sl ([.ref (b 0), .int (nI z)]) ++ List.replicate (3 - (lg_sl ([.ref (b 0), .int (nI z)])).length) Slot.unset).toArray = ls at hl ⊢
  have hl : lv_has ls 3 [(0, .ref (b 0)), (1, .int (nI z))] := hl
  obtain ⟨hnt, hnt6, hnc, hnc30, hnl, hnl12, hwk, hwk39, hT, hG, hB, hZo⟩ := id wf
  refine lv_aload_n hx hb dX9_why_0 rfl (lv_at hl 0 rfl) ?_
  refine lv_iload_n hx hb dX9_why_1 rfl (lv_at hl 1 rfl) ?_
  refine lv_iconst (v := 2) hx hb dX9_why_2 (by decide) ?_
  refine fz_retR (va_runV (As := [.int (nI z), .int (nI 2)]) (rest := []) ⟨hx, hb, hml, hown, hts⟩ (c_X9_told l D cy b M h z 2 (by omega) (by omega)) (cwV 2 hts gX9_why_X9_told rfl rfl rfl (by decide +kernel) ⟨Nat.le_of_ble_eq_true rfl, Nat.le_of_ble_eq_true rfl⟩) (fz_preV (ci := 7) (q0 := 0) hK hP rfl rfl rfl fz_T_bl (fun _ _ _ => trivial)) rfl rfl hl.1 rfl (lv_room (Nat.le_of_ble_eq_true rfl)) dX9_why_3 ⟨Nat.zero_le _, Nat.zero_le _⟩) ?_
  refine lv_if_eq (tgt := 11) hx hb dX9_why_6 (by decide) (fun c_1 => ?_) (fun c_1 => ?_)
  · skip
    refine lv_aload_n hx hb dX9_why_11 rfl (lv_at hl 0 rfl) ?_
    refine lv_iload_n hx hb dX9_why_12 rfl (lv_at hl 1 rfl) ?_
    refine lv_iconst (v := 0) hx hb dX9_why_13 (by decide) ?_
    refine fz_retR (va_runV (As := [.int (nI z), .int (nI 0)]) (rest := []) ⟨hx, hb, hml, hown, hts⟩ (c_X9_told l D cy b M h z 0 (by omega) (by omega)) (cwV 2 hts gX9_why_X9_told rfl rfl rfl (by decide +kernel) ⟨Nat.le_of_ble_eq_true rfl, Nat.le_of_ble_eq_true rfl⟩) (fz_preV (ci := 7) (q0 := 0) hK hP rfl rfl rfl fz_T_bl (fun _ _ _ => trivial)) rfl rfl hl.1 rfl (lv_room (Nat.le_of_ble_eq_true rfl)) dX9_why_14 ⟨Nat.zero_le _, Nat.zero_le _⟩) ?_
    obtain ⟨j, hj, ej⟩ := hT z hz
    have ej' := fz_tnat ej (by omega)
    refine lv_istore_n (lv' := [(2, .int (fm_c (M 1) 0 z)), (0, .ref (b 0)), (1, .int (nI z))]) hx hb dX9_why_17 rfl hl (by decide) rfl (fun ls hl => ?_)
    refine lv_aload_n hx hb dX9_why_18 rfl (lv_at hl 1 rfl) ?_
    refine lv_iload_n hx hb dX9_why_19 rfl (lv_at hl 0 rfl) ?_
    refine fz_retR (va_runV (As := [.int (fm_c (M 1) 0 z)]) (rest := []) ⟨hx, hb, hml, hown, hts⟩ (c_X9_owes l D cy b M h (fm_c (M 1) 0 z) nl hnl hnl12) (cwV 1 hts gX9_why_X9_owes rfl rfl rfl (by decide +kernel) ⟨Nat.le_of_ble_eq_true rfl, Nat.le_of_ble_eq_true rfl⟩) (fz_preV (ci := 7) (q0 := 0) hK hP rfl rfl rfl fz_T_bl (fun _ _ _ => trivial)) rfl rfl hl.1 rfl (lv_room (Nat.le_of_ble_eq_true rfl)) dX9_why_20 ⟨Nat.zero_le _, Nat.zero_le _⟩) ?_
    refine fz_ifeqB (tgt := 30) hx hb dX9_why_23 (by decide) (fun c_2 => ?_) (fun c_2 => ?_)
    · skip
      refine lv_aload_n hx hb dX9_why_30 rfl (lv_at hl 1 rfl) ?_
      refine lv_iload_n hx hb dX9_why_31 rfl (lv_at hl 0 rfl) ?_
      refine lv_iconst (v := 0) hx hb dX9_why_32 (by decide) ?_
      refine fz_at1 (show fm_c (M 1) 0 z = nI j from ej) ?_
      refine fz_retR (va_runV (As := [.int (nI j), .int (nI 0)]) (rest := []) ⟨hx, hb, hml, hown, hts⟩ (c_X9_of l D cy b M h j 0 (by omega) (by omega)) (cwV 2 hts gX9_why_X9_of rfl rfl rfl (by decide +kernel) ⟨Nat.le_of_ble_eq_true rfl, Nat.le_of_ble_eq_true rfl⟩) (fz_preV (ci := 7) (q0 := 0) hK hP rfl rfl rfl fz_T_bl (fun _ _ _ => trivial)) rfl rfl hl.1 rfl (lv_room (Nat.le_of_ble_eq_true rfl)) dX9_why_33 ⟨Nat.zero_le _, Nat.zero_le _⟩) ?_
      refine lv_aload_n hx hb dX9_why_36 rfl (lv_at hl 1 rfl) ?_
      refine lv_aload_n hx hb dX9_why_37 rfl (lv_at hl 1 rfl) ?_
      refine lv_iload_n hx hb dX9_why_38 rfl (lv_at hl 2 rfl) ?_
      refine lv_iconst (v := 1) hx hb dX9_why_39 (by decide) ?_
      refine fz_retR (va_runV (As := [.int (nI z), .int (nI 1)]) (rest := [.ref (b 0), .int (fm_t (M 1) 0 j)]) ⟨hx, hb, hml, hown, hts⟩ (c_X9_told l D cy b M h z 1 (by omega) (by omega)) (cwV 2 hts gX9_why_X9_told rfl rfl rfl (by decide +kernel) ⟨Nat.le_of_ble_eq_true rfl, Nat.le_of_ble_eq_true rfl⟩) (fz_preV (ci := 7) (q0 := 0) hK hP rfl rfl rfl fz_T_bl (fun _ _ _ => trivial)) rfl rfl hl.1 rfl (lv_room (Nat.le_of_ble_eq_true rfl)) dX9_why_40 ⟨Nat.zero_le _, Nat.zero_le _⟩) ?_
      refine fz_retR (va_runV (As := [.int (fm_c (M 1) 1 z)]) (rest := [.int (fm_t (M 1) 0 j)]) ⟨hx, hb, hml, hown, hts⟩ (c_X9_price l D cy b M h (fm_c (M 1) 1 z)) (cwV 1 hts gX9_why_X9_price rfl rfl rfl (by decide +kernel) ⟨Nat.le_of_ble_eq_true rfl, Nat.le_of_ble_eq_true rfl⟩) (fz_preV (ci := 7) (q0 := 0) hK hP rfl rfl rfl fz_T_bl (fun _ _ _ => trivial)) rfl rfl hl.1 rfl (lv_room (Nat.le_of_ble_eq_true rfl)) dX9_why_43 ⟨Nat.zero_le _, Nat.zero_le _⟩) ?_
      refine lv_icmp_ge (tgt := 53) hx hb dX9_why_46 (by decide) (fun c_3 => ?_) (fun c_3 => ?_)
      · skip
        refine lv_iconst (v := 0) hx hb dX9_why_53 (by decide) ?_
        exact W.iret (v := 0) hx hb hr (fun t9 ht9 hW9 => ⟨_, rfl, (by rw [fm_reason]; simp only [c_1, c_2, c_3, ej', ↓reduceIte, Bool.false_eq_true]), ht9⟩) (fun _ h => nomatch h) dX9_why_54
      · skip
        refine lv_iconst (v := 3) hx hb dX9_why_49 (by decide) ?_
        refine lv_goto (tgt := 54) hx hb dX9_why_50 (by decide) ?_
        exact W.iret (v := 3) hx hb hr (fun t9 ht9 hW9 => ⟨_, rfl, (by rw [fm_reason]; simp only [c_1, c_2, c_3, ej', ↓reduceIte, Bool.false_eq_true]), ht9⟩) (fun _ h => nomatch h) dX9_why_54
    · skip
      refine lv_iconst (v := 2) hx hb dX9_why_26 (by decide) ?_
      refine lv_goto (tgt := 54) hx hb dX9_why_27 (by decide) ?_
      exact W.iret (v := 2) hx hb hr (fun t9 ht9 hW9 => ⟨_, rfl, (by rw [fm_reason]; simp only [c_1, c_2, ej', ↓reduceIte, Bool.false_eq_true]), ht9⟩) (fun _ h => nomatch h) dX9_why_54
  · skip
    refine lv_iconst (v := 1) hx hb dX9_why_9 (by decide) ?_
    exact W.iret (v := 1) hx hb hr (fun t9 ht9 hW9 => ⟨_, rfl, (by rw [fm_reason]; simp only [c_1, ↓reduceIte, Bool.false_eq_true]), ht9⟩) (fun _ h => nomatch h) dX9_why_10
set_option maxHeartbeats 4000000 in
set_option maxRecDepth 100000 in
/-- the model: exempts -/
theorem c_X9_exempts (l : Launch) (D : va_G) (cy : Nat → ClassId) (b : Nat → Nat) (M : Nat → Nat → Int32) (h : Int64) (nt nc nl wk : Nat) (wf : fm_wf (M 1) nt nc nl wk) (x : Int32) : fz_MI l yX9_exempts wsX9_exempts 3 66 D cy [.ref (b 0), .int x] (MW cy b M h) fz_T ((fm_exm M nl x).1) (MW cy b ((fm_exm M nl x).2) h) := by
  refine Met.ofW (cc := cX9_exempts) (maxL := 2) (ret := (some .int)) (by decide) rfl ?_
  intro p e s m args below meth c s₁ B hml hv
  obtain ⟨rfl, hP, hK, hD0, hE⟩ := hv
  have hx := B.exec
  have hb := B.bytes
  have hr := B.returns
  have hts := atoms_spec (ws := wsX9_exempts) B.pre
  have hown : s.vm.findClass RX9 = some m.cls := findClass_of_methodNamed B.named
  have hlocks := B.notSynchronized
  have hD := fz_self hD0
  generalize hAe : fz_in (MW cy b M h) = A at hD ⊢
  have hS : va_S A s.heap s.heap [] := va_S.rf
  have hl := lv_entry ([.ref (b 0), .int x]) (n := 2) (Nat.le_of_ble_eq_true rfl)
  rw [lg_entry_eq]
  generalize (lg_sl ([.ref (b 0), .int x]) ++ List.replicate (2 - (lg_sl ([.ref (b 0), .int x])).length) Slot.unset).toArray = ls at hl ⊢
  have hl : lv_has ls 2 [(0, .ref (b 0)), (1, .int x)] := hl
  have k_47 := hts (.fieldLink RX9 47 "FreezeCreditsModel" "answer" "I") (by decide +kernel)
  have inX9 : ∀ w ∈ u_ws RX9 TX9 13, w ∈ wsX9_exempts := by decide +kernel
  obtain ⟨hnt, hnt6, hnc, hnc30, hnl, hnl12, hwk, hwk39, hT, hG, hB, hZo⟩ := id wf
  refine lv_aload_n hx hb dX9_exempts_0 rfl (lv_at hl 0 rfl) ?_
  refine lv_iload_n hx hb dX9_exempts_1 rfl (lv_at hl 1 rfl) ?_
  refine fz_retR (va_runV (As := [.int x]) (rest := []) ⟨hx, hb, hml, hown, hts⟩ (c_X9_isChange l D cy b M h x nc hnc (by omega)) (cwV 1 hts gX9_exempts_X9_isChange rfl rfl rfl (by decide +kernel) ⟨Nat.le_of_ble_eq_true rfl, Nat.le_of_ble_eq_true rfl⟩) (fz_preV (ci := 7) (q0 := 0) hK hP rfl rfl rfl fz_T_bl (fun _ _ _ => trivial)) rfl rfl hl.1 rfl (lv_room (Nat.le_of_ble_eq_true rfl)) dX9_exempts_2 ⟨Nat.zero_le _, Nat.zero_le _⟩) ?_
  refine fz_ifneB (tgt := 10) hx hb dX9_exempts_5 (by decide) (fun c_1 => ?_) (fun c_1 => ?_)
  · skip
    obtain ⟨z, hz, ez⟩ := fz_ix_t (by omega) (show fz_ix x (nI nc) = true by rw [← hnc]; exact c_1)
    have ez' := fz_tnat ez (by omega)
    refine lv_aload_n hx hb dX9_exempts_10 rfl (lv_at hl 0 rfl) ?_
    refine lv_iload_n hx hb dX9_exempts_11 rfl (lv_at hl 1 rfl) ?_
    refine fz_at0 (show x = nI z from ez) ?_
    refine fz_retR (va_runV (As := [.int (nI z)]) (rest := []) ⟨hx, hb, hml, hown, hts⟩ (c_X9_why l D cy b M h nt nc nl wk wf z hz) (cwV 1 hts gX9_exempts_X9_why rfl rfl rfl (by decide +kernel) ⟨Nat.le_of_ble_eq_true rfl, Nat.le_of_ble_eq_true rfl⟩) (fz_preV (ci := 7) (q0 := 0) hK hP rfl rfl rfl fz_T_bl (fun _ _ _ => trivial)) rfl rfl hl.1 rfl (lv_room (Nat.le_of_ble_eq_true rfl)) dX9_exempts_12 ⟨Nat.zero_le _, Nat.zero_le _⟩) ?_
    refine lv_if_eq (tgt := 20) hx hb dX9_exempts_15 (by decide) (fun c_2 => ?_) (fun c_2 => ?_)
    · skip
      refine lv_aload_n hx hb dX9_exempts_20 rfl (lv_at hl 0 rfl) ?_
      refine lv_aload_n hx hb dX9_exempts_21 rfl (lv_at hl 0 rfl) ?_
      refine lv_aload_n hx hb dX9_exempts_22 rfl (lv_at hl 0 rfl) ?_
      refine lv_iload_n hx hb dX9_exempts_23 rfl (lv_at hl 1 rfl) ?_
      refine lv_iconst (v := 1) hx hb dX9_exempts_24 (by decide) ?_
      refine fz_at1 (show x = nI z from ez) ?_
      refine fz_retR (va_runV (As := [.int (nI z), .int (nI 1)]) (rest := [.ref (b 0), .ref (b 0)]) ⟨hx, hb, hml, hown, hts⟩ (c_X9_told l D cy b M h z 1 (by omega) (by omega)) (cwV 2 hts gX9_exempts_X9_told rfl rfl rfl (by decide +kernel) ⟨Nat.le_of_ble_eq_true rfl, Nat.le_of_ble_eq_true rfl⟩) (fz_preV (ci := 7) (q0 := 0) hK hP rfl rfl rfl fz_T_bl (fun _ _ _ => trivial)) rfl rfl hl.1 rfl (lv_room (Nat.le_of_ble_eq_true rfl)) dX9_exempts_25 ⟨Nat.zero_le _, Nat.zero_le _⟩) ?_
      refine fz_retR (va_runV (As := [.int (fm_c (M 1) 1 z)]) (rest := [.ref (b 0)]) ⟨hx, hb, hml, hown, hts⟩ (c_X9_price l D cy b M h (fm_c (M 1) 1 z)) (cwV 1 hts gX9_exempts_X9_price rfl rfl rfl (by decide +kernel) ⟨Nat.le_of_ble_eq_true rfl, Nat.le_of_ble_eq_true rfl⟩) (fz_preV (ci := 7) (q0 := 0) hK hP rfl rfl rfl fz_T_bl (fun _ _ _ => trivial)) rfl rfl hl.1 rfl (lv_room (Nat.le_of_ble_eq_true rfl)) dX9_exempts_28 ⟨Nat.zero_le _, Nat.zero_le _⟩) ?_
      refine va_put (D := D) (ci := 7) (v := .int ((fm_c (M 1) 1 z) * M 1 4)) (ty := tyX9 7) (C := RX9) (T := TX9) (N := 13) hx hb hts inX9 tyX9 tyX9_ok nmX9 hown hK hP hD hS 0 rfl rfl 7 (by decide) k_47 (fun _ h9 => h9) rfl (by decide +kernel) rfl rfl (Nat.le_of_ble_eq_true rfl) dX9_exempts_31 (fun H locs hP hD hS => ?_)
      have hP : va_P D vwCl (ME cy b (M 0 0) (M 0 1) (M 0 2) ((fm_c (M 1) 1 z) * M 1 4) (M 0 4) (M 0 5) (M 0 6) (M 1) (M 2) (M 3) (M 4) (M 5) h) H := hP
      have hD : va_D A (ME cy b (M 0 0) (M 0 1) (M 0 2) ((fm_c (M 1) 1 z) * M 1 4) (M 0 4) (M 0 5) (M 0 6) (M 1) (M 2) (M 3) (M 4) (M 5) h) := hD
      obtain ⟨j, hj, ej⟩ := hT z hz
      have ej' := fz_tnat ej (by omega)
      refine lv_aload_n hx hb dX9_exempts_34 rfl (lv_at hl 0 rfl) ?_
      refine lv_aload_n hx hb dX9_exempts_35 rfl (lv_at hl 0 rfl) ?_
      refine lv_iload_n hx hb dX9_exempts_36 rfl (lv_at hl 1 rfl) ?_
      refine lv_iconst (v := 0) hx hb dX9_exempts_37 (by decide) ?_
      refine fz_at1 (show x = nI z from ez) ?_
      refine fz_retR (va_runV (As := [.int (nI z), .int (nI 0)]) (rest := [.ref (b 0)]) ⟨hx, hb, hml, hown, hts⟩ (c_X9_told l D cy b (fz_up M 0 (upd (M 0) 3 ((fm_c (M 1) 1 z) * M 1 4))) h z 0 (by omega) (by omega)) (cwV 2 hts gX9_exempts_X9_told rfl rfl rfl (by decide +kernel) ⟨Nat.le_of_ble_eq_true rfl, Nat.le_of_ble_eq_true rfl⟩) (fz_preV (ci := 7) (q0 := 0) hK hP rfl rfl rfl fz_T_bl (fun _ _ _ => trivial)) rfl rfl hl.1 rfl (lv_room (Nat.le_of_ble_eq_true rfl)) dX9_exempts_38 ⟨Nat.zero_le _, Nat.zero_le _⟩) ?_
      refine fz_top (show _ = fm_c (M 1) 0 z from rfl) ?_
      refine lv_iconst (v := 0) hx hb dX9_exempts_41 (by decide) ?_
      refine lv_aload_n hx hb dX9_exempts_42 rfl (lv_at hl 0 rfl) ?_
      refine va_get (D := D) (ci := 7) (v := .int ((fm_c (M 1) 1 z) * M 1 4)) (C := RX9) (T := TX9) (N := 13) hx hb hts inX9 hown hK hP 0 rfl rfl 7 (by decide) k_47 (fun _ h9 => h9) rfl dX9_exempts_43 ?_
      refine lv_ineg hx hb dX9_exempts_46 ?_
      refine fz_at2 (show fm_c (M 1) 0 z = nI j from ej) ?_
      refine fz_retMV (ws' := ME cy b (M 0 0) (M 0 1) (M 0 2) ((fm_c (M 1) 1 z) * M 1 4) (M 0 4) (M 0 5) (M 0 6) (fm_ta (M 1) 0 j (-((fm_c (M 1) 1 z) * M 1 4))) (M 2) (M 3) (M 4) (M 5) h) (va_runV (As := [.int (nI j), .int (nI 0), .int (-((fm_c (M 1) 1 z) * M 1 4))]) (rest := []) ⟨hx, hb, hml, hown, hts⟩ (c_X9_adds l D cy b (fz_up M 0 (upd (M 0) 3 ((fm_c (M 1) 1 z) * M 1 4))) h j 0 (by omega) (by omega) (-((fm_c (M 1) 1 z) * M 1 4))) (cwV 3 hts gX9_exempts_X9_adds rfl rfl rfl (by decide +kernel) ⟨Nat.le_of_ble_eq_true rfl, Nat.le_of_ble_eq_true rfl⟩) (fz_preMV (ci := 7) (q0 := 0) hK hP hD rfl rfl rfl fz_T_bl (fun _ _ _ => trivial)) rfl rfl hl.1 rfl (lv_room (Nat.le_of_ble_eq_true rfl)) dX9_exempts_47 ⟨Nat.zero_le _, Nat.zero_le _⟩) hP hD hS [0, 1, 2, 3, 4, 5] [] rfl rfl [true, true, true, true, true, true] (And.intro rfl (And.intro rfl (And.intro rfl (And.intro rfl (And.intro rfl (And.intro rfl trivial)))))) rfl rfl (fun H locs hP hD hS => ?_)
      have hP : va_P D vwCl (ME cy b (M 0 0) (M 0 1) (M 0 2) ((fm_c (M 1) 1 z) * M 1 4) (M 0 4) (M 0 5) (M 0 6) (fm_ta (M 1) 0 j (-((fm_c (M 1) 1 z) * M 1 4))) (M 2) (M 3) (M 4) (M 5) h) H := hP
      have hD : va_D A (ME cy b (M 0 0) (M 0 1) (M 0 2) ((fm_c (M 1) 1 z) * M 1 4) (M 0 4) (M 0 5) (M 0 6) (fm_ta (M 1) 0 j (-((fm_c (M 1) 1 z) * M 1 4))) (M 2) (M 3) (M 4) (M 5) h) := hD
      refine lv_aload_n hx hb dX9_exempts_50 rfl (lv_at hl 0 rfl) ?_
      refine lv_iload_n hx hb dX9_exempts_51 rfl (lv_at hl 1 rfl) ?_
      refine lv_iconst (v := 3) hx hb dX9_exempts_52 (by decide) ?_
      refine lv_aload_n hx hb dX9_exempts_53 rfl (lv_at hl 0 rfl) ?_
      refine va_get (D := D) (ci := 7) (v := .int ((fm_c (M 1) 1 z) * M 1 4)) (C := RX9) (T := TX9) (N := 13) hx hb hts inX9 hown hK hP 0 rfl rfl 7 (by decide) k_47 (fun _ h9 => h9) rfl dX9_exempts_54 ?_
      refine fz_at2 (show x = nI z from ez) ?_
      refine fz_retMV (ws' := ME cy b (M 0 0) (M 0 1) (M 0 2) ((fm_c (M 1) 1 z) * M 1 4) (M 0 4) (M 0 5) (M 0 6) (fm_cs (fm_ta (M 1) 0 j (-((fm_c (M 1) 1 z) * M 1 4))) 3 z ((fm_c (M 1) 1 z) * M 1 4)) (M 2) (M 3) (M 4) (M 5) h) (va_runV (As := [.int (nI z), .int (nI 3), .int ((fm_c (M 1) 1 z) * M 1 4)]) (rest := []) ⟨hx, hb, hml, hown, hts⟩ (c_X9_tells l D cy b (fz_up (fz_up M 0 (upd (M 0) 3 ((fm_c (M 1) 1 z) * M 1 4))) 1 (fm_ta (M 1) 0 j (-((fm_c (M 1) 1 z) * M 1 4)))) h z 3 (by omega) (by omega) ((fm_c (M 1) 1 z) * M 1 4)) (cwV 3 hts gX9_exempts_X9_tells rfl rfl rfl (by decide +kernel) ⟨Nat.le_of_ble_eq_true rfl, Nat.le_of_ble_eq_true rfl⟩) (fz_preMV (ci := 7) (q0 := 0) hK hP hD rfl rfl rfl fz_T_bl (fun _ _ _ => trivial)) rfl rfl hl.1 rfl (lv_room (Nat.le_of_ble_eq_true rfl)) dX9_exempts_57 ⟨Nat.zero_le _, Nat.zero_le _⟩) hP hD hS [0, 1, 2, 3, 4, 5] [] rfl rfl [true, true, true, true, true, true] (And.intro rfl (And.intro rfl (And.intro rfl (And.intro rfl (And.intro rfl (And.intro rfl trivial)))))) rfl rfl (fun H locs hP hD hS => ?_)
      have hP : va_P D vwCl (ME cy b (M 0 0) (M 0 1) (M 0 2) ((fm_c (M 1) 1 z) * M 1 4) (M 0 4) (M 0 5) (M 0 6) (fm_cs (fm_ta (M 1) 0 j (-((fm_c (M 1) 1 z) * M 1 4))) 3 z ((fm_c (M 1) 1 z) * M 1 4)) (M 2) (M 3) (M 4) (M 5) h) H := hP
      have hD : va_D A (ME cy b (M 0 0) (M 0 1) (M 0 2) ((fm_c (M 1) 1 z) * M 1 4) (M 0 4) (M 0 5) (M 0 6) (fm_cs (fm_ta (M 1) 0 j (-((fm_c (M 1) 1 z) * M 1 4))) 3 z ((fm_c (M 1) 1 z) * M 1 4)) (M 2) (M 3) (M 4) (M 5) h) := hD
      refine lv_aload_n hx hb dX9_exempts_60 rfl (lv_at hl 0 rfl) ?_
      refine lv_iload_n hx hb dX9_exempts_61 rfl (lv_at hl 1 rfl) ?_
      refine lv_iconst (v := 2) hx hb dX9_exempts_62 (by decide) ?_
      refine lv_iconst (v := 1) hx hb dX9_exempts_63 (by decide) ?_
      refine fz_at2 (show x = nI z from ez) ?_
      refine fz_retMV (ws' := ME cy b (M 0 0) (M 0 1) (M 0 2) ((fm_c (M 1) 1 z) * M 1 4) (M 0 4) (M 0 5) (M 0 6) (fm_cs (fm_cs (fm_ta (M 1) 0 j (-((fm_c (M 1) 1 z) * M 1 4))) 3 z ((fm_c (M 1) 1 z) * M 1 4)) 2 z 1) (M 2) (M 3) (M 4) (M 5) h) (va_runV (As := [.int (nI z), .int (nI 2), .int 1]) (rest := []) ⟨hx, hb, hml, hown, hts⟩ (c_X9_tells l D cy b (fz_up (fz_up M 0 (upd (M 0) 3 ((fm_c (M 1) 1 z) * M 1 4))) 1 (fm_cs (fm_ta (M 1) 0 j (-((fm_c (M 1) 1 z) * M 1 4))) 3 z ((fm_c (M 1) 1 z) * M 1 4))) h z 2 (by omega) (by omega) 1) (cwV 3 hts gX9_exempts_X9_tells rfl rfl rfl (by decide +kernel) ⟨Nat.le_of_ble_eq_true rfl, Nat.le_of_ble_eq_true rfl⟩) (fz_preMV (ci := 7) (q0 := 0) hK hP hD rfl rfl rfl fz_T_bl (fun _ _ _ => trivial)) rfl rfl hl.1 rfl (lv_room (Nat.le_of_ble_eq_true rfl)) dX9_exempts_64 ⟨Nat.zero_le _, Nat.zero_le _⟩) hP hD hS [0, 1, 2, 3, 4, 5] [] rfl rfl [true, true, true, true, true, true] (And.intro rfl (And.intro rfl (And.intro rfl (And.intro rfl (And.intro rfl (And.intro rfl trivial)))))) rfl rfl (fun H locs hP hD hS => ?_)
      have hP : va_P D vwCl (ME cy b (M 0 0) (M 0 1) (M 0 2) ((fm_c (M 1) 1 z) * M 1 4) (M 0 4) (M 0 5) (M 0 6) (fm_cs (fm_cs (fm_ta (M 1) 0 j (-((fm_c (M 1) 1 z) * M 1 4))) 3 z ((fm_c (M 1) 1 z) * M 1 4)) 2 z 1) (M 2) (M 3) (M 4) (M 5) h) H := hP
      have hD : va_D A (ME cy b (M 0 0) (M 0 1) (M 0 2) ((fm_c (M 1) 1 z) * M 1 4) (M 0 4) (M 0 5) (M 0 6) (fm_cs (fm_cs (fm_ta (M 1) 0 j (-((fm_c (M 1) 1 z) * M 1 4))) 3 z ((fm_c (M 1) 1 z) * M 1 4)) 2 z 1) (M 2) (M 3) (M 4) (M 5) h) := hD
      refine lv_iconst (v := 0) hx hb dX9_exempts_67 (by decide) ?_
      have eF : fm_exm M nl x = fm_exm2 M z j := by simp only [fm_exm, c_1, c_2, ez', ej', ↓reduceIte, Bool.false_eq_true, cond_true, cond_false]
      exact W.iret (v := 0) hx hb hr (fun t9 ht9 hW9 => ⟨⟨_, (), rfl, (by rw [eF] <;> rfl), fz_to ht9 (by rw [eF]; exact hP)⟩, hS.F ht9⟩) hS.2.2 dX9_exempts_68
    · skip
      refine lv_iconst (v := 2) hx hb dX9_exempts_18 (by decide) ?_
      have eF : fm_exm M nl x = (2, M) := by simp only [fm_exm, c_1, c_2, ez', ↓reduceIte, Bool.false_eq_true, cond_true, cond_false]
      exact W.iret (v := 2) hx hb hr (fun t9 ht9 hW9 => ⟨⟨_, (), rfl, (by rw [eF] <;> rfl), fz_to ht9 (by rw [eF]; exact hP)⟩, hS.F ht9⟩) hS.2.2 dX9_exempts_19
  · skip
    refine lv_iconst (v := 1) hx hb dX9_exempts_8 (by decide) ?_
    have eF : fm_exm M nl x = (1, M) := by simp only [fm_exm, c_1, ↓reduceIte, Bool.false_eq_true, cond_true, cond_false]
    exact W.iret (v := 1) hx hb hr (fun t9 ht9 hW9 => ⟨⟨_, (), rfl, (by rw [eF] <;> rfl), fz_to ht9 (by rw [eF]; exact hP)⟩, hS.F ht9⟩) hS.2.2 dX9_exempts_9
set_option maxHeartbeats 4000000 in
set_option maxRecDepth 100000 in
/-- the model: givesUp -/
theorem c_X9_givesUp (l : Launch) (D : va_G) (cy : Nat → ClassId) (b : Nat → Nat) (M : Nat → Nat → Int32) (h : Int64) (nt nc nl wk : Nat) (wf : fm_wf (M 1) nt nc nl wk) (x : Int32) : fz_MI l yX9_givesUp wsX9_givesUp 2 43 D cy [.ref (b 0), .int x] (MW cy b M h) fz_T ((fm_give M x).1) (MW cy b ((fm_give M x).2) h) := by
  refine Met.ofW (cc := cX9_givesUp) (maxL := 2) (ret := (some .int)) (by decide) rfl ?_
  intro p e s m args below meth c s₁ B hml hv
  obtain ⟨rfl, hP, hK, hD0, hE⟩ := hv
  have hx := B.exec
  have hb := B.bytes
  have hr := B.returns
  have hts := atoms_spec (ws := wsX9_givesUp) B.pre
  have hown : s.vm.findClass RX9 = some m.cls := findClass_of_methodNamed B.named
  have hlocks := B.notSynchronized
  have hD := fz_self hD0
  generalize hAe : fz_in (MW cy b M h) = A at hD ⊢
  have hS : va_S A s.heap s.heap [] := va_S.rf
  have hl := lv_entry ([.ref (b 0), .int x]) (n := 2) (Nat.le_of_ble_eq_true rfl)
  rw [lg_entry_eq]
  generalize (lg_sl ([.ref (b 0), .int x]) ++ List.replicate (2 - (lg_sl ([.ref (b 0), .int x])).length) Slot.unset).toArray = ls at hl ⊢
  have hl : lv_has ls 2 [(0, .ref (b 0)), (1, .int x)] := hl
  have k_47 := hts (.fieldLink RX9 47 "FreezeCreditsModel" "answer" "I") (by decide +kernel)
  have inX9 : ∀ w ∈ u_ws RX9 TX9 13, w ∈ wsX9_givesUp := by decide +kernel
  obtain ⟨hnt, hnt6, hnc, hnc30, hnl, hnl12, hwk, hwk39, hT, hG, hB, hZo⟩ := id wf
  refine lv_aload_n hx hb dX9_givesUp_0 rfl (lv_at hl 0 rfl) ?_
  refine lv_iload_n hx hb dX9_givesUp_1 rfl (lv_at hl 1 rfl) ?_
  refine fz_retR (va_runV (As := [.int x]) (rest := []) ⟨hx, hb, hml, hown, hts⟩ (c_X9_isChange l D cy b M h x nc hnc (by omega)) (cwV 1 hts gX9_givesUp_X9_isChange rfl rfl rfl (by decide +kernel) ⟨Nat.le_of_ble_eq_true rfl, Nat.le_of_ble_eq_true rfl⟩) (fz_preV (ci := 7) (q0 := 0) hK hP rfl rfl rfl fz_T_bl (fun _ _ _ => trivial)) rfl rfl hl.1 rfl (lv_room (Nat.le_of_ble_eq_true rfl)) dX9_givesUp_2 ⟨Nat.zero_le _, Nat.zero_le _⟩) ?_
  refine fz_ifneB (tgt := 10) hx hb dX9_givesUp_5 (by decide) (fun c_1 => ?_) (fun c_1 => ?_)
  · skip
    obtain ⟨z, hz, ez⟩ := fz_ix_t (by omega) (show fz_ix x (nI nc) = true by rw [← hnc]; exact c_1)
    have ez' := fz_tnat ez (by omega)
    refine lv_aload_n hx hb dX9_givesUp_10 rfl (lv_at hl 0 rfl) ?_
    refine lv_iload_n hx hb dX9_givesUp_11 rfl (lv_at hl 1 rfl) ?_
    refine lv_iconst (v := 2) hx hb dX9_givesUp_12 (by decide) ?_
    refine fz_at1 (show x = nI z from ez) ?_
    refine fz_retR (va_runV (As := [.int (nI z), .int (nI 2)]) (rest := []) ⟨hx, hb, hml, hown, hts⟩ (c_X9_told l D cy b M h z 2 (by omega) (by omega)) (cwV 2 hts gX9_givesUp_X9_told rfl rfl rfl (by decide +kernel) ⟨Nat.le_of_ble_eq_true rfl, Nat.le_of_ble_eq_true rfl⟩) (fz_preV (ci := 7) (q0 := 0) hK hP rfl rfl rfl fz_T_bl (fun _ _ _ => trivial)) rfl rfl hl.1 rfl (lv_room (Nat.le_of_ble_eq_true rfl)) dX9_givesUp_13 ⟨Nat.zero_le _, Nat.zero_le _⟩) ?_
    refine lv_iconst (v := 1) hx hb dX9_givesUp_16 (by decide) ?_
    refine lv_icmp_le (tgt := 22) hx hb dX9_givesUp_17 (by decide) (fun c_2 => ?_) (fun c_2 => ?_)
    · skip
      obtain ⟨j, hj, ej⟩ := hT z hz
      have ej' := fz_tnat ej (by omega)
      refine lv_aload_n hx hb dX9_givesUp_22 rfl (lv_at hl 0 rfl) ?_
      refine lv_aload_n hx hb dX9_givesUp_23 rfl (lv_at hl 0 rfl) ?_
      refine lv_iload_n hx hb dX9_givesUp_24 rfl (lv_at hl 1 rfl) ?_
      refine lv_iconst (v := 3) hx hb dX9_givesUp_25 (by decide) ?_
      refine fz_at1 (show x = nI z from ez) ?_
      refine fz_retR (va_runV (As := [.int (nI z), .int (nI 3)]) (rest := [.ref (b 0)]) ⟨hx, hb, hml, hown, hts⟩ (c_X9_told l D cy b M h z 3 (by omega) (by omega)) (cwV 2 hts gX9_givesUp_X9_told rfl rfl rfl (by decide +kernel) ⟨Nat.le_of_ble_eq_true rfl, Nat.le_of_ble_eq_true rfl⟩) (fz_preV (ci := 7) (q0 := 0) hK hP rfl rfl rfl fz_T_bl (fun _ _ _ => trivial)) rfl rfl hl.1 rfl (lv_room (Nat.le_of_ble_eq_true rfl)) dX9_givesUp_26 ⟨Nat.zero_le _, Nat.zero_le _⟩) ?_
      refine va_put (D := D) (ci := 7) (v := .int (fm_c (M 1) 3 z)) (ty := tyX9 7) (C := RX9) (T := TX9) (N := 13) hx hb hts inX9 tyX9 tyX9_ok nmX9 hown hK hP hD hS 0 rfl rfl 7 (by decide) k_47 (fun _ h9 => h9) rfl (by decide +kernel) rfl rfl (Nat.le_of_ble_eq_true rfl) dX9_givesUp_29 (fun H locs hP hD hS => ?_)
      have hP : va_P D vwCl (ME cy b (M 0 0) (M 0 1) (M 0 2) (fm_c (M 1) 3 z) (M 0 4) (M 0 5) (M 0 6) (M 1) (M 2) (M 3) (M 4) (M 5) h) H := hP
      have hD : va_D A (ME cy b (M 0 0) (M 0 1) (M 0 2) (fm_c (M 1) 3 z) (M 0 4) (M 0 5) (M 0 6) (M 1) (M 2) (M 3) (M 4) (M 5) h) := hD
      refine lv_aload_n hx hb dX9_givesUp_32 rfl (lv_at hl 0 rfl) ?_
      refine lv_aload_n hx hb dX9_givesUp_33 rfl (lv_at hl 0 rfl) ?_
      refine lv_iload_n hx hb dX9_givesUp_34 rfl (lv_at hl 1 rfl) ?_
      refine lv_iconst (v := 0) hx hb dX9_givesUp_35 (by decide) ?_
      refine fz_at1 (show x = nI z from ez) ?_
      refine fz_retR (va_runV (As := [.int (nI z), .int (nI 0)]) (rest := [.ref (b 0)]) ⟨hx, hb, hml, hown, hts⟩ (c_X9_told l D cy b (fz_up M 0 (upd (M 0) 3 (fm_c (M 1) 3 z))) h z 0 (by omega) (by omega)) (cwV 2 hts gX9_givesUp_X9_told rfl rfl rfl (by decide +kernel) ⟨Nat.le_of_ble_eq_true rfl, Nat.le_of_ble_eq_true rfl⟩) (fz_preV (ci := 7) (q0 := 0) hK hP rfl rfl rfl fz_T_bl (fun _ _ _ => trivial)) rfl rfl hl.1 rfl (lv_room (Nat.le_of_ble_eq_true rfl)) dX9_givesUp_36 ⟨Nat.zero_le _, Nat.zero_le _⟩) ?_
      refine fz_top (show _ = fm_c (M 1) 0 z from rfl) ?_
      refine lv_iconst (v := 0) hx hb dX9_givesUp_39 (by decide) ?_
      refine lv_aload_n hx hb dX9_givesUp_40 rfl (lv_at hl 0 rfl) ?_
      refine va_get (D := D) (ci := 7) (v := .int (fm_c (M 1) 3 z)) (C := RX9) (T := TX9) (N := 13) hx hb hts inX9 hown hK hP 0 rfl rfl 7 (by decide) k_47 (fun _ h9 => h9) rfl dX9_givesUp_41 ?_
      refine fz_at2 (show fm_c (M 1) 0 z = nI j from ej) ?_
      refine fz_retMV (ws' := ME cy b (M 0 0) (M 0 1) (M 0 2) (fm_c (M 1) 3 z) (M 0 4) (M 0 5) (M 0 6) (fm_ta (M 1) 0 j (fm_c (M 1) 3 z)) (M 2) (M 3) (M 4) (M 5) h) (va_runV (As := [.int (nI j), .int (nI 0), .int (fm_c (M 1) 3 z)]) (rest := []) ⟨hx, hb, hml, hown, hts⟩ (c_X9_adds l D cy b (fz_up M 0 (upd (M 0) 3 (fm_c (M 1) 3 z))) h j 0 (by omega) (by omega) (fm_c (M 1) 3 z)) (cwV 3 hts gX9_givesUp_X9_adds rfl rfl rfl (by decide +kernel) ⟨Nat.le_of_ble_eq_true rfl, Nat.le_of_ble_eq_true rfl⟩) (fz_preMV (ci := 7) (q0 := 0) hK hP hD rfl rfl rfl fz_T_bl (fun _ _ _ => trivial)) rfl rfl hl.1 rfl (lv_room (Nat.le_of_ble_eq_true rfl)) dX9_givesUp_44 ⟨Nat.zero_le _, Nat.zero_le _⟩) hP hD hS [0, 1, 2, 3, 4, 5] [] rfl rfl [true, true, true, true, true, true] (And.intro rfl (And.intro rfl (And.intro rfl (And.intro rfl (And.intro rfl (And.intro rfl trivial)))))) rfl rfl (fun H locs hP hD hS => ?_)
      have hP : va_P D vwCl (ME cy b (M 0 0) (M 0 1) (M 0 2) (fm_c (M 1) 3 z) (M 0 4) (M 0 5) (M 0 6) (fm_ta (M 1) 0 j (fm_c (M 1) 3 z)) (M 2) (M 3) (M 4) (M 5) h) H := hP
      have hD : va_D A (ME cy b (M 0 0) (M 0 1) (M 0 2) (fm_c (M 1) 3 z) (M 0 4) (M 0 5) (M 0 6) (fm_ta (M 1) 0 j (fm_c (M 1) 3 z)) (M 2) (M 3) (M 4) (M 5) h) := hD
      refine lv_aload_n hx hb dX9_givesUp_47 rfl (lv_at hl 0 rfl) ?_
      refine lv_iload_n hx hb dX9_givesUp_48 rfl (lv_at hl 1 rfl) ?_
      refine lv_iconst (v := 3) hx hb dX9_givesUp_49 (by decide) ?_
      refine lv_iconst (v := 0) hx hb dX9_givesUp_50 (by decide) ?_
      refine fz_at2 (show x = nI z from ez) ?_
      refine fz_retMV (ws' := ME cy b (M 0 0) (M 0 1) (M 0 2) (fm_c (M 1) 3 z) (M 0 4) (M 0 5) (M 0 6) (fm_cs (fm_ta (M 1) 0 j (fm_c (M 1) 3 z)) 3 z 0) (M 2) (M 3) (M 4) (M 5) h) (va_runV (As := [.int (nI z), .int (nI 3), .int 0]) (rest := []) ⟨hx, hb, hml, hown, hts⟩ (c_X9_tells l D cy b (fz_up (fz_up M 0 (upd (M 0) 3 (fm_c (M 1) 3 z))) 1 (fm_ta (M 1) 0 j (fm_c (M 1) 3 z))) h z 3 (by omega) (by omega) 0) (cwV 3 hts gX9_givesUp_X9_tells rfl rfl rfl (by decide +kernel) ⟨Nat.le_of_ble_eq_true rfl, Nat.le_of_ble_eq_true rfl⟩) (fz_preMV (ci := 7) (q0 := 0) hK hP hD rfl rfl rfl fz_T_bl (fun _ _ _ => trivial)) rfl rfl hl.1 rfl (lv_room (Nat.le_of_ble_eq_true rfl)) dX9_givesUp_51 ⟨Nat.zero_le _, Nat.zero_le _⟩) hP hD hS [0, 1, 2, 3, 4, 5] [] rfl rfl [true, true, true, true, true, true] (And.intro rfl (And.intro rfl (And.intro rfl (And.intro rfl (And.intro rfl (And.intro rfl trivial)))))) rfl rfl (fun H locs hP hD hS => ?_)
      have hP : va_P D vwCl (ME cy b (M 0 0) (M 0 1) (M 0 2) (fm_c (M 1) 3 z) (M 0 4) (M 0 5) (M 0 6) (fm_cs (fm_ta (M 1) 0 j (fm_c (M 1) 3 z)) 3 z 0) (M 2) (M 3) (M 4) (M 5) h) H := hP
      have hD : va_D A (ME cy b (M 0 0) (M 0 1) (M 0 2) (fm_c (M 1) 3 z) (M 0 4) (M 0 5) (M 0 6) (fm_cs (fm_ta (M 1) 0 j (fm_c (M 1) 3 z)) 3 z 0) (M 2) (M 3) (M 4) (M 5) h) := hD
      refine lv_aload_n hx hb dX9_givesUp_54 rfl (lv_at hl 0 rfl) ?_
      refine lv_iload_n hx hb dX9_givesUp_55 rfl (lv_at hl 1 rfl) ?_
      refine lv_iconst (v := 2) hx hb dX9_givesUp_56 (by decide) ?_
      refine lv_iconst (v := 4) hx hb dX9_givesUp_57 (by decide) ?_
      refine fz_at2 (show x = nI z from ez) ?_
      refine fz_retMV (ws' := ME cy b (M 0 0) (M 0 1) (M 0 2) (fm_c (M 1) 3 z) (M 0 4) (M 0 5) (M 0 6) (fm_cs (fm_cs (fm_ta (M 1) 0 j (fm_c (M 1) 3 z)) 3 z 0) 2 z 4) (M 2) (M 3) (M 4) (M 5) h) (va_runV (As := [.int (nI z), .int (nI 2), .int 4]) (rest := []) ⟨hx, hb, hml, hown, hts⟩ (c_X9_tells l D cy b (fz_up (fz_up M 0 (upd (M 0) 3 (fm_c (M 1) 3 z))) 1 (fm_cs (fm_ta (M 1) 0 j (fm_c (M 1) 3 z)) 3 z 0)) h z 2 (by omega) (by omega) 4) (cwV 3 hts gX9_givesUp_X9_tells rfl rfl rfl (by decide +kernel) ⟨Nat.le_of_ble_eq_true rfl, Nat.le_of_ble_eq_true rfl⟩) (fz_preMV (ci := 7) (q0 := 0) hK hP hD rfl rfl rfl fz_T_bl (fun _ _ _ => trivial)) rfl rfl hl.1 rfl (lv_room (Nat.le_of_ble_eq_true rfl)) dX9_givesUp_58 ⟨Nat.zero_le _, Nat.zero_le _⟩) hP hD hS [0, 1, 2, 3, 4, 5] [] rfl rfl [true, true, true, true, true, true] (And.intro rfl (And.intro rfl (And.intro rfl (And.intro rfl (And.intro rfl (And.intro rfl trivial)))))) rfl rfl (fun H locs hP hD hS => ?_)
      have hP : va_P D vwCl (ME cy b (M 0 0) (M 0 1) (M 0 2) (fm_c (M 1) 3 z) (M 0 4) (M 0 5) (M 0 6) (fm_cs (fm_cs (fm_ta (M 1) 0 j (fm_c (M 1) 3 z)) 3 z 0) 2 z 4) (M 2) (M 3) (M 4) (M 5) h) H := hP
      have hD : va_D A (ME cy b (M 0 0) (M 0 1) (M 0 2) (fm_c (M 1) 3 z) (M 0 4) (M 0 5) (M 0 6) (fm_cs (fm_cs (fm_ta (M 1) 0 j (fm_c (M 1) 3 z)) 3 z 0) 2 z 4) (M 2) (M 3) (M 4) (M 5) h) := hD
      refine lv_iconst (v := 0) hx hb dX9_givesUp_61 (by decide) ?_
      have eF : fm_give M x = fm_give2 M z j := by simp only [fm_give, c_1, c_2, ez', ej', ↓reduceIte, Bool.false_eq_true, cond_true, cond_false]
      exact W.iret (v := 0) hx hb hr (fun t9 ht9 hW9 => ⟨⟨_, (), rfl, (by rw [eF] <;> rfl), fz_to ht9 (by rw [eF]; exact hP)⟩, hS.F ht9⟩) hS.2.2 dX9_givesUp_62
    · skip
      refine lv_iconst (v := 2) hx hb dX9_givesUp_20 (by decide) ?_
      have eF : fm_give M x = (2, M) := by simp only [fm_give, c_1, c_2, ez', ↓reduceIte, Bool.false_eq_true, cond_true, cond_false]
      exact W.iret (v := 2) hx hb hr (fun t9 ht9 hW9 => ⟨⟨_, (), rfl, (by rw [eF] <;> rfl), fz_to ht9 (by rw [eF]; exact hP)⟩, hS.F ht9⟩) hS.2.2 dX9_givesUp_21
  · skip
    refine lv_iconst (v := 1) hx hb dX9_givesUp_8 (by decide) ?_
    have eF : fm_give M x = (1, M) := by simp only [fm_give, c_1, ↓reduceIte, Bool.false_eq_true, cond_true, cond_false]
    exact W.iret (v := 1) hx hb hr (fun t9 ht9 hW9 => ⟨⟨_, (), rfl, (by rw [eF] <;> rfl), fz_to ht9 (by rw [eF]; exact hP)⟩, hS.F ht9⟩) hS.2.2 dX9_givesUp_9
set_option maxHeartbeats 4000000 in
set_option maxRecDepth 100000 in
/-- the model: makes -/
theorem c_X9_makes (l : Launch) (D : va_G) (cy : Nat → ClassId) (b : Nat → Nat) (M : Nat → Nat → Int32) (h : Int64) (nt nc nl wk : Nat) (wf : fm_wf (M 1) nt nc nl wk) (x : Int32) (fr : Bool) : fz_MI l yX9_makes wsX9_makes 2 43 D cy [.ref (b 0), .int x, .int (fz_b fr)] (MW cy b M h) fz_T ((fm_make M wk x fr).1) (MW cy b ((fm_make M wk x fr).2) h) := by
  refine Met.ofW (cc := cX9_makes) (maxL := 7) (ret := (some .int)) (by decide) rfl ?_
  intro p e s m args below meth c s₁ B hml hv
  obtain ⟨rfl, hP, hK, hD0, hE⟩ := hv
  have hx := B.exec
  have hb := B.bytes
  have hr := B.returns
  have hts := atoms_spec (ws := wsX9_makes) B.pre
  have hown : s.vm.findClass RX9 = some m.cls := findClass_of_methodNamed B.named
  have hlocks := B.notSynchronized
  have hD := fz_self hD0
  generalize hAe : fz_in (MW cy b M h) = A at hD ⊢
  have hS : va_S A s.heap s.heap [] := va_S.rf
  have hl := lv_entry ([.ref (b 0), .int x, .int (fz_b fr)]) (n := 7) (Nat.le_of_ble_eq_true rfl)
  rw [lg_entry_eq]
  generalize (lg_sl ([.ref (b 0), .int x, .int (fz_b fr)]) ++ List.replicate (7 - (lg_sl ([.ref (b 0), .int x, .int (fz_b fr)])).length) Slot.unset).toArray = ls at hl ⊢
  have hl : lv_has ls 7 [(0, .ref (b 0)), (1, .int x), (2, .int (fz_b fr))] := hl
  have k_47 := hts (.fieldLink RX9 47 "FreezeCreditsModel" "answer" "I") (by decide +kernel)
  have inX9 : ∀ w ∈ u_ws RX9 TX9 13, w ∈ wsX9_makes := by decide +kernel
  have k_7 := hts (.fieldLink RX9 7 "FreezeCreditsModel" "now" "[I") (by decide +kernel)
  obtain ⟨hnt, hnt6, hnc, hnc30, hnl, hnl12, hwk, hwk39, hT, hG, hB, hZo⟩ := id wf
  refine lv_aload_n hx hb dX9_makes_0 rfl (lv_at hl 0 rfl) ?_
  refine lv_iload_n hx hb dX9_makes_1 rfl (lv_at hl 1 rfl) ?_
  refine fz_retR (va_runV (As := [.int x]) (rest := []) ⟨hx, hb, hml, hown, hts⟩ (c_X9_isChange l D cy b M h x nc hnc (by omega)) (cwV 1 hts gX9_makes_X9_isChange rfl rfl rfl (by decide +kernel) ⟨Nat.le_of_ble_eq_true rfl, Nat.le_of_ble_eq_true rfl⟩) (fz_preV (ci := 7) (q0 := 0) hK hP rfl rfl rfl fz_T_bl (fun _ _ _ => trivial)) rfl rfl hl.1 rfl (lv_room (Nat.le_of_ble_eq_true rfl)) dX9_makes_2 ⟨Nat.zero_le _, Nat.zero_le _⟩) ?_
  refine fz_ifneB (tgt := 10) hx hb dX9_makes_5 (by decide) (fun c_1 => ?_) (fun c_1 => ?_)
  · skip
    obtain ⟨z, hz, ez⟩ := fz_ix_t (by omega) (show fz_ix x (nI nc) = true by rw [← hnc]; exact c_1)
    have ez' := fz_tnat ez (by omega)
    obtain ⟨j, hj, ej⟩ := hT z hz
    have ej' := fz_tnat ej (by omega)
    refine fz_cutM (σ := Unit) (pcj := 35) (nL := 7) (D := D) (cl := vwCl) (A := A) (H0 := s.heap) (fun _ => [(0, .ref (b 0)), (1, .int (nI z)), (2, .int (fz_b fr)), (3, .int (fm_c (M 1) 2 z))]) (fun _ => MW cy b M h) (fun _ => (fm_make M wk x fr = fm_make2 M z j fr)) ?_ (fun J35 => ?_)
    · skip
      rintro _ hGo H locs ls hP hD hS hl
      have hP : va_P D vwCl (MW cy b M h) H := hP
      have hD : va_D A (MW cy b M h) := hD
      have hGo : fm_make M wk x fr = fm_make2 M z j fr := hGo
      have hl : lv_has ls 7 [(0, .ref (b 0)), (1, .int (nI z)), (2, .int (fz_b fr)), (3, .int (fm_c (M 1) 2 z))] := hl
      refine lv_aload_n hx hb dX9_makes_35 rfl (lv_at hl 0 rfl) ?_
      refine lv_iload_n hx hb dX9_makes_36 rfl (lv_at hl 1 rfl) ?_
      refine lv_iconst (v := 0) hx hb dX9_makes_37 (by decide) ?_
      refine fz_retR (va_runV (As := [.int (nI z), .int (nI 0)]) (rest := []) ⟨hx, hb, hml, hown, hts⟩ (c_X9_told l D cy b M h z 0 (by omega) (by omega)) (cwV 2 hts gX9_makes_X9_told rfl rfl rfl (by decide +kernel) ⟨Nat.le_of_ble_eq_true rfl, Nat.le_of_ble_eq_true rfl⟩) (fz_preV (ci := 7) (q0 := 0) hK hP rfl rfl rfl fz_T_bl (fun _ _ _ => trivial)) rfl rfl hl.1 rfl (lv_room (Nat.le_of_ble_eq_true rfl)) dX9_makes_38 ⟨Nat.zero_le _, Nat.zero_le _⟩) ?_
      refine lv_istore (lv' := [(4, .int (fm_c (M 1) 0 z)), (0, .ref (b 0)), (1, .int (nI z)), (2, .int (fz_b fr)), (3, .int (fm_c (M 1) 2 z))]) hx hb dX9_makes_41 hl (by decide) rfl (fun ls hl => ?_)
      refine lv_aload_n hx hb dX9_makes_43 rfl (lv_at hl 1 rfl) ?_
      refine lv_iload_n hx hb dX9_makes_44 rfl (lv_at hl 2 rfl) ?_
      refine lv_iconst (v := 3) hx hb dX9_makes_45 (by decide) ?_
      refine fz_retR (va_runV (As := [.int (nI z), .int (nI 3)]) (rest := []) ⟨hx, hb, hml, hown, hts⟩ (c_X9_told l D cy b M h z 3 (by omega) (by omega)) (cwV 2 hts gX9_makes_X9_told rfl rfl rfl (by decide +kernel) ⟨Nat.le_of_ble_eq_true rfl, Nat.le_of_ble_eq_true rfl⟩) (fz_preV (ci := 7) (q0 := 0) hK hP rfl rfl rfl fz_T_bl (fun _ _ _ => trivial)) rfl rfl hl.1 rfl (lv_room (Nat.le_of_ble_eq_true rfl)) dX9_makes_46 ⟨Nat.zero_le _, Nat.zero_le _⟩) ?_
      refine lv_istore (lv' := [(5, .int (fm_c (M 1) 3 z)), (4, .int (fm_c (M 1) 0 z)), (0, .ref (b 0)), (1, .int (nI z)), (2, .int (fz_b fr)), (3, .int (fm_c (M 1) 2 z))]) hx hb dX9_makes_49 hl (by decide) rfl (fun ls hl => ?_)
      refine lv_aload_n hx hb dX9_makes_51 rfl (lv_at hl 2 rfl) ?_
      refine lv_iconst (v := 0) hx hb dX9_makes_52 (by decide) ?_
      refine va_put (D := D) (ci := 7) (v := .int 0) (ty := tyX9 7) (C := RX9) (T := TX9) (N := 13) hx hb hts inX9 tyX9 tyX9_ok nmX9 hown hK hP hD hS 0 rfl rfl 7 (by decide) k_47 (fun _ h9 => h9) rfl (by decide +kernel) rfl rfl (Nat.le_of_ble_eq_true rfl) dX9_makes_53 (fun H locs hP hD hS => ?_)
      have hP : va_P D vwCl (ME cy b (M 0 0) (M 0 1) (M 0 2) 0 (M 0 4) (M 0 5) (M 0 6) (M 1) (M 2) (M 3) (M 4) (M 5) h) H := hP
      have hD : va_D A (ME cy b (M 0 0) (M 0 1) (M 0 2) 0 (M 0 4) (M 0 5) (M 0 6) (M 1) (M 2) (M 3) (M 4) (M 5) h) := hD
      refine lv_iload_n hx hb dX9_makes_56 rfl (lv_at hl 4 rfl) ?_
      refine fz_ifeqB (tgt := 135) hx hb dX9_makes_57 (by decide) (fun c_2 => ?_) (fun c_2 => ?_)
      · skip
        refine lv_aload_n hx hb dX9_makes_135 rfl (lv_at hl 2 rfl) ?_
        refine lv_iload hx hb dX9_makes_136 (lv_at hl 1 rfl) ?_
        refine lv_iconst (v := 0) hx hb dX9_makes_138 (by decide) ?_
        refine lv_iload hx hb dX9_makes_139 (lv_at hl 0 rfl) ?_
        refine fz_at2 (show fm_c (M 1) 0 z = nI j from ej) ?_
        refine fz_retMV (ws' := ME cy b (M 0 0) (M 0 1) (M 0 2) 0 (M 0 4) (M 0 5) (M 0 6) (fm_ta (M 1) 0 j (fm_c (M 1) 3 z)) (M 2) (M 3) (M 4) (M 5) h) (va_runV (As := [.int (nI j), .int (nI 0), .int (fm_c (M 1) 3 z)]) (rest := []) ⟨hx, hb, hml, hown, hts⟩ (c_X9_adds l D cy b (fz_up M 0 (upd (M 0) 3 0)) h j 0 (by omega) (by omega) (fm_c (M 1) 3 z)) (cwV 3 hts gX9_makes_X9_adds rfl rfl rfl (by decide +kernel) ⟨Nat.le_of_ble_eq_true rfl, Nat.le_of_ble_eq_true rfl⟩) (fz_preMV (ci := 7) (q0 := 0) hK hP hD rfl rfl rfl fz_T_bl (fun _ _ _ => trivial)) rfl rfl hl.1 rfl (lv_room (Nat.le_of_ble_eq_true rfl)) dX9_makes_141 ⟨Nat.zero_le _, Nat.zero_le _⟩) hP hD hS [0, 1, 2, 3, 4, 5] [] rfl rfl [true, true, true, true, true, true] (And.intro rfl (And.intro rfl (And.intro rfl (And.intro rfl (And.intro rfl (And.intro rfl trivial)))))) rfl rfl (fun H locs hP hD hS => ?_)
        have hP : va_P D vwCl (ME cy b (M 0 0) (M 0 1) (M 0 2) 0 (M 0 4) (M 0 5) (M 0 6) (fm_ta (M 1) 0 j (fm_c (M 1) 3 z)) (M 2) (M 3) (M 4) (M 5) h) H := hP
        have hD : va_D A (ME cy b (M 0 0) (M 0 1) (M 0 2) 0 (M 0 4) (M 0 5) (M 0 6) (fm_ta (M 1) 0 j (fm_c (M 1) 3 z)) (M 2) (M 3) (M 4) (M 5) h) := hD
        refine lv_aload_n hx hb dX9_makes_144 rfl (lv_at hl 2 rfl) ?_
        refine lv_iload_n hx hb dX9_makes_145 rfl (lv_at hl 3 rfl) ?_
        refine lv_iconst (v := 2) hx hb dX9_makes_146 (by decide) ?_
        refine lv_iload_n hx hb dX9_makes_147 rfl (lv_at hl 4 rfl) ?_
        refine fz_ifeqB (tgt := 155) hx hb dX9_makes_148 (by decide) (fun c_3 => ?_) (fun c_3 => ?_)
        · skip
          refine lv_iconst (v := 2) hx hb dX9_makes_155 (by decide) ?_
          refine fz_retMV (ws' := ME cy b (M 0 0) (M 0 1) (M 0 2) 0 (M 0 4) (M 0 5) (M 0 6) (fm_cs (fm_ta (M 1) 0 j (fm_c (M 1) 3 z)) 2 z 2) (M 2) (M 3) (M 4) (M 5) h) (va_runV (As := [.int (nI z), .int (nI 2), .int 2]) (rest := []) ⟨hx, hb, hml, hown, hts⟩ (c_X9_tells l D cy b (fz_up (fz_up M 0 (upd (M 0) 3 0)) 1 (fm_ta (M 1) 0 j (fm_c (M 1) 3 z))) h z 2 (by omega) (by omega) 2) (cwV 3 hts gX9_makes_X9_tells rfl rfl rfl (by decide +kernel) ⟨Nat.le_of_ble_eq_true rfl, Nat.le_of_ble_eq_true rfl⟩) (fz_preMV (ci := 7) (q0 := 0) hK hP hD rfl rfl rfl fz_T_bl (fun _ _ _ => trivial)) rfl rfl hl.1 rfl (lv_room (Nat.le_of_ble_eq_true rfl)) dX9_makes_156 ⟨Nat.zero_le _, Nat.zero_le _⟩) hP hD hS [0, 1, 2, 3, 4, 5] [] rfl rfl [true, true, true, true, true, true] (And.intro rfl (And.intro rfl (And.intro rfl (And.intro rfl (And.intro rfl (And.intro rfl trivial)))))) rfl rfl (fun H locs hP hD hS => ?_)
          have hP : va_P D vwCl (ME cy b (M 0 0) (M 0 1) (M 0 2) 0 (M 0 4) (M 0 5) (M 0 6) (fm_cs (fm_ta (M 1) 0 j (fm_c (M 1) 3 z)) 2 z 2) (M 2) (M 3) (M 4) (M 5) h) H := hP
          have hD : va_D A (ME cy b (M 0 0) (M 0 1) (M 0 2) 0 (M 0 4) (M 0 5) (M 0 6) (fm_cs (fm_ta (M 1) 0 j (fm_c (M 1) 3 z)) 2 z 2) (M 2) (M 3) (M 4) (M 5) h) := hD
          refine lv_aload_n hx hb dX9_makes_159 rfl (lv_at hl 2 rfl) ?_
          refine lv_iload_n hx hb dX9_makes_160 rfl (lv_at hl 3 rfl) ?_
          refine lv_iconst (v := 3) hx hb dX9_makes_161 (by decide) ?_
          refine lv_iconst (v := 0) hx hb dX9_makes_162 (by decide) ?_
          refine fz_retMV (ws' := ME cy b (M 0 0) (M 0 1) (M 0 2) 0 (M 0 4) (M 0 5) (M 0 6) (fm_cs (fm_cs (fm_ta (M 1) 0 j (fm_c (M 1) 3 z)) 2 z 2) 3 z 0) (M 2) (M 3) (M 4) (M 5) h) (va_runV (As := [.int (nI z), .int (nI 3), .int 0]) (rest := []) ⟨hx, hb, hml, hown, hts⟩ (c_X9_tells l D cy b (fz_up (fz_up M 0 (upd (M 0) 3 0)) 1 (fm_cs (fm_ta (M 1) 0 j (fm_c (M 1) 3 z)) 2 z 2)) h z 3 (by omega) (by omega) 0) (cwV 3 hts gX9_makes_X9_tells rfl rfl rfl (by decide +kernel) ⟨Nat.le_of_ble_eq_true rfl, Nat.le_of_ble_eq_true rfl⟩) (fz_preMV (ci := 7) (q0 := 0) hK hP hD rfl rfl rfl fz_T_bl (fun _ _ _ => trivial)) rfl rfl hl.1 rfl (lv_room (Nat.le_of_ble_eq_true rfl)) dX9_makes_163 ⟨Nat.zero_le _, Nat.zero_le _⟩) hP hD hS [0, 1, 2, 3, 4, 5] [] rfl rfl [true, true, true, true, true, true] (And.intro rfl (And.intro rfl (And.intro rfl (And.intro rfl (And.intro rfl (And.intro rfl trivial)))))) rfl rfl (fun H locs hP hD hS => ?_)
          have hP : va_P D vwCl (ME cy b (M 0 0) (M 0 1) (M 0 2) 0 (M 0 4) (M 0 5) (M 0 6) (fm_cs (fm_cs (fm_ta (M 1) 0 j (fm_c (M 1) 3 z)) 2 z 2) 3 z 0) (M 2) (M 3) (M 4) (M 5) h) H := hP
          have hD : va_D A (ME cy b (M 0 0) (M 0 1) (M 0 2) 0 (M 0 4) (M 0 5) (M 0 6) (fm_cs (fm_cs (fm_ta (M 1) 0 j (fm_c (M 1) 3 z)) 2 z 2) 3 z 0) (M 2) (M 3) (M 4) (M 5) h) := hD
          refine lv_aload_n hx hb dX9_makes_166 rfl (lv_at hl 2 rfl) ?_
          refine lv_iload_n hx hb dX9_makes_167 rfl (lv_at hl 3 rfl) ?_
          refine lv_iconst (v := 5) hx hb dX9_makes_168 (by decide) ?_
          refine lv_aload_n hx hb dX9_makes_169 rfl (lv_at hl 2 rfl) ?_
          refine va_get (D := D) (ci := 7) (v := .ref (b 1)) (C := RX9) (T := TX9) (N := 13) hx hb hts inX9 hown hK hP 0 rfl rfl 0 (by decide) k_7 (fun _ h9 => h9) rfl dX9_makes_170 ?_
          refine lv_iconst (v := 0) hx hb dX9_makes_173 (by decide) ?_
          refine fz_iald (f := fm_cs (fm_cs (fm_ta (M 1) 0 j (fm_c (M 1) 3 z)) 2 z 2) 3 z 0) hx hb hK hP 1 0 rfl rfl 0 rfl (by omega) (by decide) dX9_makes_174 ?_
          refine fz_top (show _ = M 1 0 from (by simp only [fm_cs_0, fm_ta_0])) ?_
          refine fz_retMV (ws' := ME cy b (M 0 0) (M 0 1) (M 0 2) 0 (M 0 4) (M 0 5) (M 0 6) (fm_cs (fm_cs (fm_cs (fm_ta (M 1) 0 j (fm_c (M 1) 3 z)) 2 z 2) 3 z 0) 5 z (M 1 0)) (M 2) (M 3) (M 4) (M 5) h) (va_runV (As := [.int (nI z), .int (nI 5), .int (M 1 0)]) (rest := []) ⟨hx, hb, hml, hown, hts⟩ (c_X9_tells l D cy b (fz_up (fz_up M 0 (upd (M 0) 3 0)) 1 (fm_cs (fm_cs (fm_ta (M 1) 0 j (fm_c (M 1) 3 z)) 2 z 2) 3 z 0)) h z 5 (by omega) (by omega) (M 1 0)) (cwV 3 hts gX9_makes_X9_tells rfl rfl rfl (by decide +kernel) ⟨Nat.le_of_ble_eq_true rfl, Nat.le_of_ble_eq_true rfl⟩) (fz_preMV (ci := 7) (q0 := 0) hK hP hD rfl rfl rfl fz_T_bl (fun _ _ _ => trivial)) rfl rfl hl.1 rfl (lv_room (Nat.le_of_ble_eq_true rfl)) dX9_makes_175 ⟨Nat.zero_le _, Nat.zero_le _⟩) hP hD hS [0, 1, 2, 3, 4, 5] [] rfl rfl [true, true, true, true, true, true] (And.intro rfl (And.intro rfl (And.intro rfl (And.intro rfl (And.intro rfl (And.intro rfl trivial)))))) rfl rfl (fun H locs hP hD hS => ?_)
          have hP : va_P D vwCl (ME cy b (M 0 0) (M 0 1) (M 0 2) 0 (M 0 4) (M 0 5) (M 0 6) (fm_cs (fm_cs (fm_cs (fm_ta (M 1) 0 j (fm_c (M 1) 3 z)) 2 z 2) 3 z 0) 5 z (M 1 0)) (M 2) (M 3) (M 4) (M 5) h) H := hP
          have hD : va_D A (ME cy b (M 0 0) (M 0 1) (M 0 2) 0 (M 0 4) (M 0 5) (M 0 6) (fm_cs (fm_cs (fm_cs (fm_ta (M 1) 0 j (fm_c (M 1) 3 z)) 2 z 2) 3 z 0) 5 z (M 1 0)) (M 2) (M 3) (M 4) (M 5) h) := hD
          refine lv_aload_n hx hb dX9_makes_178 rfl (lv_at hl 2 rfl) ?_
          refine lv_iload_n hx hb dX9_makes_179 rfl (lv_at hl 3 rfl) ?_
          refine lv_bipush (v := 6) hx hb dX9_makes_180 (by decide) ?_
          refine lv_iload_n hx hb dX9_makes_182 rfl (lv_at hl 5 rfl) ?_
          refine fz_retMV (ws' := ME cy b (M 0 0) (M 0 1) (M 0 2) 0 (M 0 4) (M 0 5) (M 0 6) (fm_cs (fm_cs (fm_cs (fm_cs (fm_ta (M 1) 0 j (fm_c (M 1) 3 z)) 2 z 2) 3 z 0) 5 z (M 1 0)) 6 z (fm_c (M 1) 2 z)) (M 2) (M 3) (M 4) (M 5) h) (va_runV (As := [.int (nI z), .int (nI 6), .int (fm_c (M 1) 2 z)]) (rest := []) ⟨hx, hb, hml, hown, hts⟩ (c_X9_tells l D cy b (fz_up (fz_up M 0 (upd (M 0) 3 0)) 1 (fm_cs (fm_cs (fm_cs (fm_ta (M 1) 0 j (fm_c (M 1) 3 z)) 2 z 2) 3 z 0) 5 z (M 1 0))) h z 6 (by omega) (by omega) (fm_c (M 1) 2 z)) (cwV 3 hts gX9_makes_X9_tells rfl rfl rfl (by decide +kernel) ⟨Nat.le_of_ble_eq_true rfl, Nat.le_of_ble_eq_true rfl⟩) (fz_preMV (ci := 7) (q0 := 0) hK hP hD rfl rfl rfl fz_T_bl (fun _ _ _ => trivial)) rfl rfl hl.1 rfl (lv_room (Nat.le_of_ble_eq_true rfl)) dX9_makes_183 ⟨Nat.zero_le _, Nat.zero_le _⟩) hP hD hS [0, 1, 2, 3, 4, 5] [] rfl rfl [true, true, true, true, true, true] (And.intro rfl (And.intro rfl (And.intro rfl (And.intro rfl (And.intro rfl (And.intro rfl trivial)))))) rfl rfl (fun H locs hP hD hS => ?_)
          have hP : va_P D vwCl (ME cy b (M 0 0) (M 0 1) (M 0 2) 0 (M 0 4) (M 0 5) (M 0 6) (fm_cs (fm_cs (fm_cs (fm_cs (fm_ta (M 1) 0 j (fm_c (M 1) 3 z)) 2 z 2) 3 z 0) 5 z (M 1 0)) 6 z (fm_c (M 1) 2 z)) (M 2) (M 3) (M 4) (M 5) h) H := hP
          have hD : va_D A (ME cy b (M 0 0) (M 0 1) (M 0 2) 0 (M 0 4) (M 0 5) (M 0 6) (fm_cs (fm_cs (fm_cs (fm_cs (fm_ta (M 1) 0 j (fm_c (M 1) 3 z)) 2 z 2) 3 z 0) 5 z (M 1 0)) 6 z (fm_c (M 1) 2 z)) (M 2) (M 3) (M 4) (M 5) h) := hD
          refine lv_iconst (v := 0) hx hb dX9_makes_186 (by decide) ?_
          have eF : fm_make M wk x fr = (0, fz_up (fz_up M 0 (upd (M 0) 3 0)) 1 (fm_cs (fm_cs (fm_cs (fm_cs (fm_ta (M 1) 0 j (fm_c (M 1) 3 z)) 2 z 2) 3 z 0) 5 z (M 1 0)) 6 z (fm_c (M 1) 2 z))) := by rw [hGo]; simp only [fm_make2, fm_fine, fm_lo, fm_mk, c_2, ↓reduceIte, cond_true, cond_false]
          exact W.iret (v := 0) hx hb hr (fun t9 ht9 hW9 => ⟨⟨_, (), rfl, (by rw [eF] <;> rfl), fz_to ht9 (by rw [eF]; exact hP)⟩, hS.F ht9⟩) hS.2.2 dX9_makes_187
        · exact absurd (c_2.symm.trans c_3) (by decide)
      · skip
        refine lv_aload_n hx hb dX9_makes_60 rfl (lv_at hl 2 rfl) ?_
        refine va_get (D := D) (ci := 7) (v := .ref (b 1)) (C := RX9) (T := TX9) (N := 13) hx hb hts inX9 hown hK hP 0 rfl rfl 0 (by decide) k_7 (fun _ h9 => h9) rfl dX9_makes_61 ?_
        refine lv_bipush (v := 6) hx hb dX9_makes_64 (by decide) ?_
        refine fz_iald (f := M 1) hx hb hK hP 1 0 rfl rfl 6 rfl (by omega) (by decide) dX9_makes_66 ?_
        refine lv_aload_n hx hb dX9_makes_67 rfl (lv_at hl 2 rfl) ?_
        refine lv_iload_n hx hb dX9_makes_68 rfl (lv_at hl 3 rfl) ?_
        refine lv_iconst (v := 1) hx hb dX9_makes_69 (by decide) ?_
        refine fz_retR (va_runV (As := [.int (nI z), .int (nI 1)]) (rest := [.int (M 1 6)]) ⟨hx, hb, hml, hown, hts⟩ (c_X9_told l D cy b (fz_up M 0 (upd (M 0) 3 0)) h z 1 (by omega) (by omega)) (cwV 2 hts gX9_makes_X9_told rfl rfl rfl (by decide +kernel) ⟨Nat.le_of_ble_eq_true rfl, Nat.le_of_ble_eq_true rfl⟩) (fz_preV (ci := 7) (q0 := 0) hK hP rfl rfl rfl fz_T_bl (fun _ _ _ => trivial)) rfl rfl hl.1 rfl (lv_room (Nat.le_of_ble_eq_true rfl)) dX9_makes_70 ⟨Nat.zero_le _, Nat.zero_le _⟩) ?_
        refine fz_top (show _ = fm_c (M 1) 1 z from rfl) ?_
        refine lv_imul hx hb dX9_makes_73 ?_
        refine lv_istore (lv' := [(6, .int ((M 1 6) * (fm_c (M 1) 1 z))), (5, .int (fm_c (M 1) 3 z)), (4, .int (fm_c (M 1) 0 z)), (0, .ref (b 0)), (1, .int (nI z)), (2, .int (fz_b fr)), (3, .int (fm_c (M 1) 2 z))]) hx hb dX9_makes_74 hl (by decide) rfl (fun ls hl => ?_)
        refine lv_iload hx hb dX9_makes_76 (lv_at hl 0 rfl) ?_
        refine lv_aload_n hx hb dX9_makes_78 rfl (lv_at hl 3 rfl) ?_
        refine lv_iload hx hb dX9_makes_79 (lv_at hl 2 rfl) ?_
        refine lv_iconst (v := 0) hx hb dX9_makes_81 (by decide) ?_
        refine fz_at1 (show fm_c (M 1) 0 z = nI j from ej) ?_
        refine fz_retR (va_runV (As := [.int (nI j), .int (nI 0)]) (rest := [.int ((M 1 6) * (fm_c (M 1) 1 z))]) ⟨hx, hb, hml, hown, hts⟩ (c_X9_of l D cy b (fz_up M 0 (upd (M 0) 3 0)) h j 0 (by omega) (by omega)) (cwV 2 hts gX9_makes_X9_of rfl rfl rfl (by decide +kernel) ⟨Nat.le_of_ble_eq_true rfl, Nat.le_of_ble_eq_true rfl⟩) (fz_preV (ci := 7) (q0 := 0) hK hP rfl rfl rfl fz_T_bl (fun _ _ _ => trivial)) rfl rfl hl.1 rfl (lv_room (Nat.le_of_ble_eq_true rfl)) dX9_makes_82 ⟨Nat.zero_le _, Nat.zero_le _⟩) ?_
        refine fz_top (show _ = fm_t (M 1) 0 j from rfl) ?_
        refine lv_icmp_ge (tgt := 93) hx hb dX9_makes_85 (by decide) (fun c_4 => ?_) (fun c_4 => ?_)
        · skip
          refine lv_aload_n hx hb dX9_makes_93 rfl (lv_at hl 3 rfl) ?_
          refine lv_iload hx hb dX9_makes_94 (lv_at hl 2 rfl) ?_
          refine lv_iconst (v := 0) hx hb dX9_makes_96 (by decide) ?_
          refine fz_at1 (show fm_c (M 1) 0 z = nI j from ej) ?_
          refine fz_retR (va_runV (As := [.int (nI j), .int (nI 0)]) (rest := []) ⟨hx, hb, hml, hown, hts⟩ (c_X9_of l D cy b (fz_up M 0 (upd (M 0) 3 0)) h j 0 (by omega) (by omega)) (cwV 2 hts gX9_makes_X9_of rfl rfl rfl (by decide +kernel) ⟨Nat.le_of_ble_eq_true rfl, Nat.le_of_ble_eq_true rfl⟩) (fz_preV (ci := 7) (q0 := 0) hK hP rfl rfl rfl fz_T_bl (fun _ _ _ => trivial)) rfl rfl hl.1 rfl (lv_room (Nat.le_of_ble_eq_true rfl)) dX9_makes_97 ⟨Nat.zero_le _, Nat.zero_le _⟩) ?_
          refine fz_top (show _ = fm_t (M 1) 0 j from rfl) ?_
          refine lv_istore (lv' := [(6, .int (fm_t (M 1) 0 j)), (5, .int (fm_c (M 1) 3 z)), (4, .int (fm_c (M 1) 0 z)), (0, .ref (b 0)), (1, .int (nI z)), (2, .int (fz_b fr)), (3, .int (fm_c (M 1) 2 z))]) hx hb dX9_makes_100 hl (by decide) rfl (fun ls hl => ?_)
          refine lv_aload_n hx hb dX9_makes_102 rfl (lv_at hl 3 rfl) ?_
          refine lv_iload hx hb dX9_makes_103 (lv_at hl 2 rfl) ?_
          refine lv_iconst (v := 0) hx hb dX9_makes_105 (by decide) ?_
          refine lv_iload hx hb dX9_makes_106 (lv_at hl 0 rfl) ?_
          refine lv_ineg hx hb dX9_makes_108 ?_
          refine fz_at2 (show fm_c (M 1) 0 z = nI j from ej) ?_
          refine fz_retMV (ws' := ME cy b (M 0 0) (M 0 1) (M 0 2) 0 (M 0 4) (M 0 5) (M 0 6) (fm_ta (M 1) 0 j (-(fm_t (M 1) 0 j))) (M 2) (M 3) (M 4) (M 5) h) (va_runV (As := [.int (nI j), .int (nI 0), .int (-(fm_t (M 1) 0 j))]) (rest := []) ⟨hx, hb, hml, hown, hts⟩ (c_X9_adds l D cy b (fz_up M 0 (upd (M 0) 3 0)) h j 0 (by omega) (by omega) (-(fm_t (M 1) 0 j))) (cwV 3 hts gX9_makes_X9_adds rfl rfl rfl (by decide +kernel) ⟨Nat.le_of_ble_eq_true rfl, Nat.le_of_ble_eq_true rfl⟩) (fz_preMV (ci := 7) (q0 := 0) hK hP hD rfl rfl rfl fz_T_bl (fun _ _ _ => trivial)) rfl rfl hl.1 rfl (lv_room (Nat.le_of_ble_eq_true rfl)) dX9_makes_109 ⟨Nat.zero_le _, Nat.zero_le _⟩) hP hD hS [0, 1, 2, 3, 4, 5] [] rfl rfl [true, true, true, true, true, true] (And.intro rfl (And.intro rfl (And.intro rfl (And.intro rfl (And.intro rfl (And.intro rfl trivial)))))) rfl rfl (fun H locs hP hD hS => ?_)
          have hP : va_P D vwCl (ME cy b (M 0 0) (M 0 1) (M 0 2) 0 (M 0 4) (M 0 5) (M 0 6) (fm_ta (M 1) 0 j (-(fm_t (M 1) 0 j))) (M 2) (M 3) (M 4) (M 5) h) H := hP
          have hD : va_D A (ME cy b (M 0 0) (M 0 1) (M 0 2) 0 (M 0 4) (M 0 5) (M 0 6) (fm_ta (M 1) 0 j (-(fm_t (M 1) 0 j))) (M 2) (M 3) (M 4) (M 5) h) := hD
          refine lv_aload_n hx hb dX9_makes_112 rfl (lv_at hl 3 rfl) ?_
          refine lv_iload hx hb dX9_makes_113 (lv_at hl 1 rfl) ?_
          refine lv_iload hx hb dX9_makes_115 (lv_at hl 0 rfl) ?_
          refine lv_iadd hx hb dX9_makes_117 ?_
          refine va_put (D := D) (ci := 7) (v := .int ((fm_c (M 1) 3 z) + (fm_t (M 1) 0 j))) (ty := tyX9 7) (C := RX9) (T := TX9) (N := 13) hx hb hts inX9 tyX9 tyX9_ok nmX9 hown hK hP hD hS 0 rfl rfl 7 (by decide) k_47 (fun _ h9 => h9) rfl (by decide +kernel) rfl rfl (Nat.le_of_ble_eq_true rfl) dX9_makes_118 (fun H locs hP hD hS => ?_)
          have hP : va_P D vwCl (ME cy b (M 0 0) (M 0 1) (M 0 2) ((fm_c (M 1) 3 z) + (fm_t (M 1) 0 j)) (M 0 4) (M 0 5) (M 0 6) (fm_ta (M 1) 0 j (-(fm_t (M 1) 0 j))) (M 2) (M 3) (M 4) (M 5) h) H := hP
          have hD : va_D A (ME cy b (M 0 0) (M 0 1) (M 0 2) ((fm_c (M 1) 3 z) + (fm_t (M 1) 0 j)) (M 0 4) (M 0 5) (M 0 6) (fm_ta (M 1) 0 j (-(fm_t (M 1) 0 j))) (M 2) (M 3) (M 4) (M 5) h) := hD
          refine lv_aload_n hx hb dX9_makes_121 rfl (lv_at hl 3 rfl) ?_
          refine lv_iload hx hb dX9_makes_122 (lv_at hl 2 rfl) ?_
          refine lv_iconst (v := 2) hx hb dX9_makes_124 (by decide) ?_
          refine lv_aload_n hx hb dX9_makes_125 rfl (lv_at hl 3 rfl) ?_
          refine va_get (D := D) (ci := 7) (v := .int ((fm_c (M 1) 3 z) + (fm_t (M 1) 0 j))) (C := RX9) (T := TX9) (N := 13) hx hb hts inX9 hown hK hP 0 rfl rfl 7 (by decide) k_47 (fun _ h9 => h9) rfl dX9_makes_126 ?_
          refine fz_at2 (show fm_c (M 1) 0 z = nI j from ej) ?_
          refine fz_retMV (ws' := ME cy b (M 0 0) (M 0 1) (M 0 2) ((fm_c (M 1) 3 z) + (fm_t (M 1) 0 j)) (M 0 4) (M 0 5) (M 0 6) (fm_ta (fm_ta (M 1) 0 j (-(fm_t (M 1) 0 j))) 2 j ((fm_c (M 1) 3 z) + (fm_t (M 1) 0 j))) (M 2) (M 3) (M 4) (M 5) h) (va_runV (As := [.int (nI j), .int (nI 2), .int ((fm_c (M 1) 3 z) + (fm_t (M 1) 0 j))]) (rest := []) ⟨hx, hb, hml, hown, hts⟩ (c_X9_adds l D cy b (fz_up (fz_up M 0 (upd (M 0) 3 ((fm_c (M 1) 3 z) + (fm_t (M 1) 0 j)))) 1 (fm_ta (M 1) 0 j (-(fm_t (M 1) 0 j)))) h j 2 (by omega) (by omega) ((fm_c (M 1) 3 z) + (fm_t (M 1) 0 j))) (cwV 3 hts gX9_makes_X9_adds rfl rfl rfl (by decide +kernel) ⟨Nat.le_of_ble_eq_true rfl, Nat.le_of_ble_eq_true rfl⟩) (fz_preMV (ci := 7) (q0 := 0) hK hP hD rfl rfl rfl fz_T_bl (fun _ _ _ => trivial)) rfl rfl hl.1 rfl (lv_room (Nat.le_of_ble_eq_true rfl)) dX9_makes_129 ⟨Nat.zero_le _, Nat.zero_le _⟩) hP hD hS [0, 1, 2, 3, 4, 5] [] rfl rfl [true, true, true, true, true, true] (And.intro rfl (And.intro rfl (And.intro rfl (And.intro rfl (And.intro rfl (And.intro rfl trivial)))))) rfl rfl (fun H locs hP hD hS => ?_)
          have hP : va_P D vwCl (ME cy b (M 0 0) (M 0 1) (M 0 2) ((fm_c (M 1) 3 z) + (fm_t (M 1) 0 j)) (M 0 4) (M 0 5) (M 0 6) (fm_ta (fm_ta (M 1) 0 j (-(fm_t (M 1) 0 j))) 2 j ((fm_c (M 1) 3 z) + (fm_t (M 1) 0 j))) (M 2) (M 3) (M 4) (M 5) h) H := hP
          have hD : va_D A (ME cy b (M 0 0) (M 0 1) (M 0 2) ((fm_c (M 1) 3 z) + (fm_t (M 1) 0 j)) (M 0 4) (M 0 5) (M 0 6) (fm_ta (fm_ta (M 1) 0 j (-(fm_t (M 1) 0 j))) 2 j ((fm_c (M 1) 3 z) + (fm_t (M 1) 0 j))) (M 2) (M 3) (M 4) (M 5) h) := hD
          refine lv_goto (tgt := 144) hx hb dX9_makes_132 (by decide) ?_
          refine lv_aload_n hx hb dX9_makes_144 rfl (lv_at hl 3 rfl) ?_
          refine lv_iload_n hx hb dX9_makes_145 rfl (lv_at hl 4 rfl) ?_
          refine lv_iconst (v := 2) hx hb dX9_makes_146 (by decide) ?_
          refine lv_iload_n hx hb dX9_makes_147 rfl (lv_at hl 5 rfl) ?_
          refine fz_ifeqB (tgt := 155) hx hb dX9_makes_148 (by decide) (fun c_5 => ?_) (fun c_5 => ?_)
          · exact absurd (c_2.symm.trans c_5) (by decide)
          · skip
            refine lv_iconst (v := 3) hx hb dX9_makes_151 (by decide) ?_
            refine lv_goto (tgt := 156) hx hb dX9_makes_152 (by decide) ?_
            refine fz_retMV (ws' := ME cy b (M 0 0) (M 0 1) (M 0 2) ((fm_c (M 1) 3 z) + (fm_t (M 1) 0 j)) (M 0 4) (M 0 5) (M 0 6) (fm_cs (fm_ta (fm_ta (M 1) 0 j (-(fm_t (M 1) 0 j))) 2 j ((fm_c (M 1) 3 z) + (fm_t (M 1) 0 j))) 2 z 3) (M 2) (M 3) (M 4) (M 5) h) (va_runV (As := [.int (nI z), .int (nI 2), .int 3]) (rest := []) ⟨hx, hb, hml, hown, hts⟩ (c_X9_tells l D cy b (fz_up (fz_up M 0 (upd (M 0) 3 ((fm_c (M 1) 3 z) + (fm_t (M 1) 0 j)))) 1 (fm_ta (fm_ta (M 1) 0 j (-(fm_t (M 1) 0 j))) 2 j ((fm_c (M 1) 3 z) + (fm_t (M 1) 0 j)))) h z 2 (by omega) (by omega) 3) (cwV 3 hts gX9_makes_X9_tells rfl rfl rfl (by decide +kernel) ⟨Nat.le_of_ble_eq_true rfl, Nat.le_of_ble_eq_true rfl⟩) (fz_preMV (ci := 7) (q0 := 0) hK hP hD rfl rfl rfl fz_T_bl (fun _ _ _ => trivial)) rfl rfl hl.1 rfl (lv_room (Nat.le_of_ble_eq_true rfl)) dX9_makes_156 ⟨Nat.zero_le _, Nat.zero_le _⟩) hP hD hS [0, 1, 2, 3, 4, 5] [] rfl rfl [true, true, true, true, true, true] (And.intro rfl (And.intro rfl (And.intro rfl (And.intro rfl (And.intro rfl (And.intro rfl trivial)))))) rfl rfl (fun H locs hP hD hS => ?_)
            have hP : va_P D vwCl (ME cy b (M 0 0) (M 0 1) (M 0 2) ((fm_c (M 1) 3 z) + (fm_t (M 1) 0 j)) (M 0 4) (M 0 5) (M 0 6) (fm_cs (fm_ta (fm_ta (M 1) 0 j (-(fm_t (M 1) 0 j))) 2 j ((fm_c (M 1) 3 z) + (fm_t (M 1) 0 j))) 2 z 3) (M 2) (M 3) (M 4) (M 5) h) H := hP
            have hD : va_D A (ME cy b (M 0 0) (M 0 1) (M 0 2) ((fm_c (M 1) 3 z) + (fm_t (M 1) 0 j)) (M 0 4) (M 0 5) (M 0 6) (fm_cs (fm_ta (fm_ta (M 1) 0 j (-(fm_t (M 1) 0 j))) 2 j ((fm_c (M 1) 3 z) + (fm_t (M 1) 0 j))) 2 z 3) (M 2) (M 3) (M 4) (M 5) h) := hD
            refine lv_aload_n hx hb dX9_makes_159 rfl (lv_at hl 3 rfl) ?_
            refine lv_iload_n hx hb dX9_makes_160 rfl (lv_at hl 4 rfl) ?_
            refine lv_iconst (v := 3) hx hb dX9_makes_161 (by decide) ?_
            refine lv_iconst (v := 0) hx hb dX9_makes_162 (by decide) ?_
            refine fz_retMV (ws' := ME cy b (M 0 0) (M 0 1) (M 0 2) ((fm_c (M 1) 3 z) + (fm_t (M 1) 0 j)) (M 0 4) (M 0 5) (M 0 6) (fm_cs (fm_cs (fm_ta (fm_ta (M 1) 0 j (-(fm_t (M 1) 0 j))) 2 j ((fm_c (M 1) 3 z) + (fm_t (M 1) 0 j))) 2 z 3) 3 z 0) (M 2) (M 3) (M 4) (M 5) h) (va_runV (As := [.int (nI z), .int (nI 3), .int 0]) (rest := []) ⟨hx, hb, hml, hown, hts⟩ (c_X9_tells l D cy b (fz_up (fz_up M 0 (upd (M 0) 3 ((fm_c (M 1) 3 z) + (fm_t (M 1) 0 j)))) 1 (fm_cs (fm_ta (fm_ta (M 1) 0 j (-(fm_t (M 1) 0 j))) 2 j ((fm_c (M 1) 3 z) + (fm_t (M 1) 0 j))) 2 z 3)) h z 3 (by omega) (by omega) 0) (cwV 3 hts gX9_makes_X9_tells rfl rfl rfl (by decide +kernel) ⟨Nat.le_of_ble_eq_true rfl, Nat.le_of_ble_eq_true rfl⟩) (fz_preMV (ci := 7) (q0 := 0) hK hP hD rfl rfl rfl fz_T_bl (fun _ _ _ => trivial)) rfl rfl hl.1 rfl (lv_room (Nat.le_of_ble_eq_true rfl)) dX9_makes_163 ⟨Nat.zero_le _, Nat.zero_le _⟩) hP hD hS [0, 1, 2, 3, 4, 5] [] rfl rfl [true, true, true, true, true, true] (And.intro rfl (And.intro rfl (And.intro rfl (And.intro rfl (And.intro rfl (And.intro rfl trivial)))))) rfl rfl (fun H locs hP hD hS => ?_)
            have hP : va_P D vwCl (ME cy b (M 0 0) (M 0 1) (M 0 2) ((fm_c (M 1) 3 z) + (fm_t (M 1) 0 j)) (M 0 4) (M 0 5) (M 0 6) (fm_cs (fm_cs (fm_ta (fm_ta (M 1) 0 j (-(fm_t (M 1) 0 j))) 2 j ((fm_c (M 1) 3 z) + (fm_t (M 1) 0 j))) 2 z 3) 3 z 0) (M 2) (M 3) (M 4) (M 5) h) H := hP
            have hD : va_D A (ME cy b (M 0 0) (M 0 1) (M 0 2) ((fm_c (M 1) 3 z) + (fm_t (M 1) 0 j)) (M 0 4) (M 0 5) (M 0 6) (fm_cs (fm_cs (fm_ta (fm_ta (M 1) 0 j (-(fm_t (M 1) 0 j))) 2 j ((fm_c (M 1) 3 z) + (fm_t (M 1) 0 j))) 2 z 3) 3 z 0) (M 2) (M 3) (M 4) (M 5) h) := hD
            refine lv_aload_n hx hb dX9_makes_166 rfl (lv_at hl 3 rfl) ?_
            refine lv_iload_n hx hb dX9_makes_167 rfl (lv_at hl 4 rfl) ?_
            refine lv_iconst (v := 5) hx hb dX9_makes_168 (by decide) ?_
            refine lv_aload_n hx hb dX9_makes_169 rfl (lv_at hl 3 rfl) ?_
            refine va_get (D := D) (ci := 7) (v := .ref (b 1)) (C := RX9) (T := TX9) (N := 13) hx hb hts inX9 hown hK hP 0 rfl rfl 0 (by decide) k_7 (fun _ h9 => h9) rfl dX9_makes_170 ?_
            refine lv_iconst (v := 0) hx hb dX9_makes_173 (by decide) ?_
            refine fz_iald (f := fm_cs (fm_cs (fm_ta (fm_ta (M 1) 0 j (-(fm_t (M 1) 0 j))) 2 j ((fm_c (M 1) 3 z) + (fm_t (M 1) 0 j))) 2 z 3) 3 z 0) hx hb hK hP 1 0 rfl rfl 0 rfl (by omega) (by decide) dX9_makes_174 ?_
            refine fz_top (show _ = M 1 0 from (by simp only [fm_cs_0, fm_ta_0])) ?_
            refine fz_retMV (ws' := ME cy b (M 0 0) (M 0 1) (M 0 2) ((fm_c (M 1) 3 z) + (fm_t (M 1) 0 j)) (M 0 4) (M 0 5) (M 0 6) (fm_cs (fm_cs (fm_cs (fm_ta (fm_ta (M 1) 0 j (-(fm_t (M 1) 0 j))) 2 j ((fm_c (M 1) 3 z) + (fm_t (M 1) 0 j))) 2 z 3) 3 z 0) 5 z (M 1 0)) (M 2) (M 3) (M 4) (M 5) h) (va_runV (As := [.int (nI z), .int (nI 5), .int (M 1 0)]) (rest := []) ⟨hx, hb, hml, hown, hts⟩ (c_X9_tells l D cy b (fz_up (fz_up M 0 (upd (M 0) 3 ((fm_c (M 1) 3 z) + (fm_t (M 1) 0 j)))) 1 (fm_cs (fm_cs (fm_ta (fm_ta (M 1) 0 j (-(fm_t (M 1) 0 j))) 2 j ((fm_c (M 1) 3 z) + (fm_t (M 1) 0 j))) 2 z 3) 3 z 0)) h z 5 (by omega) (by omega) (M 1 0)) (cwV 3 hts gX9_makes_X9_tells rfl rfl rfl (by decide +kernel) ⟨Nat.le_of_ble_eq_true rfl, Nat.le_of_ble_eq_true rfl⟩) (fz_preMV (ci := 7) (q0 := 0) hK hP hD rfl rfl rfl fz_T_bl (fun _ _ _ => trivial)) rfl rfl hl.1 rfl (lv_room (Nat.le_of_ble_eq_true rfl)) dX9_makes_175 ⟨Nat.zero_le _, Nat.zero_le _⟩) hP hD hS [0, 1, 2, 3, 4, 5] [] rfl rfl [true, true, true, true, true, true] (And.intro rfl (And.intro rfl (And.intro rfl (And.intro rfl (And.intro rfl (And.intro rfl trivial)))))) rfl rfl (fun H locs hP hD hS => ?_)
            have hP : va_P D vwCl (ME cy b (M 0 0) (M 0 1) (M 0 2) ((fm_c (M 1) 3 z) + (fm_t (M 1) 0 j)) (M 0 4) (M 0 5) (M 0 6) (fm_cs (fm_cs (fm_cs (fm_ta (fm_ta (M 1) 0 j (-(fm_t (M 1) 0 j))) 2 j ((fm_c (M 1) 3 z) + (fm_t (M 1) 0 j))) 2 z 3) 3 z 0) 5 z (M 1 0)) (M 2) (M 3) (M 4) (M 5) h) H := hP
            have hD : va_D A (ME cy b (M 0 0) (M 0 1) (M 0 2) ((fm_c (M 1) 3 z) + (fm_t (M 1) 0 j)) (M 0 4) (M 0 5) (M 0 6) (fm_cs (fm_cs (fm_cs (fm_ta (fm_ta (M 1) 0 j (-(fm_t (M 1) 0 j))) 2 j ((fm_c (M 1) 3 z) + (fm_t (M 1) 0 j))) 2 z 3) 3 z 0) 5 z (M 1 0)) (M 2) (M 3) (M 4) (M 5) h) := hD
            refine lv_aload_n hx hb dX9_makes_178 rfl (lv_at hl 3 rfl) ?_
            refine lv_iload_n hx hb dX9_makes_179 rfl (lv_at hl 4 rfl) ?_
            refine lv_bipush (v := 6) hx hb dX9_makes_180 (by decide) ?_
            refine lv_iload_n hx hb dX9_makes_182 rfl (lv_at hl 6 rfl) ?_
            refine fz_retMV (ws' := ME cy b (M 0 0) (M 0 1) (M 0 2) ((fm_c (M 1) 3 z) + (fm_t (M 1) 0 j)) (M 0 4) (M 0 5) (M 0 6) (fm_cs (fm_cs (fm_cs (fm_cs (fm_ta (fm_ta (M 1) 0 j (-(fm_t (M 1) 0 j))) 2 j ((fm_c (M 1) 3 z) + (fm_t (M 1) 0 j))) 2 z 3) 3 z 0) 5 z (M 1 0)) 6 z (fm_c (M 1) 2 z)) (M 2) (M 3) (M 4) (M 5) h) (va_runV (As := [.int (nI z), .int (nI 6), .int (fm_c (M 1) 2 z)]) (rest := []) ⟨hx, hb, hml, hown, hts⟩ (c_X9_tells l D cy b (fz_up (fz_up M 0 (upd (M 0) 3 ((fm_c (M 1) 3 z) + (fm_t (M 1) 0 j)))) 1 (fm_cs (fm_cs (fm_cs (fm_ta (fm_ta (M 1) 0 j (-(fm_t (M 1) 0 j))) 2 j ((fm_c (M 1) 3 z) + (fm_t (M 1) 0 j))) 2 z 3) 3 z 0) 5 z (M 1 0))) h z 6 (by omega) (by omega) (fm_c (M 1) 2 z)) (cwV 3 hts gX9_makes_X9_tells rfl rfl rfl (by decide +kernel) ⟨Nat.le_of_ble_eq_true rfl, Nat.le_of_ble_eq_true rfl⟩) (fz_preMV (ci := 7) (q0 := 0) hK hP hD rfl rfl rfl fz_T_bl (fun _ _ _ => trivial)) rfl rfl hl.1 rfl (lv_room (Nat.le_of_ble_eq_true rfl)) dX9_makes_183 ⟨Nat.zero_le _, Nat.zero_le _⟩) hP hD hS [0, 1, 2, 3, 4, 5] [] rfl rfl [true, true, true, true, true, true] (And.intro rfl (And.intro rfl (And.intro rfl (And.intro rfl (And.intro rfl (And.intro rfl trivial)))))) rfl rfl (fun H locs hP hD hS => ?_)
            have hP : va_P D vwCl (ME cy b (M 0 0) (M 0 1) (M 0 2) ((fm_c (M 1) 3 z) + (fm_t (M 1) 0 j)) (M 0 4) (M 0 5) (M 0 6) (fm_cs (fm_cs (fm_cs (fm_cs (fm_ta (fm_ta (M 1) 0 j (-(fm_t (M 1) 0 j))) 2 j ((fm_c (M 1) 3 z) + (fm_t (M 1) 0 j))) 2 z 3) 3 z 0) 5 z (M 1 0)) 6 z (fm_c (M 1) 2 z)) (M 2) (M 3) (M 4) (M 5) h) H := hP
            have hD : va_D A (ME cy b (M 0 0) (M 0 1) (M 0 2) ((fm_c (M 1) 3 z) + (fm_t (M 1) 0 j)) (M 0 4) (M 0 5) (M 0 6) (fm_cs (fm_cs (fm_cs (fm_cs (fm_ta (fm_ta (M 1) 0 j (-(fm_t (M 1) 0 j))) 2 j ((fm_c (M 1) 3 z) + (fm_t (M 1) 0 j))) 2 z 3) 3 z 0) 5 z (M 1 0)) 6 z (fm_c (M 1) 2 z)) (M 2) (M 3) (M 4) (M 5) h) := hD
            refine lv_iconst (v := 0) hx hb dX9_makes_186 (by decide) ?_
            have eF : fm_make M wk x fr = (0, fz_up (fz_up M 0 (upd (M 0) 3 ((fm_c (M 1) 3 z) + (fm_t (M 1) 0 j)))) 1 (fm_cs (fm_cs (fm_cs (fm_cs (fm_ta (fm_ta (M 1) 0 j (-(fm_t (M 1) 0 j))) 2 j ((fm_c (M 1) 3 z) + (fm_t (M 1) 0 j))) 2 z 3) 3 z 0) 5 z (M 1 0)) 6 z (fm_c (M 1) 2 z))) := by rw [hGo]; simp only [fm_make2, fm_fine, fm_lo, fm_mk, c_2, c_4, ↓reduceIte, cond_true, cond_false]
            exact W.iret (v := 0) hx hb hr (fun t9 ht9 hW9 => ⟨⟨_, (), rfl, (by rw [eF] <;> rfl), fz_to ht9 (by rw [eF]; exact hP)⟩, hS.F ht9⟩) hS.2.2 dX9_makes_187
        · skip
          refine lv_iload hx hb dX9_makes_88 (lv_at hl 0 rfl) ?_
          refine lv_goto (tgt := 100) hx hb dX9_makes_90 (by decide) ?_
          refine lv_istore (lv' := [(6, .int ((M 1 6) * (fm_c (M 1) 1 z))), (5, .int (fm_c (M 1) 3 z)), (4, .int (fm_c (M 1) 0 z)), (0, .ref (b 0)), (1, .int (nI z)), (2, .int (fz_b fr)), (3, .int (fm_c (M 1) 2 z))]) hx hb dX9_makes_100 hl (by decide) rfl (fun ls hl => ?_)
          refine lv_aload_n hx hb dX9_makes_102 rfl (lv_at hl 3 rfl) ?_
          refine lv_iload hx hb dX9_makes_103 (lv_at hl 2 rfl) ?_
          refine lv_iconst (v := 0) hx hb dX9_makes_105 (by decide) ?_
          refine lv_iload hx hb dX9_makes_106 (lv_at hl 0 rfl) ?_
          refine lv_ineg hx hb dX9_makes_108 ?_
          refine fz_at2 (show fm_c (M 1) 0 z = nI j from ej) ?_
          refine fz_retMV (ws' := ME cy b (M 0 0) (M 0 1) (M 0 2) 0 (M 0 4) (M 0 5) (M 0 6) (fm_ta (M 1) 0 j (-((M 1 6) * (fm_c (M 1) 1 z)))) (M 2) (M 3) (M 4) (M 5) h) (va_runV (As := [.int (nI j), .int (nI 0), .int (-((M 1 6) * (fm_c (M 1) 1 z)))]) (rest := []) ⟨hx, hb, hml, hown, hts⟩ (c_X9_adds l D cy b (fz_up M 0 (upd (M 0) 3 0)) h j 0 (by omega) (by omega) (-((M 1 6) * (fm_c (M 1) 1 z)))) (cwV 3 hts gX9_makes_X9_adds rfl rfl rfl (by decide +kernel) ⟨Nat.le_of_ble_eq_true rfl, Nat.le_of_ble_eq_true rfl⟩) (fz_preMV (ci := 7) (q0 := 0) hK hP hD rfl rfl rfl fz_T_bl (fun _ _ _ => trivial)) rfl rfl hl.1 rfl (lv_room (Nat.le_of_ble_eq_true rfl)) dX9_makes_109 ⟨Nat.zero_le _, Nat.zero_le _⟩) hP hD hS [0, 1, 2, 3, 4, 5] [] rfl rfl [true, true, true, true, true, true] (And.intro rfl (And.intro rfl (And.intro rfl (And.intro rfl (And.intro rfl (And.intro rfl trivial)))))) rfl rfl (fun H locs hP hD hS => ?_)
          have hP : va_P D vwCl (ME cy b (M 0 0) (M 0 1) (M 0 2) 0 (M 0 4) (M 0 5) (M 0 6) (fm_ta (M 1) 0 j (-((M 1 6) * (fm_c (M 1) 1 z)))) (M 2) (M 3) (M 4) (M 5) h) H := hP
          have hD : va_D A (ME cy b (M 0 0) (M 0 1) (M 0 2) 0 (M 0 4) (M 0 5) (M 0 6) (fm_ta (M 1) 0 j (-((M 1 6) * (fm_c (M 1) 1 z)))) (M 2) (M 3) (M 4) (M 5) h) := hD
          refine lv_aload_n hx hb dX9_makes_112 rfl (lv_at hl 3 rfl) ?_
          refine lv_iload hx hb dX9_makes_113 (lv_at hl 1 rfl) ?_
          refine lv_iload hx hb dX9_makes_115 (lv_at hl 0 rfl) ?_
          refine lv_iadd hx hb dX9_makes_117 ?_
          refine va_put (D := D) (ci := 7) (v := .int ((fm_c (M 1) 3 z) + ((M 1 6) * (fm_c (M 1) 1 z)))) (ty := tyX9 7) (C := RX9) (T := TX9) (N := 13) hx hb hts inX9 tyX9 tyX9_ok nmX9 hown hK hP hD hS 0 rfl rfl 7 (by decide) k_47 (fun _ h9 => h9) rfl (by decide +kernel) rfl rfl (Nat.le_of_ble_eq_true rfl) dX9_makes_118 (fun H locs hP hD hS => ?_)
          have hP : va_P D vwCl (ME cy b (M 0 0) (M 0 1) (M 0 2) ((fm_c (M 1) 3 z) + ((M 1 6) * (fm_c (M 1) 1 z))) (M 0 4) (M 0 5) (M 0 6) (fm_ta (M 1) 0 j (-((M 1 6) * (fm_c (M 1) 1 z)))) (M 2) (M 3) (M 4) (M 5) h) H := hP
          have hD : va_D A (ME cy b (M 0 0) (M 0 1) (M 0 2) ((fm_c (M 1) 3 z) + ((M 1 6) * (fm_c (M 1) 1 z))) (M 0 4) (M 0 5) (M 0 6) (fm_ta (M 1) 0 j (-((M 1 6) * (fm_c (M 1) 1 z)))) (M 2) (M 3) (M 4) (M 5) h) := hD
          refine lv_aload_n hx hb dX9_makes_121 rfl (lv_at hl 3 rfl) ?_
          refine lv_iload hx hb dX9_makes_122 (lv_at hl 2 rfl) ?_
          refine lv_iconst (v := 2) hx hb dX9_makes_124 (by decide) ?_
          refine lv_aload_n hx hb dX9_makes_125 rfl (lv_at hl 3 rfl) ?_
          refine va_get (D := D) (ci := 7) (v := .int ((fm_c (M 1) 3 z) + ((M 1 6) * (fm_c (M 1) 1 z)))) (C := RX9) (T := TX9) (N := 13) hx hb hts inX9 hown hK hP 0 rfl rfl 7 (by decide) k_47 (fun _ h9 => h9) rfl dX9_makes_126 ?_
          refine fz_at2 (show fm_c (M 1) 0 z = nI j from ej) ?_
          refine fz_retMV (ws' := ME cy b (M 0 0) (M 0 1) (M 0 2) ((fm_c (M 1) 3 z) + ((M 1 6) * (fm_c (M 1) 1 z))) (M 0 4) (M 0 5) (M 0 6) (fm_ta (fm_ta (M 1) 0 j (-((M 1 6) * (fm_c (M 1) 1 z)))) 2 j ((fm_c (M 1) 3 z) + ((M 1 6) * (fm_c (M 1) 1 z)))) (M 2) (M 3) (M 4) (M 5) h) (va_runV (As := [.int (nI j), .int (nI 2), .int ((fm_c (M 1) 3 z) + ((M 1 6) * (fm_c (M 1) 1 z)))]) (rest := []) ⟨hx, hb, hml, hown, hts⟩ (c_X9_adds l D cy b (fz_up (fz_up M 0 (upd (M 0) 3 ((fm_c (M 1) 3 z) + ((M 1 6) * (fm_c (M 1) 1 z))))) 1 (fm_ta (M 1) 0 j (-((M 1 6) * (fm_c (M 1) 1 z))))) h j 2 (by omega) (by omega) ((fm_c (M 1) 3 z) + ((M 1 6) * (fm_c (M 1) 1 z)))) (cwV 3 hts gX9_makes_X9_adds rfl rfl rfl (by decide +kernel) ⟨Nat.le_of_ble_eq_true rfl, Nat.le_of_ble_eq_true rfl⟩) (fz_preMV (ci := 7) (q0 := 0) hK hP hD rfl rfl rfl fz_T_bl (fun _ _ _ => trivial)) rfl rfl hl.1 rfl (lv_room (Nat.le_of_ble_eq_true rfl)) dX9_makes_129 ⟨Nat.zero_le _, Nat.zero_le _⟩) hP hD hS [0, 1, 2, 3, 4, 5] [] rfl rfl [true, true, true, true, true, true] (And.intro rfl (And.intro rfl (And.intro rfl (And.intro rfl (And.intro rfl (And.intro rfl trivial)))))) rfl rfl (fun H locs hP hD hS => ?_)
          have hP : va_P D vwCl (ME cy b (M 0 0) (M 0 1) (M 0 2) ((fm_c (M 1) 3 z) + ((M 1 6) * (fm_c (M 1) 1 z))) (M 0 4) (M 0 5) (M 0 6) (fm_ta (fm_ta (M 1) 0 j (-((M 1 6) * (fm_c (M 1) 1 z)))) 2 j ((fm_c (M 1) 3 z) + ((M 1 6) * (fm_c (M 1) 1 z)))) (M 2) (M 3) (M 4) (M 5) h) H := hP
          have hD : va_D A (ME cy b (M 0 0) (M 0 1) (M 0 2) ((fm_c (M 1) 3 z) + ((M 1 6) * (fm_c (M 1) 1 z))) (M 0 4) (M 0 5) (M 0 6) (fm_ta (fm_ta (M 1) 0 j (-((M 1 6) * (fm_c (M 1) 1 z)))) 2 j ((fm_c (M 1) 3 z) + ((M 1 6) * (fm_c (M 1) 1 z)))) (M 2) (M 3) (M 4) (M 5) h) := hD
          refine lv_goto (tgt := 144) hx hb dX9_makes_132 (by decide) ?_
          refine lv_aload_n hx hb dX9_makes_144 rfl (lv_at hl 3 rfl) ?_
          refine lv_iload_n hx hb dX9_makes_145 rfl (lv_at hl 4 rfl) ?_
          refine lv_iconst (v := 2) hx hb dX9_makes_146 (by decide) ?_
          refine lv_iload_n hx hb dX9_makes_147 rfl (lv_at hl 5 rfl) ?_
          refine fz_ifeqB (tgt := 155) hx hb dX9_makes_148 (by decide) (fun c_6 => ?_) (fun c_6 => ?_)
          · exact absurd (c_2.symm.trans c_6) (by decide)
          · skip
            refine lv_iconst (v := 3) hx hb dX9_makes_151 (by decide) ?_
            refine lv_goto (tgt := 156) hx hb dX9_makes_152 (by decide) ?_
            refine fz_retMV (ws' := ME cy b (M 0 0) (M 0 1) (M 0 2) ((fm_c (M 1) 3 z) + ((M 1 6) * (fm_c (M 1) 1 z))) (M 0 4) (M 0 5) (M 0 6) (fm_cs (fm_ta (fm_ta (M 1) 0 j (-((M 1 6) * (fm_c (M 1) 1 z)))) 2 j ((fm_c (M 1) 3 z) + ((M 1 6) * (fm_c (M 1) 1 z)))) 2 z 3) (M 2) (M 3) (M 4) (M 5) h) (va_runV (As := [.int (nI z), .int (nI 2), .int 3]) (rest := []) ⟨hx, hb, hml, hown, hts⟩ (c_X9_tells l D cy b (fz_up (fz_up M 0 (upd (M 0) 3 ((fm_c (M 1) 3 z) + ((M 1 6) * (fm_c (M 1) 1 z))))) 1 (fm_ta (fm_ta (M 1) 0 j (-((M 1 6) * (fm_c (M 1) 1 z)))) 2 j ((fm_c (M 1) 3 z) + ((M 1 6) * (fm_c (M 1) 1 z))))) h z 2 (by omega) (by omega) 3) (cwV 3 hts gX9_makes_X9_tells rfl rfl rfl (by decide +kernel) ⟨Nat.le_of_ble_eq_true rfl, Nat.le_of_ble_eq_true rfl⟩) (fz_preMV (ci := 7) (q0 := 0) hK hP hD rfl rfl rfl fz_T_bl (fun _ _ _ => trivial)) rfl rfl hl.1 rfl (lv_room (Nat.le_of_ble_eq_true rfl)) dX9_makes_156 ⟨Nat.zero_le _, Nat.zero_le _⟩) hP hD hS [0, 1, 2, 3, 4, 5] [] rfl rfl [true, true, true, true, true, true] (And.intro rfl (And.intro rfl (And.intro rfl (And.intro rfl (And.intro rfl (And.intro rfl trivial)))))) rfl rfl (fun H locs hP hD hS => ?_)
            have hP : va_P D vwCl (ME cy b (M 0 0) (M 0 1) (M 0 2) ((fm_c (M 1) 3 z) + ((M 1 6) * (fm_c (M 1) 1 z))) (M 0 4) (M 0 5) (M 0 6) (fm_cs (fm_ta (fm_ta (M 1) 0 j (-((M 1 6) * (fm_c (M 1) 1 z)))) 2 j ((fm_c (M 1) 3 z) + ((M 1 6) * (fm_c (M 1) 1 z)))) 2 z 3) (M 2) (M 3) (M 4) (M 5) h) H := hP
            have hD : va_D A (ME cy b (M 0 0) (M 0 1) (M 0 2) ((fm_c (M 1) 3 z) + ((M 1 6) * (fm_c (M 1) 1 z))) (M 0 4) (M 0 5) (M 0 6) (fm_cs (fm_ta (fm_ta (M 1) 0 j (-((M 1 6) * (fm_c (M 1) 1 z)))) 2 j ((fm_c (M 1) 3 z) + ((M 1 6) * (fm_c (M 1) 1 z)))) 2 z 3) (M 2) (M 3) (M 4) (M 5) h) := hD
            refine lv_aload_n hx hb dX9_makes_159 rfl (lv_at hl 3 rfl) ?_
            refine lv_iload_n hx hb dX9_makes_160 rfl (lv_at hl 4 rfl) ?_
            refine lv_iconst (v := 3) hx hb dX9_makes_161 (by decide) ?_
            refine lv_iconst (v := 0) hx hb dX9_makes_162 (by decide) ?_
            refine fz_retMV (ws' := ME cy b (M 0 0) (M 0 1) (M 0 2) ((fm_c (M 1) 3 z) + ((M 1 6) * (fm_c (M 1) 1 z))) (M 0 4) (M 0 5) (M 0 6) (fm_cs (fm_cs (fm_ta (fm_ta (M 1) 0 j (-((M 1 6) * (fm_c (M 1) 1 z)))) 2 j ((fm_c (M 1) 3 z) + ((M 1 6) * (fm_c (M 1) 1 z)))) 2 z 3) 3 z 0) (M 2) (M 3) (M 4) (M 5) h) (va_runV (As := [.int (nI z), .int (nI 3), .int 0]) (rest := []) ⟨hx, hb, hml, hown, hts⟩ (c_X9_tells l D cy b (fz_up (fz_up M 0 (upd (M 0) 3 ((fm_c (M 1) 3 z) + ((M 1 6) * (fm_c (M 1) 1 z))))) 1 (fm_cs (fm_ta (fm_ta (M 1) 0 j (-((M 1 6) * (fm_c (M 1) 1 z)))) 2 j ((fm_c (M 1) 3 z) + ((M 1 6) * (fm_c (M 1) 1 z)))) 2 z 3)) h z 3 (by omega) (by omega) 0) (cwV 3 hts gX9_makes_X9_tells rfl rfl rfl (by decide +kernel) ⟨Nat.le_of_ble_eq_true rfl, Nat.le_of_ble_eq_true rfl⟩) (fz_preMV (ci := 7) (q0 := 0) hK hP hD rfl rfl rfl fz_T_bl (fun _ _ _ => trivial)) rfl rfl hl.1 rfl (lv_room (Nat.le_of_ble_eq_true rfl)) dX9_makes_163 ⟨Nat.zero_le _, Nat.zero_le _⟩) hP hD hS [0, 1, 2, 3, 4, 5] [] rfl rfl [true, true, true, true, true, true] (And.intro rfl (And.intro rfl (And.intro rfl (And.intro rfl (And.intro rfl (And.intro rfl trivial)))))) rfl rfl (fun H locs hP hD hS => ?_)
            have hP : va_P D vwCl (ME cy b (M 0 0) (M 0 1) (M 0 2) ((fm_c (M 1) 3 z) + ((M 1 6) * (fm_c (M 1) 1 z))) (M 0 4) (M 0 5) (M 0 6) (fm_cs (fm_cs (fm_ta (fm_ta (M 1) 0 j (-((M 1 6) * (fm_c (M 1) 1 z)))) 2 j ((fm_c (M 1) 3 z) + ((M 1 6) * (fm_c (M 1) 1 z)))) 2 z 3) 3 z 0) (M 2) (M 3) (M 4) (M 5) h) H := hP
            have hD : va_D A (ME cy b (M 0 0) (M 0 1) (M 0 2) ((fm_c (M 1) 3 z) + ((M 1 6) * (fm_c (M 1) 1 z))) (M 0 4) (M 0 5) (M 0 6) (fm_cs (fm_cs (fm_ta (fm_ta (M 1) 0 j (-((M 1 6) * (fm_c (M 1) 1 z)))) 2 j ((fm_c (M 1) 3 z) + ((M 1 6) * (fm_c (M 1) 1 z)))) 2 z 3) 3 z 0) (M 2) (M 3) (M 4) (M 5) h) := hD
            refine lv_aload_n hx hb dX9_makes_166 rfl (lv_at hl 3 rfl) ?_
            refine lv_iload_n hx hb dX9_makes_167 rfl (lv_at hl 4 rfl) ?_
            refine lv_iconst (v := 5) hx hb dX9_makes_168 (by decide) ?_
            refine lv_aload_n hx hb dX9_makes_169 rfl (lv_at hl 3 rfl) ?_
            refine va_get (D := D) (ci := 7) (v := .ref (b 1)) (C := RX9) (T := TX9) (N := 13) hx hb hts inX9 hown hK hP 0 rfl rfl 0 (by decide) k_7 (fun _ h9 => h9) rfl dX9_makes_170 ?_
            refine lv_iconst (v := 0) hx hb dX9_makes_173 (by decide) ?_
            refine fz_iald (f := fm_cs (fm_cs (fm_ta (fm_ta (M 1) 0 j (-((M 1 6) * (fm_c (M 1) 1 z)))) 2 j ((fm_c (M 1) 3 z) + ((M 1 6) * (fm_c (M 1) 1 z)))) 2 z 3) 3 z 0) hx hb hK hP 1 0 rfl rfl 0 rfl (by omega) (by decide) dX9_makes_174 ?_
            refine fz_top (show _ = M 1 0 from (by simp only [fm_cs_0, fm_ta_0])) ?_
            refine fz_retMV (ws' := ME cy b (M 0 0) (M 0 1) (M 0 2) ((fm_c (M 1) 3 z) + ((M 1 6) * (fm_c (M 1) 1 z))) (M 0 4) (M 0 5) (M 0 6) (fm_cs (fm_cs (fm_cs (fm_ta (fm_ta (M 1) 0 j (-((M 1 6) * (fm_c (M 1) 1 z)))) 2 j ((fm_c (M 1) 3 z) + ((M 1 6) * (fm_c (M 1) 1 z)))) 2 z 3) 3 z 0) 5 z (M 1 0)) (M 2) (M 3) (M 4) (M 5) h) (va_runV (As := [.int (nI z), .int (nI 5), .int (M 1 0)]) (rest := []) ⟨hx, hb, hml, hown, hts⟩ (c_X9_tells l D cy b (fz_up (fz_up M 0 (upd (M 0) 3 ((fm_c (M 1) 3 z) + ((M 1 6) * (fm_c (M 1) 1 z))))) 1 (fm_cs (fm_cs (fm_ta (fm_ta (M 1) 0 j (-((M 1 6) * (fm_c (M 1) 1 z)))) 2 j ((fm_c (M 1) 3 z) + ((M 1 6) * (fm_c (M 1) 1 z)))) 2 z 3) 3 z 0)) h z 5 (by omega) (by omega) (M 1 0)) (cwV 3 hts gX9_makes_X9_tells rfl rfl rfl (by decide +kernel) ⟨Nat.le_of_ble_eq_true rfl, Nat.le_of_ble_eq_true rfl⟩) (fz_preMV (ci := 7) (q0 := 0) hK hP hD rfl rfl rfl fz_T_bl (fun _ _ _ => trivial)) rfl rfl hl.1 rfl (lv_room (Nat.le_of_ble_eq_true rfl)) dX9_makes_175 ⟨Nat.zero_le _, Nat.zero_le _⟩) hP hD hS [0, 1, 2, 3, 4, 5] [] rfl rfl [true, true, true, true, true, true] (And.intro rfl (And.intro rfl (And.intro rfl (And.intro rfl (And.intro rfl (And.intro rfl trivial)))))) rfl rfl (fun H locs hP hD hS => ?_)
            have hP : va_P D vwCl (ME cy b (M 0 0) (M 0 1) (M 0 2) ((fm_c (M 1) 3 z) + ((M 1 6) * (fm_c (M 1) 1 z))) (M 0 4) (M 0 5) (M 0 6) (fm_cs (fm_cs (fm_cs (fm_ta (fm_ta (M 1) 0 j (-((M 1 6) * (fm_c (M 1) 1 z)))) 2 j ((fm_c (M 1) 3 z) + ((M 1 6) * (fm_c (M 1) 1 z)))) 2 z 3) 3 z 0) 5 z (M 1 0)) (M 2) (M 3) (M 4) (M 5) h) H := hP
            have hD : va_D A (ME cy b (M 0 0) (M 0 1) (M 0 2) ((fm_c (M 1) 3 z) + ((M 1 6) * (fm_c (M 1) 1 z))) (M 0 4) (M 0 5) (M 0 6) (fm_cs (fm_cs (fm_cs (fm_ta (fm_ta (M 1) 0 j (-((M 1 6) * (fm_c (M 1) 1 z)))) 2 j ((fm_c (M 1) 3 z) + ((M 1 6) * (fm_c (M 1) 1 z)))) 2 z 3) 3 z 0) 5 z (M 1 0)) (M 2) (M 3) (M 4) (M 5) h) := hD
            refine lv_aload_n hx hb dX9_makes_178 rfl (lv_at hl 3 rfl) ?_
            refine lv_iload_n hx hb dX9_makes_179 rfl (lv_at hl 4 rfl) ?_
            refine lv_bipush (v := 6) hx hb dX9_makes_180 (by decide) ?_
            refine lv_iload_n hx hb dX9_makes_182 rfl (lv_at hl 6 rfl) ?_
            refine fz_retMV (ws' := ME cy b (M 0 0) (M 0 1) (M 0 2) ((fm_c (M 1) 3 z) + ((M 1 6) * (fm_c (M 1) 1 z))) (M 0 4) (M 0 5) (M 0 6) (fm_cs (fm_cs (fm_cs (fm_cs (fm_ta (fm_ta (M 1) 0 j (-((M 1 6) * (fm_c (M 1) 1 z)))) 2 j ((fm_c (M 1) 3 z) + ((M 1 6) * (fm_c (M 1) 1 z)))) 2 z 3) 3 z 0) 5 z (M 1 0)) 6 z (fm_c (M 1) 2 z)) (M 2) (M 3) (M 4) (M 5) h) (va_runV (As := [.int (nI z), .int (nI 6), .int (fm_c (M 1) 2 z)]) (rest := []) ⟨hx, hb, hml, hown, hts⟩ (c_X9_tells l D cy b (fz_up (fz_up M 0 (upd (M 0) 3 ((fm_c (M 1) 3 z) + ((M 1 6) * (fm_c (M 1) 1 z))))) 1 (fm_cs (fm_cs (fm_cs (fm_ta (fm_ta (M 1) 0 j (-((M 1 6) * (fm_c (M 1) 1 z)))) 2 j ((fm_c (M 1) 3 z) + ((M 1 6) * (fm_c (M 1) 1 z)))) 2 z 3) 3 z 0) 5 z (M 1 0))) h z 6 (by omega) (by omega) (fm_c (M 1) 2 z)) (cwV 3 hts gX9_makes_X9_tells rfl rfl rfl (by decide +kernel) ⟨Nat.le_of_ble_eq_true rfl, Nat.le_of_ble_eq_true rfl⟩) (fz_preMV (ci := 7) (q0 := 0) hK hP hD rfl rfl rfl fz_T_bl (fun _ _ _ => trivial)) rfl rfl hl.1 rfl (lv_room (Nat.le_of_ble_eq_true rfl)) dX9_makes_183 ⟨Nat.zero_le _, Nat.zero_le _⟩) hP hD hS [0, 1, 2, 3, 4, 5] [] rfl rfl [true, true, true, true, true, true] (And.intro rfl (And.intro rfl (And.intro rfl (And.intro rfl (And.intro rfl (And.intro rfl trivial)))))) rfl rfl (fun H locs hP hD hS => ?_)
            have hP : va_P D vwCl (ME cy b (M 0 0) (M 0 1) (M 0 2) ((fm_c (M 1) 3 z) + ((M 1 6) * (fm_c (M 1) 1 z))) (M 0 4) (M 0 5) (M 0 6) (fm_cs (fm_cs (fm_cs (fm_cs (fm_ta (fm_ta (M 1) 0 j (-((M 1 6) * (fm_c (M 1) 1 z)))) 2 j ((fm_c (M 1) 3 z) + ((M 1 6) * (fm_c (M 1) 1 z)))) 2 z 3) 3 z 0) 5 z (M 1 0)) 6 z (fm_c (M 1) 2 z)) (M 2) (M 3) (M 4) (M 5) h) H := hP
            have hD : va_D A (ME cy b (M 0 0) (M 0 1) (M 0 2) ((fm_c (M 1) 3 z) + ((M 1 6) * (fm_c (M 1) 1 z))) (M 0 4) (M 0 5) (M 0 6) (fm_cs (fm_cs (fm_cs (fm_cs (fm_ta (fm_ta (M 1) 0 j (-((M 1 6) * (fm_c (M 1) 1 z)))) 2 j ((fm_c (M 1) 3 z) + ((M 1 6) * (fm_c (M 1) 1 z)))) 2 z 3) 3 z 0) 5 z (M 1 0)) 6 z (fm_c (M 1) 2 z)) (M 2) (M 3) (M 4) (M 5) h) := hD
            refine lv_iconst (v := 0) hx hb dX9_makes_186 (by decide) ?_
            have eF : fm_make M wk x fr = (0, fz_up (fz_up M 0 (upd (M 0) 3 ((fm_c (M 1) 3 z) + ((M 1 6) * (fm_c (M 1) 1 z))))) 1 (fm_cs (fm_cs (fm_cs (fm_cs (fm_ta (fm_ta (M 1) 0 j (-((M 1 6) * (fm_c (M 1) 1 z)))) 2 j ((fm_c (M 1) 3 z) + ((M 1 6) * (fm_c (M 1) 1 z)))) 2 z 3) 3 z 0) 5 z (M 1 0)) 6 z (fm_c (M 1) 2 z))) := by rw [hGo]; simp only [fm_make2, fm_fine, fm_lo, fm_mk, c_2, c_4, ↓reduceIte, cond_true, cond_false]
            exact W.iret (v := 0) hx hb hr (fun t9 ht9 hW9 => ⟨⟨_, (), rfl, (by rw [eF] <;> rfl), fz_to ht9 (by rw [eF]; exact hP)⟩, hS.F ht9⟩) hS.2.2 dX9_makes_187
    · skip
      refine lv_aload_n hx hb dX9_makes_10 rfl (lv_at hl 0 rfl) ?_
      refine lv_iload_n hx hb dX9_makes_11 rfl (lv_at hl 1 rfl) ?_
      refine lv_iconst (v := 2) hx hb dX9_makes_12 (by decide) ?_
      refine fz_at1 (show x = nI z from ez) ?_
      refine fz_retR (va_runV (As := [.int (nI z), .int (nI 2)]) (rest := []) ⟨hx, hb, hml, hown, hts⟩ (c_X9_told l D cy b M h z 2 (by omega) (by omega)) (cwV 2 hts gX9_makes_X9_told rfl rfl rfl (by decide +kernel) ⟨Nat.le_of_ble_eq_true rfl, Nat.le_of_ble_eq_true rfl⟩) (fz_preV (ci := 7) (q0 := 0) hK hP rfl rfl rfl fz_T_bl (fun _ _ _ => trivial)) rfl rfl hl.1 rfl (lv_room (Nat.le_of_ble_eq_true rfl)) dX9_makes_13 ⟨Nat.zero_le _, Nat.zero_le _⟩) ?_
      refine lv_istore_n (lv' := [(3, .int (fm_c (M 1) 2 z)), (0, .ref (b 0)), (1, .int x), (2, .int (fz_b fr))]) hx hb dX9_makes_16 rfl hl (by decide) rfl (fun ls hl => ?_)
      refine lv_iload_n hx hb dX9_makes_17 rfl (lv_at hl 0 rfl) ?_
      refine lv_iconst (v := 1) hx hb dX9_makes_18 (by decide) ?_
      refine lv_icmp_gt (tgt := 33) hx hb dX9_makes_19 (by decide) (fun c_7 => ?_) (fun c_7 => ?_)
      · skip
        refine lv_iconst (v := 2) hx hb dX9_makes_33 (by decide) ?_
        have eF : fm_make M wk x fr = (2, M) := by simp only [fm_make, c_1, c_7, ez', ej', (show ¬ ((1 : Int32) < 0) by decide), ↓reduceIte, Bool.false_eq_true]
        exact W.iret (v := 2) hx hb hr (fun t9 ht9 hW9 => ⟨⟨_, (), rfl, (by rw [eF] <;> rfl), fz_to ht9 (by rw [eF]; exact hP)⟩, hS.F ht9⟩) hS.2.2 dX9_makes_34
      · skip
        refine lv_iload_n hx hb dX9_makes_22 rfl (lv_at hl 0 rfl) ?_
        refine lv_if_ne (tgt := 35) hx hb dX9_makes_23 (by decide) (fun c_8 => ?_) (fun c_8 => ?_)
        · skip
          rw [show x = nI z from ez] at hl
          exact J35 () (show (fm_make M wk x fr = fm_make2 M z j fr) from (by simp only [fm_make, c_1, c_7, c_8, ez', ej', (show ¬ ((1 : Int32) < 0) by decide), ↓reduceIte, Bool.false_eq_true])) _ _ ls hP hD hS (lv_sub hl [1, 2, 3, 0] rfl)
        · skip
          refine lv_aload_n hx hb dX9_makes_26 rfl (lv_at hl 1 rfl) ?_
          refine fz_retR (va_runV (As := []) (rest := []) ⟨hx, hb, hml, hown, hts⟩ (c_X9_isFrozen l D cy b M h wk hwk hwk39) (cwV 0 hts gX9_makes_X9_isFrozen rfl rfl rfl (by decide +kernel) ⟨Nat.le_of_ble_eq_true rfl, Nat.le_of_ble_eq_true rfl⟩) (fz_preV (ci := 7) (q0 := 0) hK hP rfl rfl rfl fz_T_bl (fun _ _ _ => trivial)) rfl rfl hl.1 rfl (lv_room (Nat.le_of_ble_eq_true rfl)) dX9_makes_27 ⟨Nat.zero_le _, Nat.zero_le _⟩) ?_
          refine fz_ifeqB (tgt := 35) hx hb dX9_makes_30 (by decide) (fun c_9 => ?_) (fun c_9 => ?_)
          · skip
            rw [show x = nI z from ez] at hl
            exact J35 () (show (fm_make M wk x fr = fm_make2 M z j fr) from (by simp only [fm_make, c_1, c_7, c_8, c_9, ez', ej', (show ¬ ((1 : Int32) < 0) by decide), ↓reduceIte, Bool.false_eq_true])) _ _ ls hP hD hS (lv_sub hl [1, 2, 3, 0] rfl)
          · skip
            refine lv_iconst (v := 2) hx hb dX9_makes_33 (by decide) ?_
            have eF : fm_make M wk x fr = (2, M) := by simp only [fm_make, c_1, c_7, c_8, c_9, ez', ej', (show ¬ ((1 : Int32) < 0) by decide), ↓reduceIte, Bool.false_eq_true]
            exact W.iret (v := 2) hx hb hr (fun t9 ht9 hW9 => ⟨⟨_, (), rfl, (by rw [eF] <;> rfl), fz_to ht9 (by rw [eF]; exact hP)⟩, hS.F ht9⟩) hS.2.2 dX9_makes_34
  · skip
    refine lv_iconst (v := 1) hx hb dX9_makes_8 (by decide) ?_
    have eF : fm_make M wk x fr = (1, M) := by simp only [fm_make, c_1, ↓reduceIte, Bool.false_eq_true, cond_true, cond_false]
    exact W.iret (v := 1) hx hb hr (fun t9 ht9 hW9 => ⟨⟨_, (), rfl, (by rw [eF] <;> rfl), fz_to ht9 (by rw [eF]; exact hP)⟩, hS.F ht9⟩) hS.2.2 dX9_makes_9
set_option maxHeartbeats 4000000 in
set_option maxRecDepth 100000 in
/-- the model: lends -/
theorem c_X9_lends (l : Launch) (D : va_G) (cy : Nat → ClassId) (b : Nat → Nat) (M : Nat → Nat → Int32) (h : Int64) (nt nc nl wk : Nat) (wf : fm_wf (M 1) nt nc nl wk) (f g y w : Int32) : fz_MI l yX9_lends wsX9_lends 2 44 D cy [.ref (b 0), .int f, .int g, .int y, .int w] (MW cy b M h) fz_T ((fm_lend M nl f g y w).1) (MW cy b ((fm_lend M nl f g y w).2) h) := by
  refine Met.ofW (cc := cX9_lends) (maxL := 6) (ret := (some .int)) (by decide) rfl ?_
  intro p e s m args below meth c s₁ B hml hv
  obtain ⟨rfl, hP, hK, hD0, hE⟩ := hv
  have hx := B.exec
  have hb := B.bytes
  have hr := B.returns
  have hts := atoms_spec (ws := wsX9_lends) B.pre
  have hown : s.vm.findClass RX9 = some m.cls := findClass_of_methodNamed B.named
  have hlocks := B.notSynchronized
  have hD := fz_self hD0
  generalize hAe : fz_in (MW cy b M h) = A at hD ⊢
  have hS : va_S A s.heap s.heap [] := va_S.rf
  have hl := lv_entry ([.ref (b 0), .int f, .int g, .int y, .int w]) (n := 6) (Nat.le_of_ble_eq_true rfl)
  rw [lg_entry_eq]
  generalize (lg_sl ([.ref (b 0), .int f, .int g, .int y, .int w]) ++ List.replicate (6 - (lg_sl ([.ref (b 0), .int f, .int g, .int y, .int w])).length) Slot.unset).toArray = ls at hl ⊢
  have hl : lv_has ls 6 [(0, .ref (b 0)), (1, .int f), (2, .int g), (3, .int y), (4, .int w)] := hl
  have k_7 := hts (.fieldLink RX9 7 "FreezeCreditsModel" "now" "[I") (by decide +kernel)
  have inX9 : ∀ w ∈ u_ws RX9 TX9 13, w ∈ wsX9_lends := by decide +kernel
  have k_47 := hts (.fieldLink RX9 47 "FreezeCreditsModel" "answer" "I") (by decide +kernel)
  obtain ⟨hnt, hnt6, hnc, hnc30, hnl, hnl12, hwk, hwk39, hT, hG, hB, hZo⟩ := id wf
  refine lv_aload_n hx hb dX9_lends_0 rfl (lv_at hl 0 rfl) ?_
  refine lv_iload_n hx hb dX9_lends_1 rfl (lv_at hl 1 rfl) ?_
  refine fz_retR (va_runV (As := [.int f]) (rest := []) ⟨hx, hb, hml, hown, hts⟩ (c_X9_isTeam l D cy b M h f nt hnt (by omega)) (cwV 1 hts gX9_lends_X9_isTeam rfl rfl rfl (by decide +kernel) ⟨Nat.le_of_ble_eq_true rfl, Nat.le_of_ble_eq_true rfl⟩) (fz_preV (ci := 7) (q0 := 0) hK hP rfl rfl rfl fz_T_bl (fun _ _ _ => trivial)) rfl rfl hl.1 rfl (lv_room (Nat.le_of_ble_eq_true rfl)) dX9_lends_2 ⟨Nat.zero_le _, Nat.zero_le _⟩) ?_
  refine fz_ifeqB (tgt := 16) hx hb dX9_lends_5 (by decide) (fun c_1 => ?_) (fun c_1 => ?_)
  · skip
    refine lv_iconst (v := 1) hx hb dX9_lends_16 (by decide) ?_
    have eF : fm_lend M nl f g y w = (1, M) := by simp only [fm_lend, c_1, ↓reduceIte, Bool.false_eq_true, cond_true, cond_false]
    exact W.iret (v := 1) hx hb hr (fun t9 ht9 hW9 => ⟨⟨_, (), rfl, (by rw [eF] <;> rfl), fz_to ht9 (by rw [eF]; exact hP)⟩, hS.F ht9⟩) hS.2.2 dX9_lends_17
  · skip
    obtain ⟨i, hi, ei⟩ := fz_ix_t (by omega) (show fz_ix f (nI nt) = true by rw [← hnt]; exact c_1)
    have ei' := fz_tnat ei (by omega)
    refine lv_aload_n hx hb dX9_lends_8 rfl (lv_at hl 0 rfl) ?_
    refine lv_iload_n hx hb dX9_lends_9 rfl (lv_at hl 2 rfl) ?_
    refine fz_retR (va_runV (As := [.int g]) (rest := []) ⟨hx, hb, hml, hown, hts⟩ (c_X9_isTeam l D cy b M h g nt hnt (by omega)) (cwV 1 hts gX9_lends_X9_isTeam rfl rfl rfl (by decide +kernel) ⟨Nat.le_of_ble_eq_true rfl, Nat.le_of_ble_eq_true rfl⟩) (fz_preV (ci := 7) (q0 := 0) hK hP rfl rfl rfl fz_T_bl (fun _ _ _ => trivial)) rfl rfl hl.1 rfl (lv_room (Nat.le_of_ble_eq_true rfl)) dX9_lends_10 ⟨Nat.zero_le _, Nat.zero_le _⟩) ?_
    refine fz_ifneB (tgt := 18) hx hb dX9_lends_13 (by decide) (fun c_2 => ?_) (fun c_2 => ?_)
    · skip
      obtain ⟨j, hj, ej⟩ := fz_ix_t (by omega) (show fz_ix g (nI nt) = true by rw [← hnt]; exact c_2)
      have ej' := fz_tnat ej (by omega)
      refine lv_iload_n hx hb dX9_lends_18 rfl (lv_at hl 1 rfl) ?_
      refine lv_iload_n hx hb dX9_lends_19 rfl (lv_at hl 2 rfl) ?_
      refine lv_icmp_eq (tgt := 45) hx hb dX9_lends_20 (by decide) (fun c_3 => ?_) (fun c_3 => ?_)
      · skip
        refine lv_iconst (v := 2) hx hb dX9_lends_45 (by decide) ?_
        have eF : fm_lend M nl f g y w = (2, M) := by simp only [fm_lend, c_1, c_2, c_3, ei', ej', ↓reduceIte, Bool.false_eq_true, cond_true, cond_false]
        exact W.iret (v := 2) hx hb hr (fun t9 ht9 hW9 => ⟨⟨_, (), rfl, (by rw [eF] <;> rfl), fz_to ht9 (by rw [eF]; exact hP)⟩, hS.F ht9⟩) hS.2.2 dX9_lends_46
      · skip
        refine lv_iload_n hx hb dX9_lends_23 rfl (lv_at hl 3 rfl) ?_
        refine lv_iconst (v := 1) hx hb dX9_lends_24 (by decide) ?_
        refine lv_sipush (v := 500) hx hb dX9_lends_25 (by decide) ?_
        refine fz_retR (va_runS (As := [.int y, .int 1, .int 500]) (rest := []) ⟨hx, hb, hml, hown, hts⟩ (c_X9_in l D cy y 1 500) (va_cwS 3 hts gX9_lends_X9_in rfl rfl rfl (by decide +kernel) ⟨Nat.le_of_ble_eq_true rfl, Nat.le_of_ble_eq_true rfl⟩) (fz_preS hK (fz_nil) fz_T_bl (fun _ _ _ => trivial)) rfl rfl hl.1 rfl (lv_room (Nat.le_of_ble_eq_true rfl)) dX9_lends_28 ⟨Nat.zero_le _, Nat.zero_le _⟩) ?_
        refine fz_ifeqB (tgt := 45) hx hb dX9_lends_31 (by decide) (fun c_4 => ?_) (fun c_4 => ?_)
        · skip
          refine lv_iconst (v := 2) hx hb dX9_lends_45 (by decide) ?_
          have eF : fm_lend M nl f g y w = (2, M) := by simp only [fm_lend, c_1, c_2, c_3, c_4, ei', ej', ↓reduceIte, Bool.false_eq_true, cond_true, cond_false]
          exact W.iret (v := 2) hx hb hr (fun t9 ht9 hW9 => ⟨⟨_, (), rfl, (by rw [eF] <;> rfl), fz_to ht9 (by rw [eF]; exact hP)⟩, hS.F ht9⟩) hS.2.2 dX9_lends_46
        · skip
          refine lv_iload hx hb dX9_lends_34 (lv_at hl 4 rfl) ?_
          refine lv_iconst (v := 0) hx hb dX9_lends_36 (by decide) ?_
          refine lv_bipush (v := 39) hx hb dX9_lends_37 (by decide) ?_
          refine fz_retR (va_runS (As := [.int w, .int 0, .int 39]) (rest := []) ⟨hx, hb, hml, hown, hts⟩ (c_X9_in l D cy w 0 39) (va_cwS 3 hts gX9_lends_X9_in rfl rfl rfl (by decide +kernel) ⟨Nat.le_of_ble_eq_true rfl, Nat.le_of_ble_eq_true rfl⟩) (fz_preS hK (fz_nil) fz_T_bl (fun _ _ _ => trivial)) rfl rfl hl.1 rfl (lv_room (Nat.le_of_ble_eq_true rfl)) dX9_lends_39 ⟨Nat.zero_le _, Nat.zero_le _⟩) ?_
          refine fz_ifneB (tgt := 47) hx hb dX9_lends_42 (by decide) (fun c_5 => ?_) (fun c_5 => ?_)
          · skip
            refine lv_iload hx hb dX9_lends_47 (lv_at hl 4 rfl) ?_
            refine lv_aload_n hx hb dX9_lends_49 rfl (lv_at hl 0 rfl) ?_
            refine va_get (D := D) (ci := 7) (v := .ref (b 1)) (C := RX9) (T := TX9) (N := 13) hx hb hts inX9 hown hK hP 0 rfl rfl 0 (by decide) k_7 (fun _ h9 => h9) rfl dX9_lends_50 ?_
            refine lv_iconst (v := 0) hx hb dX9_lends_53 (by decide) ?_
            refine fz_iald (f := M 1) hx hb hK hP 1 0 rfl rfl 0 rfl (by omega) (by decide) dX9_lends_54 ?_
            refine lv_icmp_lt (tgt := 87) hx hb dX9_lends_55 (by decide) (fun c_6 => ?_) (fun c_6 => ?_)
            · skip
              refine lv_iconst (v := 3) hx hb dX9_lends_87 (by decide) ?_
              have eF : fm_lend M nl f g y w = (3, M) := by simp only [fm_lend, c_1, c_2, c_3, c_4, c_5, c_6, ei', ej', ↓reduceIte, Bool.false_eq_true, cond_true, cond_false]
              exact W.iret (v := 3) hx hb hr (fun t9 ht9 hW9 => ⟨⟨_, (), rfl, (by rw [eF] <;> rfl), fz_to ht9 (by rw [eF]; exact hP)⟩, hS.F ht9⟩) hS.2.2 dX9_lends_88
            · skip
              refine lv_aload_n hx hb dX9_lends_58 rfl (lv_at hl 0 rfl) ?_
              refine va_get (D := D) (ci := 7) (v := .ref (b 1)) (C := RX9) (T := TX9) (N := 13) hx hb hts inX9 hown hK hP 0 rfl rfl 0 (by decide) k_7 (fun _ h9 => h9) rfl dX9_lends_59 ?_
              refine lv_iconst (v := 3) hx hb dX9_lends_62 (by decide) ?_
              refine fz_iald (f := M 1) hx hb hK hP 1 0 rfl rfl 3 rfl (by omega) (by decide) dX9_lends_63 ?_
              refine lv_bipush (v := 12) hx hb dX9_lends_64 (by decide) ?_
              refine fz_eqN (tgt := 87) hx hb nl 12 hnl rfl dX9_lends_66 (by decide) (by omega) (by omega) (fun c_7 => ?_) (fun c_7 => ?_)
              · skip
                refine lv_iconst (v := 3) hx hb dX9_lends_87 (by decide) ?_
                have eF : fm_lend M nl f g y w = (3, M) := by simp only [fm_lend, c_1, c_2, c_3, c_4, c_5, c_6, c_7, ei', ej', ↓reduceIte, Bool.false_eq_true, cond_true, cond_false]
                exact W.iret (v := 3) hx hb hr (fun t9 ht9 hW9 => ⟨⟨_, (), rfl, (by rw [eF] <;> rfl), fz_to ht9 (by rw [eF]; exact hP)⟩, hS.F ht9⟩) hS.2.2 dX9_lends_88
              · skip
                refine lv_aload_n hx hb dX9_lends_69 rfl (lv_at hl 0 rfl) ?_
                refine lv_iload_n hx hb dX9_lends_70 rfl (lv_at hl 1 rfl) ?_
                refine lv_iconst (v := 0) hx hb dX9_lends_71 (by decide) ?_
                refine fz_at1 (show f = nI i from ei) ?_
                refine fz_retR (va_runV (As := [.int (nI i), .int (nI 0)]) (rest := []) ⟨hx, hb, hml, hown, hts⟩ (c_X9_of l D cy b M h i 0 (by omega) (by omega)) (cwV 2 hts gX9_lends_X9_of rfl rfl rfl (by decide +kernel) ⟨Nat.le_of_ble_eq_true rfl, Nat.le_of_ble_eq_true rfl⟩) (fz_preV (ci := 7) (q0 := 0) hK hP rfl rfl rfl fz_T_bl (fun _ _ _ => trivial)) rfl rfl hl.1 rfl (lv_room (Nat.le_of_ble_eq_true rfl)) dX9_lends_72 ⟨Nat.zero_le _, Nat.zero_le _⟩) ?_
                refine lv_iload_n hx hb dX9_lends_75 rfl (lv_at hl 3 rfl) ?_
                refine lv_icmp_lt (tgt := 87) hx hb dX9_lends_76 (by decide) (fun c_8 => ?_) (fun c_8 => ?_)
                · skip
                  refine lv_iconst (v := 3) hx hb dX9_lends_87 (by decide) ?_
                  have eF : fm_lend M nl f g y w = (3, M) := by simp only [fm_lend, c_1, c_2, c_3, c_4, c_5, c_6, c_7, c_8, ei', ej', ↓reduceIte, Bool.false_eq_true, cond_true, cond_false]
                  exact W.iret (v := 3) hx hb hr (fun t9 ht9 hW9 => ⟨⟨_, (), rfl, (by rw [eF] <;> rfl), fz_to ht9 (by rw [eF]; exact hP)⟩, hS.F ht9⟩) hS.2.2 dX9_lends_88
                · skip
                  refine lv_aload_n hx hb dX9_lends_79 rfl (lv_at hl 0 rfl) ?_
                  refine lv_iload_n hx hb dX9_lends_80 rfl (lv_at hl 2 rfl) ?_
                  refine fz_retR (va_runV (As := [.int g]) (rest := []) ⟨hx, hb, hml, hown, hts⟩ (c_X9_owes l D cy b M h g nl hnl hnl12) (cwV 1 hts gX9_lends_X9_owes rfl rfl rfl (by decide +kernel) ⟨Nat.le_of_ble_eq_true rfl, Nat.le_of_ble_eq_true rfl⟩) (fz_preV (ci := 7) (q0 := 0) hK hP rfl rfl rfl fz_T_bl (fun _ _ _ => trivial)) rfl rfl hl.1 rfl (lv_room (Nat.le_of_ble_eq_true rfl)) dX9_lends_81 ⟨Nat.zero_le _, Nat.zero_le _⟩) ?_
                  refine fz_ifeqB (tgt := 89) hx hb dX9_lends_84 (by decide) (fun c_9 => ?_) (fun c_9 => ?_)
                  · skip
                    refine lv_sipush (v := 277) hx hb dX9_lends_89 (by decide) ?_
                    refine lv_bipush (v := 6) hx hb dX9_lends_92 (by decide) ?_
                    refine lv_aload_n hx hb dX9_lends_94 rfl (lv_at hl 0 rfl) ?_
                    refine va_get (D := D) (ci := 7) (v := .ref (b 1)) (C := RX9) (T := TX9) (N := 13) hx hb hts inX9 hown hK hP 0 rfl rfl 0 (by decide) k_7 (fun _ h9 => h9) rfl dX9_lends_95 ?_
                    refine lv_iconst (v := 3) hx hb dX9_lends_98 (by decide) ?_
                    refine fz_iald (f := M 1) hx hb hK hP 1 0 rfl rfl 3 rfl (by omega) (by decide) dX9_lends_99 ?_
                    refine fz_imulN hx hb 6 nl rfl hnl dX9_lends_100 ?_
                    refine fz_iaddN hx hb 277 (6 * nl) rfl rfl dX9_lends_101 ?_
                    refine lv_istore (lv' := [(5, .int (nI (277 + (6 * nl)))), (0, .ref (b 0)), (1, .int f), (2, .int g), (3, .int y), (4, .int w)]) hx hb dX9_lends_102 hl (by decide) rfl (fun ls hl => ?_)
                    refine lv_aload_n hx hb dX9_lends_104 rfl (lv_at hl 1 rfl) ?_
                    refine va_get (D := D) (ci := 7) (v := .ref (b 1)) (C := RX9) (T := TX9) (N := 13) hx hb hts inX9 hown hK hP 0 rfl rfl 0 (by decide) k_7 (fun _ h9 => h9) rfl dX9_lends_105 ?_
                    refine lv_iload hx hb dX9_lends_108 (lv_at hl 0 rfl) ?_
                    refine lv_iload_n hx hb dX9_lends_110 rfl (lv_at hl 2 rfl) ?_
                    refine fz_iast (f := M 1) hx hb hK hP hD hS 1 0 rfl rfl (277 + (6 * nl)) rfl (by omega) (by decide) dX9_lends_111 (fun H locs hP hD hS => ?_)
                    have hP : va_P D vwCl (ME cy b (M 0 0) (M 0 1) (M 0 2) (M 0 3) (M 0 4) (M 0 5) (M 0 6) (upd (M 1) (277 + (6 * nl)) f) (M 2) (M 3) (M 4) (M 5) h) H := hP
                    have hD : va_D A (ME cy b (M 0 0) (M 0 1) (M 0 2) (M 0 3) (M 0 4) (M 0 5) (M 0 6) (upd (M 1) (277 + (6 * nl)) f) (M 2) (M 3) (M 4) (M 5) h) := hD
                    refine lv_aload_n hx hb dX9_lends_112 rfl (lv_at hl 1 rfl) ?_
                    refine va_get (D := D) (ci := 7) (v := .ref (b 1)) (C := RX9) (T := TX9) (N := 13) hx hb hts inX9 hown hK hP 0 rfl rfl 0 (by decide) k_7 (fun _ h9 => h9) rfl dX9_lends_113 ?_
                    refine lv_iload hx hb dX9_lends_116 (lv_at hl 0 rfl) ?_
                    refine lv_iconst (v := 1) hx hb dX9_lends_118 (by decide) ?_
                    refine fz_iaddN hx hb (277 + (6 * nl)) 1 rfl rfl dX9_lends_119 ?_
                    refine lv_iload_n hx hb dX9_lends_120 rfl (lv_at hl 3 rfl) ?_
                    refine fz_iast (f := upd (M 1) (277 + (6 * nl)) f) hx hb hK hP hD hS 1 0 rfl rfl ((277 + (6 * nl)) + 1) rfl (by omega) (by decide) dX9_lends_121 (fun H locs hP hD hS => ?_)
                    have hP : va_P D vwCl (ME cy b (M 0 0) (M 0 1) (M 0 2) (M 0 3) (M 0 4) (M 0 5) (M 0 6) (upd (upd (M 1) (277 + (6 * nl)) f) ((277 + (6 * nl)) + 1) g) (M 2) (M 3) (M 4) (M 5) h) H := hP
                    have hD : va_D A (ME cy b (M 0 0) (M 0 1) (M 0 2) (M 0 3) (M 0 4) (M 0 5) (M 0 6) (upd (upd (M 1) (277 + (6 * nl)) f) ((277 + (6 * nl)) + 1) g) (M 2) (M 3) (M 4) (M 5) h) := hD
                    refine lv_aload_n hx hb dX9_lends_122 rfl (lv_at hl 1 rfl) ?_
                    refine va_get (D := D) (ci := 7) (v := .ref (b 1)) (C := RX9) (T := TX9) (N := 13) hx hb hts inX9 hown hK hP 0 rfl rfl 0 (by decide) k_7 (fun _ h9 => h9) rfl dX9_lends_123 ?_
                    refine lv_iload hx hb dX9_lends_126 (lv_at hl 0 rfl) ?_
                    refine lv_iconst (v := 2) hx hb dX9_lends_128 (by decide) ?_
                    refine fz_iaddN hx hb (277 + (6 * nl)) 2 rfl rfl dX9_lends_129 ?_
                    refine lv_iload_n hx hb dX9_lends_130 rfl (lv_at hl 4 rfl) ?_
                    refine fz_iast (f := upd (upd (M 1) (277 + (6 * nl)) f) ((277 + (6 * nl)) + 1) g) hx hb hK hP hD hS 1 0 rfl rfl ((277 + (6 * nl)) + 2) rfl (by omega) (by decide) dX9_lends_131 (fun H locs hP hD hS => ?_)
                    have hP : va_P D vwCl (ME cy b (M 0 0) (M 0 1) (M 0 2) (M 0 3) (M 0 4) (M 0 5) (M 0 6) (upd (upd (upd (M 1) (277 + (6 * nl)) f) ((277 + (6 * nl)) + 1) g) ((277 + (6 * nl)) + 2) y) (M 2) (M 3) (M 4) (M 5) h) H := hP
                    have hD : va_D A (ME cy b (M 0 0) (M 0 1) (M 0 2) (M 0 3) (M 0 4) (M 0 5) (M 0 6) (upd (upd (upd (M 1) (277 + (6 * nl)) f) ((277 + (6 * nl)) + 1) g) ((277 + (6 * nl)) + 2) y) (M 2) (M 3) (M 4) (M 5) h) := hD
                    refine lv_aload_n hx hb dX9_lends_132 rfl (lv_at hl 1 rfl) ?_
                    refine va_get (D := D) (ci := 7) (v := .ref (b 1)) (C := RX9) (T := TX9) (N := 13) hx hb hts inX9 hown hK hP 0 rfl rfl 0 (by decide) k_7 (fun _ h9 => h9) rfl dX9_lends_133 ?_
                    refine lv_iload hx hb dX9_lends_136 (lv_at hl 0 rfl) ?_
                    refine lv_iconst (v := 3) hx hb dX9_lends_138 (by decide) ?_
                    refine fz_iaddN hx hb (277 + (6 * nl)) 3 rfl rfl dX9_lends_139 ?_
                    refine lv_iload_n hx hb dX9_lends_140 rfl (lv_at hl 4 rfl) ?_
                    refine fz_iast (f := upd (upd (upd (M 1) (277 + (6 * nl)) f) ((277 + (6 * nl)) + 1) g) ((277 + (6 * nl)) + 2) y) hx hb hK hP hD hS 1 0 rfl rfl ((277 + (6 * nl)) + 3) rfl (by omega) (by decide) dX9_lends_141 (fun H locs hP hD hS => ?_)
                    have hP : va_P D vwCl (ME cy b (M 0 0) (M 0 1) (M 0 2) (M 0 3) (M 0 4) (M 0 5) (M 0 6) (upd (upd (upd (upd (M 1) (277 + (6 * nl)) f) ((277 + (6 * nl)) + 1) g) ((277 + (6 * nl)) + 2) y) ((277 + (6 * nl)) + 3) y) (M 2) (M 3) (M 4) (M 5) h) H := hP
                    have hD : va_D A (ME cy b (M 0 0) (M 0 1) (M 0 2) (M 0 3) (M 0 4) (M 0 5) (M 0 6) (upd (upd (upd (upd (M 1) (277 + (6 * nl)) f) ((277 + (6 * nl)) + 1) g) ((277 + (6 * nl)) + 2) y) ((277 + (6 * nl)) + 3) y) (M 2) (M 3) (M 4) (M 5) h) := hD
                    refine lv_aload_n hx hb dX9_lends_142 rfl (lv_at hl 1 rfl) ?_
                    refine va_get (D := D) (ci := 7) (v := .ref (b 1)) (C := RX9) (T := TX9) (N := 13) hx hb hts inX9 hown hK hP 0 rfl rfl 0 (by decide) k_7 (fun _ h9 => h9) rfl dX9_lends_143 ?_
                    refine lv_iload hx hb dX9_lends_146 (lv_at hl 0 rfl) ?_
                    refine lv_iconst (v := 4) hx hb dX9_lends_148 (by decide) ?_
                    refine fz_iaddN hx hb (277 + (6 * nl)) 4 rfl rfl dX9_lends_149 ?_
                    refine lv_iload hx hb dX9_lends_150 (lv_at hl 5 rfl) ?_
                    refine fz_iast (f := upd (upd (upd (upd (M 1) (277 + (6 * nl)) f) ((277 + (6 * nl)) + 1) g) ((277 + (6 * nl)) + 2) y) ((277 + (6 * nl)) + 3) y) hx hb hK hP hD hS 1 0 rfl rfl ((277 + (6 * nl)) + 4) rfl (by omega) (by decide) dX9_lends_152 (fun H locs hP hD hS => ?_)
                    have hP : va_P D vwCl (ME cy b (M 0 0) (M 0 1) (M 0 2) (M 0 3) (M 0 4) (M 0 5) (M 0 6) (upd (upd (upd (upd (upd (M 1) (277 + (6 * nl)) f) ((277 + (6 * nl)) + 1) g) ((277 + (6 * nl)) + 2) y) ((277 + (6 * nl)) + 3) y) ((277 + (6 * nl)) + 4) w) (M 2) (M 3) (M 4) (M 5) h) H := hP
                    have hD : va_D A (ME cy b (M 0 0) (M 0 1) (M 0 2) (M 0 3) (M 0 4) (M 0 5) (M 0 6) (upd (upd (upd (upd (upd (M 1) (277 + (6 * nl)) f) ((277 + (6 * nl)) + 1) g) ((277 + (6 * nl)) + 2) y) ((277 + (6 * nl)) + 3) y) ((277 + (6 * nl)) + 4) w) (M 2) (M 3) (M 4) (M 5) h) := hD
                    refine lv_aload_n hx hb dX9_lends_153 rfl (lv_at hl 1 rfl) ?_
                    refine va_get (D := D) (ci := 7) (v := .ref (b 1)) (C := RX9) (T := TX9) (N := 13) hx hb hts inX9 hown hK hP 0 rfl rfl 0 (by decide) k_7 (fun _ h9 => h9) rfl dX9_lends_154 ?_
                    refine lv_iload hx hb dX9_lends_157 (lv_at hl 0 rfl) ?_
                    refine lv_iconst (v := 5) hx hb dX9_lends_159 (by decide) ?_
                    refine fz_iaddN hx hb (277 + (6 * nl)) 5 rfl rfl dX9_lends_160 ?_
                    refine lv_aload_n hx hb dX9_lends_161 rfl (lv_at hl 1 rfl) ?_
                    refine va_get (D := D) (ci := 7) (v := .ref (b 1)) (C := RX9) (T := TX9) (N := 13) hx hb hts inX9 hown hK hP 0 rfl rfl 0 (by decide) k_7 (fun _ h9 => h9) rfl dX9_lends_162 ?_
                    refine lv_iconst (v := 0) hx hb dX9_lends_165 (by decide) ?_
                    refine fz_iald (f := upd (upd (upd (upd (upd (M 1) (277 + (6 * nl)) f) ((277 + (6 * nl)) + 1) g) ((277 + (6 * nl)) + 2) y) ((277 + (6 * nl)) + 3) y) ((277 + (6 * nl)) + 4) w) hx hb hK hP 1 0 rfl rfl 0 rfl (by omega) (by decide) dX9_lends_166 ?_
                    refine fz_top (show _ = M 1 0 from (by rw [pk_un (by omega), pk_un (by omega), pk_un (by omega), pk_un (by omega), pk_un (by omega)])) ?_
                    refine fz_iast (f := upd (upd (upd (upd (upd (M 1) (277 + (6 * nl)) f) ((277 + (6 * nl)) + 1) g) ((277 + (6 * nl)) + 2) y) ((277 + (6 * nl)) + 3) y) ((277 + (6 * nl)) + 4) w) hx hb hK hP hD hS 1 0 rfl rfl ((277 + (6 * nl)) + 5) rfl (by omega) (by decide) dX9_lends_167 (fun H locs hP hD hS => ?_)
                    have hP : va_P D vwCl (ME cy b (M 0 0) (M 0 1) (M 0 2) (M 0 3) (M 0 4) (M 0 5) (M 0 6) (upd (upd (upd (upd (upd (upd (M 1) (277 + (6 * nl)) f) ((277 + (6 * nl)) + 1) g) ((277 + (6 * nl)) + 2) y) ((277 + (6 * nl)) + 3) y) ((277 + (6 * nl)) + 4) w) ((277 + (6 * nl)) + 5) (M 1 0)) (M 2) (M 3) (M 4) (M 5) h) H := hP
                    have hD : va_D A (ME cy b (M 0 0) (M 0 1) (M 0 2) (M 0 3) (M 0 4) (M 0 5) (M 0 6) (upd (upd (upd (upd (upd (upd (M 1) (277 + (6 * nl)) f) ((277 + (6 * nl)) + 1) g) ((277 + (6 * nl)) + 2) y) ((277 + (6 * nl)) + 3) y) ((277 + (6 * nl)) + 4) w) ((277 + (6 * nl)) + 5) (M 1 0)) (M 2) (M 3) (M 4) (M 5) h) := hD
                    refine lv_aload_n hx hb dX9_lends_168 rfl (lv_at hl 1 rfl) ?_
                    refine lv_iload_n hx hb dX9_lends_169 rfl (lv_at hl 2 rfl) ?_
                    refine lv_iconst (v := 0) hx hb dX9_lends_170 (by decide) ?_
                    refine lv_iload_n hx hb dX9_lends_171 rfl (lv_at hl 4 rfl) ?_
                    refine lv_ineg hx hb dX9_lends_172 ?_
                    refine fz_at2 (show f = nI i from ei) ?_
                    refine fz_retMV (ws' := ME cy b (M 0 0) (M 0 1) (M 0 2) (M 0 3) (M 0 4) (M 0 5) (M 0 6) (fm_ta (upd (upd (upd (upd (upd (upd (M 1) (277 + (6 * nl)) f) ((277 + (6 * nl)) + 1) g) ((277 + (6 * nl)) + 2) y) ((277 + (6 * nl)) + 3) y) ((277 + (6 * nl)) + 4) w) ((277 + (6 * nl)) + 5) (M 1 0)) 0 i (-y)) (M 2) (M 3) (M 4) (M 5) h) (va_runV (As := [.int (nI i), .int (nI 0), .int (-y)]) (rest := []) ⟨hx, hb, hml, hown, hts⟩ (c_X9_adds l D cy b (fz_up M 1 (upd (upd (upd (upd (upd (upd (M 1) (277 + (6 * nl)) f) ((277 + (6 * nl)) + 1) g) ((277 + (6 * nl)) + 2) y) ((277 + (6 * nl)) + 3) y) ((277 + (6 * nl)) + 4) w) ((277 + (6 * nl)) + 5) (M 1 0))) h i 0 (by omega) (by omega) (-y)) (cwV 3 hts gX9_lends_X9_adds rfl rfl rfl (by decide +kernel) ⟨Nat.le_of_ble_eq_true rfl, Nat.le_of_ble_eq_true rfl⟩) (fz_preMV (ci := 7) (q0 := 0) hK hP hD rfl rfl rfl fz_T_bl (fun _ _ _ => trivial)) rfl rfl hl.1 rfl (lv_room (Nat.le_of_ble_eq_true rfl)) dX9_lends_173 ⟨Nat.zero_le _, Nat.zero_le _⟩) hP hD hS [0, 1, 2, 3, 4, 5] [] rfl rfl [true, true, true, true, true, true] (And.intro rfl (And.intro rfl (And.intro rfl (And.intro rfl (And.intro rfl (And.intro rfl trivial)))))) rfl rfl (fun H locs hP hD hS => ?_)
                    have hP : va_P D vwCl (ME cy b (M 0 0) (M 0 1) (M 0 2) (M 0 3) (M 0 4) (M 0 5) (M 0 6) (fm_ta (upd (upd (upd (upd (upd (upd (M 1) (277 + (6 * nl)) f) ((277 + (6 * nl)) + 1) g) ((277 + (6 * nl)) + 2) y) ((277 + (6 * nl)) + 3) y) ((277 + (6 * nl)) + 4) w) ((277 + (6 * nl)) + 5) (M 1 0)) 0 i (-y)) (M 2) (M 3) (M 4) (M 5) h) H := hP
                    have hD : va_D A (ME cy b (M 0 0) (M 0 1) (M 0 2) (M 0 3) (M 0 4) (M 0 5) (M 0 6) (fm_ta (upd (upd (upd (upd (upd (upd (M 1) (277 + (6 * nl)) f) ((277 + (6 * nl)) + 1) g) ((277 + (6 * nl)) + 2) y) ((277 + (6 * nl)) + 3) y) ((277 + (6 * nl)) + 4) w) ((277 + (6 * nl)) + 5) (M 1 0)) 0 i (-y)) (M 2) (M 3) (M 4) (M 5) h) := hD
                    refine lv_aload_n hx hb dX9_lends_176 rfl (lv_at hl 1 rfl) ?_
                    refine lv_iload_n hx hb dX9_lends_177 rfl (lv_at hl 3 rfl) ?_
                    refine lv_iconst (v := 0) hx hb dX9_lends_178 (by decide) ?_
                    refine lv_iload_n hx hb dX9_lends_179 rfl (lv_at hl 4 rfl) ?_
                    refine fz_at2 (show g = nI j from ej) ?_
                    refine fz_retMV (ws' := ME cy b (M 0 0) (M 0 1) (M 0 2) (M 0 3) (M 0 4) (M 0 5) (M 0 6) (fm_ta (fm_ta (upd (upd (upd (upd (upd (upd (M 1) (277 + (6 * nl)) f) ((277 + (6 * nl)) + 1) g) ((277 + (6 * nl)) + 2) y) ((277 + (6 * nl)) + 3) y) ((277 + (6 * nl)) + 4) w) ((277 + (6 * nl)) + 5) (M 1 0)) 0 i (-y)) 0 j y) (M 2) (M 3) (M 4) (M 5) h) (va_runV (As := [.int (nI j), .int (nI 0), .int y]) (rest := []) ⟨hx, hb, hml, hown, hts⟩ (c_X9_adds l D cy b (fz_up M 1 (fm_ta (upd (upd (upd (upd (upd (upd (M 1) (277 + (6 * nl)) f) ((277 + (6 * nl)) + 1) g) ((277 + (6 * nl)) + 2) y) ((277 + (6 * nl)) + 3) y) ((277 + (6 * nl)) + 4) w) ((277 + (6 * nl)) + 5) (M 1 0)) 0 i (-y))) h j 0 (by omega) (by omega) y) (cwV 3 hts gX9_lends_X9_adds rfl rfl rfl (by decide +kernel) ⟨Nat.le_of_ble_eq_true rfl, Nat.le_of_ble_eq_true rfl⟩) (fz_preMV (ci := 7) (q0 := 0) hK hP hD rfl rfl rfl fz_T_bl (fun _ _ _ => trivial)) rfl rfl hl.1 rfl (lv_room (Nat.le_of_ble_eq_true rfl)) dX9_lends_180 ⟨Nat.zero_le _, Nat.zero_le _⟩) hP hD hS [0, 1, 2, 3, 4, 5] [] rfl rfl [true, true, true, true, true, true] (And.intro rfl (And.intro rfl (And.intro rfl (And.intro rfl (And.intro rfl (And.intro rfl trivial)))))) rfl rfl (fun H locs hP hD hS => ?_)
                    have hP : va_P D vwCl (ME cy b (M 0 0) (M 0 1) (M 0 2) (M 0 3) (M 0 4) (M 0 5) (M 0 6) (fm_ta (fm_ta (upd (upd (upd (upd (upd (upd (M 1) (277 + (6 * nl)) f) ((277 + (6 * nl)) + 1) g) ((277 + (6 * nl)) + 2) y) ((277 + (6 * nl)) + 3) y) ((277 + (6 * nl)) + 4) w) ((277 + (6 * nl)) + 5) (M 1 0)) 0 i (-y)) 0 j y) (M 2) (M 3) (M 4) (M 5) h) H := hP
                    have hD : va_D A (ME cy b (M 0 0) (M 0 1) (M 0 2) (M 0 3) (M 0 4) (M 0 5) (M 0 6) (fm_ta (fm_ta (upd (upd (upd (upd (upd (upd (M 1) (277 + (6 * nl)) f) ((277 + (6 * nl)) + 1) g) ((277 + (6 * nl)) + 2) y) ((277 + (6 * nl)) + 3) y) ((277 + (6 * nl)) + 4) w) ((277 + (6 * nl)) + 5) (M 1 0)) 0 i (-y)) 0 j y) (M 2) (M 3) (M 4) (M 5) h) := hD
                    refine lv_aload_n hx hb dX9_lends_183 rfl (lv_at hl 1 rfl) ?_
                    refine lv_aload_n hx hb dX9_lends_184 rfl (lv_at hl 1 rfl) ?_
                    refine va_get (D := D) (ci := 7) (v := .ref (b 1)) (C := RX9) (T := TX9) (N := 13) hx hb hts inX9 hown hK hP 0 rfl rfl 0 (by decide) k_7 (fun _ h9 => h9) rfl dX9_lends_185 ?_
                    refine lv_iconst (v := 3) hx hb dX9_lends_188 (by decide) ?_
                    refine fz_iald (f := fm_ta (fm_ta (upd (upd (upd (upd (upd (upd (M 1) (277 + (6 * nl)) f) ((277 + (6 * nl)) + 1) g) ((277 + (6 * nl)) + 2) y) ((277 + (6 * nl)) + 3) y) ((277 + (6 * nl)) + 4) w) ((277 + (6 * nl)) + 5) (M 1 0)) 0 i (-y)) 0 j y) hx hb hK hP 1 0 rfl rfl 3 rfl (by omega) (by decide) dX9_lends_189 ?_
                    refine fz_top (show _ = M 1 3 from (by rw [fm_ta_3, fm_ta_3, pk_un (by omega), pk_un (by omega), pk_un (by omega), pk_un (by omega), pk_un (by omega), pk_un (by omega)])) ?_
                    refine va_put (D := D) (ci := 7) (v := .int (M 1 3)) (ty := tyX9 7) (C := RX9) (T := TX9) (N := 13) hx hb hts inX9 tyX9 tyX9_ok nmX9 hown hK hP hD hS 0 rfl rfl 7 (by decide) k_47 (fun _ h9 => h9) rfl (by decide +kernel) rfl rfl (Nat.le_of_ble_eq_true rfl) dX9_lends_190 (fun H locs hP hD hS => ?_)
                    have hP : va_P D vwCl (ME cy b (M 0 0) (M 0 1) (M 0 2) (M 1 3) (M 0 4) (M 0 5) (M 0 6) (fm_ta (fm_ta (upd (upd (upd (upd (upd (upd (M 1) (277 + (6 * nl)) f) ((277 + (6 * nl)) + 1) g) ((277 + (6 * nl)) + 2) y) ((277 + (6 * nl)) + 3) y) ((277 + (6 * nl)) + 4) w) ((277 + (6 * nl)) + 5) (M 1 0)) 0 i (-y)) 0 j y) (M 2) (M 3) (M 4) (M 5) h) H := hP
                    have hD : va_D A (ME cy b (M 0 0) (M 0 1) (M 0 2) (M 1 3) (M 0 4) (M 0 5) (M 0 6) (fm_ta (fm_ta (upd (upd (upd (upd (upd (upd (M 1) (277 + (6 * nl)) f) ((277 + (6 * nl)) + 1) g) ((277 + (6 * nl)) + 2) y) ((277 + (6 * nl)) + 3) y) ((277 + (6 * nl)) + 4) w) ((277 + (6 * nl)) + 5) (M 1 0)) 0 i (-y)) 0 j y) (M 2) (M 3) (M 4) (M 5) h) := hD
                    refine lv_aload_n hx hb dX9_lends_193 rfl (lv_at hl 1 rfl) ?_
                    refine va_get (D := D) (ci := 7) (v := .ref (b 1)) (C := RX9) (T := TX9) (N := 13) hx hb hts inX9 hown hK hP 0 rfl rfl 0 (by decide) k_7 (fun _ h9 => h9) rfl dX9_lends_194 ?_
                    refine lv_iconst (v := 3) hx hb dX9_lends_197 (by decide) ?_
                    refine lv_dup2_11 hx hb dX9_lends_198 rfl rfl ?_
                    refine fz_iald (f := fm_ta (fm_ta (upd (upd (upd (upd (upd (upd (M 1) (277 + (6 * nl)) f) ((277 + (6 * nl)) + 1) g) ((277 + (6 * nl)) + 2) y) ((277 + (6 * nl)) + 3) y) ((277 + (6 * nl)) + 4) w) ((277 + (6 * nl)) + 5) (M 1 0)) 0 i (-y)) 0 j y) hx hb hK hP 1 0 rfl rfl 3 rfl (by omega) (by decide) dX9_lends_199 ?_
                    refine fz_top (show _ = M 1 3 from (by rw [fm_ta_3, fm_ta_3, pk_un (by omega), pk_un (by omega), pk_un (by omega), pk_un (by omega), pk_un (by omega), pk_un (by omega)])) ?_
                    refine lv_iconst (v := 1) hx hb dX9_lends_200 (by decide) ?_
                    refine fz_iaddN hx hb nl 1 hnl rfl dX9_lends_201 ?_
                    refine fz_iast (f := fm_ta (fm_ta (upd (upd (upd (upd (upd (upd (M 1) (277 + (6 * nl)) f) ((277 + (6 * nl)) + 1) g) ((277 + (6 * nl)) + 2) y) ((277 + (6 * nl)) + 3) y) ((277 + (6 * nl)) + 4) w) ((277 + (6 * nl)) + 5) (M 1 0)) 0 i (-y)) 0 j y) hx hb hK hP hD hS 1 0 rfl rfl 3 rfl (by omega) (by decide) dX9_lends_202 (fun H locs hP hD hS => ?_)
                    have hP : va_P D vwCl (ME cy b (M 0 0) (M 0 1) (M 0 2) (M 1 3) (M 0 4) (M 0 5) (M 0 6) (upd (fm_ta (fm_ta (upd (upd (upd (upd (upd (upd (M 1) (277 + (6 * nl)) f) ((277 + (6 * nl)) + 1) g) ((277 + (6 * nl)) + 2) y) ((277 + (6 * nl)) + 3) y) ((277 + (6 * nl)) + 4) w) ((277 + (6 * nl)) + 5) (M 1 0)) 0 i (-y)) 0 j y) 3 (nI (nl + 1))) (M 2) (M 3) (M 4) (M 5) h) H := hP
                    have hD : va_D A (ME cy b (M 0 0) (M 0 1) (M 0 2) (M 1 3) (M 0 4) (M 0 5) (M 0 6) (upd (fm_ta (fm_ta (upd (upd (upd (upd (upd (upd (M 1) (277 + (6 * nl)) f) ((277 + (6 * nl)) + 1) g) ((277 + (6 * nl)) + 2) y) ((277 + (6 * nl)) + 3) y) ((277 + (6 * nl)) + 4) w) ((277 + (6 * nl)) + 5) (M 1 0)) 0 i (-y)) 0 j y) 3 (nI (nl + 1))) (M 2) (M 3) (M 4) (M 5) h) := hD
                    refine lv_iconst (v := 0) hx hb dX9_lends_203 (by decide) ?_
                    have eF : fm_lend M nl f g y w = (0, fz_up (fz_up M 0 (upd (M 0) 3 (M 1 3))) 1 (fm_lnt (M 1) nl f g i j y w)) := by simp only [fm_lend, c_1, c_2, c_3, c_4, c_5, c_6, c_7, c_8, c_9, ei', ej', ↓reduceIte, Bool.false_eq_true, cond_true, cond_false]
                    exact W.iret (v := 0) hx hb hr (fun t9 ht9 hW9 => ⟨⟨_, (), rfl, (by rw [eF] <;> rfl), fz_to ht9 (by rw [eF]; exact hP)⟩, hS.F ht9⟩) hS.2.2 dX9_lends_204
                  · skip
                    refine lv_iconst (v := 3) hx hb dX9_lends_87 (by decide) ?_
                    have eF : fm_lend M nl f g y w = (3, M) := by simp only [fm_lend, c_1, c_2, c_3, c_4, c_5, c_6, c_7, c_8, c_9, ei', ej', ↓reduceIte, Bool.false_eq_true, cond_true, cond_false]
                    exact W.iret (v := 3) hx hb hr (fun t9 ht9 hW9 => ⟨⟨_, (), rfl, (by rw [eF] <;> rfl), fz_to ht9 (by rw [eF]; exact hP)⟩, hS.F ht9⟩) hS.2.2 dX9_lends_88
          · skip
            refine lv_iconst (v := 2) hx hb dX9_lends_45 (by decide) ?_
            have eF : fm_lend M nl f g y w = (2, M) := by simp only [fm_lend, c_1, c_2, c_3, c_4, c_5, ei', ej', ↓reduceIte, Bool.false_eq_true, cond_true, cond_false]
            exact W.iret (v := 2) hx hb hr (fun t9 ht9 hW9 => ⟨⟨_, (), rfl, (by rw [eF] <;> rfl), fz_to ht9 (by rw [eF]; exact hP)⟩, hS.F ht9⟩) hS.2.2 dX9_lends_46
    · skip
      refine lv_iconst (v := 1) hx hb dX9_lends_16 (by decide) ?_
      have eF : fm_lend M nl f g y w = (1, M) := by simp only [fm_lend, c_1, c_2, ei', ↓reduceIte, Bool.false_eq_true, cond_true, cond_false]
      exact W.iret (v := 1) hx hb hr (fun t9 ht9 hW9 => ⟨⟨_, (), rfl, (by rw [eF] <;> rfl), fz_to ht9 (by rw [eF]; exact hP)⟩, hS.F ht9⟩) hS.2.2 dX9_lends_17
set_option maxHeartbeats 4000000 in
set_option maxRecDepth 100000 in
/-- the model: repays -/
theorem c_X9_repays (l : Launch) (D : va_G) (cy : Nat → ClassId) (b : Nat → Nat) (M : Nat → Nat → Int32) (h : Int64) (nt nc nl wk : Nat) (wf : fm_wf (M 1) nt nc nl wk) (x y : Int32) : fz_MI l yX9_repays wsX9_repays 2 45 D cy [.ref (b 0), .int x, .int y] (MW cy b M h) fz_T ((fm_rep M x y).1) (MW cy b ((fm_rep M x y).2) h) := by
  refine Met.ofW (cc := cX9_repays) (maxL := 3) (ret := (some .int)) (by decide) rfl ?_
  intro p e s m args below meth c s₁ B hml hv
  obtain ⟨rfl, hP, hK, hD0, hE⟩ := hv
  have hx := B.exec
  have hb := B.bytes
  have hr := B.returns
  have hts := atoms_spec (ws := wsX9_repays) B.pre
  have hown : s.vm.findClass RX9 = some m.cls := findClass_of_methodNamed B.named
  have hlocks := B.notSynchronized
  have hD := fz_self hD0
  generalize hAe : fz_in (MW cy b M h) = A at hD ⊢
  have hS : va_S A s.heap s.heap [] := va_S.rf
  have hl := lv_entry ([.ref (b 0), .int x, .int y]) (n := 3) (Nat.le_of_ble_eq_true rfl)
  rw [lg_entry_eq]
  generalize (lg_sl ([.ref (b 0), .int x, .int y]) ++ List.replicate (3 - (lg_sl ([.ref (b 0), .int x, .int y])).length) Slot.unset).toArray = ls at hl ⊢
  have hl : lv_has ls 3 [(0, .ref (b 0)), (1, .int x), (2, .int y)] := hl
  have k_47 := hts (.fieldLink RX9 47 "FreezeCreditsModel" "answer" "I") (by decide +kernel)
  have inX9 : ∀ w ∈ u_ws RX9 TX9 13, w ∈ wsX9_repays := by decide +kernel
  obtain ⟨hnt, hnt6, hnc, hnc30, hnl, hnl12, hwk, hwk39, hT, hG, hB, hZo⟩ := id wf
  refine lv_aload_n hx hb dX9_repays_0 rfl (lv_at hl 0 rfl) ?_
  refine lv_iload_n hx hb dX9_repays_1 rfl (lv_at hl 1 rfl) ?_
  refine fz_retR (va_runV (As := [.int x]) (rest := []) ⟨hx, hb, hml, hown, hts⟩ (c_X9_isLoan l D cy b M h x nl hnl (by omega)) (cwV 1 hts gX9_repays_X9_isLoan rfl rfl rfl (by decide +kernel) ⟨Nat.le_of_ble_eq_true rfl, Nat.le_of_ble_eq_true rfl⟩) (fz_preV (ci := 7) (q0 := 0) hK hP rfl rfl rfl fz_T_bl (fun _ _ _ => trivial)) rfl rfl hl.1 rfl (lv_room (Nat.le_of_ble_eq_true rfl)) dX9_repays_2 ⟨Nat.zero_le _, Nat.zero_le _⟩) ?_
  refine fz_ifneB (tgt := 10) hx hb dX9_repays_5 (by decide) (fun c_1 => ?_) (fun c_1 => ?_)
  · skip
    obtain ⟨z, hz, ez⟩ := fz_ix_t (by omega) (show fz_ix x (nI nl) = true by rw [← hnl]; exact c_1)
    have ez' := fz_tnat ez (by omega)
    refine lv_iload_n hx hb dX9_repays_10 rfl (lv_at hl 2 rfl) ?_
    refine lv_iconst (v := 1) hx hb dX9_repays_11 (by decide) ?_
    refine lv_sipush (v := 500) hx hb dX9_repays_12 (by decide) ?_
    refine fz_retR (va_runS (As := [.int y, .int 1, .int 500]) (rest := []) ⟨hx, hb, hml, hown, hts⟩ (c_X9_in l D cy y 1 500) (va_cwS 3 hts gX9_repays_X9_in rfl rfl rfl (by decide +kernel) ⟨Nat.le_of_ble_eq_true rfl, Nat.le_of_ble_eq_true rfl⟩) (fz_preS hK (fz_nil) fz_T_bl (fun _ _ _ => trivial)) rfl rfl hl.1 rfl (lv_room (Nat.le_of_ble_eq_true rfl)) dX9_repays_15 ⟨Nat.zero_le _, Nat.zero_le _⟩) ?_
    refine fz_ifneB (tgt := 23) hx hb dX9_repays_18 (by decide) (fun c_2 => ?_) (fun c_2 => ?_)
    · skip
      obtain ⟨j, hj, ej⟩ := hB z hz
      obtain ⟨g, hg, eg⟩ := hG z hz
      have ej' := fz_tnat ej (by omega)
      refine lv_aload_n hx hb dX9_repays_23 rfl (lv_at hl 0 rfl) ?_
      refine lv_iload_n hx hb dX9_repays_24 rfl (lv_at hl 1 rfl) ?_
      refine lv_iconst (v := 3) hx hb dX9_repays_25 (by decide) ?_
      refine fz_at1 (show x = nI z from ez) ?_
      refine fz_retR (va_runV (As := [.int (nI z), .int (nI 3)]) (rest := []) ⟨hx, hb, hml, hown, hts⟩ (c_X9_loanOf l D cy b M h z 3 (by omega) (by omega)) (cwV 2 hts gX9_repays_X9_loanOf rfl rfl rfl (by decide +kernel) ⟨Nat.le_of_ble_eq_true rfl, Nat.le_of_ble_eq_true rfl⟩) (fz_preV (ci := 7) (q0 := 0) hK hP rfl rfl rfl fz_T_bl (fun _ _ _ => trivial)) rfl rfl hl.1 rfl (lv_room (Nat.le_of_ble_eq_true rfl)) dX9_repays_26 ⟨Nat.zero_le _, Nat.zero_le _⟩) ?_
      refine lv_iload_n hx hb dX9_repays_29 rfl (lv_at hl 2 rfl) ?_
      refine lv_icmp_lt (tgt := 48) hx hb dX9_repays_30 (by decide) (fun c_3 => ?_) (fun c_3 => ?_)
      · skip
        refine lv_iconst (v := 3) hx hb dX9_repays_48 (by decide) ?_
        have eF : fm_rep M x y = (3, M) := by simp only [fm_rep, c_1, c_2, c_3, ez', ej', ↓reduceIte, Bool.false_eq_true, cond_true, cond_false]
        exact W.iret (v := 3) hx hb hr (fun t9 ht9 hW9 => ⟨⟨_, (), rfl, (by rw [eF] <;> rfl), fz_to ht9 (by rw [eF]; exact hP)⟩, hS.F ht9⟩) hS.2.2 dX9_repays_49
      · skip
        refine lv_aload_n hx hb dX9_repays_33 rfl (lv_at hl 0 rfl) ?_
        refine lv_aload_n hx hb dX9_repays_34 rfl (lv_at hl 0 rfl) ?_
        refine lv_iload_n hx hb dX9_repays_35 rfl (lv_at hl 1 rfl) ?_
        refine lv_iconst (v := 1) hx hb dX9_repays_36 (by decide) ?_
        refine fz_at1 (show x = nI z from ez) ?_
        refine fz_retR (va_runV (As := [.int (nI z), .int (nI 1)]) (rest := [.ref (b 0)]) ⟨hx, hb, hml, hown, hts⟩ (c_X9_loanOf l D cy b M h z 1 (by omega) (by omega)) (cwV 2 hts gX9_repays_X9_loanOf rfl rfl rfl (by decide +kernel) ⟨Nat.le_of_ble_eq_true rfl, Nat.le_of_ble_eq_true rfl⟩) (fz_preV (ci := 7) (q0 := 0) hK hP rfl rfl rfl fz_T_bl (fun _ _ _ => trivial)) rfl rfl hl.1 rfl (lv_room (Nat.le_of_ble_eq_true rfl)) dX9_repays_37 ⟨Nat.zero_le _, Nat.zero_le _⟩) ?_
        refine lv_iconst (v := 0) hx hb dX9_repays_40 (by decide) ?_
        refine fz_at1 (show fm_l (M 1) 1 z = nI j from ej) ?_
        refine fz_retR (va_runV (As := [.int (nI j), .int (nI 0)]) (rest := []) ⟨hx, hb, hml, hown, hts⟩ (c_X9_of l D cy b M h j 0 (by omega) (by omega)) (cwV 2 hts gX9_repays_X9_of rfl rfl rfl (by decide +kernel) ⟨Nat.le_of_ble_eq_true rfl, Nat.le_of_ble_eq_true rfl⟩) (fz_preV (ci := 7) (q0 := 0) hK hP rfl rfl rfl fz_T_bl (fun _ _ _ => trivial)) rfl rfl hl.1 rfl (lv_room (Nat.le_of_ble_eq_true rfl)) dX9_repays_41 ⟨Nat.zero_le _, Nat.zero_le _⟩) ?_
        refine lv_iload_n hx hb dX9_repays_44 rfl (lv_at hl 2 rfl) ?_
        refine lv_icmp_ge (tgt := 50) hx hb dX9_repays_45 (by decide) (fun c_4 => ?_) (fun c_4 => ?_)
        · skip
          refine lv_aload_n hx hb dX9_repays_50 rfl (lv_at hl 0 rfl) ?_
          refine lv_iload_n hx hb dX9_repays_51 rfl (lv_at hl 1 rfl) ?_
          refine lv_iload_n hx hb dX9_repays_52 rfl (lv_at hl 2 rfl) ?_
          refine fz_at1 (show x = nI z from ez) ?_
          refine fz_retMV (ws' := ME cy b (M 0 0) (M 0 1) (M 0 2) (M 0 3) (M 0 4) (M 0 5) (M 0 6) (fm_pays (M 1) z y) (M 2) (M 3) (M 4) (M 5) h) (va_runV (As := [.int (nI z), .int y]) (rest := []) ⟨hx, hb, hml, hown, hts⟩ (c_X9_pays l D cy b M h z (by omega) y j g (by omega) (by omega) ej eg) (cwV 2 hts gX9_repays_X9_pays rfl rfl rfl (by decide +kernel) ⟨Nat.le_of_ble_eq_true rfl, Nat.le_of_ble_eq_true rfl⟩) (fz_preMV (ci := 7) (q0 := 0) hK hP hD rfl rfl rfl fz_T_bl (fun _ _ _ => trivial)) rfl rfl hl.1 rfl (lv_room (Nat.le_of_ble_eq_true rfl)) dX9_repays_53 ⟨Nat.zero_le _, Nat.zero_le _⟩) hP hD hS [0, 1, 2, 3, 4, 5] [] rfl rfl [true, true, true, true, true, true] (And.intro rfl (And.intro rfl (And.intro rfl (And.intro rfl (And.intro rfl (And.intro rfl trivial)))))) rfl rfl (fun H locs hP hD hS => ?_)
          have hP : va_P D vwCl (ME cy b (M 0 0) (M 0 1) (M 0 2) (M 0 3) (M 0 4) (M 0 5) (M 0 6) (fm_pays (M 1) z y) (M 2) (M 3) (M 4) (M 5) h) H := hP
          have hD : va_D A (ME cy b (M 0 0) (M 0 1) (M 0 2) (M 0 3) (M 0 4) (M 0 5) (M 0 6) (fm_pays (M 1) z y) (M 2) (M 3) (M 4) (M 5) h) := hD
          refine lv_aload_n hx hb dX9_repays_56 rfl (lv_at hl 0 rfl) ?_
          refine lv_aload_n hx hb dX9_repays_57 rfl (lv_at hl 0 rfl) ?_
          refine lv_iload_n hx hb dX9_repays_58 rfl (lv_at hl 1 rfl) ?_
          refine lv_iconst (v := 3) hx hb dX9_repays_59 (by decide) ?_
          refine fz_at1 (show x = nI z from ez) ?_
          refine fz_retR (va_runV (As := [.int (nI z), .int (nI 3)]) (rest := [.ref (b 0)]) ⟨hx, hb, hml, hown, hts⟩ (c_X9_loanOf l D cy b (fz_up M 1 (fm_pays (M 1) z y)) h z 3 (by omega) (by omega)) (cwV 2 hts gX9_repays_X9_loanOf rfl rfl rfl (by decide +kernel) ⟨Nat.le_of_ble_eq_true rfl, Nat.le_of_ble_eq_true rfl⟩) (fz_preV (ci := 7) (q0 := 0) hK hP rfl rfl rfl fz_T_bl (fun _ _ _ => trivial)) rfl rfl hl.1 rfl (lv_room (Nat.le_of_ble_eq_true rfl)) dX9_repays_60 ⟨Nat.zero_le _, Nat.zero_le _⟩) ?_
          refine fz_top (show _ = fm_l (fm_pays (M 1) z y) 3 z from rfl) ?_
          refine va_put (D := D) (ci := 7) (v := .int (fm_l (fm_pays (M 1) z y) 3 z)) (ty := tyX9 7) (C := RX9) (T := TX9) (N := 13) hx hb hts inX9 tyX9 tyX9_ok nmX9 hown hK hP hD hS 0 rfl rfl 7 (by decide) k_47 (fun _ h9 => h9) rfl (by decide +kernel) rfl rfl (Nat.le_of_ble_eq_true rfl) dX9_repays_63 (fun H locs hP hD hS => ?_)
          have hP : va_P D vwCl (ME cy b (M 0 0) (M 0 1) (M 0 2) (fm_l (fm_pays (M 1) z y) 3 z) (M 0 4) (M 0 5) (M 0 6) (fm_pays (M 1) z y) (M 2) (M 3) (M 4) (M 5) h) H := hP
          have hD : va_D A (ME cy b (M 0 0) (M 0 1) (M 0 2) (fm_l (fm_pays (M 1) z y) 3 z) (M 0 4) (M 0 5) (M 0 6) (fm_pays (M 1) z y) (M 2) (M 3) (M 4) (M 5) h) := hD
          refine lv_iconst (v := 0) hx hb dX9_repays_66 (by decide) ?_
          have eF : fm_rep M x y = (0, fz_up (fz_up M 0 (upd (M 0) 3 (fm_l (fm_pays (M 1) z y) 3 z))) 1 (fm_pays (M 1) z y)) := by simp only [fm_rep, c_1, c_2, c_3, c_4, ez', ej', ↓reduceIte, Bool.false_eq_true, cond_true, cond_false]
          exact W.iret (v := 0) hx hb hr (fun t9 ht9 hW9 => ⟨⟨_, (), rfl, (by rw [eF] <;> rfl), fz_to ht9 (by rw [eF]; exact hP)⟩, hS.F ht9⟩) hS.2.2 dX9_repays_67
        · skip
          refine lv_iconst (v := 3) hx hb dX9_repays_48 (by decide) ?_
          have eF : fm_rep M x y = (3, M) := by simp only [fm_rep, c_1, c_2, c_3, c_4, ez', ej', ↓reduceIte, Bool.false_eq_true, cond_true, cond_false]
          exact W.iret (v := 3) hx hb hr (fun t9 ht9 hW9 => ⟨⟨_, (), rfl, (by rw [eF] <;> rfl), fz_to ht9 (by rw [eF]; exact hP)⟩, hS.F ht9⟩) hS.2.2 dX9_repays_49
    · skip
      refine lv_iconst (v := 2) hx hb dX9_repays_21 (by decide) ?_
      have eF : fm_rep M x y = (2, M) := by simp only [fm_rep, c_1, c_2, ez', ↓reduceIte, Bool.false_eq_true, cond_true, cond_false]
      exact W.iret (v := 2) hx hb hr (fun t9 ht9 hW9 => ⟨⟨_, (), rfl, (by rw [eF] <;> rfl), fz_to ht9 (by rw [eF]; exact hP)⟩, hS.F ht9⟩) hS.2.2 dX9_repays_22
  · skip
    refine lv_iconst (v := 1) hx hb dX9_repays_8 (by decide) ?_
    have eF : fm_rep M x y = (1, M) := by simp only [fm_rep, c_1, ↓reduceIte, Bool.false_eq_true, cond_true, cond_false]
    exact W.iret (v := 1) hx hb hr (fun t9 ht9 hW9 => ⟨⟨_, (), rfl, (by rw [eF] <;> rfl), fz_to ht9 (by rw [eF]; exact hP)⟩, hS.F ht9⟩) hS.2.2 dX9_repays_9
