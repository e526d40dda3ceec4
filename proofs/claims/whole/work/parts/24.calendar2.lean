/-! Calendar: what changes it -/
def fz_c1 (g b du : Nat → Int32) (d : Nat) (q : (Nat → Int32) × (Nat → Int32)) : Nat → (Nat → Int32) × (Nat → Int32)
  | 0 => q
  | k + 1 => if du k = nI d then fz_pb g b k (fz_min ((fz_c1 g b du d q k).2 k) ((fz_c1 g b du d q k).1 (b k).toNatClampNeg)) (fz_c1 g b du d q k) else fz_c1 g b du d q k
def fz_c2 (g b du : Nat → Int32) (nl : Nat) (q : (Nat → Int32) × (Nat → Int32)) : Nat → (Nat → Int32) × (Nat → Int32)
  | 0 => q
  | d + 1 => fz_c1 g b du d (fz_c2 g b du nl q d) nl
def fz_close (V : Nat → Nat → Int32) (nt nc nl wk : Nat) : Int32 × (Nat → Nat → Int32) := if 39 ≤ wk then (-3, V) else ((fz_ea V nc wk nt).1, fz_up (fz_up (fz_up (fz_up V 0 (upd (V 0) 0 (nI (wk + 1)))) 4 (fz_c2 (V 18) (V 19) (V 22) nl ((fz_ea V nc wk nt).2.1, V 21) (wk + 1)).1) 6 (fz_ea V nc wk nt).2.2) 21 (fz_c2 (V 18) (V 19) (V 22) nl ((fz_ea V nc wk nt).2.1, V 21) (wk + 1)).2)
/-- weeks i to k - 1 are marked with x -/
def fz_mark (f : Nat → Int32) (i : Nat) (x : Int32) (k : Nat) : Nat → Int32 := fun q => if i ≤ q ∧ q < k then x else f q
theorem fz_mark_0 (f : Nat → Int32) (i : Nat) (x : Int32) : fz_mark f i x i = f := by
  funext q
  rw [fz_mark, if_neg (by omega)]
theorem fz_mark_s {f : Nat → Int32} {i k : Nat} {x : Int32} (h : i ≤ k) : upd (fz_mark f i x k) k x = fz_mark f i x (k + 1) := by
  funext q
  by_cases hq : q = k
  · subst hq
    rw [pk_us, fz_mark, if_pos (by omega)]
  · rw [pk_un hq, fz_mark, fz_mark]
    by_cases h1 : i ≤ q ∧ q < k
    · rw [if_pos h1, if_pos (by omega)]
    · rw [if_neg h1, if_neg (by omega)]
theorem fz_rng {f g : Int32} (h1 : ¬ f < 0) (h2 : ¬ g < f) (h3 : g ≤ 39) : ∃ i j : Nat, i ≤ j ∧ j ≤ 39 ∧ f = nI i ∧ g = nI j := by
  obtain ⟨i, hi, rfl⟩ := nI_of h1
  have h4 : ¬ g < 0 := fun z => h2 (Int32.lt_of_lt_of_le z (nI_pos' hi))
  obtain ⟨j, hj, rfl⟩ := nI_of h4
  exact ⟨i, j, Nat.le_of_not_lt fun z => h2 (nI_lt z hi), (nI_leI hj (by decide)).mp h3, rfl, rfl⟩
def fz_markw (V : Nat → Nat → Int32) (wk : Nat) (f g : Int32) (fr : Bool) : Int32 × (Nat → Nat → Int32) := if f < 0 then (-2, V) else if g < f then (-2, V) else if g ≤ 39 then (if V 0 0 ≤ f then (fz_frz (fz_mark (V 2) f.toNatClampNeg (fz_b fr) (g.toNatClampNeg + 1)) 0, fz_up V 2 (fz_mark (V 2) f.toNatClampNeg (fz_b fr) (g.toNatClampNeg + 1))) else (-3, V)) else (-2, V)
def fz_enter (V : Nat → Nat → Int32) (nc nq : Nat) (t x : Int32) : Int32 × (Nat → Nat → Int32) := if fz_ix t (V 3 0) = true then (if fz_risk x = true then (if 30 ≤ nc then (-3, V) else (nI nc, fz_app V t x (V 0 0) nc nq)) else (-2, V)) else (-1, V)
def fz_exempt2 (V : Nat → Nat → Int32) (z j : Nat) : Int32 × (Nat → Nat → Int32) := (V 10 z * V 1 0, fz_up (fz_up (fz_up V 4 (upd (V 4) j (V 4 j - V 10 z * V 1 0))) 11 (upd (V 11) z 1)) 12 (upd (V 12) z (V 10 z * V 1 0)))
def fz_exempt (V : Nat → Nat → Int32) (nc nl : Nat) (x : Int32) : Int32 × (Nat → Nat → Int32) := if fz_ix x (V 8 0) = true then (if fz_reason V nl x.toNatClampNeg = 0 then fz_exempt2 V x.toNatClampNeg (V 9 x.toNatClampNeg).toNatClampNeg else (-3, V)) else (-1, V)
/-- the state behind the closing of change z with state en; made in week w, ex: exempt then -/
def fz_mk (V : Nat → Nat → Int32) (z nq : Nat) (en w ex : Int32) : Nat → Nat → Int32 := fz_up (fz_up (fz_up (fz_up (fz_up (fz_up V 8 (upd (V 8) 1 (nI (fz_deq (nI z) (V 16) nq).1))) 11 (upd (V 11) z en)) 12 (upd (V 12) z 0)) 14 (upd (V 14) z w)) 15 (upd (V 15) z ex)) 16 (fz_deq (nI z) (V 16) nq).2
def fz_fine (V : Nat → Nat → Int32) (z j : Nat) : Int32 := fz_min (V 1 2 * V 10 z) (V 4 j)
def fz_make2 (V : Nat → Nat → Int32) (nq z j : Nat) (fr : Bool) (ex : Int32) : Int32 × (Nat → Nat → Int32) :=
  bif fr then (V 12 z + fz_fine V z j, fz_up (fz_up (fz_mk V z nq 3 (V 0 0) ex) 4 (upd (V 4) j (V 4 j - fz_fine V z j))) 7 (upd (V 7) j (V 7 j + (V 12 z + fz_fine V z j))))
  else (0, fz_up (fz_mk V z nq 2 (V 0 0) ex) 4 (upd (V 4) j (V 4 j + V 12 z)))
def fz_make (V : Nat → Nat → Int32) (nc nq wk : Nat) (x : Int32) (fr : Bool) : Int32 × (Nat → Nat → Int32) := if fz_ix x (V 8 0) = true then (if fz_open (V 11 x.toNatClampNeg) = true then (if V 11 x.toNatClampNeg = 1 then fz_make2 V nq x.toNatClampNeg (V 9 x.toNatClampNeg).toNatClampNeg fr 1 else if V 2 wk = 0 then fz_make2 V nq x.toNatClampNeg (V 9 x.toNatClampNeg).toNatClampNeg fr 0 else (-3, V)) else (-3, V)) else (-1, V)
def fz_drop2 (V : Nat → Nat → Int32) (nq z j : Nat) : Int32 × (Nat → Nat → Int32) := (V 12 z, fz_up (fz_cls V z 4 nq) 4 (upd (V 4) j (V 4 j + V 12 z)))
def fz_drop (V : Nat → Nat → Int32) (nc nq : Nat) (x : Int32) : Int32 × (Nat → Nat → Int32) := if fz_ix x (V 8 0) = true then (if fz_open (V 11 x.toNatClampNeg) = true then fz_drop2 V nq x.toNatClampNeg (V 9 x.toNatClampNeg).toNatClampNeg else (-3, V)) else (-1, V)
def fz_repay (V : Nat → Nat → Int32) (nl : Nat) (x y : Int32) : Int32 × (Nat → Nat → Int32) := if fz_ix x (V 17 0) = true then (if y < 1 then (-2, V) else if y ≤ 500 then (if V 21 x.toNatClampNeg < y then (-3, V) else if y ≤ V 4 (V 19 x.toNatClampNeg).toNatClampNeg then ((fz_pb (V 18) (V 19) x.toNatClampNeg y (V 4, V 21)).2 x.toNatClampNeg, fz_up (fz_up V 4 (fz_pb (V 18) (V 19) x.toNatClampNeg y (V 4, V 21)).1) 21 (fz_pb (V 18) (V 19) x.toNatClampNeg y (V 4, V 21)).2) else (-3, V)) else (-2, V)) else (-1, V)
def fz_lent (V : Nat → Nat → Int32) (nl : Nat) (f g : Int32) (i j : Nat) (y w : Int32) : Nat → Nat → Int32 := fz_up (fz_up (fz_up (fz_up (fz_up (fz_up (fz_up (fz_up V 17 (upd (V 17) 0 (nI (nl + 1)))) 18 (upd (V 18) nl f)) 19 (upd (V 19) nl g)) 20 (upd (V 20) nl y)) 21 (upd (V 21) nl y)) 22 (upd (V 22) nl w)) 23 (upd (V 23) nl (V 0 0))) 4 (upd (upd (V 4) i (V 4 i - y)) j (upd (V 4) i (V 4 i - y) j + y))
def fz_lend (V : Nat → Nat → Int32) (nt nl : Nat) (f g y w : Int32) : Int32 × (Nat → Nat → Int32) := if fz_ix f (V 3 0) = true then (if fz_ix g (V 3 0) = true then (if f = g then (-2, V) else if y < 1 then (-2, V) else if 500 < y then (-2, V) else if w < 0 then (-2, V) else if w ≤ 39 then (if w < V 0 0 then (-3, V) else if 12 ≤ nl then (-3, V) else if V 4 f.toNatClampNeg < y then (-3, V) else if fz_owes (V 19) (V 21) (V 22) (V 0 0) nl g = true then (-3, V) else (nI nl, fz_lent V nl f g f.toNatClampNeg g.toNatClampNeg y w)) else (-2, V)) else (-1, V)) else (-1, V)
set_option maxHeartbeats 4000000 in
set_option maxRecDepth 100000 in
/-- Calendar.lendCredits -/
theorem c_X1_lendCredits (l : Launch) (D : va_G) (cy : Nat → ClassId) (a : Nat → Nat) (V : Nat → Nat → Int32) (nt nc nq nl wk : Nat) (wf : fz_wf V nt nc nq nl wk) (f g y w : Int32) : fz_MI l yX1_lendCredits wsX1_lendCredits 2 44 D cy [.ref (a 0), .int f, .int g, .int y, .int w] (CW cy a V) fz_T ((fz_lend V nt nl f g y w).1) (CE cy a (((fz_lend V nt nl f g y w).2) 0 0) (((fz_lend V nt nl f g y w).2) 3 0) (((fz_lend V nt nl f g y w).2) 8 0) (((fz_lend V nt nl f g y w).2) 8 1) (((fz_lend V nt nl f g y w).2) 17 0) (((fz_lend V nt nl f g y w).2) 1) (((fz_lend V nt nl f g y w).2) 2) (((fz_lend V nt nl f g y w).2) 4) (((fz_lend V nt nl f g y w).2) 5) (((fz_lend V nt nl f g y w).2) 6) (((fz_lend V nt nl f g y w).2) 7) (((fz_lend V nt nl f g y w).2) 9) (((fz_lend V nt nl f g y w).2) 10) (((fz_lend V nt nl f g y w).2) 11) (((fz_lend V nt nl f g y w).2) 12) (((fz_lend V nt nl f g y w).2) 13) (((fz_lend V nt nl f g y w).2) 14) (((fz_lend V nt nl f g y w).2) 15) (((fz_lend V nt nl f g y w).2) 16) (((fz_lend V nt nl f g y w).2) 18) (((fz_lend V nt nl f g y w).2) 19) (((fz_lend V nt nl f g y w).2) 20) (((fz_lend V nt nl f g y w).2) 21) (((fz_lend V nt nl f g y w).2) 22) (((fz_lend V nt nl f g y w).2) 23)) := by
  refine Met.ofW (cc := cX1_lendCredits) (maxL := 5) (ret := (some .int)) (by decide) rfl ?_
  intro p e s m args below meth c s₁ B hml hv
  obtain ⟨rfl, hP, hK, hD0, hE⟩ := hv
  have hx := B.exec
  have hb := B.bytes
  have hr := B.returns
  have hts := atoms_spec (ws := wsX1_lendCredits) B.pre
  have hown : s.vm.findClass RX1 = some m.cls := findClass_of_methodNamed B.named
  have hlocks := B.notSynchronized
  have hD := fz_self hD0
  generalize hAe : fz_in (CW cy a V) = A at hD ⊢
  have hS : va_S A s.heap s.heap [] := va_S.rf
  have hl := lv_entry ([.ref (a 0), .int f, .int g, .int y, .int w]) (n := 5) (Nat.le_of_ble_eq_true rfl)
  rw [lg_entry_eq]
  generalize (lg_sl ([.ref (a 0), .int f, .int g, .int y, .int w]) ++ List.replicate (5 - (lg_sl ([.ref (a 0), .int f, .int g, .int y, .int w])).length) Slot.unset).toArray = ls at hl ⊢
  have hl : lv_has ls 5 [(0, .ref (a 0)), (1, .int f), (2, .int g), (3, .int y), (4, .int w)] := hl
  have k_30 := hts (.fieldLink RX1 30 "FreezeCredits$Calendar" "teams" "LFreezeCredits$Teams;") (by decide +kernel)
  have inX1 : ∀ w ∈ u_ws RX1 TX1 6, w ∈ wsX1_lendCredits := by decide +kernel
  have k_48 := hts (.fieldLink RX1 48 "FreezeCredits$Calendar" "week" "I") (by decide +kernel)
  have k_44 := hts (.fieldLink RX1 44 "FreezeCredits$Calendar" "loans" "LFreezeCredits$Loans;") (by decide +kernel)
  have k_99 := hts (.fieldLink RX1 99 "FreezeCredits$Loans" "count" "I") (by decide +kernel)
  have inX5 : ∀ w ∈ u_ws RX5 TX5 7, w ∈ wsX1_lendCredits := by decide +kernel
  have k_119 := hts (.fieldLink RX1 119 "FreezeCredits$Teams" "free" "[I") (by decide +kernel)
  have inX6 : ∀ w ∈ u_ws RX6 TX6 5, w ∈ wsX1_lendCredits := by decide +kernel
  obtain ⟨hnt, hnt6, hnc, hnc30, hnq, hqc, hnl, hnl12, hwk, hwk39, hT, hQ, hG, hB⟩ := id wf
  refine lv_aload_n hx hb dX1_lendCredits_0 rfl (lv_at hl 0 rfl) ?_
  refine va_get (D := D) (ci := 0) (v := .ref (a 3)) (C := RX1) (T := TX1) (N := 6) hx hb hts inX1 hown hK hP 0 rfl rfl 3 (by decide) k_30 (fun _ h9 => h9) rfl dX1_lendCredits_1 ?_
  refine lv_iload_n hx hb dX1_lendCredits_4 rfl (lv_at hl 1 rfl) ?_
  refine fz_retR (va_runV (As := [.int f]) (rest := []) ⟨hx, hb, hml, hown, hts⟩ (c_X6_has l D cy a V f) (cwV 1 hts gX1_lendCredits_X6_has rfl rfl rfl (by decide +kernel) ⟨Nat.le_of_ble_eq_true rfl, Nat.le_of_ble_eq_true rfl⟩) (fz_preV (ci := 5) (q0 := 0) hK (hP.sub (ws' := TW cy a V) [3, 4, 5, 6, 7] rfl) rfl rfl rfl fz_T_bl (fun _ _ _ => trivial)) rfl rfl hl.1 rfl (lv_room (Nat.le_of_ble_eq_true rfl)) dX1_lendCredits_5 ⟨Nat.zero_le _, Nat.zero_le _⟩) ?_
  refine fz_ifeqB (tgt := 22) hx hb dX1_lendCredits_8 (by decide) (fun c_1 => ?_) (fun c_1 => ?_)
  · skip
    refine lv_iconst (v := (-1)) hx hb dX1_lendCredits_22 (by decide) ?_
    have eF : fz_lend V nt nl f g y w = ((-1), V) := by simp only [fz_lend, c_1, ↓reduceIte, Bool.false_eq_true]
    exact W.iret (v := (-1)) hx hb hr (fun t9 ht9 hW9 => ⟨⟨_, (), rfl, (by rw [eF] <;> rfl), fz_to ht9 (by rw [eF]; exact hP)⟩, hS.F ht9⟩) hS.2.2 dX1_lendCredits_23
  · skip
    obtain ⟨i, hi, ei⟩ := fz_ix_t (by omega) (show fz_ix f (nI nt) = true by rw [← hnt]; exact c_1)
    have ei' := fz_tnat ei (by omega)
    refine lv_aload_n hx hb dX1_lendCredits_11 rfl (lv_at hl 0 rfl) ?_
    refine va_get (D := D) (ci := 0) (v := .ref (a 3)) (C := RX1) (T := TX1) (N := 6) hx hb hts inX1 hown hK hP 0 rfl rfl 3 (by decide) k_30 (fun _ h9 => h9) rfl dX1_lendCredits_12 ?_
    refine lv_iload_n hx hb dX1_lendCredits_15 rfl (lv_at hl 2 rfl) ?_
    refine fz_retR (va_runV (As := [.int g]) (rest := []) ⟨hx, hb, hml, hown, hts⟩ (c_X6_has l D cy a V g) (cwV 1 hts gX1_lendCredits_X6_has rfl rfl rfl (by decide +kernel) ⟨Nat.le_of_ble_eq_true rfl, Nat.le_of_ble_eq_true rfl⟩) (fz_preV (ci := 5) (q0 := 0) hK (hP.sub (ws' := TW cy a V) [3, 4, 5, 6, 7] rfl) rfl rfl rfl fz_T_bl (fun _ _ _ => trivial)) rfl rfl hl.1 rfl (lv_room (Nat.le_of_ble_eq_true rfl)) dX1_lendCredits_16 ⟨Nat.zero_le _, Nat.zero_le _⟩) ?_
    refine fz_ifneB (tgt := 24) hx hb dX1_lendCredits_19 (by decide) (fun c_2 => ?_) (fun c_2 => ?_)
    · skip
      obtain ⟨j, hj, ej⟩ := fz_ix_t (by omega) (show fz_ix g (nI nt) = true by rw [← hnt]; exact c_2)
      have ej' := fz_tnat ej (by omega)
      refine lv_iload_n hx hb dX1_lendCredits_24 rfl (lv_at hl 1 rfl) ?_
      refine lv_iload_n hx hb dX1_lendCredits_25 rfl (lv_at hl 2 rfl) ?_
      refine lv_icmp_eq (tgt := 53) hx hb dX1_lendCredits_26 (by decide) (fun c_3 => ?_) (fun c_3 => ?_)
      · skip
        refine lv_bipush (v := (-2)) hx hb dX1_lendCredits_53 (by decide) ?_
        have eF : fz_lend V nt nl f g y w = ((-2), V) := by simp only [fz_lend, c_1, c_2, c_3, ei', ej', ↓reduceIte, Bool.false_eq_true]
        exact W.iret (v := (-2)) hx hb hr (fun t9 ht9 hW9 => ⟨⟨_, (), rfl, (by rw [eF] <;> rfl), fz_to ht9 (by rw [eF]; exact hP)⟩, hS.F ht9⟩) hS.2.2 dX1_lendCredits_55
      · skip
        refine lv_iload_n hx hb dX1_lendCredits_29 rfl (lv_at hl 3 rfl) ?_
        refine lv_iconst (v := 1) hx hb dX1_lendCredits_30 (by decide) ?_
        refine lv_icmp_lt (tgt := 53) hx hb dX1_lendCredits_31 (by decide) (fun c_4 => ?_) (fun c_4 => ?_)
        · skip
          refine lv_bipush (v := (-2)) hx hb dX1_lendCredits_53 (by decide) ?_
          have eF : fz_lend V nt nl f g y w = ((-2), V) := by simp only [fz_lend, c_1, c_2, c_3, c_4, ei', ej', ↓reduceIte, Bool.false_eq_true]
          exact W.iret (v := (-2)) hx hb hr (fun t9 ht9 hW9 => ⟨⟨_, (), rfl, (by rw [eF] <;> rfl), fz_to ht9 (by rw [eF]; exact hP)⟩, hS.F ht9⟩) hS.2.2 dX1_lendCredits_55
        · skip
          refine lv_iload_n hx hb dX1_lendCredits_34 rfl (lv_at hl 3 rfl) ?_
          refine lv_sipush (v := 500) hx hb dX1_lendCredits_35 (by decide) ?_
          refine lv_icmp_gt (tgt := 53) hx hb dX1_lendCredits_38 (by decide) (fun c_5 => ?_) (fun c_5 => ?_)
          · skip
            refine lv_bipush (v := (-2)) hx hb dX1_lendCredits_53 (by decide) ?_
            have eF : fz_lend V nt nl f g y w = ((-2), V) := by simp only [fz_lend, c_1, c_2, c_3, c_4, c_5, ei', ej', ↓reduceIte, Bool.false_eq_true]
            exact W.iret (v := (-2)) hx hb hr (fun t9 ht9 hW9 => ⟨⟨_, (), rfl, (by rw [eF] <;> rfl), fz_to ht9 (by rw [eF]; exact hP)⟩, hS.F ht9⟩) hS.2.2 dX1_lendCredits_55
          · skip
            refine lv_iload hx hb dX1_lendCredits_41 (lv_at hl 4 rfl) ?_
            refine lv_if_lt (tgt := 53) hx hb dX1_lendCredits_43 (by decide) (fun c_6 => ?_) (fun c_6 => ?_)
            · skip
              refine lv_bipush (v := (-2)) hx hb dX1_lendCredits_53 (by decide) ?_
              have eF : fz_lend V nt nl f g y w = ((-2), V) := by simp only [fz_lend, c_1, c_2, c_3, c_4, c_5, c_6, ei', ej', ↓reduceIte, Bool.false_eq_true]
              exact W.iret (v := (-2)) hx hb hr (fun t9 ht9 hW9 => ⟨⟨_, (), rfl, (by rw [eF] <;> rfl), fz_to ht9 (by rw [eF]; exact hP)⟩, hS.F ht9⟩) hS.2.2 dX1_lendCredits_55
            · skip
              refine lv_iload hx hb dX1_lendCredits_46 (lv_at hl 4 rfl) ?_
              refine lv_bipush (v := 39) hx hb dX1_lendCredits_48 (by decide) ?_
              refine lv_icmp_le (tgt := 56) hx hb dX1_lendCredits_50 (by decide) (fun c_7 => ?_) (fun c_7 => ?_)
              · skip
                refine lv_iload hx hb dX1_lendCredits_56 (lv_at hl 4 rfl) ?_
                refine lv_aload_n hx hb dX1_lendCredits_58 rfl (lv_at hl 0 rfl) ?_
                refine va_get (D := D) (ci := 0) (v := .int (V 0 0)) (C := RX1) (T := TX1) (N := 6) hx hb hts inX1 hown hK hP 0 rfl rfl 0 (by decide) k_48 (fun _ h9 => h9) rfl dX1_lendCredits_59 ?_
                refine lv_icmp_lt (tgt := 98) hx hb dX1_lendCredits_62 (by decide) (fun c_8 => ?_) (fun c_8 => ?_)
                · skip
                  refine lv_bipush (v := (-3)) hx hb dX1_lendCredits_98 (by decide) ?_
                  have eF : fz_lend V nt nl f g y w = ((-3), V) := by simp only [fz_lend, c_1, c_2, c_3, c_4, c_5, c_6, c_7, c_8, ei', ej', ↓reduceIte, Bool.false_eq_true]
                  exact W.iret (v := (-3)) hx hb hr (fun t9 ht9 hW9 => ⟨⟨_, (), rfl, (by rw [eF] <;> rfl), fz_to ht9 (by rw [eF]; exact hP)⟩, hS.F ht9⟩) hS.2.2 dX1_lendCredits_100
                · skip
                  refine lv_aload_n hx hb dX1_lendCredits_65 rfl (lv_at hl 0 rfl) ?_
                  refine va_get (D := D) (ci := 0) (v := .ref (a 17)) (C := RX1) (T := TX1) (N := 6) hx hb hts inX1 hown hK hP 0 rfl rfl 5 (by decide) k_44 (fun _ h9 => h9) rfl dX1_lendCredits_66 ?_
                  refine va_get (D := D) (ci := 4) (v := .int (V 17 0)) (C := RX5) (T := TX5) (N := 7) hx hb hts inX5 hown hK hP 17 rfl rfl 0 (by decide) k_99 (fun _ h9 => h9) rfl dX1_lendCredits_69 ?_
                  refine lv_bipush (v := 12) hx hb dX1_lendCredits_72 (by decide) ?_
                  refine fz_geN (tgt := 98) hx hb nl 12 hnl rfl dX1_lendCredits_74 (by decide) (by omega) (by omega) (fun c_9 => ?_) (fun c_9 => ?_)
                  · skip
                    refine lv_bipush (v := (-3)) hx hb dX1_lendCredits_98 (by decide) ?_
                    have eF : fz_lend V nt nl f g y w = ((-3), V) := by simp only [fz_lend, c_1, c_2, c_3, c_4, c_5, c_6, c_7, c_8, c_9, ei', ej', ↓reduceIte, Bool.false_eq_true]
                    exact W.iret (v := (-3)) hx hb hr (fun t9 ht9 hW9 => ⟨⟨_, (), rfl, (by rw [eF] <;> rfl), fz_to ht9 (by rw [eF]; exact hP)⟩, hS.F ht9⟩) hS.2.2 dX1_lendCredits_100
                  · skip
                    refine lv_aload_n hx hb dX1_lendCredits_77 rfl (lv_at hl 0 rfl) ?_
                    refine va_get (D := D) (ci := 0) (v := .ref (a 3)) (C := RX1) (T := TX1) (N := 6) hx hb hts inX1 hown hK hP 0 rfl rfl 3 (by decide) k_30 (fun _ h9 => h9) rfl dX1_lendCredits_78 ?_
                    refine va_get (D := D) (ci := 5) (v := .ref (a 4)) (C := RX6) (T := TX6) (N := 5) hx hb hts inX6 hown hK hP 3 rfl rfl 1 (by decide) k_119 (fun _ h9 => h9) rfl dX1_lendCredits_81 ?_
                    refine lv_iload_n hx hb dX1_lendCredits_84 rfl (lv_at hl 1 rfl) ?_
                    refine fz_iald (f := V 4) hx hb hK hP 4 0 rfl rfl i ei (by omega) (by decide) dX1_lendCredits_85 ?_
                    refine lv_iload_n hx hb dX1_lendCredits_86 rfl (lv_at hl 3 rfl) ?_
                    refine lv_icmp_lt (tgt := 98) hx hb dX1_lendCredits_87 (by decide) (fun c_10 => ?_) (fun c_10 => ?_)
                    · skip
                      refine lv_bipush (v := (-3)) hx hb dX1_lendCredits_98 (by decide) ?_
                      have eF : fz_lend V nt nl f g y w = ((-3), V) := by simp only [fz_lend, c_1, c_2, c_3, c_4, c_5, c_6, c_7, c_8, Nat.not_le.mpr c_9, c_10, ei', ej', ↓reduceIte, Bool.false_eq_true]
                      exact W.iret (v := (-3)) hx hb hr (fun t9 ht9 hW9 => ⟨⟨_, (), rfl, (by rw [eF] <;> rfl), fz_to ht9 (by rw [eF]; exact hP)⟩, hS.F ht9⟩) hS.2.2 dX1_lendCredits_100
                    · skip
                      refine lv_aload_n hx hb dX1_lendCredits_90 rfl (lv_at hl 0 rfl) ?_
                      refine lv_iload_n hx hb dX1_lendCredits_91 rfl (lv_at hl 2 rfl) ?_
                      refine fz_retR (va_runV (As := [.int g]) (rest := []) ⟨hx, hb, hml, hown, hts⟩ (c_X1_owes l D cy a V nt nc nq nl wk wf g) (cwV 1 hts gX1_lendCredits_X1_owes rfl rfl rfl (by decide +kernel) ⟨Nat.le_of_ble_eq_true rfl, Nat.le_of_ble_eq_true rfl⟩) (fz_preV (ci := 0) (q0 := 0) hK hP rfl rfl rfl fz_T_bl (fun _ _ _ => trivial)) rfl rfl hl.1 rfl (lv_room (Nat.le_of_ble_eq_true rfl)) dX1_lendCredits_92 ⟨Nat.zero_le _, Nat.zero_le _⟩) ?_
                      refine fz_ifeqB (tgt := 101) hx hb dX1_lendCredits_95 (by decide) (fun c_11 => ?_) (fun c_11 => ?_)
                      · skip
                        refine lv_aload_n hx hb dX1_lendCredits_101 rfl (lv_at hl 0 rfl) ?_
                        refine va_get (D := D) (ci := 0) (v := .ref (a 3)) (C := RX1) (T := TX1) (N := 6) hx hb hts inX1 hown hK hP 0 rfl rfl 3 (by decide) k_30 (fun _ h9 => h9) rfl dX1_lendCredits_102 ?_
                        refine va_get (D := D) (ci := 5) (v := .ref (a 4)) (C := RX6) (T := TX6) (N := 5) hx hb hts inX6 hown hK hP 3 rfl rfl 1 (by decide) k_119 (fun _ h9 => h9) rfl dX1_lendCredits_105 ?_
                        refine lv_iload_n hx hb dX1_lendCredits_108 rfl (lv_at hl 1 rfl) ?_
                        refine lv_dup2_11 hx hb dX1_lendCredits_109 rfl rfl ?_
                        refine fz_iald (f := V 4) hx hb hK hP 4 0 rfl rfl i ei (by omega) (by decide) dX1_lendCredits_110 ?_
                        refine lv_iload_n hx hb dX1_lendCredits_111 rfl (lv_at hl 3 rfl) ?_
                        refine lv_isub hx hb dX1_lendCredits_112 ?_
                        refine fz_iast (f := V 4) hx hb hK hP hD hS 4 0 rfl rfl i ei (by omega) (by decide) dX1_lendCredits_113 (fun H locs hP hD hS => ?_)
                        have hP : va_P D vwCl (CE cy a (V 0 0) (V 3 0) (V 8 0) (V 8 1) (V 17 0) (V 1) (V 2) (upd (V 4) i ((V 4 i) - y)) (V 5) (V 6) (V 7) (V 9) (V 10) (V 11) (V 12) (V 13) (V 14) (V 15) (V 16) (V 18) (V 19) (V 20) (V 21) (V 22) (V 23)) H := hP
                        have hD : va_D A (CE cy a (V 0 0) (V 3 0) (V 8 0) (V 8 1) (V 17 0) (V 1) (V 2) (upd (V 4) i ((V 4 i) - y)) (V 5) (V 6) (V 7) (V 9) (V 10) (V 11) (V 12) (V 13) (V 14) (V 15) (V 16) (V 18) (V 19) (V 20) (V 21) (V 22) (V 23)) := hD
                        refine lv_aload_n hx hb dX1_lendCredits_114 rfl (lv_at hl 0 rfl) ?_
                        refine va_get (D := D) (ci := 0) (v := .ref (a 3)) (C := RX1) (T := TX1) (N := 6) hx hb hts inX1 hown hK hP 0 rfl rfl 3 (by decide) k_30 (fun _ h9 => h9) rfl dX1_lendCredits_115 ?_
                        refine va_get (D := D) (ci := 5) (v := .ref (a 4)) (C := RX6) (T := TX6) (N := 5) hx hb hts inX6 hown hK hP 3 rfl rfl 1 (by decide) k_119 (fun _ h9 => h9) rfl dX1_lendCredits_118 ?_
                        refine lv_iload_n hx hb dX1_lendCredits_121 rfl (lv_at hl 2 rfl) ?_
                        refine lv_dup2_11 hx hb dX1_lendCredits_122 rfl rfl ?_
                        refine fz_iald (f := upd (V 4) i ((V 4 i) - y)) hx hb hK hP 4 0 rfl rfl j ej (by omega) (by decide) dX1_lendCredits_123 ?_
                        refine lv_iload_n hx hb dX1_lendCredits_124 rfl (lv_at hl 3 rfl) ?_
                        refine lv_iadd hx hb dX1_lendCredits_125 ?_
                        refine fz_iast (f := upd (V 4) i ((V 4 i) - y)) hx hb hK hP hD hS 4 0 rfl rfl j ej (by omega) (by decide) dX1_lendCredits_126 (fun H locs hP hD hS => ?_)
                        have hP : va_P D vwCl (CE cy a (V 0 0) (V 3 0) (V 8 0) (V 8 1) (V 17 0) (V 1) (V 2) (upd (upd (V 4) i ((V 4 i) - y)) j (((upd (V 4) i ((V 4 i) - y)) j) + y)) (V 5) (V 6) (V 7) (V 9) (V 10) (V 11) (V 12) (V 13) (V 14) (V 15) (V 16) (V 18) (V 19) (V 20) (V 21) (V 22) (V 23)) H := hP
                        have hD : va_D A (CE cy a (V 0 0) (V 3 0) (V 8 0) (V 8 1) (V 17 0) (V 1) (V 2) (upd (upd (V 4) i ((V 4 i) - y)) j (((upd (V 4) i ((V 4 i) - y)) j) + y)) (V 5) (V 6) (V 7) (V 9) (V 10) (V 11) (V 12) (V 13) (V 14) (V 15) (V 16) (V 18) (V 19) (V 20) (V 21) (V 22) (V 23)) := hD
                        refine lv_aload_n hx hb dX1_lendCredits_127 rfl (lv_at hl 0 rfl) ?_
                        refine va_get (D := D) (ci := 0) (v := .ref (a 17)) (C := RX1) (T := TX1) (N := 6) hx hb hts inX1 hown hK hP 0 rfl rfl 5 (by decide) k_44 (fun _ h9 => h9) rfl dX1_lendCredits_128 ?_
                        refine lv_iload_n hx hb dX1_lendCredits_131 rfl (lv_at hl 1 rfl) ?_
                        refine lv_iload_n hx hb dX1_lendCredits_132 rfl (lv_at hl 2 rfl) ?_
                        refine lv_iload_n hx hb dX1_lendCredits_133 rfl (lv_at hl 3 rfl) ?_
                        refine lv_iload hx hb dX1_lendCredits_134 (lv_at hl 4 rfl) ?_
                        refine lv_aload_n hx hb dX1_lendCredits_136 rfl (lv_at hl 0 rfl) ?_
                        refine va_get (D := D) (ci := 0) (v := .int (V 0 0)) (C := RX1) (T := TX1) (N := 6) hx hb hts inX1 hown hK hP 0 rfl rfl 0 (by decide) k_48 (fun _ h9 => h9) rfl dX1_lendCredits_137 ?_
                        refine fz_retM (ws' := CE cy a (V 0 0) (V 3 0) (V 8 0) (V 8 1) (nI (nl + 1)) (V 1) (V 2) (upd (upd (V 4) i ((V 4 i) - y)) j (((upd (V 4) i ((V 4 i) - y)) j) + y)) (V 5) (V 6) (V 7) (V 9) (V 10) (V 11) (V 12) (V 13) (V 14) (V 15) (V 16) (upd ((V 18)) nl f) (upd ((V 19)) nl g) (upd ((V 20)) nl y) (upd ((V 21)) nl y) (upd ((V 22)) nl w) (upd ((V 23)) nl (V 0 0))) (va_runV (As := [.int f, .int g, .int y, .int w, .int (V 0 0)]) (rest := []) ⟨hx, hb, hml, hown, hts⟩ (c_X5_append l D cy a (fz_up V 4 (upd (upd (V 4) i ((V 4 i) - y)) j (((upd (V 4) i ((V 4 i) - y)) j) + y))) f g y w (V 0 0) nl hnl (by omega)) (cwV 5 hts gX1_lendCredits_X5_append rfl rfl rfl (by decide +kernel) ⟨Nat.le_of_ble_eq_true rfl, Nat.le_of_ble_eq_true rfl⟩) (fz_preMV (ci := 4) (q0 := 0) hK (hP.sub (ws' := LE cy a (V 17 0) (V 18) (V 19) (V 20) (V 21) (V 22) (V 23)) [17, 18, 19, 20, 21, 22, 23] rfl) (hD.sub (ws' := LE cy a (V 17 0) (V 18) (V 19) (V 20) (V 21) (V 22) (V 23)) [17, 18, 19, 20, 21, 22, 23] (by decide) rfl) rfl rfl rfl fz_T_bl (fun _ _ _ => trivial)) rfl rfl hl.1 rfl (lv_room (Nat.le_of_ble_eq_true rfl)) dX1_lendCredits_140 ⟨Nat.zero_le _, Nat.zero_le _⟩) hP hD hS [17, 18, 19, 20, 21, 22, 23] [0, 1, 2, 3, 4, 5, 6, 7, 8, 9, 10, 11, 12, 13, 14, 15, 16] rfl rfl rfl rfl rfl (fun H locs hP hD hS => ?_)
                        have hP : va_P D vwCl (CE cy a (V 0 0) (V 3 0) (V 8 0) (V 8 1) (nI (nl + 1)) (V 1) (V 2) (upd (upd (V 4) i ((V 4 i) - y)) j (((upd (V 4) i ((V 4 i) - y)) j) + y)) (V 5) (V 6) (V 7) (V 9) (V 10) (V 11) (V 12) (V 13) (V 14) (V 15) (V 16) (upd ((V 18)) nl f) (upd ((V 19)) nl g) (upd ((V 20)) nl y) (upd ((V 21)) nl y) (upd ((V 22)) nl w) (upd ((V 23)) nl (V 0 0))) H := hP
                        have hD : va_D A (CE cy a (V 0 0) (V 3 0) (V 8 0) (V 8 1) (nI (nl + 1)) (V 1) (V 2) (upd (upd (V 4) i ((V 4 i) - y)) j (((upd (V 4) i ((V 4 i) - y)) j) + y)) (V 5) (V 6) (V 7) (V 9) (V 10) (V 11) (V 12) (V 13) (V 14) (V 15) (V 16) (upd ((V 18)) nl f) (upd ((V 19)) nl g) (upd ((V 20)) nl y) (upd ((V 21)) nl y) (upd ((V 22)) nl w) (upd ((V 23)) nl (V 0 0))) := hD
                        have eF : fz_lend V nt nl f g y w = (nI nl, fz_lent V nl f g i j y w) := by simp only [fz_lend, c_1, c_2, c_3, c_4, c_5, c_6, c_7, c_8, Nat.not_le.mpr c_9, c_10, c_11, ei', ej', ↓reduceIte, Bool.false_eq_true]
                        exact W.iret (v := (nI nl)) hx hb hr (fun t9 ht9 hW9 => ⟨⟨_, (), rfl, (by rw [eF] <;> rfl), fz_to ht9 (by rw [eF]; exact hP)⟩, hS.F ht9⟩) hS.2.2 dX1_lendCredits_143
                      · skip
                        refine lv_bipush (v := (-3)) hx hb dX1_lendCredits_98 (by decide) ?_
                        have eF : fz_lend V nt nl f g y w = ((-3), V) := by simp only [fz_lend, c_1, c_2, c_3, c_4, c_5, c_6, c_7, c_8, Nat.not_le.mpr c_9, c_10, c_11, ei', ej', ↓reduceIte, Bool.false_eq_true]
                        exact W.iret (v := (-3)) hx hb hr (fun t9 ht9 hW9 => ⟨⟨_, (), rfl, (by rw [eF] <;> rfl), fz_to ht9 (by rw [eF]; exact hP)⟩, hS.F ht9⟩) hS.2.2 dX1_lendCredits_100
              · skip
                refine lv_bipush (v := (-2)) hx hb dX1_lendCredits_53 (by decide) ?_
                have eF : fz_lend V nt nl f g y w = ((-2), V) := by simp only [fz_lend, c_1, c_2, c_3, c_4, c_5, c_6, c_7, ei', ej', ↓reduceIte, Bool.false_eq_true]
                exact W.iret (v := (-2)) hx hb hr (fun t9 ht9 hW9 => ⟨⟨_, (), rfl, (by rw [eF] <;> rfl), fz_to ht9 (by rw [eF]; exact hP)⟩, hS.F ht9⟩) hS.2.2 dX1_lendCredits_55
    · skip
      refine lv_iconst (v := (-1)) hx hb dX1_lendCredits_22 (by decide) ?_
      have eF : fz_lend V nt nl f g y w = ((-1), V) := by simp only [fz_lend, c_1, c_2, ei', ↓reduceIte, Bool.false_eq_true]
      exact W.iret (v := (-1)) hx hb hr (fun t9 ht9 hW9 => ⟨⟨_, (), rfl, (by rw [eF] <;> rfl), fz_to ht9 (by rw [eF]; exact hP)⟩, hS.F ht9⟩) hS.2.2 dX1_lendCredits_23
