/-! Calendar: what changes it -/
def fz_c1 (g b du : Nat → Int32) (d : Nat) (q : (Nat → Int32) × (Nat → Int32)) : Nat → (Nat → Int32) × (Nat → Int32)
  | 0 => q
  | k + 1 => if du k = nI d then fz_pb g b k (fz_min ((fz_c1 g b du d q k).2 k) ((fz_c1 g b du d q k).1 (b k).toNatClampNeg)) (fz_c1 g b du d q k) else fz_c1 g b du d q k
def fz_c2 (g b du : Nat → Int32) (nl : Nat) (q : (Nat → Int32) × (Nat → Int32)) : Nat → (Nat → Int32) × (Nat → Int32)
  | 0 => q
  | d + 1 => fz_c1 g b du d (fz_c2 g b du nl q d) nl
def fz_close (V : Nat → Nat → Int32) (nt nc nl wk : Nat) : Int32 × (Nat → Nat → Int32) := if 39 ≤ wk then (-3, V) else ((fz_ea V nc wk nt).1, fz_up (fz_up (fz_up (fz_up V 0 (upd (V 0) 0 (nI (wk + 1)))) 4 (fz_c2 (V 18) (V 19) (V 22) nl ((fz_ea V nc wk nt).2.1, V 21) (wk + 1)).1) 6 (fz_ea V nc wk nt).2.2) 21 (fz_c2 (V 18) (V 19) (V 22) nl ((fz_ea V nc wk nt).2.1, V 21) (wk + 1)).2)
/-- weeks i to k - 1 are marked with x -/
def fz_mark (f : Nat → Int32) (i : Nat) (x : Int32) (k : Nat) : Nat → Int32 := fun q => if i ≤ q ∧ q < k then x else f q
theorem fz_mark_0 (f : Nat → Int32) (i : Nat) (x : Int32) : fz_mark f i x i = f := by
  funext q
  rw [fz_mark, if_neg (by omega)]
theorem fz_mark_s {f : Nat → Int32} {i k : Nat} {x : Int32} (h : i ≤ k) : upd (fz_mark f i x k) k x = fz_mark f i x (k + 1) := by
  funext q
  by_cases hq : q = k
  · subst hq
    rw [pk_us, fz_mark, if_pos (by omega)]
  · rw [pk_un hq, fz_mark, fz_mark]
    by_cases h1 : i ≤ q ∧ q < k
    · rw [if_pos h1, if_pos (by omega)]
    · rw [if_neg h1, if_neg (by omega)]
theorem fz_rng {f g : Int32} (h1 : ¬ f < 0) (h2 : ¬ g < f) (h3 : g ≤ 39) : ∃ i j : Nat, i ≤ j ∧ j ≤ 39 ∧ f = nI i ∧ g = nI j := by
  obtain ⟨i, hi, rfl⟩ := nI_of h1
  have h4 : ¬ g < 0 := fun z => h2 (Int32.lt_of_lt_of_le z (nI_pos' hi))
  obtain ⟨j, hj, rfl⟩ := nI_of h4
  exact ⟨i, j, Nat.le_of_not_lt fun z => h2 (nI_lt z hi), (nI_leI hj (by decide)).mp h3, rfl, rfl⟩
def fz_markw (V : Nat → Nat → Int32) (wk : Nat) (f g : Int32) (fr : Bool) : Int32 × (Nat → Nat → Int32) := if f < 0 then (-2, V) else if g < f then (-2, V) else if g ≤ 39 then (if V 0 0 ≤ f then (fz_frz (fz_mark (V 2) f.toNatClampNeg (fz_b fr) (g.toNatClampNeg + 1)) 0, fz_up V 2 (fz_mark (V 2) f.toNatClampNeg (fz_b fr) (g.toNatClampNeg + 1))) else (-3, V)) else (-2, V)
def fz_enter (V : Nat → Nat → Int32) (nc nq : Nat) (t x : Int32) : Int32 × (Nat → Nat → Int32) := if fz_ix t (V 3 0) = true then (if fz_risk x = true then (if 30 ≤ nc then (-3, V) else (nI nc, fz_app V t x (V 0 0) nc nq)) else (-2, V)) else (-1, V)
def fz_exempt2 (V : Nat → Nat → Int32) (z j : Nat) : Int32 × (Nat → Nat → Int32) := (V 10 z * V 1 0, fz_up (fz_up (fz_up V 4 (upd (V 4) j (V 4 j - V 10 z * V 1 0))) 11 (upd (V 11) z 1)) 12 (upd (V 12) z (V 10 z * V 1 0)))
def fz_exempt (V : Nat → Nat → Int32) (nc nl : Nat) (x : Int32) : Int32 × (Nat → Nat → Int32) := if fz_ix x (V 8 0) = true then (if fz_reason V nl x.toNatClampNeg = 0 then fz_exempt2 V x.toNatClampNeg (V 9 x.toNatClampNeg).toNatClampNeg else (-3, V)) else (-1, V)
/-- the state behind the closing of change z with state en; made in week w, ex: exempt then -/
def fz_mk (V : Nat → Nat → Int32) (z nq : Nat) (en w ex : Int32) : Nat → Nat → Int32 := fz_up (fz_up (fz_up (fz_up (fz_up (fz_up V 8 (upd (V 8) 1 (nI (fz_deq (nI z) (V 16) nq).1))) 11 (upd (V 11) z en)) 12 (upd (V 12) z 0)) 14 (upd (V 14) z w)) 15 (upd (V 15) z ex)) 16 (fz_deq (nI z) (V 16) nq).2
def fz_fine (V : Nat → Nat → Int32) (z j : Nat) : Int32 := fz_min (V 1 2 * V 10 z) (V 4 j)
def fz_make2 (V : Nat → Nat → Int32) (nq z j : Nat) (fr : Bool) (ex : Int32) : Int32 × (Nat → Nat → Int32) :=
  bif fr then (V 12 z + fz_fine V z j, fz_up (fz_up (fz_mk V z nq 3 (V 0 0) ex) 4 (upd (V 4) j (V 4 j - fz_fine V z j))) 7 (upd (V 7) j (V 7 j + (V 12 z + fz_fine V z j))))
  else (0, fz_up (fz_mk V z nq 2 (V 0 0) ex) 4 (upd (V 4) j (V 4 j + V 12 z)))
def fz_make (V : Nat → Nat → Int32) (nc nq wk : Nat) (x : Int32) (fr : Bool) : Int32 × (Nat → Nat → Int32) := if fz_ix x (V 8 0) = true then (if fz_open (V 11 x.toNatClampNeg) = true then (if V 11 x.toNatClampNeg = 1 then fz_make2 V nq x.toNatClampNeg (V 9 x.toNatClampNeg).toNatClampNeg fr 1 else if V 2 wk = 0 then fz_make2 V nq x.toNatClampNeg (V 9 x.toNatClampNeg).toNatClampNeg fr 0 else (-3, V)) else (-3, V)) else (-1, V)
def fz_drop2 (V : Nat → Nat → Int32) (nq z j : Nat) : Int32 × (Nat → Nat → Int32) := (V 12 z, fz_up (fz_cls V z 4 nq) 4 (upd (V 4) j (V 4 j + V 12 z)))
def fz_drop (V : Nat → Nat → Int32) (nc nq : Nat) (x : Int32) : Int32 × (Nat → Nat → Int32) := if fz_ix x (V 8 0) = true then (if fz_open (V 11 x.toNatClampNeg) = true then fz_drop2 V nq x.toNatClampNeg (V 9 x.toNatClampNeg).toNatClampNeg else (-3, V)) else (-1, V)
def fz_repay (V : Nat → Nat → Int32) (nl : Nat) (x y : Int32) : Int32 × (Nat → Nat → Int32) := if fz_ix x (V 17 0) = true then (if y < 1 then (-2, V) else if y ≤ 500 then (if V 21 x.toNatClampNeg < y then (-3, V) else if y ≤ V 4 (V 19 x.toNatClampNeg).toNatClampNeg then ((fz_pb (V 18) (V 19) x.toNatClampNeg y (V 4, V 21)).2 x.toNatClampNeg, fz_up (fz_up V 4 (fz_pb (V 18) (V 19) x.toNatClampNeg y (V 4, V 21)).1) 21 (fz_pb (V 18) (V 19) x.toNatClampNeg y (V 4, V 21)).2) else (-3, V)) else (-2, V)) else (-1, V)
def fz_lent (V : Nat → Nat → Int32) (nl : Nat) (f g : Int32) (i j : Nat) (y w : Int32) : Nat → Nat → Int32 := fz_up (fz_up (fz_up (fz_up (fz_up (fz_up (fz_up (fz_up V 17 (upd (V 17) 0 (nI (nl + 1)))) 18 (upd (V 18) nl f)) 19 (upd (V 19) nl g)) 20 (upd (V 20) nl y)) 21 (upd (V 21) nl y)) 22 (upd (V 22) nl w)) 23 (upd (V 23) nl (V 0 0))) 4 (upd (upd (V 4) i (V 4 i - y)) j (upd (V 4) i (V 4 i - y) j + y))
def fz_lend (V : Nat → Nat → Int32) (nt nl : Nat) (f g y w : Int32) : Int32 × (Nat → Nat → Int32) := if fz_ix f (V 3 0) = true then (if fz_ix g (V 3 0) = true then (if f = g then (-2, V) else if y < 1 then (-2, V) else if 500 < y then (-2, V) else if w < 0 then (-2, V) else if w ≤ 39 then (if w < V 0 0 then (-3, V) else if 12 ≤ nl then (-3, V) else if V 4 f.toNatClampNeg < y then (-3, V) else if fz_owes (V 19) (V 21) (V 22) (V 0 0) nl g = true then (-3, V) else (nI nl, fz_lent V nl f g f.toNatClampNeg g.toNatClampNeg y w)) else (-2, V)) else (-1, V)) else (-1, V)
set_option maxHeartbeats 4000000 in
set_option maxRecDepth 100000 in
/-- Calendar.collectDueLoans -/
theorem c_X1_collectDueLoans (l : Launch) (D : va_G) (cy : Nat → ClassId) (a : Nat → Nat) (V : Nat → Nat → Int32) (nt nc nq nl wk : Nat) (wf : fz_wf V nt nc nq nl wk) : fz_MV l yX1_collectDueLoans wsX1_collectDueLoans 1 22 D cy [.ref (a 0)] (CW cy a V) fz_T (CW cy a (fz_up (fz_up V 4 (fz_c2 (V 18) (V 19) (V 22) nl (V 4, V 21) (wk + 1)).1) 21 (fz_c2 (V 18) (V 19) (V 22) nl (V 4, V 21) (wk + 1)).2)) := by
  refine Met.ofW (cc := cX1_collectDueLoans) (maxL := 3) (ret := none) (by decide) rfl ?_
  intro p e s m args below meth c s₁ B hml hv
  obtain ⟨rfl, hP, hK, hD0, hE⟩ := hv
  have hx := B.exec
  have hb := B.bytes
  have hr := B.returns
  have hts := atoms_spec (ws := wsX1_collectDueLoans) B.pre
  have hown : s.vm.findClass RX1 = some m.cls := findClass_of_methodNamed B.named
  have hlocks := B.notSynchronized
  have hD := fz_self hD0
  generalize hAe : fz_in (CW cy a V) = A at hD ⊢
  have hS : va_S A s.heap s.heap [] := va_S.rf
  have hl := lv_entry ([.ref (a 0)]) (n := 3) (Nat.le_of_ble_eq_true rfl)
  rw [lg_entry_eq]
  generalize (lg_sl ([.ref (a 0)]) ++ List.replicate (3 - (lg_sl ([.ref (a 0)])).length) Slot.unset).toArray = ls at hl ⊢
  have hl : lv_has ls 3 [(0, .ref (a 0))] := hl
  have k_48 := hts (.fieldLink RX1 48 "FreezeCredits$Calendar" "week" "I") (by decide +kernel)
  have inX1 : ∀ w ∈ u_ws RX1 TX1 6, w ∈ wsX1_collectDueLoans := by decide +kernel
  have k_44 := hts (.fieldLink RX1 44 "FreezeCredits$Calendar" "loans" "LFreezeCredits$Loans;") (by decide +kernel)
  have k_99 := hts (.fieldLink RX1 99 "FreezeCredits$Loans" "count" "I") (by decide +kernel)
  have inX5 : ∀ w ∈ u_ws RX5 TX5 7, w ∈ wsX1_collectDueLoans := by decide +kernel
  have k_100 := hts (.fieldLink RX1 100 "FreezeCredits$Loans" "due" "[I") (by decide +kernel)
  have k_103 := hts (.fieldLink RX1 103 "FreezeCredits$Loans" "left" "[I") (by decide +kernel)
  obtain ⟨hnt, hnt6, hnc, hnc30, hnq, hqc, hnl, hnl12, hwk, hwk39, hT, hQ, hG, hB⟩ := id wf
  refine lv_iconst (v := 0) hx hb dX1_collectDueLoans_0 (by decide) ?_
  refine lv_istore_n (lv' := [(1, .int 0), (0, .ref (a 0))]) hx hb dX1_collectDueLoans_1 rfl hl (by decide) rfl (fun ls hl => ?_)
  refine fz_loopM (σ := Nat × (Nat → Int32) × (Nat → Int32)) (pc := 2) (nL := 3) (fun x => match x with | (d, Y, Z) => [(0, .ref (a 0)), (1, .int (nI d))]) (fun x => match x with | (d, Y, Z) => CE cy a (V 0 0) (V 3 0) (V 8 0) (V 8 1) (V 17 0) (V 1) (V 2) Y (V 5) (V 6) (V 7) (V 9) (V 10) (V 11) (V 12) (V 13) (V 14) (V 15) (V 16) (V 18) (V 19) (V 20) Z (V 22) (V 23)) (fun x => match x with | (d, Y, Z) => (d ≤ wk + 1) ∧ (fz_c2 (V 18) (V 19) (V 22) nl (V 4, V 21) d = (Y, Z))) (fun x => match x with | (d, Y, Z) => wk + 1 - d) ?_ (0, V 4, V 21) (show (0 ≤ wk + 1) ∧ (fz_c2 (V 18) (V 19) (V 22) nl (V 4, V 21) 0 = ((V 4), (V 21))) from ⟨(by omega), rfl⟩) _ _ ls hP hD hS (lv_sub hl [1, 0] rfl)
  rintro ⟨d, Y, Z⟩ ⟨hd, eD⟩ ih2 H locs ls hP hD hS hl
  have hP : va_P D vwCl (CE cy a (V 0 0) (V 3 0) (V 8 0) (V 8 1) (V 17 0) (V 1) (V 2) Y (V 5) (V 6) (V 7) (V 9) (V 10) (V 11) (V 12) (V 13) (V 14) (V 15) (V 16) (V 18) (V 19) (V 20) Z (V 22) (V 23)) H := hP
  have hD : va_D A (CE cy a (V 0 0) (V 3 0) (V 8 0) (V 8 1) (V 17 0) (V 1) (V 2) Y (V 5) (V 6) (V 7) (V 9) (V 10) (V 11) (V 12) (V 13) (V 14) (V 15) (V 16) (V 18) (V 19) (V 20) Z (V 22) (V 23)) := hD
  have hd : d ≤ wk + 1 := hd
  have eD : fz_c2 (V 18) (V 19) (V 22) nl (V 4, V 21) d = (Y, Z) := eD
  have hl : lv_has ls 3 [(0, .ref (a 0)), (1, .int (nI d))] := hl
  refine lv_iload_n hx hb dX1_collectDueLoans_2 rfl (lv_at hl 1 rfl) ?_
  refine lv_aload_n hx hb dX1_collectDueLoans_3 rfl (lv_at hl 0 rfl) ?_
  refine va_get (D := D) (ci := 0) (v := .int (V 0 0)) (C := RX1) (T := TX1) (N := 6) hx hb hts inX1 hown hK hP 0 rfl rfl 0 (by decide) k_48 (fun _ h9 => h9) rfl dX1_collectDueLoans_4 ?_
  refine fz_gtN (tgt := 70) hx hb d wk rfl hwk dX1_collectDueLoans_7 (by decide) (by omega) (by omega) (fun c_1 => ?_) (fun c_1 => ?_)
  · skip
    exact W.vret hx hb hr (fun t9 ht9 hW9 => ⟨⟨(), rfl, trivial, fz_to ht9 (by rw [show wk + 1 = d by omega, eD]; exact hP)⟩, hS.F ht9⟩) hS.2.2 dX1_collectDueLoans_70
  · skip
    refine lv_iconst (v := 0) hx hb dX1_collectDueLoans_10 (by decide) ?_
    refine lv_istore_n (lv' := [(2, .int 0), (0, .ref (a 0)), (1, .int (nI d))]) hx hb dX1_collectDueLoans_11 rfl hl (by decide) rfl (fun ls hl => ?_)
    refine fz_loopM (σ := Nat × (Nat → Int32) × (Nat → Int32)) (pc := 12) (nL := 3) (fun x => match x with | (k, Y2, Z2) => [(0, .ref (a 0)), (1, .int (nI d)), (2, .int (nI k))]) (fun x => match x with | (k, Y2, Z2) => CE cy a (V 0 0) (V 3 0) (V 8 0) (V 8 1) (V 17 0) (V 1) (V 2) Y2 (V 5) (V 6) (V 7) (V 9) (V 10) (V 11) (V 12) (V 13) (V 14) (V 15) (V 16) (V 18) (V 19) (V 20) Z2 (V 22) (V 23)) (fun x => match x with | (k, Y2, Z2) => (k ≤ nl) ∧ (fz_c1 (V 18) (V 19) (V 22) d (Y, Z) k = (Y2, Z2))) (fun x => match x with | (k, Y2, Z2) => nl - k) ?_ (0, Y, Z) (show (0 ≤ nl) ∧ (fz_c1 (V 18) (V 19) (V 22) d (Y, Z) 0 = (Y, Z)) from ⟨(by omega), rfl⟩) _ _ ls hP hD hS (lv_sub hl [1, 2, 0] rfl)
    rintro ⟨k, Y2, Z2⟩ ⟨hk, eC⟩ ih12 H locs ls hP hD hS hl
    have hP : va_P D vwCl (CE cy a (V 0 0) (V 3 0) (V 8 0) (V 8 1) (V 17 0) (V 1) (V 2) Y2 (V 5) (V 6) (V 7) (V 9) (V 10) (V 11) (V 12) (V 13) (V 14) (V 15) (V 16) (V 18) (V 19) (V 20) Z2 (V 22) (V 23)) H := hP
    have hD : va_D A (CE cy a (V 0 0) (V 3 0) (V 8 0) (V 8 1) (V 17 0) (V 1) (V 2) Y2 (V 5) (V 6) (V 7) (V 9) (V 10) (V 11) (V 12) (V 13) (V 14) (V 15) (V 16) (V 18) (V 19) (V 20) Z2 (V 22) (V 23)) := hD
    have hk : k ≤ nl := hk
    have eC : fz_c1 (V 18) (V 19) (V 22) d (Y, Z) k = (Y2, Z2) := eC
    have hl : lv_has ls 3 [(0, .ref (a 0)), (1, .int (nI d)), (2, .int (nI k))] := hl
    refine lv_iload_n hx hb dX1_collectDueLoans_12 rfl (lv_at hl 2 rfl) ?_
    refine lv_aload_n hx hb dX1_collectDueLoans_13 rfl (lv_at hl 0 rfl) ?_
    refine va_get (D := D) (ci := 0) (v := .ref (a 17)) (C := RX1) (T := TX1) (N := 6) hx hb hts inX1 hown hK hP 0 rfl rfl 5 (by decide) k_44 (fun _ h9 => h9) rfl dX1_collectDueLoans_14 ?_
    refine va_get (D := D) (ci := 4) (v := .int (V 17 0)) (C := RX5) (T := TX5) (N := 7) hx hb hts inX5 hown hK hP 17 rfl rfl 0 (by decide) k_99 (fun _ h9 => h9) rfl dX1_collectDueLoans_17 ?_
    refine fz_geN (tgt := 64) hx hb k nl rfl hnl dX1_collectDueLoans_20 (by decide) (by omega) (by omega) (fun c_2 => ?_) (fun c_2 => ?_)
    · skip
      refine lv_iinc (v := nI (d + 1)) (lv' := [(1, .int (nI (d + 1))), (0, .ref (a 0)), (2, .int (nI k))]) hx hb dX1_collectDueLoans_64 hl (k := 1) rfl (fz_inc rfl) (by decide) rfl (fun ls hl => ?_)
      refine lv_goto (tgt := 2) hx hb dX1_collectDueLoans_67 (by decide) ?_
      exact ih2 (d + 1, Y2, Z2) (show ((d + 1) ≤ wk + 1) ∧ (fz_c2 (V 18) (V 19) (V 22) nl (V 4, V 21) (d + 1) = (Y2, Z2)) from ⟨(by omega), (by rw [fz_c2, eD, show nl = k by omega, eC])⟩) (by show wk + 1 - (d + 1) < wk + 1 - d; omega) _ _ ls hP hD hS (lv_sub hl [1, 0] rfl)
    · skip
      refine lv_aload_n hx hb dX1_collectDueLoans_23 rfl (lv_at hl 0 rfl) ?_
      refine va_get (D := D) (ci := 0) (v := .ref (a 17)) (C := RX1) (T := TX1) (N := 6) hx hb hts inX1 hown hK hP 0 rfl rfl 5 (by decide) k_44 (fun _ h9 => h9) rfl dX1_collectDueLoans_24 ?_
      refine va_get (D := D) (ci := 4) (v := .ref (a 22)) (C := RX5) (T := TX5) (N := 7) hx hb hts inX5 hown hK hP 17 rfl rfl 5 (by decide) k_100 (fun _ h9 => h9) rfl dX1_collectDueLoans_27 ?_
      refine lv_iload_n hx hb dX1_collectDueLoans_30 rfl (lv_at hl 2 rfl) ?_
      refine fz_iald (f := V 22) hx hb hK hP 22 0 rfl rfl k rfl (by omega) (by decide) dX1_collectDueLoans_31 ?_
      refine lv_iload_n hx hb dX1_collectDueLoans_32 rfl (lv_at hl 1 rfl) ?_
      refine lv_icmp_ne (tgt := 58) hx hb dX1_collectDueLoans_33 (by decide) (fun c_3 => ?_) (fun c_3 => ?_)
      · skip
        refine lv_iinc (v := nI (k + 1)) (lv' := [(2, .int (nI (k + 1))), (0, .ref (a 0)), (1, .int (nI d))]) hx hb dX1_collectDueLoans_58 hl (k := 2) rfl (fz_inc rfl) (by decide) rfl (fun ls hl => ?_)
        refine lv_goto (tgt := 12) hx hb dX1_collectDueLoans_61 (by decide) ?_
        exact ih12 (k + 1, Y2, Z2) (show ((k + 1) ≤ nl) ∧ (fz_c1 (V 18) (V 19) (V 22) d (Y, Z) (k + 1) = (Y2, Z2)) from ⟨(by omega), (by rw [fz_c1, if_neg c_3, eC])⟩) (by show nl - (k + 1) < nl - k; omega) _ _ ls hP hD hS (lv_sub hl [1, 2, 0] rfl)
      · skip
        refine lv_aload_n hx hb dX1_collectDueLoans_36 rfl (lv_at hl 0 rfl) ?_
        refine lv_iload_n hx hb dX1_collectDueLoans_37 rfl (lv_at hl 2 rfl) ?_
        refine lv_aload_n hx hb dX1_collectDueLoans_38 rfl (lv_at hl 0 rfl) ?_
        refine va_get (D := D) (ci := 0) (v := .ref (a 17)) (C := RX1) (T := TX1) (N := 6) hx hb hts inX1 hown hK hP 0 rfl rfl 5 (by decide) k_44 (fun _ h9 => h9) rfl dX1_collectDueLoans_39 ?_
        refine va_get (D := D) (ci := 4) (v := .ref (a 21)) (C := RX5) (T := TX5) (N := 7) hx hb hts inX5 hown hK hP 17 rfl rfl 4 (by decide) k_103 (fun _ h9 => h9) rfl dX1_collectDueLoans_42 ?_
        refine lv_iload_n hx hb dX1_collectDueLoans_45 rfl (lv_at hl 2 rfl) ?_
        refine fz_iald (f := Z2) hx hb hK hP 21 0 rfl rfl k rfl (by omega) (by decide) dX1_collectDueLoans_46 ?_
        refine lv_aload_n hx hb dX1_collectDueLoans_47 rfl (lv_at hl 0 rfl) ?_
        refine lv_iload_n hx hb dX1_collectDueLoans_48 rfl (lv_at hl 2 rfl) ?_
        refine fz_retR (va_runV (As := [.int (nI k)]) (rest := [.int (Z2 k), .int (nI k), .ref (a 0)]) ⟨hx, hb, hml, hown, hts⟩ (c_X1_freeOfTaker l D cy a (fz_up (fz_up V 4 Y2) 21 Z2) nt nc nq nl wk wf k (by omega)) (cwV 1 hts gX1_collectDueLoans_X1_freeOfTaker rfl rfl rfl (by decide +kernel) ⟨Nat.le_of_ble_eq_true rfl, Nat.le_of_ble_eq_true rfl⟩) (fz_preV (ci := 0) (q0 := 0) hK hP rfl rfl rfl fz_T_bl (fun _ _ _ => trivial)) rfl rfl hl.1 rfl (lv_room (Nat.le_of_ble_eq_true rfl)) dX1_collectDueLoans_49 ⟨Nat.zero_le _, Nat.zero_le _⟩) ?_
        refine va_mmin hx hb (hml.trans hl.1.symm) hown (hts (.methodLink RX1 109 Lib.Math.min.name) (by decide +kernel)) (hts (.static Lib.Math.min.name) (by decide +kernel)) (hts (.initialized "java/lang/Math") (by decide +kernel)) (hts (.code Lib.Math.min.name Lib.Math.min.code 2 (some .int)) (by decide +kernel)) (Nat.le_of_ble_eq_true rfl) (Nat.le_of_ble_eq_true rfl) (Nat.le_of_ble_eq_true rfl) (Nat.le_of_ble_eq_true rfl) dX1_collectDueLoans_52 ?_
        refine fz_top (y := fz_min (Z2 k) (Y2 ((V 19) k).toNatClampNeg)) rfl ?_
        refine fz_retMV (ws' := CE cy a (V 0 0) (V 3 0) (V 8 0) (V 8 1) (V 17 0) (V 1) (V 2) ((fz_pb ((V 18)) ((V 19)) k (fz_min (Z2 k) (Y2 ((V 19) k).toNatClampNeg)) (Y2, Z2)).1) (V 5) (V 6) (V 7) (V 9) (V 10) (V 11) (V 12) (V 13) (V 14) (V 15) (V 16) (V 18) (V 19) (V 20) ((fz_pb ((V 18)) ((V 19)) k (fz_min (Z2 k) (Y2 ((V 19) k).toNatClampNeg)) (Y2, Z2)).2) (V 22) (V 23)) (va_runV (As := [.int (nI k), .int (fz_min (Z2 k) (Y2 ((V 19) k).toNatClampNeg))]) (rest := []) ⟨hx, hb, hml, hown, hts⟩ (c_X1_payBack l D cy a (fz_up (fz_up V 4 Y2) 21 Z2) nt nc nq nl wk wf k (by omega) (fz_min (Z2 k) (Y2 ((V 19) k).toNatClampNeg))) (cwV 2 hts gX1_collectDueLoans_X1_payBack rfl rfl rfl (by decide +kernel) ⟨Nat.le_of_ble_eq_true rfl, Nat.le_of_ble_eq_true rfl⟩) (fz_preMV (ci := 0) (q0 := 0) hK hP hD rfl rfl rfl fz_T_bl (fun _ _ _ => trivial)) rfl rfl hl.1 rfl (lv_room (Nat.le_of_ble_eq_true rfl)) dX1_collectDueLoans_55 ⟨Nat.zero_le _, Nat.zero_le _⟩) hP hD hS [0, 1, 2, 3, 4, 5, 6, 7, 8, 9, 10, 11, 12, 13, 14, 15, 16, 17, 18, 19, 20, 21, 22, 23] [] rfl rfl [true, true, true, true, true, true, true, true, true, true, true, true, true, true, true, true, true, true, true, true, true, true, true, true] (And.intro rfl (And.intro rfl (And.intro rfl (And.intro rfl (And.intro rfl (And.intro rfl (And.intro rfl (And.intro rfl (And.intro rfl (And.intro rfl (And.intro rfl (And.intro rfl (And.intro rfl (And.intro rfl (And.intro rfl (And.intro rfl (And.intro rfl (And.intro rfl (And.intro rfl (And.intro rfl (And.intro rfl (And.intro rfl (And.intro rfl (And.intro rfl trivial)))))))))))))))))))))))) rfl rfl (fun H locs hP hD hS => ?_)
        have hP : va_P D vwCl (CE cy a (V 0 0) (V 3 0) (V 8 0) (V 8 1) (V 17 0) (V 1) (V 2) ((fz_pb ((V 18)) ((V 19)) k (fz_min (Z2 k) (Y2 ((V 19) k).toNatClampNeg)) (Y2, Z2)).1) (V 5) (V 6) (V 7) (V 9) (V 10) (V 11) (V 12) (V 13) (V 14) (V 15) (V 16) (V 18) (V 19) (V 20) ((fz_pb ((V 18)) ((V 19)) k (fz_min (Z2 k) (Y2 ((V 19) k).toNatClampNeg)) (Y2, Z2)).2) (V 22) (V 23)) H := hP
        have hD : va_D A (CE cy a (V 0 0) (V 3 0) (V 8 0) (V 8 1) (V 17 0) (V 1) (V 2) ((fz_pb ((V 18)) ((V 19)) k (fz_min (Z2 k) (Y2 ((V 19) k).toNatClampNeg)) (Y2, Z2)).1) (V 5) (V 6) (V 7) (V 9) (V 10) (V 11) (V 12) (V 13) (V 14) (V 15) (V 16) (V 18) (V 19) (V 20) ((fz_pb ((V 18)) ((V 19)) k (fz_min (Z2 k) (Y2 ((V 19) k).toNatClampNeg)) (Y2, Z2)).2) (V 22) (V 23)) := hD
        refine lv_iinc (v := nI (k + 1)) (lv' := [(2, .int (nI (k + 1))), (0, .ref (a 0)), (1, .int (nI d))]) hx hb dX1_collectDueLoans_58 hl (k := 2) rfl (fz_inc rfl) (by decide) rfl (fun ls hl => ?_)
        refine lv_goto (tgt := 12) hx hb dX1_collectDueLoans_61 (by decide) ?_
        exact ih12 (k + 1, (fz_pb ((V 18)) ((V 19)) k (fz_min (Z2 k) (Y2 ((V 19) k).toNatClampNeg)) (Y2, Z2)).1, (fz_pb ((V 18)) ((V 19)) k (fz_min (Z2 k) (Y2 ((V 19) k).toNatClampNeg)) (Y2, Z2)).2) (show ((k + 1) ≤ nl) ∧ (fz_c1 (V 18) (V 19) (V 22) d (Y, Z) (k + 1) = (((fz_pb ((V 18)) ((V 19)) k (fz_min (Z2 k) (Y2 ((V 19) k).toNatClampNeg)) (Y2, Z2)).1), ((fz_pb ((V 18)) ((V 19)) k (fz_min (Z2 k) (Y2 ((V 19) k).toNatClampNeg)) (Y2, Z2)).2))) from ⟨(by omega), (by rw [fz_c1, if_pos c_3, eC])⟩) (by show nl - (k + 1) < nl - k; omega) _ _ ls hP hD hS (lv_sub hl [1, 2, 0] rfl)
set_option maxHeartbeats 4000000 in
set_option maxRecDepth 100000 in
/-- Calendar.closeWeek -/
theorem c_X1_closeWeek (l : Launch) (D : va_G) (cy : Nat → ClassId) (a : Nat → Nat) (V : Nat → Nat → Int32) (nt nc nq nl wk : Nat) (wf : fz_wf V nt nc nq nl wk) : fz_MI l yX1_closeWeek wsX1_closeWeek 3 67 D cy [.ref (a 0)] (CW cy a V) fz_T ((fz_close V nt nc nl wk).1) (CW cy a ((fz_close V nt nc nl wk).2)) := by
  refine Met.ofW (cc := cX1_closeWeek) (maxL := 2) (ret := (some .int)) (by decide) rfl ?_
  intro p e s m args below meth c s₁ B hml hv
  obtain ⟨rfl, hP, hK, hD0, hE⟩ := hv
  have hx := B.exec
  have hb := B.bytes
  have hr := B.returns
  have hts := atoms_spec (ws := wsX1_closeWeek) B.pre
  have hown : s.vm.findClass RX1 = some m.cls := findClass_of_methodNamed B.named
  have hlocks := B.notSynchronized
  have hD := fz_self hD0
  generalize hAe : fz_in (CW cy a V) = A at hD ⊢
  have hS : va_S A s.heap s.heap [] := va_S.rf
  have hl := lv_entry ([.ref (a 0)]) (n := 2) (Nat.le_of_ble_eq_true rfl)
  rw [lg_entry_eq]
  generalize (lg_sl ([.ref (a 0)]) ++ List.replicate (2 - (lg_sl ([.ref (a 0)])).length) Slot.unset).toArray = ls at hl ⊢
  have hl : lv_has ls 2 [(0, .ref (a 0))] := hl
  have k_48 := hts (.fieldLink RX1 48 "FreezeCredits$Calendar" "week" "I") (by decide +kernel)
  have inX1 : ∀ w ∈ u_ws RX1 TX1 6, w ∈ wsX1_closeWeek := by decide +kernel
  obtain ⟨hnt, hnt6, hnc, hnc30, hnq, hqc, hnl, hnl12, hwk, hwk39, hT, hQ, hG, hB⟩ := id wf
  refine lv_aload_n hx hb dX1_closeWeek_0 rfl (lv_at hl 0 rfl) ?_
  refine va_get (D := D) (ci := 0) (v := .int (V 0 0)) (C := RX1) (T := TX1) (N := 6) hx hb hts inX1 hown hK hP 0 rfl rfl 0 (by decide) k_48 (fun _ h9 => h9) rfl dX1_closeWeek_1 ?_
  refine lv_bipush (v := 39) hx hb dX1_closeWeek_4 (by decide) ?_
  refine fz_ltN (tgt := 12) hx hb wk 39 hwk rfl dX1_closeWeek_6 (by decide) (by omega) (by omega) (fun c_1 => ?_) (fun c_1 => ?_)
  · skip
    refine lv_aload_n hx hb dX1_closeWeek_12 rfl (lv_at hl 0 rfl) ?_
    refine fz_retM (ws' := CE cy a (V 0 0) (V 3 0) (V 8 0) (V 8 1) (V 17 0) (V 1) (V 2) ((fz_ea V nc wk nt).2.1) (V 5) ((fz_ea V nc wk nt).2.2) (V 7) (V 9) (V 10) (V 11) (V 12) (V 13) (V 14) (V 15) (V 16) (V 18) (V 19) (V 20) (V 21) (V 22) (V 23)) (va_runV (As := []) (rest := []) ⟨hx, hb, hml, hown, hts⟩ (c_X1_earnAll l D cy a V nt nc nq nl wk wf) (cwV 0 hts gX1_closeWeek_X1_earnAll rfl rfl rfl (by decide +kernel) ⟨Nat.le_of_ble_eq_true rfl, Nat.le_of_ble_eq_true rfl⟩) (fz_preMV (ci := 0) (q0 := 0) hK hP hD rfl rfl rfl fz_T_bl (fun _ _ _ => trivial)) rfl rfl hl.1 rfl (lv_room (Nat.le_of_ble_eq_true rfl)) dX1_closeWeek_13 ⟨Nat.zero_le _, Nat.zero_le _⟩) hP hD hS [0, 1, 2, 3, 4, 5, 6, 7, 8, 9, 10, 11, 12, 13, 14, 15, 16, 17, 18, 19, 20, 21, 22, 23] [] rfl rfl [true, true, true, true, true, true, true, true, true, true, true, true, true, true, true, true, true, true, true, true, true, true, true, true] (And.intro rfl (And.intro rfl (And.intro rfl (And.intro rfl (And.intro rfl (And.intro rfl (And.intro rfl (And.intro rfl (And.intro rfl (And.intro rfl (And.intro rfl (And.intro rfl (And.intro rfl (And.intro rfl (And.intro rfl (And.intro rfl (And.intro rfl (And.intro rfl (And.intro rfl (And.intro rfl (And.intro rfl (And.intro rfl (And.intro rfl (And.intro rfl trivial)))))))))))))))))))))))) rfl rfl (fun H locs hP hD hS => ?_)
    have hP : va_P D vwCl (CE cy a (V 0 0) (V 3 0) (V 8 0) (V 8 1) (V 17 0) (V 1) (V 2) ((fz_ea V nc wk nt).2.1) (V 5) ((fz_ea V nc wk nt).2.2) (V 7) (V 9) (V 10) (V 11) (V 12) (V 13) (V 14) (V 15) (V 16) (V 18) (V 19) (V 20) (V 21) (V 22) (V 23)) H := hP
    have hD : va_D A (CE cy a (V 0 0) (V 3 0) (V 8 0) (V 8 1) (V 17 0) (V 1) (V 2) ((fz_ea V nc wk nt).2.1) (V 5) ((fz_ea V nc wk nt).2.2) (V 7) (V 9) (V 10) (V 11) (V 12) (V 13) (V 14) (V 15) (V 16) (V 18) (V 19) (V 20) (V 21) (V 22) (V 23)) := hD
    refine lv_istore_n (lv' := [(1, .int ((fz_ea V nc wk nt).1)), (0, .ref (a 0))]) hx hb dX1_closeWeek_16 rfl hl (by decide) rfl (fun ls hl => ?_)
    refine lv_aload_n hx hb dX1_closeWeek_17 rfl (lv_at hl 1 rfl) ?_
    refine fz_retMV (ws' := CE cy a (V 0 0) (V 3 0) (V 8 0) (V 8 1) (V 17 0) (V 1) (V 2) ((fz_c2 ((V 18)) ((V 19)) ((V 22)) nl (((fz_ea V nc wk nt).2.1), (V 21)) (wk + 1)).1) (V 5) ((fz_ea V nc wk nt).2.2) (V 7) (V 9) (V 10) (V 11) (V 12) (V 13) (V 14) (V 15) (V 16) (V 18) (V 19) (V 20) ((fz_c2 ((V 18)) ((V 19)) ((V 22)) nl (((fz_ea V nc wk nt).2.1), (V 21)) (wk + 1)).2) (V 22) (V 23)) (va_runV (As := []) (rest := []) ⟨hx, hb, hml, hown, hts⟩ (c_X1_collectDueLoans l D cy a (fz_up (fz_up V 4 ((fz_ea V nc wk nt).2.1)) 6 ((fz_ea V nc wk nt).2.2)) nt nc nq nl wk wf) (cwV 0 hts gX1_closeWeek_X1_collectDueLoans rfl rfl rfl (by decide +kernel) ⟨Nat.le_of_ble_eq_true rfl, Nat.le_of_ble_eq_true rfl⟩) (fz_preMV (ci := 0) (q0 := 0) hK hP hD rfl rfl rfl fz_T_bl (fun _ _ _ => trivial)) rfl rfl hl.1 rfl (lv_room (Nat.le_of_ble_eq_true rfl)) dX1_closeWeek_18 ⟨Nat.zero_le _, Nat.zero_le _⟩) hP hD hS [0, 1, 2, 3, 4, 5, 6, 7, 8, 9, 10, 11, 12, 13, 14, 15, 16, 17, 18, 19, 20, 21, 22, 23] [] rfl rfl [true, true, true, true, true, true, true, true, true, true, true, true, true, true, true, true, true, true, true, true, true, true, true, true] (And.intro rfl (And.intro rfl (And.intro rfl (And.intro rfl (And.intro rfl (And.intro rfl (And.intro rfl (And.intro rfl (And.intro rfl (And.intro rfl (And.intro rfl (And.intro rfl (And.intro rfl (And.intro rfl (And.intro rfl (And.intro rfl (And.intro rfl (And.intro rfl (And.intro rfl (And.intro rfl (And.intro rfl (And.intro rfl (And.intro rfl (And.intro rfl trivial)))))))))))))))))))))))) rfl rfl (fun H locs hP hD hS => ?_)
    have hP : va_P D vwCl (CE cy a (V 0 0) (V 3 0) (V 8 0) (V 8 1) (V 17 0) (V 1) (V 2) ((fz_c2 ((V 18)) ((V 19)) ((V 22)) nl (((fz_ea V nc wk nt).2.1), (V 21)) (wk + 1)).1) (V 5) ((fz_ea V nc wk nt).2.2) (V 7) (V 9) (V 10) (V 11) (V 12) (V 13) (V 14) (V 15) (V 16) (V 18) (V 19) (V 20) ((fz_c2 ((V 18)) ((V 19)) ((V 22)) nl (((fz_ea V nc wk nt).2.1), (V 21)) (wk + 1)).2) (V 22) (V 23)) H := hP
    have hD : va_D A (CE cy a (V 0 0) (V 3 0) (V 8 0) (V 8 1) (V 17 0) (V 1) (V 2) ((fz_c2 ((V 18)) ((V 19)) ((V 22)) nl (((fz_ea V nc wk nt).2.1), (V 21)) (wk + 1)).1) (V 5) ((fz_ea V nc wk nt).2.2) (V 7) (V 9) (V 10) (V 11) (V 12) (V 13) (V 14) (V 15) (V 16) (V 18) (V 19) (V 20) ((fz_c2 ((V 18)) ((V 19)) ((V 22)) nl (((fz_ea V nc wk nt).2.1), (V 21)) (wk + 1)).2) (V 22) (V 23)) := hD
    refine lv_aload_n hx hb dX1_closeWeek_21 rfl (lv_at hl 1 rfl) ?_
    refine lv_dup hx hb dX1_closeWeek_22 rfl ?_
    refine va_get (D := D) (ci := 0) (v := .int (V 0 0)) (C := RX1) (T := TX1) (N := 6) hx hb hts inX1 hown hK hP 0 rfl rfl 0 (by decide) k_48 (fun _ h9 => h9) rfl dX1_closeWeek_23 ?_
    refine lv_iconst (v := 1) hx hb dX1_closeWeek_26 (by decide) ?_
    refine fz_iaddN hx hb wk 1 hwk rfl dX1_closeWeek_27 ?_
    refine va_put (D := D) (ci := 0) (v := .int (nI (wk + 1))) (ty := tyX1 0) (C := RX1) (T := TX1) (N := 6) hx hb hts inX1 tyX1 tyX1_ok nmX1 hown hK hP hD hS 0 rfl rfl 0 (by decide) k_48 (fun _ h9 => h9) rfl (by decide +kernel) rfl rfl (Nat.le_of_ble_eq_true rfl) dX1_closeWeek_28 (fun H locs hP hD hS => ?_)
    have hP : va_P D vwCl (CE cy a (nI (wk + 1)) (V 3 0) (V 8 0) (V 8 1) (V 17 0) (V 1) (V 2) ((fz_c2 ((V 18)) ((V 19)) ((V 22)) nl (((fz_ea V nc wk nt).2.1), (V 21)) (wk + 1)).1) (V 5) ((fz_ea V nc wk nt).2.2) (V 7) (V 9) (V 10) (V 11) (V 12) (V 13) (V 14) (V 15) (V 16) (V 18) (V 19) (V 20) ((fz_c2 ((V 18)) ((V 19)) ((V 22)) nl (((fz_ea V nc wk nt).2.1), (V 21)) (wk + 1)).2) (V 22) (V 23)) H := hP
    have hD : va_D A (CE cy a (nI (wk + 1)) (V 3 0) (V 8 0) (V 8 1) (V 17 0) (V 1) (V 2) ((fz_c2 ((V 18)) ((V 19)) ((V 22)) nl (((fz_ea V nc wk nt).2.1), (V 21)) (wk + 1)).1) (V 5) ((fz_ea V nc wk nt).2.2) (V 7) (V 9) (V 10) (V 11) (V 12) (V 13) (V 14) (V 15) (V 16) (V 18) (V 19) (V 20) ((fz_c2 ((V 18)) ((V 19)) ((V 22)) nl (((fz_ea V nc wk nt).2.1), (V 21)) (wk + 1)).2) (V 22) (V 23)) := hD
    refine lv_iload_n hx hb dX1_closeWeek_31 rfl (lv_at hl 0 rfl) ?_
    have eF : fz_close V nt nc nl wk = ((fz_ea V nc wk nt).1, fz_up (fz_up (fz_up (fz_up V 0 (upd (V 0) 0 (nI (wk + 1)))) 4 ((fz_c2 ((V 18)) ((V 19)) ((V 22)) nl (((fz_ea V nc wk nt).2.1), (V 21)) (wk + 1)).1)) 6 ((fz_ea V nc wk nt).2.2)) 21 ((fz_c2 ((V 18)) ((V 19)) ((V 22)) nl (((fz_ea V nc wk nt).2.1), (V 21)) (wk + 1)).2)) := by simp [fz_close, Nat.not_le.mpr c_1]
    exact W.iret (v := ((fz_ea V nc wk nt).1)) hx hb hr (fun t9 ht9 hW9 => ⟨⟨_, (), rfl, (by rw [eF] <;> rfl), fz_to ht9 (by rw [eF]; exact hP)⟩, hS.F ht9⟩) hS.2.2 dX1_closeWeek_32
  · skip
    refine lv_bipush (v := (-3)) hx hb dX1_closeWeek_9 (by decide) ?_
    have eF : fz_close V nt nc nl wk = ((-3), V) := by simp [fz_close, c_1]
    exact W.iret (v := (-3)) hx hb hr (fun t9 ht9 hW9 => ⟨⟨_, (), rfl, (by rw [eF] <;> rfl), fz_to ht9 (by rw [eF]; exact hP)⟩, hS.F ht9⟩) hS.2.2 dX1_closeWeek_11
set_option maxHeartbeats 4000000 in
set_option maxRecDepth 100000 in
/-- Calendar.markWeeks -/
theorem c_X1_markWeeks (l : Launch) (D : va_G) (cy : Nat → ClassId) (a : Nat → Nat) (V : Nat → Nat → Int32) (nt nc nq nl wk : Nat) (wf : fz_wf V nt nc nq nl wk) (f g : Int32) (fr : Bool) : fz_MI l yX1_markWeeks wsX1_markWeeks 2 43 D cy [.ref (a 0), .int f, .int g, .int (fz_b fr)] (CW cy a V) fz_Nw ((fz_markw V wk f g fr).1) (CW cy a ((fz_markw V wk f g fr).2)) := by
  refine Met.ofW (cc := cX1_markWeeks) (maxL := 5) (ret := (some .int)) (by decide) rfl ?_
  intro p e s m args below meth c s₁ B hml hv
  obtain ⟨rfl, hP, hK, hD0, hE⟩ := hv
  have hx := B.exec
  have hb := B.bytes
  have hr := B.returns
  have hts := atoms_spec (ws := wsX1_markWeeks) B.pre
  have hown : s.vm.findClass RX1 = some m.cls := findClass_of_methodNamed B.named
  have hlocks := B.notSynchronized
  have hD := fz_self hD0
  generalize hAe : fz_in (CW cy a V) = A at hD ⊢
  have hS : va_S A s.heap s.heap [] := va_S.rf
  have hl := lv_entry ([.ref (a 0), .int f, .int g, .int (fz_b fr)]) (n := 5) (Nat.le_of_ble_eq_true rfl)
  rw [lg_entry_eq]
  generalize (lg_sl ([.ref (a 0), .int f, .int g, .int (fz_b fr)]) ++ List.replicate (5 - (lg_sl ([.ref (a 0), .int f, .int g, .int (fz_b fr)])).length) Slot.unset).toArray = ls at hl ⊢
  have hl : lv_has ls 5 [(0, .ref (a 0)), (1, .int f), (2, .int g), (3, .int (fz_b fr))] := hl
  have k_48 := hts (.fieldLink RX1 48 "FreezeCredits$Calendar" "week" "I") (by decide +kernel)
  have inX1 : ∀ w ∈ u_ws RX1 TX1 6, w ∈ wsX1_markWeeks := by decide +kernel
  have k_23 := hts (.fieldLink RX1 23 "FreezeCredits$Calendar" "frozenWeeks" "[Z") (by decide +kernel)
  obtain ⟨hnt, hnt6, hnc, hnc30, hnq, hqc, hnl, hnl12, hwk, hwk39, hT, hQ, hG, hB⟩ := id wf
  refine lv_iload_n hx hb dX1_markWeeks_0 rfl (lv_at hl 1 rfl) ?_
  refine lv_if_lt (tgt := 15) hx hb dX1_markWeeks_1 (by decide) (fun c_1 => ?_) (fun c_1 => ?_)
  · skip
    refine lv_bipush (v := (-2)) hx hb dX1_markWeeks_15 (by decide) ?_
    have eF : fz_markw V wk f g fr = ((-2), V) := by simp [fz_markw, c_1]
    exact W.iret (v := (-2)) hx hb hr (fun t9 ht9 hW9 => ⟨⟨_, (), rfl, (by rw [eF] <;> rfl), fz_to ht9 (by rw [eF]; exact hP)⟩, hS.F ht9⟩) hS.2.2 dX1_markWeeks_17
  · skip
    refine lv_iload_n hx hb dX1_markWeeks_4 rfl (lv_at hl 2 rfl) ?_
    refine lv_iload_n hx hb dX1_markWeeks_5 rfl (lv_at hl 1 rfl) ?_
    refine lv_icmp_lt (tgt := 15) hx hb dX1_markWeeks_6 (by decide) (fun c_2 => ?_) (fun c_2 => ?_)
    · skip
      refine lv_bipush (v := (-2)) hx hb dX1_markWeeks_15 (by decide) ?_
      have eF : fz_markw V wk f g fr = ((-2), V) := by simp [fz_markw, c_1, c_2]
      exact W.iret (v := (-2)) hx hb hr (fun t9 ht9 hW9 => ⟨⟨_, (), rfl, (by rw [eF] <;> rfl), fz_to ht9 (by rw [eF]; exact hP)⟩, hS.F ht9⟩) hS.2.2 dX1_markWeeks_17
    · skip
      refine lv_iload_n hx hb dX1_markWeeks_9 rfl (lv_at hl 2 rfl) ?_
      refine lv_bipush (v := 39) hx hb dX1_markWeeks_10 (by decide) ?_
      refine lv_icmp_le (tgt := 18) hx hb dX1_markWeeks_12 (by decide) (fun c_3 => ?_) (fun c_3 => ?_)
      · skip
        refine lv_iload_n hx hb dX1_markWeeks_18 rfl (lv_at hl 1 rfl) ?_
        refine lv_aload_n hx hb dX1_markWeeks_19 rfl (lv_at hl 0 rfl) ?_
        refine va_get (D := D) (ci := 0) (v := .int (V 0 0)) (C := RX1) (T := TX1) (N := 6) hx hb hts inX1 hown hK hP 0 rfl rfl 0 (by decide) k_48 (fun _ h9 => h9) rfl dX1_markWeeks_20 ?_
        refine lv_icmp_ge (tgt := 29) hx hb dX1_markWeeks_23 (by decide) (fun c_4 => ?_) (fun c_4 => ?_)
        · skip
          obtain ⟨i, j, hij, hj, ei, ej⟩ := fz_rng c_1 c_2 c_3
          have hwi : wk ≤ i := by rw [hwk, ei] at c_4; exact (nI_leI (by omega) (by omega)).mp c_4
          refine lv_iload_n hx hb dX1_markWeeks_29 rfl (lv_at hl 1 rfl) ?_
          refine lv_istore (lv' := [(4, .int f), (0, .ref (a 0)), (1, .int f), (2, .int g), (3, .int (fz_b fr))]) hx hb dX1_markWeeks_30 hl (by decide) rfl (fun ls hl => ?_)
          rw [show g = nI j from ej] at hl
          rw [show f = nI i from ei] at hl
          refine fz_loopM (σ := Nat × (Nat → Int32)) (pc := 32) (nL := 5) (fun x => match x with | (k, Z) => [(0, .ref (a 0)), (2, .int (nI j)), (3, .int (fz_b fr)), (4, .int (nI k))]) (fun x => match x with | (k, Z) => CE cy a (V 0 0) (V 3 0) (V 8 0) (V 8 1) (V 17 0) (V 1) Z (V 4) (V 5) (V 6) (V 7) (V 9) (V 10) (V 11) (V 12) (V 13) (V 14) (V 15) (V 16) (V 18) (V 19) (V 20) (V 21) (V 22) (V 23)) (fun x => match x with | (k, Z) => (i ≤ k) ∧ (k ≤ j + 1) ∧ (Z = fz_mark (V 2) i (fz_b fr) k)) (fun x => match x with | (k, Z) => j + 1 - k) ?_ (i, V 2) (show (i ≤ i) ∧ (i ≤ j + 1) ∧ ((V 2) = fz_mark (V 2) i (fz_b fr) i) from ⟨(by omega), (by omega), (fz_mark_0 _ _ _).symm⟩) _ _ ls hP hD hS (lv_sub hl [1, 3, 4, 0] rfl)
          rintro ⟨k, Z⟩ ⟨hik, hkj, eZ⟩ ih32 H locs ls hP hD hS hl
          have hP : va_P D vwCl (CE cy a (V 0 0) (V 3 0) (V 8 0) (V 8 1) (V 17 0) (V 1) Z (V 4) (V 5) (V 6) (V 7) (V 9) (V 10) (V 11) (V 12) (V 13) (V 14) (V 15) (V 16) (V 18) (V 19) (V 20) (V 21) (V 22) (V 23)) H := hP
          have hD : va_D A (CE cy a (V 0 0) (V 3 0) (V 8 0) (V 8 1) (V 17 0) (V 1) Z (V 4) (V 5) (V 6) (V 7) (V 9) (V 10) (V 11) (V 12) (V 13) (V 14) (V 15) (V 16) (V 18) (V 19) (V 20) (V 21) (V 22) (V 23)) := hD
          have hik : i ≤ k := hik
          have hkj : k ≤ j + 1 := hkj
          have eZ : Z = fz_mark (V 2) i (fz_b fr) k := eZ
          have hl : lv_has ls 5 [(0, .ref (a 0)), (2, .int (nI j)), (3, .int (fz_b fr)), (4, .int (nI k))] := hl
          refine lv_iload hx hb dX1_markWeeks_32 (lv_at hl 3 rfl) ?_
          refine lv_iload_n hx hb dX1_markWeeks_34 rfl (lv_at hl 1 rfl) ?_
          refine fz_gtN (tgt := 52) hx hb k j rfl rfl dX1_markWeeks_35 (by decide) (by omega) (by omega) (fun c_5 => ?_) (fun c_5 => ?_)
          · skip
            refine lv_aload_n hx hb dX1_markWeeks_52 rfl (lv_at hl 0 rfl) ?_
            refine lv_iconst (v := 0) hx hb dX1_markWeeks_53 (by decide) ?_
            refine fz_retR (va_runV (As := [.int (nI 0)]) (rest := []) ⟨hx, hb, hml, hown, hts⟩ (c_X1_countFrozen l D cy a (fz_up V 2 Z) nt nc nq nl wk wf 0 (by omega)) (cwV 1 hts gX1_markWeeks_X1_countFrozen rfl rfl rfl (by decide +kernel) ⟨Nat.le_of_ble_eq_true rfl, Nat.le_of_ble_eq_true rfl⟩) (fz_preV (ci := 0) (q0 := 0) hK hP rfl rfl rfl fz_Nw_bl (fun U _ hW => fz_Nw_warm hW hE)) rfl rfl hl.1 rfl (lv_room (Nat.le_of_ble_eq_true rfl)) dX1_markWeeks_54 ⟨Nat.zero_le _, Nat.zero_le _⟩) ?_
            have eF : fz_markw V wk f g fr = (fz_frz (Z) 0, fz_up V 2 Z) := by simp [fz_markw, c_1, c_2, c_3, c_4, c_5, fz_tnat ei (by omega), fz_tnat ej (by omega), eZ, show k = j + 1 by omega]
            exact W.iret (v := (fz_frz (Z) 0)) hx hb hr (fun t9 ht9 hW9 => ⟨⟨_, (), rfl, (by rw [eF] <;> rfl), fz_to ht9 (by rw [eF]; exact hP)⟩, hS.F ht9⟩) hS.2.2 dX1_markWeeks_57
          · skip
            refine lv_aload_n hx hb dX1_markWeeks_38 rfl (lv_at hl 0 rfl) ?_
            refine va_get (D := D) (ci := 0) (v := .ref (a 2)) (C := RX1) (T := TX1) (N := 6) hx hb hts inX1 hown hK hP 0 rfl rfl 2 (by decide) k_23 (fun _ h9 => h9) rfl dX1_markWeeks_39 ?_
            refine lv_iload hx hb dX1_markWeeks_42 (lv_at hl 3 rfl) ?_
            refine lv_iload_n hx hb dX1_markWeeks_44 rfl (lv_at hl 2 rfl) ?_
            refine fz_zast (f := Z) hx hb hK hP hD hS 2 1 rfl rfl (y := fz_b fr) (fz_b_nar fr) k rfl (by omega) (by decide) dX1_markWeeks_45 (fun H locs hP hD hS => ?_)
            have hP : va_P D vwCl (CE cy a (V 0 0) (V 3 0) (V 8 0) (V 8 1) (V 17 0) (V 1) (upd Z k (fz_b fr)) (V 4) (V 5) (V 6) (V 7) (V 9) (V 10) (V 11) (V 12) (V 13) (V 14) (V 15) (V 16) (V 18) (V 19) (V 20) (V 21) (V 22) (V 23)) H := hP
            have hD : va_D A (CE cy a (V 0 0) (V 3 0) (V 8 0) (V 8 1) (V 17 0) (V 1) (upd Z k (fz_b fr)) (V 4) (V 5) (V 6) (V 7) (V 9) (V 10) (V 11) (V 12) (V 13) (V 14) (V 15) (V 16) (V 18) (V 19) (V 20) (V 21) (V 22) (V 23)) := hD
            refine lv_iinc (v := nI (k + 1)) (lv' := [(4, .int (nI (k + 1))), (0, .ref (a 0)), (2, .int (nI j)), (3, .int (fz_b fr))]) hx hb dX1_markWeeks_46 hl (k := 3) rfl (fz_inc rfl) (by decide) rfl (fun ls hl => ?_)
            refine lv_goto (tgt := 32) hx hb dX1_markWeeks_49 (by decide) ?_
            exact ih32 (k + 1, upd Z k (fz_b fr)) (show (i ≤ (k + 1)) ∧ ((k + 1) ≤ j + 1) ∧ ((upd Z k (fz_b fr)) = fz_mark (V 2) i (fz_b fr) (k + 1)) from ⟨(by omega), (by omega), (by rw [eZ, fz_mark_s hik])⟩) (by show j + 1 - (k + 1) < j + 1 - k; omega) _ _ ls hP hD hS (lv_sub hl [1, 2, 3, 0] rfl)
        · skip
          refine lv_bipush (v := (-3)) hx hb dX1_markWeeks_26 (by decide) ?_
          have eF : fz_markw V wk f g fr = ((-3), V) := by simp [fz_markw, c_1, c_2, c_3, c_4]
          exact W.iret (v := (-3)) hx hb hr (fun t9 ht9 hW9 => ⟨⟨_, (), rfl, (by rw [eF] <;> rfl), fz_to ht9 (by rw [eF]; exact hP)⟩, hS.F ht9⟩) hS.2.2 dX1_markWeeks_28
      · skip
        refine lv_bipush (v := (-2)) hx hb dX1_markWeeks_15 (by decide) ?_
        have eF : fz_markw V wk f g fr = ((-2), V) := by simp [fz_markw, c_1, c_2, c_3]
        exact W.iret (v := (-2)) hx hb hr (fun t9 ht9 hW9 => ⟨⟨_, (), rfl, (by rw [eF] <;> rfl), fz_to ht9 (by rw [eF]; exact hP)⟩, hS.F ht9⟩) hS.2.2 dX1_markWeeks_17
set_option maxHeartbeats 4000000 in
set_option maxRecDepth 100000 in
/-- Calendar.enterChange -/
theorem c_X1_enterChange (l : Launch) (D : va_G) (cy : Nat → ClassId) (a : Nat → Nat) (V : Nat → Nat → Int32) (nt nc nq nl wk : Nat) (wf : fz_wf V nt nc nq nl wk) (t x : Int32) : fz_MI l yX1_enterChange wsX1_enterChange 2 46 D cy [.ref (a 0), .int t, .int x] (CW cy a V) fz_Nw ((fz_enter V nc nq t x).1) (CW cy a ((fz_enter V nc nq t x).2)) := by
  refine Met.ofW (cc := cX1_enterChange) (maxL := 3) (ret := (some .int)) (by decide) rfl ?_
  intro p e s m args below meth c s₁ B hml hv
  obtain ⟨rfl, hP, hK, hD0, hE⟩ := hv
  have hx := B.exec
  have hb := B.bytes
  have hr := B.returns
  have hts := atoms_spec (ws := wsX1_enterChange) B.pre
  have hown : s.vm.findClass RX1 = some m.cls := findClass_of_methodNamed B.named
  have hlocks := B.notSynchronized
  have hD := fz_self hD0
  generalize hAe : fz_in (CW cy a V) = A at hD ⊢
  have hS : va_S A s.heap s.heap [] := va_S.rf
  have hl := lv_entry ([.ref (a 0), .int t, .int x]) (n := 3) (Nat.le_of_ble_eq_true rfl)
  rw [lg_entry_eq]
  generalize (lg_sl ([.ref (a 0), .int t, .int x]) ++ List.replicate (3 - (lg_sl ([.ref (a 0), .int t, .int x])).length) Slot.unset).toArray = ls at hl ⊢
  have hl : lv_has ls 3 [(0, .ref (a 0)), (1, .int t), (2, .int x)] := hl
  have k_30 := hts (.fieldLink RX1 30 "FreezeCredits$Calendar" "teams" "LFreezeCredits$Teams;") (by decide +kernel)
  have inX1 : ∀ w ∈ u_ws RX1 TX1 6, w ∈ wsX1_enterChange := by decide +kernel
  have k_37 := hts (.fieldLink RX1 37 "FreezeCredits$Calendar" "changes" "LFreezeCredits$Changes;") (by decide +kernel)
  have k_135 := hts (.fieldLink RX1 135 "FreezeCredits$Changes" "count" "I") (by decide +kernel)
  have inX2 : ∀ w ∈ u_ws RX2 TX2 10, w ∈ wsX1_enterChange := by decide +kernel
  have k_48 := hts (.fieldLink RX1 48 "FreezeCredits$Calendar" "week" "I") (by decide +kernel)
  obtain ⟨hnt, hnt6, hnc, hnc30, hnq, hqc, hnl, hnl12, hwk, hwk39, hT, hQ, hG, hB⟩ := id wf
  refine lv_aload_n hx hb dX1_enterChange_0 rfl (lv_at hl 0 rfl) ?_
  refine va_get (D := D) (ci := 0) (v := .ref (a 3)) (C := RX1) (T := TX1) (N := 6) hx hb hts inX1 hown hK hP 0 rfl rfl 3 (by decide) k_30 (fun _ h9 => h9) rfl dX1_enterChange_1 ?_
  refine lv_iload_n hx hb dX1_enterChange_4 rfl (lv_at hl 1 rfl) ?_
  refine fz_retR (va_runV (As := [.int t]) (rest := []) ⟨hx, hb, hml, hown, hts⟩ (c_X6_has l D cy a V t) (cwV 1 hts gX1_enterChange_X6_has rfl rfl rfl (by decide +kernel) ⟨Nat.le_of_ble_eq_true rfl, Nat.le_of_ble_eq_true rfl⟩) (fz_preV (ci := 5) (q0 := 0) hK (hP.sub (ws' := TW cy a V) [3, 4, 5, 6, 7] rfl) rfl rfl rfl fz_T_bl (fun _ _ _ => trivial)) rfl rfl hl.1 rfl (lv_room (Nat.le_of_ble_eq_true rfl)) dX1_enterChange_5 ⟨Nat.zero_le _, Nat.zero_le _⟩) ?_
  refine fz_ifneB (tgt := 13) hx hb dX1_enterChange_8 (by decide) (fun c_1 => ?_) (fun c_1 => ?_)
  · skip
    refine lv_iload_n hx hb dX1_enterChange_13 rfl (lv_at hl 2 rfl) ?_
    refine fz_retR (va_runSN (As := [.int x]) (rest := []) ⟨hx, hb, hml, hown, hts⟩ (c_X8_isRisk l D cy x) ⟨va_cnB 1 hts gX1_enterChange_X8_isRisk_n132 rfl rfl rfl (fz_Nw_at hE 0 rfl) (hts (.initialized RX8) (by decide +kernel)) (by decide +kernel) ⟨Nat.le_of_ble_eq_true rfl, Nat.le_of_ble_eq_true rfl⟩, hts (.static yX8_isRisk) (by decide +kernel), trivial⟩ (fz_preS hK (fz_nil) fz_T_bl (fun _ _ _ => trivial)) rfl rfl hl.1 rfl (lv_room (Nat.le_of_ble_eq_true rfl)) dX1_enterChange_14 ⟨Nat.zero_le _, Nat.zero_le _⟩) ?_
    refine fz_ifneB (tgt := 23) hx hb dX1_enterChange_17 (by decide) (fun c_2 => ?_) (fun c_2 => ?_)
    · skip
      refine lv_aload_n hx hb dX1_enterChange_23 rfl (lv_at hl 0 rfl) ?_
      refine va_get (D := D) (ci := 0) (v := .ref (a 8)) (C := RX1) (T := TX1) (N := 6) hx hb hts inX1 hown hK hP 0 rfl rfl 4 (by decide) k_37 (fun _ h9 => h9) rfl dX1_enterChange_24 ?_
      refine va_get (D := D) (ci := 1) (v := .int (V 8 0)) (C := RX2) (T := TX2) (N := 10) hx hb hts inX2 hown hK hP 8 rfl rfl 0 (by decide) k_135 (fun _ h9 => h9) rfl dX1_enterChange_27 ?_
      refine lv_bipush (v := 30) hx hb dX1_enterChange_30 (by decide) ?_
      refine fz_ltN (tgt := 38) hx hb nc 30 hnc rfl dX1_enterChange_32 (by decide) (by omega) (by omega) (fun c_3 => ?_) (fun c_3 => ?_)
      · skip
        refine lv_aload_n hx hb dX1_enterChange_38 rfl (lv_at hl 0 rfl) ?_
        refine va_get (D := D) (ci := 0) (v := .ref (a 8)) (C := RX1) (T := TX1) (N := 6) hx hb hts inX1 hown hK hP 0 rfl rfl 4 (by decide) k_37 (fun _ h9 => h9) rfl dX1_enterChange_39 ?_
        refine lv_iload_n hx hb dX1_enterChange_42 rfl (lv_at hl 1 rfl) ?_
        refine lv_iload_n hx hb dX1_enterChange_43 rfl (lv_at hl 2 rfl) ?_
        refine lv_aload_n hx hb dX1_enterChange_44 rfl (lv_at hl 0 rfl) ?_
        refine va_get (D := D) (ci := 0) (v := .int (V 0 0)) (C := RX1) (T := TX1) (N := 6) hx hb hts inX1 hown hK hP 0 rfl rfl 0 (by decide) k_48 (fun _ h9 => h9) rfl dX1_enterChange_45 ?_
        refine fz_retM (ws' := CE cy a (V 0 0) (V 3 0) (nI (nc + 1)) (nI (nq + 1)) (V 17 0) (V 1) (V 2) (V 4) (V 5) (V 6) (V 7) (upd (V 9) nc t) (upd (V 10) nc x) (upd (V 11) nc 0) (upd (V 12) nc 0) (upd (V 13) nc (V 0 0)) (upd (V 14) nc (-1)) (upd (V 15) nc 0) (fz_enq (upd (V 10) nc x) nc nq (V 16)) (V 18) (V 19) (V 20) (V 21) (V 22) (V 23)) (va_runV (As := [.int t, .int x, .int (V 0 0)]) (rest := []) ⟨hx, hb, hml, hown, hts⟩ (c_X2_append l D cy a V t x (V 0 0) nc hnc (by omega) nq hnq hqc (fun i hi => (hQ i hi).imp fun _ h => ⟨by omega, h.2⟩)) (cwV 3 hts gX1_enterChange_X2_append rfl rfl rfl (by decide +kernel) ⟨Nat.le_of_ble_eq_true rfl, Nat.le_of_ble_eq_true rfl⟩) (fz_preMV (ci := 1) (q0 := 0) hK (hP.sub (ws' := GW cy a V) [8, 9, 10, 11, 12, 13, 14, 15, 16] rfl) (hD.sub (ws' := GW cy a V) [8, 9, 10, 11, 12, 13, 14, 15, 16] (by decide) rfl) rfl rfl rfl fz_T_bl (fun _ _ _ => trivial)) rfl rfl hl.1 rfl (lv_room (Nat.le_of_ble_eq_true rfl)) dX1_enterChange_48 ⟨Nat.zero_le _, Nat.zero_le _⟩) hP hD hS [8, 9, 10, 11, 12, 13, 14, 15, 16] [0, 1, 2, 3, 4, 5, 6, 7, 17, 18, 19, 20, 21, 22, 23] rfl rfl [false, false, false, false, false, false, false, false, true, true, true, true, true, true, true, true, true, false, false, false, false, false, false, false] (And.intro rfl (And.intro rfl (And.intro rfl (And.intro rfl (And.intro rfl (And.intro rfl (And.intro rfl (And.intro rfl (And.intro rfl (And.intro rfl (And.intro rfl (And.intro rfl (And.intro rfl (And.intro rfl (And.intro rfl (And.intro rfl (And.intro rfl (And.intro rfl (And.intro rfl (And.intro rfl (And.intro rfl (And.intro rfl (And.intro rfl (And.intro rfl trivial)))))))))))))))))))))))) rfl rfl (fun H locs hP hD hS => ?_)
        have hP : va_P D vwCl (CE cy a (V 0 0) (V 3 0) (nI (nc + 1)) (nI (nq + 1)) (V 17 0) (V 1) (V 2) (V 4) (V 5) (V 6) (V 7) (upd (V 9) nc t) (upd (V 10) nc x) (upd (V 11) nc 0) (upd (V 12) nc 0) (upd (V 13) nc (V 0 0)) (upd (V 14) nc (-1)) (upd (V 15) nc 0) (fz_enq (upd (V 10) nc x) nc nq (V 16)) (V 18) (V 19) (V 20) (V 21) (V 22) (V 23)) H := hP
        have hD : va_D A (CE cy a (V 0 0) (V 3 0) (nI (nc + 1)) (nI (nq + 1)) (V 17 0) (V 1) (V 2) (V 4) (V 5) (V 6) (V 7) (upd (V 9) nc t) (upd (V 10) nc x) (upd (V 11) nc 0) (upd (V 12) nc 0) (upd (V 13) nc (V 0 0)) (upd (V 14) nc (-1)) (upd (V 15) nc 0) (fz_enq (upd (V 10) nc x) nc nq (V 16)) (V 18) (V 19) (V 20) (V 21) (V 22) (V 23)) := hD
        have eF : fz_enter V nc nq t x = (nI nc, fz_app V t x (V 0 0) nc nq) := by simp only [fz_enter, c_1, c_2, Nat.not_le.mpr c_3, ↓reduceIte, Bool.false_eq_true]
        exact W.iret (v := (nI nc)) hx hb hr (fun t9 ht9 hW9 => ⟨⟨_, (), rfl, (by rw [eF] <;> rfl), fz_to ht9 (by rw [eF]; exact hP)⟩, hS.F ht9⟩) hS.2.2 dX1_enterChange_51
      · skip
        refine lv_bipush (v := (-3)) hx hb dX1_enterChange_35 (by decide) ?_
        have eF : fz_enter V nc nq t x = ((-3), V) := by simp only [fz_enter, c_1, c_2, c_3, ↓reduceIte, Bool.false_eq_true]
        exact W.iret (v := (-3)) hx hb hr (fun t9 ht9 hW9 => ⟨⟨_, (), rfl, (by rw [eF] <;> rfl), fz_to ht9 (by rw [eF]; exact hP)⟩, hS.F ht9⟩) hS.2.2 dX1_enterChange_37
    · skip
      refine lv_bipush (v := (-2)) hx hb dX1_enterChange_20 (by decide) ?_
      have eF : fz_enter V nc nq t x = ((-2), V) := by simp only [fz_enter, c_1, c_2, ↓reduceIte, Bool.false_eq_true]
      exact W.iret (v := (-2)) hx hb hr (fun t9 ht9 hW9 => ⟨⟨_, (), rfl, (by rw [eF] <;> rfl), fz_to ht9 (by rw [eF]; exact hP)⟩, hS.F ht9⟩) hS.2.2 dX1_enterChange_22
  · skip
    refine lv_iconst (v := (-1)) hx hb dX1_enterChange_11 (by decide) ?_
    have eF : fz_enter V nc nq t x = ((-1), V) := by simp only [fz_enter, c_1, ↓reduceIte, Bool.false_eq_true]
    exact W.iret (v := (-1)) hx hb hr (fun t9 ht9 hW9 => ⟨⟨_, (), rfl, (by rw [eF] <;> rfl), fz_to ht9 (by rw [eF]; exact hP)⟩, hS.F ht9⟩) hS.2.2 dX1_enterChange_12
set_option maxHeartbeats 4000000 in
set_option maxRecDepth 100000 in
/-- Calendar.exemptChange -/
theorem c_X1_exemptChange (l : Launch) (D : va_G) (cy : Nat → ClassId) (a : Nat → Nat) (V : Nat → Nat → Int32) (nt nc nq nl wk : Nat) (wf : fz_wf V nt nc nq nl wk) (x : Int32) : fz_MI l yX1_exemptChange wsX1_exemptChange 3 66 D cy [.ref (a 0), .int x] (CW cy a V) fz_T ((fz_exempt V nc nl x).1) (CW cy a ((fz_exempt V nc nl x).2)) := by
  refine Met.ofW (cc := cX1_exemptChange) (maxL := 3) (ret := (some .int)) (by decide) rfl ?_
  intro p e s m args below meth c s₁ B hml hv
  obtain ⟨rfl, hP, hK, hD0, hE⟩ := hv
  have hx := B.exec
  have hb := B.bytes
  have hr := B.returns
  have hts := atoms_spec (ws := wsX1_exemptChange) B.pre
  have hown : s.vm.findClass RX1 = some m.cls := findClass_of_methodNamed B.named
  have hlocks := B.notSynchronized
  have hD := fz_self hD0
  generalize hAe : fz_in (CW cy a V) = A at hD ⊢
  have hS : va_S A s.heap s.heap [] := va_S.rf
  have hl := lv_entry ([.ref (a 0), .int x]) (n := 3) (Nat.le_of_ble_eq_true rfl)
  rw [lg_entry_eq]
  generalize (lg_sl ([.ref (a 0), .int x]) ++ List.replicate (3 - (lg_sl ([.ref (a 0), .int x])).length) Slot.unset).toArray = ls at hl ⊢
  have hl : lv_has ls 3 [(0, .ref (a 0)), (1, .int x)] := hl
  have k_37 := hts (.fieldLink RX1 37 "FreezeCredits$Calendar" "changes" "LFreezeCredits$Changes;") (by decide +kernel)
  have inX1 : ∀ w ∈ u_ws RX1 TX1 6, w ∈ wsX1_exemptChange := by decide +kernel
  have k_142 := hts (.fieldLink RX1 142 "FreezeCredits$Changes" "risk" "[I") (by decide +kernel)
  have inX2 : ∀ w ∈ u_ws RX2 TX2 10, w ∈ wsX1_exemptChange := by decide +kernel
  have k_30 := hts (.fieldLink RX1 30 "FreezeCredits$Calendar" "teams" "LFreezeCredits$Teams;") (by decide +kernel)
  have k_119 := hts (.fieldLink RX1 119 "FreezeCredits$Teams" "free" "[I") (by decide +kernel)
  have inX6 : ∀ w ∈ u_ws RX6 TX6 5, w ∈ wsX1_exemptChange := by decide +kernel
  have k_148 := hts (.fieldLink RX1 148 "FreezeCredits$Changes" "team" "[I") (by decide +kernel)
  have k_151 := hts (.fieldLink RX1 151 "FreezeCredits$Changes" "held" "[I") (by decide +kernel)
  have k_154 := hts (.fieldLink RX1 154 "FreezeCredits$Changes" "state" "[I") (by decide +kernel)
  obtain ⟨hnt, hnt6, hnc, hnc30, hnq, hqc, hnl, hnl12, hwk, hwk39, hT, hQ, hG, hB⟩ := id wf
  refine lv_aload_n hx hb dX1_exemptChange_0 rfl (lv_at hl 0 rfl) ?_
  refine va_get (D := D) (ci := 0) (v := .ref (a 8)) (C := RX1) (T := TX1) (N := 6) hx hb hts inX1 hown hK hP 0 rfl rfl 4 (by decide) k_37 (fun _ h9 => h9) rfl dX1_exemptChange_1 ?_
  refine lv_iload_n hx hb dX1_exemptChange_4 rfl (lv_at hl 1 rfl) ?_
  refine fz_retR (va_runV (As := [.int x]) (rest := []) ⟨hx, hb, hml, hown, hts⟩ (c_X2_has l D cy a V x) (cwV 1 hts gX1_exemptChange_X2_has rfl rfl rfl (by decide +kernel) ⟨Nat.le_of_ble_eq_true rfl, Nat.le_of_ble_eq_true rfl⟩) (fz_preV (ci := 1) (q0 := 0) hK (hP.sub (ws' := GW cy a V) [8, 9, 10, 11, 12, 13, 14, 15, 16] rfl) rfl rfl rfl fz_T_bl (fun _ _ _ => trivial)) rfl rfl hl.1 rfl (lv_room (Nat.le_of_ble_eq_true rfl)) dX1_exemptChange_5 ⟨Nat.zero_le _, Nat.zero_le _⟩) ?_
  refine fz_ifneB (tgt := 13) hx hb dX1_exemptChange_8 (by decide) (fun c_1 => ?_) (fun c_1 => ?_)
  · skip
    obtain ⟨z, hz, ez⟩ := fz_ix_t (by omega) (show fz_ix x (nI nc) = true by rw [← hnc]; exact c_1)
    have ez' := fz_tnat ez (by omega)
    refine lv_aload_n hx hb dX1_exemptChange_13 rfl (lv_at hl 0 rfl) ?_
    refine lv_iload_n hx hb dX1_exemptChange_14 rfl (lv_at hl 1 rfl) ?_
    refine fz_at0 (show x = nI z from ez) ?_
    refine fz_retR (va_runV (As := [.int (nI z)]) (rest := []) ⟨hx, hb, hml, hown, hts⟩ (c_X1_reasonAgainst l D cy a V nt nc nq nl wk wf z hz) (cwV 1 hts gX1_exemptChange_X1_reasonAgainst rfl rfl rfl (by decide +kernel) ⟨Nat.le_of_ble_eq_true rfl, Nat.le_of_ble_eq_true rfl⟩) (fz_preV (ci := 0) (q0 := 0) hK hP rfl rfl rfl fz_T_bl (fun _ _ _ => trivial)) rfl rfl hl.1 rfl (lv_room (Nat.le_of_ble_eq_true rfl)) dX1_exemptChange_15 ⟨Nat.zero_le _, Nat.zero_le _⟩) ?_
    refine lv_if_eq (tgt := 24) hx hb dX1_exemptChange_18 (by decide) (fun c_2 => ?_) (fun c_2 => ?_)
    · skip
      obtain ⟨j, hj, ej⟩ := hT z hz
      have ej' := fz_tnat ej (by omega)
      refine lv_aload_n hx hb dX1_exemptChange_24 rfl (lv_at hl 0 rfl) ?_
      refine lv_aload_n hx hb dX1_exemptChange_25 rfl (lv_at hl 0 rfl) ?_
      refine va_get (D := D) (ci := 0) (v := .ref (a 8)) (C := RX1) (T := TX1) (N := 6) hx hb hts inX1 hown hK hP 0 rfl rfl 4 (by decide) k_37 (fun _ h9 => h9) rfl dX1_exemptChange_26 ?_
      refine va_get (D := D) (ci := 1) (v := .ref (a 10)) (C := RX2) (T := TX2) (N := 10) hx hb hts inX2 hown hK hP 8 rfl rfl 2 (by decide) k_142 (fun _ h9 => h9) rfl dX1_exemptChange_29 ?_
      refine lv_iload_n hx hb dX1_exemptChange_32 rfl (lv_at hl 1 rfl) ?_
      refine fz_iald (f := V 10) hx hb hK hP 10 0 rfl rfl z ez (by omega) (by decide) dX1_exemptChange_33 ?_
      refine fz_retR (va_runV (As := [.int (V 10 z)]) (rest := []) ⟨hx, hb, hml, hown, hts⟩ (c_X1_creditsOf l D cy a V nt nc nq nl wk wf (V 10 z)) (cwV 1 hts gX1_exemptChange_X1_creditsOf rfl rfl rfl (by decide +kernel) ⟨Nat.le_of_ble_eq_true rfl, Nat.le_of_ble_eq_true rfl⟩) (fz_preV (ci := 0) (q0 := 0) hK hP rfl rfl rfl fz_T_bl (fun _ _ _ => trivial)) rfl rfl hl.1 rfl (lv_room (Nat.le_of_ble_eq_true rfl)) dX1_exemptChange_34 ⟨Nat.zero_le _, Nat.zero_le _⟩) ?_
      refine lv_istore_n (lv' := [(2, .int ((V 10 z) * V 1 0)), (0, .ref (a 0)), (1, .int x)]) hx hb dX1_exemptChange_37 rfl hl (by decide) rfl (fun ls hl => ?_)
      refine lv_aload_n hx hb dX1_exemptChange_38 rfl (lv_at hl 1 rfl) ?_
      refine va_get (D := D) (ci := 0) (v := .ref (a 3)) (C := RX1) (T := TX1) (N := 6) hx hb hts inX1 hown hK hP 0 rfl rfl 3 (by decide) k_30 (fun _ h9 => h9) rfl dX1_exemptChange_39 ?_
      refine va_get (D := D) (ci := 5) (v := .ref (a 4)) (C := RX6) (T := TX6) (N := 5) hx hb hts inX6 hown hK hP 3 rfl rfl 1 (by decide) k_119 (fun _ h9 => h9) rfl dX1_exemptChange_42 ?_
      refine lv_aload_n hx hb dX1_exemptChange_45 rfl (lv_at hl 1 rfl) ?_
      refine va_get (D := D) (ci := 0) (v := .ref (a 8)) (C := RX1) (T := TX1) (N := 6) hx hb hts inX1 hown hK hP 0 rfl rfl 4 (by decide) k_37 (fun _ h9 => h9) rfl dX1_exemptChange_46 ?_
      refine va_get (D := D) (ci := 1) (v := .ref (a 9)) (C := RX2) (T := TX2) (N := 10) hx hb hts inX2 hown hK hP 8 rfl rfl 1 (by decide) k_148 (fun _ h9 => h9) rfl dX1_exemptChange_49 ?_
      refine lv_iload_n hx hb dX1_exemptChange_52 rfl (lv_at hl 2 rfl) ?_
      refine fz_iald (f := V 9) hx hb hK hP 9 0 rfl rfl z ez (by omega) (by decide) dX1_exemptChange_53 ?_
      refine lv_dup2_11 hx hb dX1_exemptChange_54 rfl rfl ?_
      refine fz_iald (f := V 4) hx hb hK hP 4 0 rfl rfl j ej (by omega) (by decide) dX1_exemptChange_55 ?_
      refine lv_iload_n hx hb dX1_exemptChange_56 rfl (lv_at hl 0 rfl) ?_
      refine lv_isub hx hb dX1_exemptChange_57 ?_
      refine fz_iast (f := V 4) hx hb hK hP hD hS 4 0 rfl rfl j ej (by omega) (by decide) dX1_exemptChange_58 (fun H locs hP hD hS => ?_)
      have hP : va_P D vwCl (CE cy a (V 0 0) (V 3 0) (V 8 0) (V 8 1) (V 17 0) (V 1) (V 2) (upd (V 4) j ((V 4 j) - ((V 10 z) * V 1 0))) (V 5) (V 6) (V 7) (V 9) (V 10) (V 11) (V 12) (V 13) (V 14) (V 15) (V 16) (V 18) (V 19) (V 20) (V 21) (V 22) (V 23)) H := hP
      have hD : va_D A (CE cy a (V 0 0) (V 3 0) (V 8 0) (V 8 1) (V 17 0) (V 1) (V 2) (upd (V 4) j ((V 4 j) - ((V 10 z) * V 1 0))) (V 5) (V 6) (V 7) (V 9) (V 10) (V 11) (V 12) (V 13) (V 14) (V 15) (V 16) (V 18) (V 19) (V 20) (V 21) (V 22) (V 23)) := hD
      refine lv_aload_n hx hb dX1_exemptChange_59 rfl (lv_at hl 1 rfl) ?_
      refine va_get (D := D) (ci := 0) (v := .ref (a 8)) (C := RX1) (T := TX1) (N := 6) hx hb hts inX1 hown hK hP 0 rfl rfl 4 (by decide) k_37 (fun _ h9 => h9) rfl dX1_exemptChange_60 ?_
      refine va_get (D := D) (ci := 1) (v := .ref (a 12)) (C := RX2) (T := TX2) (N := 10) hx hb hts inX2 hown hK hP 8 rfl rfl 4 (by decide) k_151 (fun _ h9 => h9) rfl dX1_exemptChange_63 ?_
      refine lv_iload_n hx hb dX1_exemptChange_66 rfl (lv_at hl 2 rfl) ?_
      refine lv_iload_n hx hb dX1_exemptChange_67 rfl (lv_at hl 0 rfl) ?_
      refine fz_iast (f := V 12) hx hb hK hP hD hS 12 0 rfl rfl z ez (by omega) (by decide) dX1_exemptChange_68 (fun H locs hP hD hS => ?_)
      have hP : va_P D vwCl (CE cy a (V 0 0) (V 3 0) (V 8 0) (V 8 1) (V 17 0) (V 1) (V 2) (upd (V 4) j ((V 4 j) - ((V 10 z) * V 1 0))) (V 5) (V 6) (V 7) (V 9) (V 10) (V 11) (upd (V 12) z ((V 10 z) * V 1 0)) (V 13) (V 14) (V 15) (V 16) (V 18) (V 19) (V 20) (V 21) (V 22) (V 23)) H := hP
      have hD : va_D A (CE cy a (V 0 0) (V 3 0) (V 8 0) (V 8 1) (V 17 0) (V 1) (V 2) (upd (V 4) j ((V 4 j) - ((V 10 z) * V 1 0))) (V 5) (V 6) (V 7) (V 9) (V 10) (V 11) (upd (V 12) z ((V 10 z) * V 1 0)) (V 13) (V 14) (V 15) (V 16) (V 18) (V 19) (V 20) (V 21) (V 22) (V 23)) := hD
      refine lv_aload_n hx hb dX1_exemptChange_69 rfl (lv_at hl 1 rfl) ?_
      refine va_get (D := D) (ci := 0) (v := .ref (a 8)) (C := RX1) (T := TX1) (N := 6) hx hb hts inX1 hown hK hP 0 rfl rfl 4 (by decide) k_37 (fun _ h9 => h9) rfl dX1_exemptChange_70 ?_
      refine va_get (D := D) (ci := 1) (v := .ref (a 11)) (C := RX2) (T := TX2) (N := 10) hx hb hts inX2 hown hK hP 8 rfl rfl 3 (by decide) k_154 (fun _ h9 => h9) rfl dX1_exemptChange_73 ?_
      refine lv_iload_n hx hb dX1_exemptChange_76 rfl (lv_at hl 2 rfl) ?_
      refine lv_iconst (v := 1) hx hb dX1_exemptChange_77 (by decide) ?_
      refine fz_iast (f := V 11) hx hb hK hP hD hS 11 0 rfl rfl z ez (by omega) (by decide) dX1_exemptChange_78 (fun H locs hP hD hS => ?_)
      have hP : va_P D vwCl (CE cy a (V 0 0) (V 3 0) (V 8 0) (V 8 1) (V 17 0) (V 1) (V 2) (upd (V 4) j ((V 4 j) - ((V 10 z) * V 1 0))) (V 5) (V 6) (V 7) (V 9) (V 10) (upd (V 11) z 1) (upd (V 12) z ((V 10 z) * V 1 0)) (V 13) (V 14) (V 15) (V 16) (V 18) (V 19) (V 20) (V 21) (V 22) (V 23)) H := hP
      have hD : va_D A (CE cy a (V 0 0) (V 3 0) (V 8 0) (V 8 1) (V 17 0) (V 1) (V 2) (upd (V 4) j ((V 4 j) - ((V 10 z) * V 1 0))) (V 5) (V 6) (V 7) (V 9) (V 10) (upd (V 11) z 1) (upd (V 12) z ((V 10 z) * V 1 0)) (V 13) (V 14) (V 15) (V 16) (V 18) (V 19) (V 20) (V 21) (V 22) (V 23)) := hD
      refine lv_iload_n hx hb dX1_exemptChange_79 rfl (lv_at hl 0 rfl) ?_
      have eF : fz_exempt V nc nl x = fz_exempt2 V z j := by simp only [fz_exempt, c_1, c_2, ez', ej', ↓reduceIte, Bool.false_eq_true]
      exact W.iret (v := ((V 10 z) * V 1 0)) hx hb hr (fun t9 ht9 hW9 => ⟨⟨_, (), rfl, (by rw [eF] <;> rfl), fz_to ht9 (by rw [eF]; exact hP)⟩, hS.F ht9⟩) hS.2.2 dX1_exemptChange_80
    · skip
      refine lv_bipush (v := (-3)) hx hb dX1_exemptChange_21 (by decide) ?_
      have eF : fz_exempt V nc nl x = ((-3), V) := by simp only [fz_exempt, c_1, c_2, ez', ↓reduceIte, Bool.false_eq_true]
      exact W.iret (v := (-3)) hx hb hr (fun t9 ht9 hW9 => ⟨⟨_, (), rfl, (by rw [eF] <;> rfl), fz_to ht9 (by rw [eF]; exact hP)⟩, hS.F ht9⟩) hS.2.2 dX1_exemptChange_23
  · skip
    refine lv_iconst (v := (-1)) hx hb dX1_exemptChange_11 (by decide) ?_
    have eF : fz_exempt V nc nl x = ((-1), V) := by simp only [fz_exempt, c_1, ↓reduceIte, Bool.false_eq_true]
    exact W.iret (v := (-1)) hx hb hr (fun t9 ht9 hW9 => ⟨⟨_, (), rfl, (by rw [eF] <;> rfl), fz_to ht9 (by rw [eF]; exact hP)⟩, hS.F ht9⟩) hS.2.2 dX1_exemptChange_12
set_option maxHeartbeats 4000000 in
set_option maxRecDepth 100000 in
/-- Calendar.makeChange -/
theorem c_X1_makeChange (l : Launch) (D : va_G) (cy : Nat → ClassId) (a : Nat → Nat) (V : Nat → Nat → Int32) (nt nc nq nl wk : Nat) (wf : fz_wf V nt nc nq nl wk) (x : Int32) (fr : Bool) : fz_MI l yX1_makeChange wsX1_makeChange 2 46 D cy [.ref (a 0), .int x, .int (fz_b fr)] (CW cy a V) fz_Nw ((fz_make V nc nq wk x fr).1) (CW cy a ((fz_make V nc nq wk x fr).2)) := by
  refine Met.ofW (cc := cX1_makeChange) (maxL := 7) (ret := (some .int)) (by decide) rfl ?_
  intro p e s m args below meth c s₁ B hml hv
  obtain ⟨rfl, hP, hK, hD0, hE⟩ := hv
  have hx := B.exec
  have hb := B.bytes
  have hr := B.returns
  have hts := atoms_spec (ws := wsX1_makeChange) B.pre
  have hown : s.vm.findClass RX1 = some m.cls := findClass_of_methodNamed B.named
  have hlocks := B.notSynchronized
  have hD := fz_self hD0
  generalize hAe : fz_in (CW cy a V) = A at hD ⊢
  have hS : va_S A s.heap s.heap [] := va_S.rf
  have hl := lv_entry ([.ref (a 0), .int x, .int (fz_b fr)]) (n := 7) (Nat.le_of_ble_eq_true rfl)
  rw [lg_entry_eq]
  generalize (lg_sl ([.ref (a 0), .int x, .int (fz_b fr)]) ++ List.replicate (7 - (lg_sl ([.ref (a 0), .int x, .int (fz_b fr)])).length) Slot.unset).toArray = ls at hl ⊢
  have hl : lv_has ls 7 [(0, .ref (a 0)), (1, .int x), (2, .int (fz_b fr))] := hl
  have k_37 := hts (.fieldLink RX1 37 "FreezeCredits$Calendar" "changes" "LFreezeCredits$Changes;") (by decide +kernel)
  have inX1 : ∀ w ∈ u_ws RX1 TX1 6, w ∈ wsX1_makeChange := by decide +kernel
  have k_154 := hts (.fieldLink RX1 154 "FreezeCredits$Changes" "state" "[I") (by decide +kernel)
  have inX2 : ∀ w ∈ u_ws RX2 TX2 10, w ∈ wsX1_makeChange := by decide +kernel
  have k_23 := hts (.fieldLink RX1 23 "FreezeCredits$Calendar" "frozenWeeks" "[Z") (by decide +kernel)
  have k_48 := hts (.fieldLink RX1 48 "FreezeCredits$Calendar" "week" "I") (by decide +kernel)
  have k_160 := hts (.fieldLink RX1 160 "FreezeCredits$Changes" "madeIn" "[I") (by decide +kernel)
  have k_163 := hts (.fieldLink RX1 163 "FreezeCredits$Changes" "madeExempt" "[I") (by decide +kernel)
  have k_148 := hts (.fieldLink RX1 148 "FreezeCredits$Changes" "team" "[I") (by decide +kernel)
  have k_30 := hts (.fieldLink RX1 30 "FreezeCredits$Calendar" "teams" "LFreezeCredits$Teams;") (by decide +kernel)
  have k_119 := hts (.fieldLink RX1 119 "FreezeCredits$Teams" "free" "[I") (by decide +kernel)
  have inX6 : ∀ w ∈ u_ws RX6 TX6 5, w ∈ wsX1_makeChange := by decide +kernel
  have k_18 := hts (.fieldLink RX1 18 "FreezeCredits$Calendar" "settings" "[I") (by decide +kernel)
  have k_142 := hts (.fieldLink RX1 142 "FreezeCredits$Changes" "risk" "[I") (by decide +kernel)
  have k_173 := hts (.fieldLink RX1 173 "FreezeCredits$Teams" "burnt" "[I") (by decide +kernel)
  obtain ⟨hnt, hnt6, hnc, hnc30, hnq, hqc, hnl, hnl12, hwk, hwk39, hT, hQ, hG, hB⟩ := id wf
  refine lv_aload_n hx hb dX1_makeChange_0 rfl (lv_at hl 0 rfl) ?_
  refine va_get (D := D) (ci := 0) (v := .ref (a 8)) (C := RX1) (T := TX1) (N := 6) hx hb hts inX1 hown hK hP 0 rfl rfl 4 (by decide) k_37 (fun _ h9 => h9) rfl dX1_makeChange_1 ?_
  refine lv_iload_n hx hb dX1_makeChange_4 rfl (lv_at hl 1 rfl) ?_
  refine fz_retR (va_runV (As := [.int x]) (rest := []) ⟨hx, hb, hml, hown, hts⟩ (c_X2_has l D cy a V x) (cwV 1 hts gX1_makeChange_X2_has rfl rfl rfl (by decide +kernel) ⟨Nat.le_of_ble_eq_true rfl, Nat.le_of_ble_eq_true rfl⟩) (fz_preV (ci := 1) (q0 := 0) hK (hP.sub (ws' := GW cy a V) [8, 9, 10, 11, 12, 13, 14, 15, 16] rfl) rfl rfl rfl fz_T_bl (fun _ _ _ => trivial)) rfl rfl hl.1 rfl (lv_room (Nat.le_of_ble_eq_true rfl)) dX1_makeChange_5 ⟨Nat.zero_le _, Nat.zero_le _⟩) ?_
  refine fz_ifneB (tgt := 13) hx hb dX1_makeChange_8 (by decide) (fun c_1 => ?_) (fun c_1 => ?_)
  · skip
    obtain ⟨z, hz, ez⟩ := fz_ix_t (by omega) (show fz_ix x (nI nc) = true by rw [← hnc]; exact c_1)
    have ez' := fz_tnat ez (by omega)
    refine lv_aload_n hx hb dX1_makeChange_13 rfl (lv_at hl 0 rfl) ?_
    refine va_get (D := D) (ci := 0) (v := .ref (a 8)) (C := RX1) (T := TX1) (N := 6) hx hb hts inX1 hown hK hP 0 rfl rfl 4 (by decide) k_37 (fun _ h9 => h9) rfl dX1_makeChange_14 ?_
    refine va_get (D := D) (ci := 1) (v := .ref (a 11)) (C := RX2) (T := TX2) (N := 10) hx hb hts inX2 hown hK hP 8 rfl rfl 3 (by decide) k_154 (fun _ h9 => h9) rfl dX1_makeChange_17 ?_
    refine lv_iload_n hx hb dX1_makeChange_20 rfl (lv_at hl 1 rfl) ?_
    refine fz_iald (f := V 11) hx hb hK hP 11 0 rfl rfl z ez (by omega) (by decide) dX1_makeChange_21 ?_
    refine lv_iconst (v := 1) hx hb dX1_makeChange_22 (by decide) ?_
    refine lv_icmp_ne (tgt := 30) hx hb dX1_makeChange_23 (by decide) (fun c_2 => ?_) (fun c_2 => ?_)
    · skip
      refine lv_iconst (v := 0) hx hb dX1_makeChange_30 (by decide) ?_
      refine lv_istore_n (lv' := [(3, .int 0), (0, .ref (a 0)), (1, .int x), (2, .int (fz_b fr))]) hx hb dX1_makeChange_31 rfl hl (by decide) rfl (fun ls hl => ?_)
      refine lv_aload_n hx hb dX1_makeChange_32 rfl (lv_at hl 1 rfl) ?_
      refine va_get (D := D) (ci := 0) (v := .ref (a 8)) (C := RX1) (T := TX1) (N := 6) hx hb hts inX1 hown hK hP 0 rfl rfl 4 (by decide) k_37 (fun _ h9 => h9) rfl dX1_makeChange_33 ?_
      refine lv_iload_n hx hb dX1_makeChange_36 rfl (lv_at hl 2 rfl) ?_
      refine fz_at0 (show x = nI z from ez) ?_
      refine fz_retR (va_runV (As := [.int (nI z)]) (rest := []) ⟨hx, hb, hml, hown, hts⟩ (c_X2_isOpen l D cy a V z (by omega)) (cwV 1 hts gX1_makeChange_X2_isOpen rfl rfl rfl (by decide +kernel) ⟨Nat.le_of_ble_eq_true rfl, Nat.le_of_ble_eq_true rfl⟩) (fz_preV (ci := 1) (q0 := 0) hK (hP.sub (ws' := GW cy a V) [8, 9, 10, 11, 12, 13, 14, 15, 16] rfl) rfl rfl rfl fz_T_bl (fun _ _ _ => trivial)) rfl rfl hl.1 rfl (lv_room (Nat.le_of_ble_eq_true rfl)) dX1_makeChange_37 ⟨Nat.zero_le _, Nat.zero_le _⟩) ?_
      refine fz_ifeqB (tgt := 59) hx hb dX1_makeChange_40 (by decide) (fun c_3 => ?_) (fun c_3 => ?_)
      · skip
        refine lv_bipush (v := (-3)) hx hb dX1_makeChange_59 (by decide) ?_
        have eF : fz_make V nc nq wk x fr = ((-3), V) := by simp only [fz_make, c_1, c_3, ez', c_2, ↓reduceIte, Bool.false_eq_true]
        exact W.iret (v := (-3)) hx hb hr (fun t9 ht9 hW9 => ⟨⟨_, (), rfl, (by rw [eF] <;> rfl), fz_to ht9 (by rw [eF]; exact hP)⟩, hS.F ht9⟩) hS.2.2 dX1_makeChange_61
      · skip
        refine lv_iload_n hx hb dX1_makeChange_43 rfl (lv_at hl 0 rfl) ?_
        refine lv_if_ne (tgt := 62) hx hb dX1_makeChange_44 (by decide) (fun c_4 => ?_) (fun c_4 => ?_)
        · exact absurd c_4 (by decide)
        · skip
          refine lv_aload_n hx hb dX1_makeChange_47 rfl (lv_at hl 1 rfl) ?_
          refine va_get (D := D) (ci := 0) (v := .ref (a 2)) (C := RX1) (T := TX1) (N := 6) hx hb hts inX1 hown hK hP 0 rfl rfl 2 (by decide) k_23 (fun _ h9 => h9) rfl dX1_makeChange_48 ?_
          refine lv_aload_n hx hb dX1_makeChange_51 rfl (lv_at hl 1 rfl) ?_
          refine va_get (D := D) (ci := 0) (v := .int (V 0 0)) (C := RX1) (T := TX1) (N := 6) hx hb hts inX1 hown hK hP 0 rfl rfl 0 (by decide) k_48 (fun _ h9 => h9) rfl dX1_makeChange_52 ?_
          refine fz_zald (f := V 2) hx hb hK hP 2 1 rfl rfl wk hwk (by omega) (by decide) dX1_makeChange_55 ?_
          refine lv_if_eq (tgt := 62) hx hb dX1_makeChange_56 (by decide) (fun c_5 => ?_) (fun c_5 => ?_)
          · skip
            obtain ⟨j, hj, ej⟩ := hT z hz
            have ej' := fz_tnat ej (by omega)
            refine lv_aload_n hx hb dX1_makeChange_62 rfl (lv_at hl 1 rfl) ?_
            refine va_get (D := D) (ci := 0) (v := .ref (a 8)) (C := RX1) (T := TX1) (N := 6) hx hb hts inX1 hown hK hP 0 rfl rfl 4 (by decide) k_37 (fun _ h9 => h9) rfl dX1_makeChange_63 ?_
            refine va_get (D := D) (ci := 1) (v := .ref (a 14)) (C := RX2) (T := TX2) (N := 10) hx hb hts inX2 hown hK hP 8 rfl rfl 6 (by decide) k_160 (fun _ h9 => h9) rfl dX1_makeChange_66 ?_
            refine lv_iload_n hx hb dX1_makeChange_69 rfl (lv_at hl 2 rfl) ?_
            refine lv_aload_n hx hb dX1_makeChange_70 rfl (lv_at hl 1 rfl) ?_
            refine va_get (D := D) (ci := 0) (v := .int (V 0 0)) (C := RX1) (T := TX1) (N := 6) hx hb hts inX1 hown hK hP 0 rfl rfl 0 (by decide) k_48 (fun _ h9 => h9) rfl dX1_makeChange_71 ?_
            refine fz_iast (f := V 14) hx hb hK hP hD hS 14 0 rfl rfl z ez (by omega) (by decide) dX1_makeChange_74 (fun H locs hP hD hS => ?_)
            have hP : va_P D vwCl (CE cy a (V 0 0) (V 3 0) (V 8 0) (V 8 1) (V 17 0) (V 1) (V 2) (V 4) (V 5) (V 6) (V 7) (V 9) (V 10) (V 11) (V 12) (V 13) (upd (V 14) z (V 0 0)) (V 15) (V 16) (V 18) (V 19) (V 20) (V 21) (V 22) (V 23)) H := hP
            have hD : va_D A (CE cy a (V 0 0) (V 3 0) (V 8 0) (V 8 1) (V 17 0) (V 1) (V 2) (V 4) (V 5) (V 6) (V 7) (V 9) (V 10) (V 11) (V 12) (V 13) (upd (V 14) z (V 0 0)) (V 15) (V 16) (V 18) (V 19) (V 20) (V 21) (V 22) (V 23)) := hD
            refine lv_aload_n hx hb dX1_makeChange_75 rfl (lv_at hl 1 rfl) ?_
            refine va_get (D := D) (ci := 0) (v := .ref (a 8)) (C := RX1) (T := TX1) (N := 6) hx hb hts inX1 hown hK hP 0 rfl rfl 4 (by decide) k_37 (fun _ h9 => h9) rfl dX1_makeChange_76 ?_
            refine va_get (D := D) (ci := 1) (v := .ref (a 15)) (C := RX2) (T := TX2) (N := 10) hx hb hts inX2 hown hK hP 8 rfl rfl 7 (by decide) k_163 (fun _ h9 => h9) rfl dX1_makeChange_79 ?_
            refine lv_iload_n hx hb dX1_makeChange_82 rfl (lv_at hl 2 rfl) ?_
            refine lv_iload_n hx hb dX1_makeChange_83 rfl (lv_at hl 0 rfl) ?_
            refine fz_retR (va_runSN (As := [.int 0]) (rest := [.int x, .ref (a 15)]) ⟨hx, hb, hml, hown, hts⟩ (c_X8_asNumber l D cy 0) ⟨va_cnB 1 hts gX1_makeChange_X8_asNumber_n166 rfl rfl rfl (fz_Nw_at hE 1 rfl) (hts (.initialized RX8) (by decide +kernel)) (by decide +kernel) ⟨Nat.le_of_ble_eq_true rfl, Nat.le_of_ble_eq_true rfl⟩, hts (.static yX8_asNumber) (by decide +kernel), trivial⟩ (fz_preS hK (fz_nil) fz_T_bl (fun _ _ _ => trivial)) rfl rfl hl.1 rfl (lv_room (Nat.le_of_ble_eq_true rfl)) dX1_makeChange_84 ⟨Nat.zero_le _, Nat.zero_le _⟩) ?_
            refine fz_top (y := 0) (by decide) ?_
            refine fz_iast (f := V 15) hx hb hK hP hD hS 15 0 rfl rfl z ez (by omega) (by decide) dX1_makeChange_87 (fun H locs hP hD hS => ?_)
            have hP : va_P D vwCl (CE cy a (V 0 0) (V 3 0) (V 8 0) (V 8 1) (V 17 0) (V 1) (V 2) (V 4) (V 5) (V 6) (V 7) (V 9) (V 10) (V 11) (V 12) (V 13) (upd (V 14) z (V 0 0)) (upd (V 15) z 0) (V 16) (V 18) (V 19) (V 20) (V 21) (V 22) (V 23)) H := hP
            have hD : va_D A (CE cy a (V 0 0) (V 3 0) (V 8 0) (V 8 1) (V 17 0) (V 1) (V 2) (V 4) (V 5) (V 6) (V 7) (V 9) (V 10) (V 11) (V 12) (V 13) (upd (V 14) z (V 0 0)) (upd (V 15) z 0) (V 16) (V 18) (V 19) (V 20) (V 21) (V 22) (V 23)) := hD
            refine lv_aload_n hx hb dX1_makeChange_88 rfl (lv_at hl 1 rfl) ?_
            refine va_get (D := D) (ci := 0) (v := .ref (a 8)) (C := RX1) (T := TX1) (N := 6) hx hb hts inX1 hown hK hP 0 rfl rfl 4 (by decide) k_37 (fun _ h9 => h9) rfl dX1_makeChange_89 ?_
            refine lv_iload_n hx hb dX1_makeChange_92 rfl (lv_at hl 2 rfl) ?_
            refine lv_iload_n hx hb dX1_makeChange_93 rfl (lv_at hl 3 rfl) ?_
            refine fz_ifeqB (tgt := 101) hx hb dX1_makeChange_94 (by decide) (fun c_6 => ?_) (fun c_6 => ?_)
            · skip
              refine lv_iconst (v := 2) hx hb dX1_makeChange_101 (by decide) ?_
              refine fz_at1 (show x = nI z from ez) ?_
              refine fz_retM (ws' := CE cy a (V 0 0) (V 3 0) (V 8 0) (nI (fz_deq (nI z) ((V 16)) nq).1) (V 17 0) (V 1) (V 2) (V 4) (V 5) (V 6) (V 7) (V 9) (V 10) (upd ((V 11)) z 2) (upd ((V 12)) z 0) (V 13) (upd (V 14) z (V 0 0)) (upd (V 15) z 0) ((fz_deq (nI z) ((V 16)) nq).2) (V 18) (V 19) (V 20) (V 21) (V 22) (V 23)) (va_runV (As := [.int (nI z), .int 2]) (rest := []) ⟨hx, hb, hml, hown, hts⟩ (c_X2_close l D cy a (fz_up (fz_up V 14 (upd (V 14) z (V 0 0))) 15 (upd (V 15) z 0)) z (by omega) 2 nq hnq (by omega)) (cwV 2 hts gX1_makeChange_X2_close rfl rfl rfl (by decide +kernel) ⟨Nat.le_of_ble_eq_true rfl, Nat.le_of_ble_eq_true rfl⟩) (fz_preMV (ci := 1) (q0 := 0) hK (hP.sub (ws' := GE cy a (V 8 0) (V 8 1) (V 9) (V 10) (V 11) (V 12) (V 13) (upd (V 14) z (V 0 0)) (upd (V 15) z 0) (V 16)) [8, 9, 10, 11, 12, 13, 14, 15, 16] rfl) (hD.sub (ws' := GE cy a (V 8 0) (V 8 1) (V 9) (V 10) (V 11) (V 12) (V 13) (upd (V 14) z (V 0 0)) (upd (V 15) z 0) (V 16)) [8, 9, 10, 11, 12, 13, 14, 15, 16] (by decide) rfl) rfl rfl rfl fz_T_bl (fun _ _ _ => trivial)) rfl rfl hl.1 rfl (lv_room (Nat.le_of_ble_eq_true rfl)) dX1_makeChange_102 ⟨Nat.zero_le _, Nat.zero_le _⟩) hP hD hS [8, 9, 10, 11, 12, 13, 14, 15, 16] [0, 1, 2, 3, 4, 5, 6, 7, 17, 18, 19, 20, 21, 22, 23] rfl rfl [false, false, false, false, false, false, false, false, true, true, true, true, true, true, true, true, true, false, false, false, false, false, false, false] (And.intro rfl (And.intro rfl (And.intro rfl (And.intro rfl (And.intro rfl (And.intro rfl (And.intro rfl (And.intro rfl (And.intro rfl (And.intro rfl (And.intro rfl (And.intro rfl (And.intro rfl (And.intro rfl (And.intro rfl (And.intro rfl (And.intro rfl (And.intro rfl (And.intro rfl (And.intro rfl (And.intro rfl (And.intro rfl (And.intro rfl (And.intro rfl trivial)))))))))))))))))))))))) rfl rfl (fun H locs hP hD hS => ?_)
              have hP : va_P D vwCl (CE cy a (V 0 0) (V 3 0) (V 8 0) (nI (fz_deq (nI z) ((V 16)) nq).1) (V 17 0) (V 1) (V 2) (V 4) (V 5) (V 6) (V 7) (V 9) (V 10) (upd ((V 11)) z 2) (upd ((V 12)) z 0) (V 13) (upd (V 14) z (V 0 0)) (upd (V 15) z 0) ((fz_deq (nI z) ((V 16)) nq).2) (V 18) (V 19) (V 20) (V 21) (V 22) (V 23)) H := hP
              have hD : va_D A (CE cy a (V 0 0) (V 3 0) (V 8 0) (nI (fz_deq (nI z) ((V 16)) nq).1) (V 17 0) (V 1) (V 2) (V 4) (V 5) (V 6) (V 7) (V 9) (V 10) (upd ((V 11)) z 2) (upd ((V 12)) z 0) (V 13) (upd (V 14) z (V 0 0)) (upd (V 15) z 0) ((fz_deq (nI z) ((V 16)) nq).2) (V 18) (V 19) (V 20) (V 21) (V 22) (V 23)) := hD
              refine lv_istore (lv' := [(4, .int ((V 12) z)), (3, .int 0), (0, .ref (a 0)), (1, .int x), (2, .int (fz_b fr))]) hx hb dX1_makeChange_105 hl (by decide) rfl (fun ls hl => ?_)
              refine lv_aload_n hx hb dX1_makeChange_107 rfl (lv_at hl 2 rfl) ?_
              refine va_get (D := D) (ci := 0) (v := .ref (a 8)) (C := RX1) (T := TX1) (N := 6) hx hb hts inX1 hown hK hP 0 rfl rfl 4 (by decide) k_37 (fun _ h9 => h9) rfl dX1_makeChange_108 ?_
              refine va_get (D := D) (ci := 1) (v := .ref (a 9)) (C := RX2) (T := TX2) (N := 10) hx hb hts inX2 hown hK hP 8 rfl rfl 1 (by decide) k_148 (fun _ h9 => h9) rfl dX1_makeChange_111 ?_
              refine lv_iload_n hx hb dX1_makeChange_114 rfl (lv_at hl 3 rfl) ?_
              refine fz_iald (f := V 9) hx hb hK hP 9 0 rfl rfl z ez (by omega) (by decide) dX1_makeChange_115 ?_
              refine lv_istore (lv' := [(5, .int (V 9 z)), (4, .int ((V 12) z)), (3, .int 0), (0, .ref (a 0)), (1, .int x), (2, .int (fz_b fr))]) hx hb dX1_makeChange_116 hl (by decide) rfl (fun ls hl => ?_)
              refine lv_iload_n hx hb dX1_makeChange_118 rfl (lv_at hl 5 rfl) ?_
              refine fz_ifneB (tgt := 139) hx hb dX1_makeChange_119 (by decide) (fun c_7 => ?_) (fun c_7 => ?_)
              · exact absurd (c_6.symm.trans c_7) (by decide)
              · skip
                refine lv_aload_n hx hb dX1_makeChange_122 rfl (lv_at hl 3 rfl) ?_
                refine va_get (D := D) (ci := 0) (v := .ref (a 3)) (C := RX1) (T := TX1) (N := 6) hx hb hts inX1 hown hK hP 0 rfl rfl 3 (by decide) k_30 (fun _ h9 => h9) rfl dX1_makeChange_123 ?_
                refine va_get (D := D) (ci := 5) (v := .ref (a 4)) (C := RX6) (T := TX6) (N := 5) hx hb hts inX6 hown hK hP 3 rfl rfl 1 (by decide) k_119 (fun _ h9 => h9) rfl dX1_makeChange_126 ?_
                refine lv_iload hx hb dX1_makeChange_129 (lv_at hl 0 rfl) ?_
                refine lv_dup2_11 hx hb dX1_makeChange_131 rfl rfl ?_
                refine fz_iald (f := V 4) hx hb hK hP 4 0 rfl rfl j ej (by omega) (by decide) dX1_makeChange_132 ?_
                refine lv_iload hx hb dX1_makeChange_133 (lv_at hl 1 rfl) ?_
                refine lv_iadd hx hb dX1_makeChange_135 ?_
                refine fz_iast (f := V 4) hx hb hK hP hD hS 4 0 rfl rfl j ej (by omega) (by decide) dX1_makeChange_136 (fun H locs hP hD hS => ?_)
                have hP : va_P D vwCl (CE cy a (V 0 0) (V 3 0) (V 8 0) (nI (fz_deq (nI z) ((V 16)) nq).1) (V 17 0) (V 1) (V 2) (upd (V 4) j ((V 4 j) + ((V 12) z))) (V 5) (V 6) (V 7) (V 9) (V 10) (upd ((V 11)) z 2) (upd ((V 12)) z 0) (V 13) (upd (V 14) z (V 0 0)) (upd (V 15) z 0) ((fz_deq (nI z) ((V 16)) nq).2) (V 18) (V 19) (V 20) (V 21) (V 22) (V 23)) H := hP
                have hD : va_D A (CE cy a (V 0 0) (V 3 0) (V 8 0) (nI (fz_deq (nI z) ((V 16)) nq).1) (V 17 0) (V 1) (V 2) (upd (V 4) j ((V 4 j) + ((V 12) z))) (V 5) (V 6) (V 7) (V 9) (V 10) (upd ((V 11)) z 2) (upd ((V 12)) z 0) (V 13) (upd (V 14) z (V 0 0)) (upd (V 15) z 0) ((fz_deq (nI z) ((V 16)) nq).2) (V 18) (V 19) (V 20) (V 21) (V 22) (V 23)) := hD
                refine lv_iconst (v := 0) hx hb dX1_makeChange_137 (by decide) ?_
                have eF : fz_make V nc nq wk x fr = fz_make2 V nq z j false 0 := by simp only [fz_make, c_1, c_3, c_5, c_6, ez', ej', c_2, ↓reduceIte, Bool.false_eq_true]
                exact W.iret (v := 0) hx hb hr (fun t9 ht9 hW9 => ⟨⟨_, (), rfl, (by rw [eF] <;> rfl), fz_to ht9 (by rw [eF]; exact hP)⟩, hS.F ht9⟩) hS.2.2 dX1_makeChange_138
            · skip
              refine lv_iconst (v := 3) hx hb dX1_makeChange_97 (by decide) ?_
              refine lv_goto (tgt := 102) hx hb dX1_makeChange_98 (by decide) ?_
              refine fz_at1 (show x = nI z from ez) ?_
              refine fz_retM (ws' := CE cy a (V 0 0) (V 3 0) (V 8 0) (nI (fz_deq (nI z) ((V 16)) nq).1) (V 17 0) (V 1) (V 2) (V 4) (V 5) (V 6) (V 7) (V 9) (V 10) (upd ((V 11)) z 3) (upd ((V 12)) z 0) (V 13) (upd (V 14) z (V 0 0)) (upd (V 15) z 0) ((fz_deq (nI z) ((V 16)) nq).2) (V 18) (V 19) (V 20) (V 21) (V 22) (V 23)) (va_runV (As := [.int (nI z), .int 3]) (rest := []) ⟨hx, hb, hml, hown, hts⟩ (c_X2_close l D cy a (fz_up (fz_up V 14 (upd (V 14) z (V 0 0))) 15 (upd (V 15) z 0)) z (by omega) 3 nq hnq (by omega)) (cwV 2 hts gX1_makeChange_X2_close rfl rfl rfl (by decide +kernel) ⟨Nat.le_of_ble_eq_true rfl, Nat.le_of_ble_eq_true rfl⟩) (fz_preMV (ci := 1) (q0 := 0) hK (hP.sub (ws' := GE cy a (V 8 0) (V 8 1) (V 9) (V 10) (V 11) (V 12) (V 13) (upd (V 14) z (V 0 0)) (upd (V 15) z 0) (V 16)) [8, 9, 10, 11, 12, 13, 14, 15, 16] rfl) (hD.sub (ws' := GE cy a (V 8 0) (V 8 1) (V 9) (V 10) (V 11) (V 12) (V 13) (upd (V 14) z (V 0 0)) (upd (V 15) z 0) (V 16)) [8, 9, 10, 11, 12, 13, 14, 15, 16] (by decide) rfl) rfl rfl rfl fz_T_bl (fun _ _ _ => trivial)) rfl rfl hl.1 rfl (lv_room (Nat.le_of_ble_eq_true rfl)) dX1_makeChange_102 ⟨Nat.zero_le _, Nat.zero_le _⟩) hP hD hS [8, 9, 10, 11, 12, 13, 14, 15, 16] [0, 1, 2, 3, 4, 5, 6, 7, 17, 18, 19, 20, 21, 22, 23] rfl rfl [false, false, false, false, false, false, false, false, true, true, true, true, true, true, true, true, true, false, false, false, false, false, false, false] (And.intro rfl (And.intro rfl (And.intro rfl (And.intro rfl (And.intro rfl (And.intro rfl (And.intro rfl (And.intro rfl (And.intro rfl (And.intro rfl (And.intro rfl (And.intro rfl (And.intro rfl (And.intro rfl (And.intro rfl (And.intro rfl (And.intro rfl (And.intro rfl (And.intro rfl (And.intro rfl (And.intro rfl (And.intro rfl (And.intro rfl (And.intro rfl trivial)))))))))))))))))))))))) rfl rfl (fun H locs hP hD hS => ?_)
              have hP : va_P D vwCl (CE cy a (V 0 0) (V 3 0) (V 8 0) (nI (fz_deq (nI z) ((V 16)) nq).1) (V 17 0) (V 1) (V 2) (V 4) (V 5) (V 6) (V 7) (V 9) (V 10) (upd ((V 11)) z 3) (upd ((V 12)) z 0) (V 13) (upd (V 14) z (V 0 0)) (upd (V 15) z 0) ((fz_deq (nI z) ((V 16)) nq).2) (V 18) (V 19) (V 20) (V 21) (V 22) (V 23)) H := hP
              have hD : va_D A (CE cy a (V 0 0) (V 3 0) (V 8 0) (nI (fz_deq (nI z) ((V 16)) nq).1) (V 17 0) (V 1) (V 2) (V 4) (V 5) (V 6) (V 7) (V 9) (V 10) (upd ((V 11)) z 3) (upd ((V 12)) z 0) (V 13) (upd (V 14) z (V 0 0)) (upd (V 15) z 0) ((fz_deq (nI z) ((V 16)) nq).2) (V 18) (V 19) (V 20) (V 21) (V 22) (V 23)) := hD
              refine lv_istore (lv' := [(4, .int ((V 12) z)), (3, .int 0), (0, .ref (a 0)), (1, .int x), (2, .int (fz_b fr))]) hx hb dX1_makeChange_105 hl (by decide) rfl (fun ls hl => ?_)
              refine lv_aload_n hx hb dX1_makeChange_107 rfl (lv_at hl 2 rfl) ?_
              refine va_get (D := D) (ci := 0) (v := .ref (a 8)) (C := RX1) (T := TX1) (N := 6) hx hb hts inX1 hown hK hP 0 rfl rfl 4 (by decide) k_37 (fun _ h9 => h9) rfl dX1_makeChange_108 ?_
              refine va_get (D := D) (ci := 1) (v := .ref (a 9)) (C := RX2) (T := TX2) (N := 10) hx hb hts inX2 hown hK hP 8 rfl rfl 1 (by decide) k_148 (fun _ h9 => h9) rfl dX1_makeChange_111 ?_
              refine lv_iload_n hx hb dX1_makeChange_114 rfl (lv_at hl 3 rfl) ?_
              refine fz_iald (f := V 9) hx hb hK hP 9 0 rfl rfl z ez (by omega) (by decide) dX1_makeChange_115 ?_
              refine lv_istore (lv' := [(5, .int (V 9 z)), (4, .int ((V 12) z)), (3, .int 0), (0, .ref (a 0)), (1, .int x), (2, .int (fz_b fr))]) hx hb dX1_makeChange_116 hl (by decide) rfl (fun ls hl => ?_)
              refine lv_iload_n hx hb dX1_makeChange_118 rfl (lv_at hl 5 rfl) ?_
              refine fz_ifneB (tgt := 139) hx hb dX1_makeChange_119 (by decide) (fun c_8 => ?_) (fun c_8 => ?_)
              · skip
                refine lv_aload_n hx hb dX1_makeChange_139 rfl (lv_at hl 3 rfl) ?_
                refine va_get (D := D) (ci := 0) (v := .ref (a 1)) (C := RX1) (T := TX1) (N := 6) hx hb hts inX1 hown hK hP 0 rfl rfl 1 (by decide) k_18 (fun _ h9 => h9) rfl dX1_makeChange_140 ?_
                refine lv_iconst (v := 2) hx hb dX1_makeChange_143 (by decide) ?_
                refine fz_iald (f := V 1) hx hb hK hP 1 0 rfl rfl 2 rfl (by omega) (by decide) dX1_makeChange_144 ?_
                refine lv_aload_n hx hb dX1_makeChange_145 rfl (lv_at hl 3 rfl) ?_
                refine va_get (D := D) (ci := 0) (v := .ref (a 8)) (C := RX1) (T := TX1) (N := 6) hx hb hts inX1 hown hK hP 0 rfl rfl 4 (by decide) k_37 (fun _ h9 => h9) rfl dX1_makeChange_146 ?_
                refine va_get (D := D) (ci := 1) (v := .ref (a 10)) (C := RX2) (T := TX2) (N := 10) hx hb hts inX2 hown hK hP 8 rfl rfl 2 (by decide) k_142 (fun _ h9 => h9) rfl dX1_makeChange_149 ?_
                refine lv_iload_n hx hb dX1_makeChange_152 rfl (lv_at hl 4 rfl) ?_
                refine fz_iald (f := V 10) hx hb hK hP 10 0 rfl rfl z ez (by omega) (by decide) dX1_makeChange_153 ?_
                refine lv_imul hx hb dX1_makeChange_154 ?_
                refine lv_aload_n hx hb dX1_makeChange_155 rfl (lv_at hl 3 rfl) ?_
                refine va_get (D := D) (ci := 0) (v := .ref (a 3)) (C := RX1) (T := TX1) (N := 6) hx hb hts inX1 hown hK hP 0 rfl rfl 3 (by decide) k_30 (fun _ h9 => h9) rfl dX1_makeChange_156 ?_
                refine va_get (D := D) (ci := 5) (v := .ref (a 4)) (C := RX6) (T := TX6) (N := 5) hx hb hts inX6 hown hK hP 3 rfl rfl 1 (by decide) k_119 (fun _ h9 => h9) rfl dX1_makeChange_159 ?_
                refine lv_iload hx hb dX1_makeChange_162 (lv_at hl 0 rfl) ?_
                refine fz_iald (f := V 4) hx hb hK hP 4 0 rfl rfl j ej (by omega) (by decide) dX1_makeChange_164 ?_
                refine va_mmin hx hb (hml.trans hl.1.symm) hown (hts (.methodLink RX1 109 Lib.Math.min.name) (by decide +kernel)) (hts (.static Lib.Math.min.name) (by decide +kernel)) (hts (.initialized "java/lang/Math") (by decide +kernel)) (hts (.code Lib.Math.min.name Lib.Math.min.code 2 (some .int)) (by decide +kernel)) (Nat.le_of_ble_eq_true rfl) (Nat.le_of_ble_eq_true rfl) (Nat.le_of_ble_eq_true rfl) (Nat.le_of_ble_eq_true rfl) dX1_makeChange_165 ?_
                refine fz_top (y := fz_min ((V 1 2) * (V 10 z)) (V 4 j)) rfl ?_
                refine lv_istore (lv' := [(6, .int (fz_min ((V 1 2) * (V 10 z)) (V 4 j))), (5, .int (V 9 z)), (4, .int ((V 12) z)), (3, .int 0), (0, .ref (a 0)), (1, .int x), (2, .int (fz_b fr))]) hx hb dX1_makeChange_168 hl (by decide) rfl (fun ls hl => ?_)
                refine lv_aload_n hx hb dX1_makeChange_170 rfl (lv_at hl 4 rfl) ?_
                refine va_get (D := D) (ci := 0) (v := .ref (a 3)) (C := RX1) (T := TX1) (N := 6) hx hb hts inX1 hown hK hP 0 rfl rfl 3 (by decide) k_30 (fun _ h9 => h9) rfl dX1_makeChange_171 ?_
                refine va_get (D := D) (ci := 5) (v := .ref (a 4)) (C := RX6) (T := TX6) (N := 5) hx hb hts inX6 hown hK hP 3 rfl rfl 1 (by decide) k_119 (fun _ h9 => h9) rfl dX1_makeChange_174 ?_
                refine lv_iload hx hb dX1_makeChange_177 (lv_at hl 1 rfl) ?_
                refine lv_dup2_11 hx hb dX1_makeChange_179 rfl rfl ?_
                refine fz_iald (f := V 4) hx hb hK hP 4 0 rfl rfl j ej (by omega) (by decide) dX1_makeChange_180 ?_
                refine lv_iload hx hb dX1_makeChange_181 (lv_at hl 0 rfl) ?_
                refine lv_isub hx hb dX1_makeChange_183 ?_
                refine fz_iast (f := V 4) hx hb hK hP hD hS 4 0 rfl rfl j ej (by omega) (by decide) dX1_makeChange_184 (fun H locs hP hD hS => ?_)
                have hP : va_P D vwCl (CE cy a (V 0 0) (V 3 0) (V 8 0) (nI (fz_deq (nI z) ((V 16)) nq).1) (V 17 0) (V 1) (V 2) (upd (V 4) j ((V 4 j) - (fz_min ((V 1 2) * (V 10 z)) (V 4 j)))) (V 5) (V 6) (V 7) (V 9) (V 10) (upd ((V 11)) z 3) (upd ((V 12)) z 0) (V 13) (upd (V 14) z (V 0 0)) (upd (V 15) z 0) ((fz_deq (nI z) ((V 16)) nq).2) (V 18) (V 19) (V 20) (V 21) (V 22) (V 23)) H := hP
                have hD : va_D A (CE cy a (V 0 0) (V 3 0) (V 8 0) (nI (fz_deq (nI z) ((V 16)) nq).1) (V 17 0) (V 1) (V 2) (upd (V 4) j ((V 4 j) - (fz_min ((V 1 2) * (V 10 z)) (V 4 j)))) (V 5) (V 6) (V 7) (V 9) (V 10) (upd ((V 11)) z 3) (upd ((V 12)) z 0) (V 13) (upd (V 14) z (V 0 0)) (upd (V 15) z 0) ((fz_deq (nI z) ((V 16)) nq).2) (V 18) (V 19) (V 20) (V 21) (V 22) (V 23)) := hD
                refine lv_aload_n hx hb dX1_makeChange_185 rfl (lv_at hl 4 rfl) ?_
                refine va_get (D := D) (ci := 0) (v := .ref (a 3)) (C := RX1) (T := TX1) (N := 6) hx hb hts inX1 hown hK hP 0 rfl rfl 3 (by decide) k_30 (fun _ h9 => h9) rfl dX1_makeChange_186 ?_
                refine va_get (D := D) (ci := 5) (v := .ref (a 7)) (C := RX6) (T := TX6) (N := 5) hx hb hts inX6 hown hK hP 3 rfl rfl 4 (by decide) k_173 (fun _ h9 => h9) rfl dX1_makeChange_189 ?_
                refine lv_iload hx hb dX1_makeChange_192 (lv_at hl 1 rfl) ?_
                refine lv_dup2_11 hx hb dX1_makeChange_194 rfl rfl ?_
                refine fz_iald (f := V 7) hx hb hK hP 7 0 rfl rfl j ej (by omega) (by decide) dX1_makeChange_195 ?_
                refine lv_iload hx hb dX1_makeChange_196 (lv_at hl 2 rfl) ?_
                refine lv_iload hx hb dX1_makeChange_198 (lv_at hl 0 rfl) ?_
                refine lv_iadd hx hb dX1_makeChange_200 ?_
                refine lv_iadd hx hb dX1_makeChange_201 ?_
                refine fz_iast (f := V 7) hx hb hK hP hD hS 7 0 rfl rfl j ej (by omega) (by decide) dX1_makeChange_202 (fun H locs hP hD hS => ?_)
                have hP : va_P D vwCl (CE cy a (V 0 0) (V 3 0) (V 8 0) (nI (fz_deq (nI z) ((V 16)) nq).1) (V 17 0) (V 1) (V 2) (upd (V 4) j ((V 4 j) - (fz_min ((V 1 2) * (V 10 z)) (V 4 j)))) (V 5) (V 6) (upd (V 7) j ((V 7 j) + (((V 12) z) + (fz_min ((V 1 2) * (V 10 z)) (V 4 j))))) (V 9) (V 10) (upd ((V 11)) z 3) (upd ((V 12)) z 0) (V 13) (upd (V 14) z (V 0 0)) (upd (V 15) z 0) ((fz_deq (nI z) ((V 16)) nq).2) (V 18) (V 19) (V 20) (V 21) (V 22) (V 23)) H := hP
                have hD : va_D A (CE cy a (V 0 0) (V 3 0) (V 8 0) (nI (fz_deq (nI z) ((V 16)) nq).1) (V 17 0) (V 1) (V 2) (upd (V 4) j ((V 4 j) - (fz_min ((V 1 2) * (V 10 z)) (V 4 j)))) (V 5) (V 6) (upd (V 7) j ((V 7 j) + (((V 12) z) + (fz_min ((V 1 2) * (V 10 z)) (V 4 j))))) (V 9) (V 10) (upd ((V 11)) z 3) (upd ((V 12)) z 0) (V 13) (upd (V 14) z (V 0 0)) (upd (V 15) z 0) ((fz_deq (nI z) ((V 16)) nq).2) (V 18) (V 19) (V 20) (V 21) (V 22) (V 23)) := hD
                refine lv_iload hx hb dX1_makeChange_203 (lv_at hl 2 rfl) ?_
                refine lv_iload hx hb dX1_makeChange_205 (lv_at hl 0 rfl) ?_
                refine lv_iadd hx hb dX1_makeChange_207 ?_
                have eF : fz_make V nc nq wk x fr = fz_make2 V nq z j true 0 := by simp only [fz_make, c_1, c_3, c_5, c_6, ez', ej', c_2, ↓reduceIte, Bool.false_eq_true]
                exact W.iret (v := (((V 12) z) + (fz_min ((V 1 2) * (V 10 z)) (V 4 j)))) hx hb hr (fun t9 ht9 hW9 => ⟨⟨_, (), rfl, (by rw [eF] <;> rfl), fz_to ht9 (by rw [eF]; exact hP)⟩, hS.F ht9⟩) hS.2.2 dX1_makeChange_208
              · exact absurd (c_6.symm.trans c_8) (by decide)
          · skip
            refine lv_bipush (v := (-3)) hx hb dX1_makeChange_59 (by decide) ?_
            have eF : fz_make V nc nq wk x fr = ((-3), V) := by simp only [fz_make, c_1, c_3, c_5, ez', c_2, ↓reduceIte, Bool.false_eq_true]
            exact W.iret (v := (-3)) hx hb hr (fun t9 ht9 hW9 => ⟨⟨_, (), rfl, (by rw [eF] <;> rfl), fz_to ht9 (by rw [eF]; exact hP)⟩, hS.F ht9⟩) hS.2.2 dX1_makeChange_61
    · skip
      refine lv_iconst (v := 1) hx hb dX1_makeChange_26 (by decide) ?_
      refine lv_goto (tgt := 31) hx hb dX1_makeChange_27 (by decide) ?_
      refine lv_istore_n (lv' := [(3, .int 1), (0, .ref (a 0)), (1, .int x), (2, .int (fz_b fr))]) hx hb dX1_makeChange_31 rfl hl (by decide) rfl (fun ls hl => ?_)
      refine lv_aload_n hx hb dX1_makeChange_32 rfl (lv_at hl 1 rfl) ?_
      refine va_get (D := D) (ci := 0) (v := .ref (a 8)) (C := RX1) (T := TX1) (N := 6) hx hb hts inX1 hown hK hP 0 rfl rfl 4 (by decide) k_37 (fun _ h9 => h9) rfl dX1_makeChange_33 ?_
      refine lv_iload_n hx hb dX1_makeChange_36 rfl (lv_at hl 2 rfl) ?_
      refine fz_at0 (show x = nI z from ez) ?_
      refine fz_retR (va_runV (As := [.int (nI z)]) (rest := []) ⟨hx, hb, hml, hown, hts⟩ (c_X2_isOpen l D cy a V z (by omega)) (cwV 1 hts gX1_makeChange_X2_isOpen rfl rfl rfl (by decide +kernel) ⟨Nat.le_of_ble_eq_true rfl, Nat.le_of_ble_eq_true rfl⟩) (fz_preV (ci := 1) (q0 := 0) hK (hP.sub (ws' := GW cy a V) [8, 9, 10, 11, 12, 13, 14, 15, 16] rfl) rfl rfl rfl fz_T_bl (fun _ _ _ => trivial)) rfl rfl hl.1 rfl (lv_room (Nat.le_of_ble_eq_true rfl)) dX1_makeChange_37 ⟨Nat.zero_le _, Nat.zero_le _⟩) ?_
      refine fz_ifeqB (tgt := 59) hx hb dX1_makeChange_40 (by decide) (fun c_9 => ?_) (fun c_9 => ?_)
      · skip
        refine lv_bipush (v := (-3)) hx hb dX1_makeChange_59 (by decide) ?_
        have eF : fz_make V nc nq wk x fr = ((-3), V) := by simp only [fz_make, c_1, c_9, ez', ↓reduceIte, Bool.false_eq_true] <;> simp only [c_2, ↓reduceIte]
        exact W.iret (v := (-3)) hx hb hr (fun t9 ht9 hW9 => ⟨⟨_, (), rfl, (by rw [eF] <;> rfl), fz_to ht9 (by rw [eF]; exact hP)⟩, hS.F ht9⟩) hS.2.2 dX1_makeChange_61
      · skip
        refine lv_iload_n hx hb dX1_makeChange_43 rfl (lv_at hl 0 rfl) ?_
        refine lv_if_ne (tgt := 62) hx hb dX1_makeChange_44 (by decide) (fun c_10 => ?_) (fun c_10 => ?_)
        · skip
          obtain ⟨j, hj, ej⟩ := hT z hz
          have ej' := fz_tnat ej (by omega)
          refine lv_aload_n hx hb dX1_makeChange_62 rfl (lv_at hl 1 rfl) ?_
          refine va_get (D := D) (ci := 0) (v := .ref (a 8)) (C := RX1) (T := TX1) (N := 6) hx hb hts inX1 hown hK hP 0 rfl rfl 4 (by decide) k_37 (fun _ h9 => h9) rfl dX1_makeChange_63 ?_
          refine va_get (D := D) (ci := 1) (v := .ref (a 14)) (C := RX2) (T := TX2) (N := 10) hx hb hts inX2 hown hK hP 8 rfl rfl 6 (by decide) k_160 (fun _ h9 => h9) rfl dX1_makeChange_66 ?_
          refine lv_iload_n hx hb dX1_makeChange_69 rfl (lv_at hl 2 rfl) ?_
          refine lv_aload_n hx hb dX1_makeChange_70 rfl (lv_at hl 1 rfl) ?_
          refine va_get (D := D) (ci := 0) (v := .int (V 0 0)) (C := RX1) (T := TX1) (N := 6) hx hb hts inX1 hown hK hP 0 rfl rfl 0 (by decide) k_48 (fun _ h9 => h9) rfl dX1_makeChange_71 ?_
          refine fz_iast (f := V 14) hx hb hK hP hD hS 14 0 rfl rfl z ez (by omega) (by decide) dX1_makeChange_74 (fun H locs hP hD hS => ?_)
          have hP : va_P D vwCl (CE cy a (V 0 0) (V 3 0) (V 8 0) (V 8 1) (V 17 0) (V 1) (V 2) (V 4) (V 5) (V 6) (V 7) (V 9) (V 10) (V 11) (V 12) (V 13) (upd (V 14) z (V 0 0)) (V 15) (V 16) (V 18) (V 19) (V 20) (V 21) (V 22) (V 23)) H := hP
          have hD : va_D A (CE cy a (V 0 0) (V 3 0) (V 8 0) (V 8 1) (V 17 0) (V 1) (V 2) (V 4) (V 5) (V 6) (V 7) (V 9) (V 10) (V 11) (V 12) (V 13) (upd (V 14) z (V 0 0)) (V 15) (V 16) (V 18) (V 19) (V 20) (V 21) (V 22) (V 23)) := hD
          refine lv_aload_n hx hb dX1_makeChange_75 rfl (lv_at hl 1 rfl) ?_
          refine va_get (D := D) (ci := 0) (v := .ref (a 8)) (C := RX1) (T := TX1) (N := 6) hx hb hts inX1 hown hK hP 0 rfl rfl 4 (by decide) k_37 (fun _ h9 => h9) rfl dX1_makeChange_76 ?_
          refine va_get (D := D) (ci := 1) (v := .ref (a 15)) (C := RX2) (T := TX2) (N := 10) hx hb hts inX2 hown hK hP 8 rfl rfl 7 (by decide) k_163 (fun _ h9 => h9) rfl dX1_makeChange_79 ?_
          refine lv_iload_n hx hb dX1_makeChange_82 rfl (lv_at hl 2 rfl) ?_
          refine lv_iload_n hx hb dX1_makeChange_83 rfl (lv_at hl 0 rfl) ?_
          refine fz_retR (va_runSN (As := [.int 1]) (rest := [.int x, .ref (a 15)]) ⟨hx, hb, hml, hown, hts⟩ (c_X8_asNumber l D cy 1) ⟨va_cnB 1 hts gX1_makeChange_X8_asNumber_n166 rfl rfl rfl (fz_Nw_at hE 1 rfl) (hts (.initialized RX8) (by decide +kernel)) (by decide +kernel) ⟨Nat.le_of_ble_eq_true rfl, Nat.le_of_ble_eq_true rfl⟩, hts (.static yX8_asNumber) (by decide +kernel), trivial⟩ (fz_preS hK (fz_nil) fz_T_bl (fun _ _ _ => trivial)) rfl rfl hl.1 rfl (lv_room (Nat.le_of_ble_eq_true rfl)) dX1_makeChange_84 ⟨Nat.zero_le _, Nat.zero_le _⟩) ?_
          refine fz_top (y := 1) (by decide) ?_
          refine fz_iast (f := V 15) hx hb hK hP hD hS 15 0 rfl rfl z ez (by omega) (by decide) dX1_makeChange_87 (fun H locs hP hD hS => ?_)
          have hP : va_P D vwCl (CE cy a (V 0 0) (V 3 0) (V 8 0) (V 8 1) (V 17 0) (V 1) (V 2) (V 4) (V 5) (V 6) (V 7) (V 9) (V 10) (V 11) (V 12) (V 13) (upd (V 14) z (V 0 0)) (upd (V 15) z 1) (V 16) (V 18) (V 19) (V 20) (V 21) (V 22) (V 23)) H := hP
          have hD : va_D A (CE cy a (V 0 0) (V 3 0) (V 8 0) (V 8 1) (V 17 0) (V 1) (V 2) (V 4) (V 5) (V 6) (V 7) (V 9) (V 10) (V 11) (V 12) (V 13) (upd (V 14) z (V 0 0)) (upd (V 15) z 1) (V 16) (V 18) (V 19) (V 20) (V 21) (V 22) (V 23)) := hD
          refine lv_aload_n hx hb dX1_makeChange_88 rfl (lv_at hl 1 rfl) ?_
          refine va_get (D := D) (ci := 0) (v := .ref (a 8)) (C := RX1) (T := TX1) (N := 6) hx hb hts inX1 hown hK hP 0 rfl rfl 4 (by decide) k_37 (fun _ h9 => h9) rfl dX1_makeChange_89 ?_
          refine lv_iload_n hx hb dX1_makeChange_92 rfl (lv_at hl 2 rfl) ?_
          refine lv_iload_n hx hb dX1_makeChange_93 rfl (lv_at hl 3 rfl) ?_
          refine fz_ifeqB (tgt := 101) hx hb dX1_makeChange_94 (by decide) (fun c_11 => ?_) (fun c_11 => ?_)
          · skip
            refine lv_iconst (v := 2) hx hb dX1_makeChange_101 (by decide) ?_
            refine fz_at1 (show x = nI z from ez) ?_
            refine fz_retM (ws' := CE cy a (V 0 0) (V 3 0) (V 8 0) (nI (fz_deq (nI z) ((V 16)) nq).1) (V 17 0) (V 1) (V 2) (V 4) (V 5) (V 6) (V 7) (V 9) (V 10) (upd ((V 11)) z 2) (upd ((V 12)) z 0) (V 13) (upd (V 14) z (V 0 0)) (upd (V 15) z 1) ((fz_deq (nI z) ((V 16)) nq).2) (V 18) (V 19) (V 20) (V 21) (V 22) (V 23)) (va_runV (As := [.int (nI z), .int 2]) (rest := []) ⟨hx, hb, hml, hown, hts⟩ (c_X2_close l D cy a (fz_up (fz_up V 14 (upd (V 14) z (V 0 0))) 15 (upd (V 15) z 1)) z (by omega) 2 nq hnq (by omega)) (cwV 2 hts gX1_makeChange_X2_close rfl rfl rfl (by decide +kernel) ⟨Nat.le_of_ble_eq_true rfl, Nat.le_of_ble_eq_true rfl⟩) (fz_preMV (ci := 1) (q0 := 0) hK (hP.sub (ws' := GE cy a (V 8 0) (V 8 1) (V 9) (V 10) (V 11) (V 12) (V 13) (upd (V 14) z (V 0 0)) (upd (V 15) z 1) (V 16)) [8, 9, 10, 11, 12, 13, 14, 15, 16] rfl) (hD.sub (ws' := GE cy a (V 8 0) (V 8 1) (V 9) (V 10) (V 11) (V 12) (V 13) (upd (V 14) z (V 0 0)) (upd (V 15) z 1) (V 16)) [8, 9, 10, 11, 12, 13, 14, 15, 16] (by decide) rfl) rfl rfl rfl fz_T_bl (fun _ _ _ => trivial)) rfl rfl hl.1 rfl (lv_room (Nat.le_of_ble_eq_true rfl)) dX1_makeChange_102 ⟨Nat.zero_le _, Nat.zero_le _⟩) hP hD hS [8, 9, 10, 11, 12, 13, 14, 15, 16] [0, 1, 2, 3, 4, 5, 6, 7, 17, 18, 19, 20, 21, 22, 23] rfl rfl [false, false, false, false, false, false, false, false, true, true, true, true, true, true, true, true, true, false, false, false, false, false, false, false] (And.intro rfl (And.intro rfl (And.intro rfl (And.intro rfl (And.intro rfl (And.intro rfl (And.intro rfl (And.intro rfl (And.intro rfl (And.intro rfl (And.intro rfl (And.intro rfl (And.intro rfl (And.intro rfl (And.intro rfl (And.intro rfl (And.intro rfl (And.intro rfl (And.intro rfl (And.intro rfl (And.intro rfl (And.intro rfl (And.intro rfl (And.intro rfl trivial)))))))))))))))))))))))) rfl rfl (fun H locs hP hD hS => ?_)
            have hP : va_P D vwCl (CE cy a (V 0 0) (V 3 0) (V 8 0) (nI (fz_deq (nI z) ((V 16)) nq).1) (V 17 0) (V 1) (V 2) (V 4) (V 5) (V 6) (V 7) (V 9) (V 10) (upd ((V 11)) z 2) (upd ((V 12)) z 0) (V 13) (upd (V 14) z (V 0 0)) (upd (V 15) z 1) ((fz_deq (nI z) ((V 16)) nq).2) (V 18) (V 19) (V 20) (V 21) (V 22) (V 23)) H := hP
            have hD : va_D A (CE cy a (V 0 0) (V 3 0) (V 8 0) (nI (fz_deq (nI z) ((V 16)) nq).1) (V 17 0) (V 1) (V 2) (V 4) (V 5) (V 6) (V 7) (V 9) (V 10) (upd ((V 11)) z 2) (upd ((V 12)) z 0) (V 13) (upd (V 14) z (V 0 0)) (upd (V 15) z 1) ((fz_deq (nI z) ((V 16)) nq).2) (V 18) (V 19) (V 20) (V 21) (V 22) (V 23)) := hD
            refine lv_istore (lv' := [(4, .int ((V 12) z)), (3, .int 1), (0, .ref (a 0)), (1, .int x), (2, .int (fz_b fr))]) hx hb dX1_makeChange_105 hl (by decide) rfl (fun ls hl => ?_)
            refine lv_aload_n hx hb dX1_makeChange_107 rfl (lv_at hl 2 rfl) ?_
            refine va_get (D := D) (ci := 0) (v := .ref (a 8)) (C := RX1) (T := TX1) (N := 6) hx hb hts inX1 hown hK hP 0 rfl rfl 4 (by decide) k_37 (fun _ h9 => h9) rfl dX1_makeChange_108 ?_
            refine va_get (D := D) (ci := 1) (v := .ref (a 9)) (C := RX2) (T := TX2) (N := 10) hx hb hts inX2 hown hK hP 8 rfl rfl 1 (by decide) k_148 (fun _ h9 => h9) rfl dX1_makeChange_111 ?_
            refine lv_iload_n hx hb dX1_makeChange_114 rfl (lv_at hl 3 rfl) ?_
            refine fz_iald (f := V 9) hx hb hK hP 9 0 rfl rfl z ez (by omega) (by decide) dX1_makeChange_115 ?_
            refine lv_istore (lv' := [(5, .int (V 9 z)), (4, .int ((V 12) z)), (3, .int 1), (0, .ref (a 0)), (1, .int x), (2, .int (fz_b fr))]) hx hb dX1_makeChange_116 hl (by decide) rfl (fun ls hl => ?_)
            refine lv_iload_n hx hb dX1_makeChange_118 rfl (lv_at hl 5 rfl) ?_
            refine fz_ifneB (tgt := 139) hx hb dX1_makeChange_119 (by decide) (fun c_12 => ?_) (fun c_12 => ?_)
            · exact absurd (c_11.symm.trans c_12) (by decide)
            · skip
              refine lv_aload_n hx hb dX1_makeChange_122 rfl (lv_at hl 3 rfl) ?_
              refine va_get (D := D) (ci := 0) (v := .ref (a 3)) (C := RX1) (T := TX1) (N := 6) hx hb hts inX1 hown hK hP 0 rfl rfl 3 (by decide) k_30 (fun _ h9 => h9) rfl dX1_makeChange_123 ?_
              refine va_get (D := D) (ci := 5) (v := .ref (a 4)) (C := RX6) (T := TX6) (N := 5) hx hb hts inX6 hown hK hP 3 rfl rfl 1 (by decide) k_119 (fun _ h9 => h9) rfl dX1_makeChange_126 ?_
              refine lv_iload hx hb dX1_makeChange_129 (lv_at hl 0 rfl) ?_
              refine lv_dup2_11 hx hb dX1_makeChange_131 rfl rfl ?_
              refine fz_iald (f := V 4) hx hb hK hP 4 0 rfl rfl j ej (by omega) (by decide) dX1_makeChange_132 ?_
              refine lv_iload hx hb dX1_makeChange_133 (lv_at hl 1 rfl) ?_
              refine lv_iadd hx hb dX1_makeChange_135 ?_
              refine fz_iast (f := V 4) hx hb hK hP hD hS 4 0 rfl rfl j ej (by omega) (by decide) dX1_makeChange_136 (fun H locs hP hD hS => ?_)
              have hP : va_P D vwCl (CE cy a (V 0 0) (V 3 0) (V 8 0) (nI (fz_deq (nI z) ((V 16)) nq).1) (V 17 0) (V 1) (V 2) (upd (V 4) j ((V 4 j) + ((V 12) z))) (V 5) (V 6) (V 7) (V 9) (V 10) (upd ((V 11)) z 2) (upd ((V 12)) z 0) (V 13) (upd (V 14) z (V 0 0)) (upd (V 15) z 1) ((fz_deq (nI z) ((V 16)) nq).2) (V 18) (V 19) (V 20) (V 21) (V 22) (V 23)) H := hP
              have hD : va_D A (CE cy a (V 0 0) (V 3 0) (V 8 0) (nI (fz_deq (nI z) ((V 16)) nq).1) (V 17 0) (V 1) (V 2) (upd (V 4) j ((V 4 j) + ((V 12) z))) (V 5) (V 6) (V 7) (V 9) (V 10) (upd ((V 11)) z 2) (upd ((V 12)) z 0) (V 13) (upd (V 14) z (V 0 0)) (upd (V 15) z 1) ((fz_deq (nI z) ((V 16)) nq).2) (V 18) (V 19) (V 20) (V 21) (V 22) (V 23)) := hD
              refine lv_iconst (v := 0) hx hb dX1_makeChange_137 (by decide) ?_
              have eF : fz_make V nc nq wk x fr = fz_make2 V nq z j false 1 := by simp only [fz_make, c_1, c_9, c_11, ez', ej', ↓reduceIte, Bool.false_eq_true] <;> simp only [c_2, ↓reduceIte]
              exact W.iret (v := 0) hx hb hr (fun t9 ht9 hW9 => ⟨⟨_, (), rfl, (by rw [eF] <;> rfl), fz_to ht9 (by rw [eF]; exact hP)⟩, hS.F ht9⟩) hS.2.2 dX1_makeChange_138
          · skip
            refine lv_iconst (v := 3) hx hb dX1_makeChange_97 (by decide) ?_
            refine lv_goto (tgt := 102) hx hb dX1_makeChange_98 (by decide) ?_
            refine fz_at1 (show x = nI z from ez) ?_
            refine fz_retM (ws' := CE cy a (V 0 0) (V 3 0) (V 8 0) (nI (fz_deq (nI z) ((V 16)) nq).1) (V 17 0) (V 1) (V 2) (V 4) (V 5) (V 6) (V 7) (V 9) (V 10) (upd ((V 11)) z 3) (upd ((V 12)) z 0) (V 13) (upd (V 14) z (V 0 0)) (upd (V 15) z 1) ((fz_deq (nI z) ((V 16)) nq).2) (V 18) (V 19) (V 20) (V 21) (V 22) (V 23)) (va_runV (As := [.int (nI z), .int 3]) (rest := []) ⟨hx, hb, hml, hown, hts⟩ (c_X2_close l D cy a (fz_up (fz_up V 14 (upd (V 14) z (V 0 0))) 15 (upd (V 15) z 1)) z (by omega) 3 nq hnq (by omega)) (cwV 2 hts gX1_makeChange_X2_close rfl rfl rfl (by decide +kernel) ⟨Nat.le_of_ble_eq_true rfl, Nat.le_of_ble_eq_true rfl⟩) (fz_preMV (ci := 1) (q0 := 0) hK (hP.sub (ws' := GE cy a (V 8 0) (V 8 1) (V 9) (V 10) (V 11) (V 12) (V 13) (upd (V 14) z (V 0 0)) (upd (V 15) z 1) (V 16)) [8, 9, 10, 11, 12, 13, 14, 15, 16] rfl) (hD.sub (ws' := GE cy a (V 8 0) (V 8 1) (V 9) (V 10) (V 11) (V 12) (V 13) (upd (V 14) z (V 0 0)) (upd (V 15) z 1) (V 16)) [8, 9, 10, 11, 12, 13, 14, 15, 16] (by decide) rfl) rfl rfl rfl fz_T_bl (fun _ _ _ => trivial)) rfl rfl hl.1 rfl (lv_room (Nat.le_of_ble_eq_true rfl)) dX1_makeChange_102 ⟨Nat.zero_le _, Nat.zero_le _⟩) hP hD hS [8, 9, 10, 11, 12, 13, 14, 15, 16] [0, 1, 2, 3, 4, 5, 6, 7, 17, 18, 19, 20, 21, 22, 23] rfl rfl [false, false, false, false, false, false, false, false, true, true, true, true, true, true, true, true, true, false, false, false, false, false, false, false] (And.intro rfl (And.intro rfl (And.intro rfl (And.intro rfl (And.intro rfl (And.intro rfl (And.intro rfl (And.intro rfl (And.intro rfl (And.intro rfl (And.intro rfl (And.intro rfl (And.intro rfl (And.intro rfl (And.intro rfl (And.intro rfl (And.intro rfl (And.intro rfl (And.intro rfl (And.intro rfl (And.intro rfl (And.intro rfl (And.intro rfl (And.intro rfl trivial)))))))))))))))))))))))) rfl rfl (fun H locs hP hD hS => ?_)
            have hP : va_P D vwCl (CE cy a (V 0 0) (V 3 0) (V 8 0) (nI (fz_deq (nI z) ((V 16)) nq).1) (V 17 0) (V 1) (V 2) (V 4) (V 5) (V 6) (V 7) (V 9) (V 10) (upd ((V 11)) z 3) (upd ((V 12)) z 0) (V 13) (upd (V 14) z (V 0 0)) (upd (V 15) z 1) ((fz_deq (nI z) ((V 16)) nq).2) (V 18) (V 19) (V 20) (V 21) (V 22) (V 23)) H := hP
            have hD : va_D A (CE cy a (V 0 0) (V 3 0) (V 8 0) (nI (fz_deq (nI z) ((V 16)) nq).1) (V 17 0) (V 1) (V 2) (V 4) (V 5) (V 6) (V 7) (V 9) (V 10) (upd ((V 11)) z 3) (upd ((V 12)) z 0) (V 13) (upd (V 14) z (V 0 0)) (upd (V 15) z 1) ((fz_deq (nI z) ((V 16)) nq).2) (V 18) (V 19) (V 20) (V 21) (V 22) (V 23)) := hD
            refine lv_istore (lv' := [(4, .int ((V 12) z)), (3, .int 1), (0, .ref (a 0)), (1, .int x), (2, .int (fz_b fr))]) hx hb dX1_makeChange_105 hl (by decide) rfl (fun ls hl => ?_)
            refine lv_aload_n hx hb dX1_makeChange_107 rfl (lv_at hl 2 rfl) ?_
            refine va_get (D := D) (ci := 0) (v := .ref (a 8)) (C := RX1) (T := TX1) (N := 6) hx hb hts inX1 hown hK hP 0 rfl rfl 4 (by decide) k_37 (fun _ h9 => h9) rfl dX1_makeChange_108 ?_
            refine va_get (D := D) (ci := 1) (v := .ref (a 9)) (C := RX2) (T := TX2) (N := 10) hx hb hts inX2 hown hK hP 8 rfl rfl 1 (by decide) k_148 (fun _ h9 => h9) rfl dX1_makeChange_111 ?_
            refine lv_iload_n hx hb dX1_makeChange_114 rfl (lv_at hl 3 rfl) ?_
            refine fz_iald (f := V 9) hx hb hK hP 9 0 rfl rfl z ez (by omega) (by decide) dX1_makeChange_115 ?_
            refine lv_istore (lv' := [(5, .int (V 9 z)), (4, .int ((V 12) z)), (3, .int 1), (0, .ref (a 0)), (1, .int x), (2, .int (fz_b fr))]) hx hb dX1_makeChange_116 hl (by decide) rfl (fun ls hl => ?_)
            refine lv_iload_n hx hb dX1_makeChange_118 rfl (lv_at hl 5 rfl) ?_
            refine fz_ifneB (tgt := 139) hx hb dX1_makeChange_119 (by decide) (fun c_13 => ?_) (fun c_13 => ?_)
            · skip
              refine lv_aload_n hx hb dX1_makeChange_139 rfl (lv_at hl 3 rfl) ?_
              refine va_get (D := D) (ci := 0) (v := .ref (a 1)) (C := RX1) (T := TX1) (N := 6) hx hb hts inX1 hown hK hP 0 rfl rfl 1 (by decide) k_18 (fun _ h9 => h9) rfl dX1_makeChange_140 ?_
              refine lv_iconst (v := 2) hx hb dX1_makeChange_143 (by decide) ?_
              refine fz_iald (f := V 1) hx hb hK hP 1 0 rfl rfl 2 rfl (by omega) (by decide) dX1_makeChange_144 ?_
              refine lv_aload_n hx hb dX1_makeChange_145 rfl (lv_at hl 3 rfl) ?_
              refine va_get (D := D) (ci := 0) (v := .ref (a 8)) (C := RX1) (T := TX1) (N := 6) hx hb hts inX1 hown hK hP 0 rfl rfl 4 (by decide) k_37 (fun _ h9 => h9) rfl dX1_makeChange_146 ?_
              refine va_get (D := D) (ci := 1) (v := .ref (a 10)) (C := RX2) (T := TX2) (N := 10) hx hb hts inX2 hown hK hP 8 rfl rfl 2 (by decide) k_142 (fun _ h9 => h9) rfl dX1_makeChange_149 ?_
              refine lv_iload_n hx hb dX1_makeChange_152 rfl (lv_at hl 4 rfl) ?_
              refine fz_iald (f := V 10) hx hb hK hP 10 0 rfl rfl z ez (by omega) (by decide) dX1_makeChange_153 ?_
              refine lv_imul hx hb dX1_makeChange_154 ?_
              refine lv_aload_n hx hb dX1_makeChange_155 rfl (lv_at hl 3 rfl) ?_
              refine va_get (D := D) (ci := 0) (v := .ref (a 3)) (C := RX1) (T := TX1) (N := 6) hx hb hts inX1 hown hK hP 0 rfl rfl 3 (by decide) k_30 (fun _ h9 => h9) rfl dX1_makeChange_156 ?_
              refine va_get (D := D) (ci := 5) (v := .ref (a 4)) (C := RX6) (T := TX6) (N := 5) hx hb hts inX6 hown hK hP 3 rfl rfl 1 (by decide) k_119 (fun _ h9 => h9) rfl dX1_makeChange_159 ?_
              refine lv_iload hx hb dX1_makeChange_162 (lv_at hl 0 rfl) ?_
              refine fz_iald (f := V 4) hx hb hK hP 4 0 rfl rfl j ej (by omega) (by decide) dX1_makeChange_164 ?_
              refine va_mmin hx hb (hml.trans hl.1.symm) hown (hts (.methodLink RX1 109 Lib.Math.min.name) (by decide +kernel)) (hts (.static Lib.Math.min.name) (by decide +kernel)) (hts (.initialized "java/lang/Math") (by decide +kernel)) (hts (.code Lib.Math.min.name Lib.Math.min.code 2 (some .int)) (by decide +kernel)) (Nat.le_of_ble_eq_true rfl) (Nat.le_of_ble_eq_true rfl) (Nat.le_of_ble_eq_true rfl) (Nat.le_of_ble_eq_true rfl) dX1_makeChange_165 ?_
              refine fz_top (y := fz_min ((V 1 2) * (V 10 z)) (V 4 j)) rfl ?_
              refine lv_istore (lv' := [(6, .int (fz_min ((V 1 2) * (V 10 z)) (V 4 j))), (5, .int (V 9 z)), (4, .int ((V 12) z)), (3, .int 1), (0, .ref (a 0)), (1, .int x), (2, .int (fz_b fr))]) hx hb dX1_makeChange_168 hl (by decide) rfl (fun ls hl => ?_)
              refine lv_aload_n hx hb dX1_makeChange_170 rfl (lv_at hl 4 rfl) ?_
              refine va_get (D := D) (ci := 0) (v := .ref (a 3)) (C := RX1) (T := TX1) (N := 6) hx hb hts inX1 hown hK hP 0 rfl rfl 3 (by decide) k_30 (fun _ h9 => h9) rfl dX1_makeChange_171 ?_
              refine va_get (D := D) (ci := 5) (v := .ref (a 4)) (C := RX6) (T := TX6) (N := 5) hx hb hts inX6 hown hK hP 3 rfl rfl 1 (by decide) k_119 (fun _ h9 => h9) rfl dX1_makeChange_174 ?_
              refine lv_iload hx hb dX1_makeChange_177 (lv_at hl 1 rfl) ?_
              refine lv_dup2_11 hx hb dX1_makeChange_179 rfl rfl ?_
              refine fz_iald (f := V 4) hx hb hK hP 4 0 rfl rfl j ej (by omega) (by decide) dX1_makeChange_180 ?_
              refine lv_iload hx hb dX1_makeChange_181 (lv_at hl 0 rfl) ?_
              refine lv_isub hx hb dX1_makeChange_183 ?_
              refine fz_iast (f := V 4) hx hb hK hP hD hS 4 0 rfl rfl j ej (by omega) (by decide) dX1_makeChange_184 (fun H locs hP hD hS => ?_)
              have hP : va_P D vwCl (CE cy a (V 0 0) (V 3 0) (V 8 0) (nI (fz_deq (nI z) ((V 16)) nq).1) (V 17 0) (V 1) (V 2) (upd (V 4) j ((V 4 j) - (fz_min ((V 1 2) * (V 10 z)) (V 4 j)))) (V 5) (V 6) (V 7) (V 9) (V 10) (upd ((V 11)) z 3) (upd ((V 12)) z 0) (V 13) (upd (V 14) z (V 0 0)) (upd (V 15) z 1) ((fz_deq (nI z) ((V 16)) nq).2) (V 18) (V 19) (V 20) (V 21) (V 22) (V 23)) H := hP
              have hD : va_D A (CE cy a (V 0 0) (V 3 0) (V 8 0) (nI (fz_deq (nI z) ((V 16)) nq).1) (V 17 0) (V 1) (V 2) (upd (V 4) j ((V 4 j) - (fz_min ((V 1 2) * (V 10 z)) (V 4 j)))) (V 5) (V 6) (V 7) (V 9) (V 10) (upd ((V 11)) z 3) (upd ((V 12)) z 0) (V 13) (upd (V 14) z (V 0 0)) (upd (V 15) z 1) ((fz_deq (nI z) ((V 16)) nq).2) (V 18) (V 19) (V 20) (V 21) (V 22) (V 23)) := hD
              refine lv_aload_n hx hb dX1_makeChange_185 rfl (lv_at hl 4 rfl) ?_
              refine va_get (D := D) (ci := 0) (v := .ref (a 3)) (C := RX1) (T := TX1) (N := 6) hx hb hts inX1 hown hK hP 0 rfl rfl 3 (by decide) k_30 (fun _ h9 => h9) rfl dX1_makeChange_186 ?_
              refine va_get (D := D) (ci := 5) (v := .ref (a 7)) (C := RX6) (T := TX6) (N := 5) hx hb hts inX6 hown hK hP 3 rfl rfl 4 (by decide) k_173 (fun _ h9 => h9) rfl dX1_makeChange_189 ?_
              refine lv_iload hx hb dX1_makeChange_192 (lv_at hl 1 rfl) ?_
              refine lv_dup2_11 hx hb dX1_makeChange_194 rfl rfl ?_
              refine fz_iald (f := V 7) hx hb hK hP 7 0 rfl rfl j ej (by omega) (by decide) dX1_makeChange_195 ?_
              refine lv_iload hx hb dX1_makeChange_196 (lv_at hl 2 rfl) ?_
              refine lv_iload hx hb dX1_makeChange_198 (lv_at hl 0 rfl) ?_
              refine lv_iadd hx hb dX1_makeChange_200 ?_
              refine lv_iadd hx hb dX1_makeChange_201 ?_
              refine fz_iast (f := V 7) hx hb hK hP hD hS 7 0 rfl rfl j ej (by omega) (by decide) dX1_makeChange_202 (fun H locs hP hD hS => ?_)
              have hP : va_P D vwCl (CE cy a (V 0 0) (V 3 0) (V 8 0) (nI (fz_deq (nI z) ((V 16)) nq).1) (V 17 0) (V 1) (V 2) (upd (V 4) j ((V 4 j) - (fz_min ((V 1 2) * (V 10 z)) (V 4 j)))) (V 5) (V 6) (upd (V 7) j ((V 7 j) + (((V 12) z) + (fz_min ((V 1 2) * (V 10 z)) (V 4 j))))) (V 9) (V 10) (upd ((V 11)) z 3) (upd ((V 12)) z 0) (V 13) (upd (V 14) z (V 0 0)) (upd (V 15) z 1) ((fz_deq (nI z) ((V 16)) nq).2) (V 18) (V 19) (V 20) (V 21) (V 22) (V 23)) H := hP
              have hD : va_D A (CE cy a (V 0 0) (V 3 0) (V 8 0) (nI (fz_deq (nI z) ((V 16)) nq).1) (V 17 0) (V 1) (V 2) (upd (V 4) j ((V 4 j) - (fz_min ((V 1 2) * (V 10 z)) (V 4 j)))) (V 5) (V 6) (upd (V 7) j ((V 7 j) + (((V 12) z) + (fz_min ((V 1 2) * (V 10 z)) (V 4 j))))) (V 9) (V 10) (upd ((V 11)) z 3) (upd ((V 12)) z 0) (V 13) (upd (V 14) z (V 0 0)) (upd (V 15) z 1) ((fz_deq (nI z) ((V 16)) nq).2) (V 18) (V 19) (V 20) (V 21) (V 22) (V 23)) := hD
              refine lv_iload hx hb dX1_makeChange_203 (lv_at hl 2 rfl) ?_
              refine lv_iload hx hb dX1_makeChange_205 (lv_at hl 0 rfl) ?_
              refine lv_iadd hx hb dX1_makeChange_207 ?_
              have eF : fz_make V nc nq wk x fr = fz_make2 V nq z j true 1 := by simp only [fz_make, c_1, c_9, c_11, ez', ej', ↓reduceIte, Bool.false_eq_true] <;> simp only [c_2, ↓reduceIte]
              exact W.iret (v := (((V 12) z) + (fz_min ((V 1 2) * (V 10 z)) (V 4 j)))) hx hb hr (fun t9 ht9 hW9 => ⟨⟨_, (), rfl, (by rw [eF] <;> rfl), fz_to ht9 (by rw [eF]; exact hP)⟩, hS.F ht9⟩) hS.2.2 dX1_makeChange_208
            · exact absurd (c_11.symm.trans c_13) (by decide)
        · exact absurd c_10 (by decide)
  · skip
    refine lv_iconst (v := (-1)) hx hb dX1_makeChange_11 (by decide) ?_
    have eF : fz_make V nc nq wk x fr = ((-1), V) := by simp only [fz_make, c_1, ↓reduceIte, Bool.false_eq_true]
    exact W.iret (v := (-1)) hx hb hr (fun t9 ht9 hW9 => ⟨⟨_, (), rfl, (by rw [eF] <;> rfl), fz_to ht9 (by rw [eF]; exact hP)⟩, hS.F ht9⟩) hS.2.2 dX1_makeChange_12
set_option maxHeartbeats 4000000 in
set_option maxRecDepth 100000 in
/-- Calendar.dropChange -/
theorem c_X1_dropChange (l : Launch) (D : va_G) (cy : Nat → ClassId) (a : Nat → Nat) (V : Nat → Nat → Int32) (nt nc nq nl wk : Nat) (wf : fz_wf V nt nc nq nl wk) (x : Int32) : fz_MI l yX1_dropChange wsX1_dropChange 2 46 D cy [.ref (a 0), .int x] (CW cy a V) fz_T ((fz_drop V nc nq x).1) (CW cy a ((fz_drop V nc nq x).2)) := by
  refine Met.ofW (cc := cX1_dropChange) (maxL := 3) (ret := (some .int)) (by decide) rfl ?_
  intro p e s m args below meth c s₁ B hml hv
  obtain ⟨rfl, hP, hK, hD0, hE⟩ := hv
  have hx := B.exec
  have hb := B.bytes
  have hr := B.returns
  have hts := atoms_spec (ws := wsX1_dropChange) B.pre
  have hown : s.vm.findClass RX1 = some m.cls := findClass_of_methodNamed B.named
  have hlocks := B.notSynchronized
  have hD := fz_self hD0
  generalize hAe : fz_in (CW cy a V) = A at hD ⊢
  have hS : va_S A s.heap s.heap [] := va_S.rf
  have hl := lv_entry ([.ref (a 0), .int x]) (n := 3) (Nat.le_of_ble_eq_true rfl)
  rw [lg_entry_eq]
  generalize (lg_sl ([.ref (a 0), .int x]) ++ List.replicate (3 - (lg_sl ([.ref (a 0), .int x])).length) Slot.unset).toArray = ls at hl ⊢
  have hl : lv_has ls 3 [(0, .ref (a 0)), (1, .int x)] := hl
  have k_37 := hts (.fieldLink RX1 37 "FreezeCredits$Calendar" "changes" "LFreezeCredits$Changes;") (by decide +kernel)
  have inX1 : ∀ w ∈ u_ws RX1 TX1 6, w ∈ wsX1_dropChange := by decide +kernel
  have k_30 := hts (.fieldLink RX1 30 "FreezeCredits$Calendar" "teams" "LFreezeCredits$Teams;") (by decide +kernel)
  have k_119 := hts (.fieldLink RX1 119 "FreezeCredits$Teams" "free" "[I") (by decide +kernel)
  have inX6 : ∀ w ∈ u_ws RX6 TX6 5, w ∈ wsX1_dropChange := by decide +kernel
  have k_148 := hts (.fieldLink RX1 148 "FreezeCredits$Changes" "team" "[I") (by decide +kernel)
  have inX2 : ∀ w ∈ u_ws RX2 TX2 10, w ∈ wsX1_dropChange := by decide +kernel
  obtain ⟨hnt, hnt6, hnc, hnc30, hnq, hqc, hnl, hnl12, hwk, hwk39, hT, hQ, hG, hB⟩ := id wf
  refine lv_aload_n hx hb dX1_dropChange_0 rfl (lv_at hl 0 rfl) ?_
  refine va_get (D := D) (ci := 0) (v := .ref (a 8)) (C := RX1) (T := TX1) (N := 6) hx hb hts inX1 hown hK hP 0 rfl rfl 4 (by decide) k_37 (fun _ h9 => h9) rfl dX1_dropChange_1 ?_
  refine lv_iload_n hx hb dX1_dropChange_4 rfl (lv_at hl 1 rfl) ?_
  refine fz_retR (va_runV (As := [.int x]) (rest := []) ⟨hx, hb, hml, hown, hts⟩ (c_X2_has l D cy a V x) (cwV 1 hts gX1_dropChange_X2_has rfl rfl rfl (by decide +kernel) ⟨Nat.le_of_ble_eq_true rfl, Nat.le_of_ble_eq_true rfl⟩) (fz_preV (ci := 1) (q0 := 0) hK (hP.sub (ws' := GW cy a V) [8, 9, 10, 11, 12, 13, 14, 15, 16] rfl) rfl rfl rfl fz_T_bl (fun _ _ _ => trivial)) rfl rfl hl.1 rfl (lv_room (Nat.le_of_ble_eq_true rfl)) dX1_dropChange_5 ⟨Nat.zero_le _, Nat.zero_le _⟩) ?_
  refine fz_ifneB (tgt := 13) hx hb dX1_dropChange_8 (by decide) (fun c_1 => ?_) (fun c_1 => ?_)
  · skip
    obtain ⟨z, hz, ez⟩ := fz_ix_t (by omega) (show fz_ix x (nI nc) = true by rw [← hnc]; exact c_1)
    have ez' := fz_tnat ez (by omega)
    refine lv_aload_n hx hb dX1_dropChange_13 rfl (lv_at hl 0 rfl) ?_
    refine va_get (D := D) (ci := 0) (v := .ref (a 8)) (C := RX1) (T := TX1) (N := 6) hx hb hts inX1 hown hK hP 0 rfl rfl 4 (by decide) k_37 (fun _ h9 => h9) rfl dX1_dropChange_14 ?_
    refine lv_iload_n hx hb dX1_dropChange_17 rfl (lv_at hl 1 rfl) ?_
    refine fz_at0 (show x = nI z from ez) ?_
    refine fz_retR (va_runV (As := [.int (nI z)]) (rest := []) ⟨hx, hb, hml, hown, hts⟩ (c_X2_isOpen l D cy a V z (by omega)) (cwV 1 hts gX1_dropChange_X2_isOpen rfl rfl rfl (by decide +kernel) ⟨Nat.le_of_ble_eq_true rfl, Nat.le_of_ble_eq_true rfl⟩) (fz_preV (ci := 1) (q0 := 0) hK (hP.sub (ws' := GW cy a V) [8, 9, 10, 11, 12, 13, 14, 15, 16] rfl) rfl rfl rfl fz_T_bl (fun _ _ _ => trivial)) rfl rfl hl.1 rfl (lv_room (Nat.le_of_ble_eq_true rfl)) dX1_dropChange_18 ⟨Nat.zero_le _, Nat.zero_le _⟩) ?_
    refine fz_ifneB (tgt := 27) hx hb dX1_dropChange_21 (by decide) (fun c_2 => ?_) (fun c_2 => ?_)
    · skip
      obtain ⟨j, hj, ej⟩ := hT z hz
      have ej' := fz_tnat ej (by omega)
      refine lv_aload_n hx hb dX1_dropChange_27 rfl (lv_at hl 0 rfl) ?_
      refine va_get (D := D) (ci := 0) (v := .ref (a 8)) (C := RX1) (T := TX1) (N := 6) hx hb hts inX1 hown hK hP 0 rfl rfl 4 (by decide) k_37 (fun _ h9 => h9) rfl dX1_dropChange_28 ?_
      refine lv_iload_n hx hb dX1_dropChange_31 rfl (lv_at hl 1 rfl) ?_
      refine lv_iconst (v := 4) hx hb dX1_dropChange_32 (by decide) ?_
      refine fz_at1 (show x = nI z from ez) ?_
      refine fz_retM (ws' := CE cy a (V 0 0) (V 3 0) (V 8 0) (nI (fz_deq (nI z) (V 16) nq).1) (V 17 0) (V 1) (V 2) (V 4) (V 5) (V 6) (V 7) (V 9) (V 10) (upd (V 11) z 4) (upd (V 12) z 0) (V 13) (V 14) (V 15) ((fz_deq (nI z) (V 16) nq).2) (V 18) (V 19) (V 20) (V 21) (V 22) (V 23)) (va_runV (As := [.int (nI z), .int 4]) (rest := []) ⟨hx, hb, hml, hown, hts⟩ (c_X2_close l D cy a V z (by omega) 4 nq hnq (by omega)) (cwV 2 hts gX1_dropChange_X2_close rfl rfl rfl (by decide +kernel) ⟨Nat.le_of_ble_eq_true rfl, Nat.le_of_ble_eq_true rfl⟩) (fz_preMV (ci := 1) (q0 := 0) hK (hP.sub (ws' := GW cy a V) [8, 9, 10, 11, 12, 13, 14, 15, 16] rfl) (hD.sub (ws' := GW cy a V) [8, 9, 10, 11, 12, 13, 14, 15, 16] (by decide) rfl) rfl rfl rfl fz_T_bl (fun _ _ _ => trivial)) rfl rfl hl.1 rfl (lv_room (Nat.le_of_ble_eq_true rfl)) dX1_dropChange_33 ⟨Nat.zero_le _, Nat.zero_le _⟩) hP hD hS [8, 9, 10, 11, 12, 13, 14, 15, 16] [0, 1, 2, 3, 4, 5, 6, 7, 17, 18, 19, 20, 21, 22, 23] rfl rfl [false, false, false, false, false, false, false, false, true, true, true, true, true, true, true, true, true, false, false, false, false, false, false, false] (And.intro rfl (And.intro rfl (And.intro rfl (And.intro rfl (And.intro rfl (And.intro rfl (And.intro rfl (And.intro rfl (And.intro rfl (And.intro rfl (And.intro rfl (And.intro rfl (And.intro rfl (And.intro rfl (And.intro rfl (And.intro rfl (And.intro rfl (And.intro rfl (And.intro rfl (And.intro rfl (And.intro rfl (And.intro rfl (And.intro rfl (And.intro rfl trivial)))))))))))))))))))))))) rfl rfl (fun H locs hP hD hS => ?_)
      have hP : va_P D vwCl (CE cy a (V 0 0) (V 3 0) (V 8 0) (nI (fz_deq (nI z) (V 16) nq).1) (V 17 0) (V 1) (V 2) (V 4) (V 5) (V 6) (V 7) (V 9) (V 10) (upd (V 11) z 4) (upd (V 12) z 0) (V 13) (V 14) (V 15) ((fz_deq (nI z) (V 16) nq).2) (V 18) (V 19) (V 20) (V 21) (V 22) (V 23)) H := hP
      have hD : va_D A (CE cy a (V 0 0) (V 3 0) (V 8 0) (nI (fz_deq (nI z) (V 16) nq).1) (V 17 0) (V 1) (V 2) (V 4) (V 5) (V 6) (V 7) (V 9) (V 10) (upd (V 11) z 4) (upd (V 12) z 0) (V 13) (V 14) (V 15) ((fz_deq (nI z) (V 16) nq).2) (V 18) (V 19) (V 20) (V 21) (V 22) (V 23)) := hD
      refine lv_istore_n (lv' := [(2, .int (V 12 z)), (0, .ref (a 0)), (1, .int x)]) hx hb dX1_dropChange_36 rfl hl (by decide) rfl (fun ls hl => ?_)
      refine lv_aload_n hx hb dX1_dropChange_37 rfl (lv_at hl 1 rfl) ?_
      refine va_get (D := D) (ci := 0) (v := .ref (a 3)) (C := RX1) (T := TX1) (N := 6) hx hb hts inX1 hown hK hP 0 rfl rfl 3 (by decide) k_30 (fun _ h9 => h9) rfl dX1_dropChange_38 ?_
      refine va_get (D := D) (ci := 5) (v := .ref (a 4)) (C := RX6) (T := TX6) (N := 5) hx hb hts inX6 hown hK hP 3 rfl rfl 1 (by decide) k_119 (fun _ h9 => h9) rfl dX1_dropChange_41 ?_
      refine lv_aload_n hx hb dX1_dropChange_44 rfl (lv_at hl 1 rfl) ?_
      refine va_get (D := D) (ci := 0) (v := .ref (a 8)) (C := RX1) (T := TX1) (N := 6) hx hb hts inX1 hown hK hP 0 rfl rfl 4 (by decide) k_37 (fun _ h9 => h9) rfl dX1_dropChange_45 ?_
      refine va_get (D := D) (ci := 1) (v := .ref (a 9)) (C := RX2) (T := TX2) (N := 10) hx hb hts inX2 hown hK hP 8 rfl rfl 1 (by decide) k_148 (fun _ h9 => h9) rfl dX1_dropChange_48 ?_
      refine lv_iload_n hx hb dX1_dropChange_51 rfl (lv_at hl 2 rfl) ?_
      refine fz_iald (f := V 9) hx hb hK hP 9 0 rfl rfl z ez (by omega) (by decide) dX1_dropChange_52 ?_
      refine lv_dup2_11 hx hb dX1_dropChange_53 rfl rfl ?_
      refine fz_iald (f := V 4) hx hb hK hP 4 0 rfl rfl j ej (by omega) (by decide) dX1_dropChange_54 ?_
      refine lv_iload_n hx hb dX1_dropChange_55 rfl (lv_at hl 0 rfl) ?_
      refine lv_iadd hx hb dX1_dropChange_56 ?_
      refine fz_iast (f := V 4) hx hb hK hP hD hS 4 0 rfl rfl j ej (by omega) (by decide) dX1_dropChange_57 (fun H locs hP hD hS => ?_)
      have hP : va_P D vwCl (CE cy a (V 0 0) (V 3 0) (V 8 0) (nI (fz_deq (nI z) (V 16) nq).1) (V 17 0) (V 1) (V 2) (upd (V 4) j ((V 4 j) + (V 12 z))) (V 5) (V 6) (V 7) (V 9) (V 10) (upd (V 11) z 4) (upd (V 12) z 0) (V 13) (V 14) (V 15) ((fz_deq (nI z) (V 16) nq).2) (V 18) (V 19) (V 20) (V 21) (V 22) (V 23)) H := hP
      have hD : va_D A (CE cy a (V 0 0) (V 3 0) (V 8 0) (nI (fz_deq (nI z) (V 16) nq).1) (V 17 0) (V 1) (V 2) (upd (V 4) j ((V 4 j) + (V 12 z))) (V 5) (V 6) (V 7) (V 9) (V 10) (upd (V 11) z 4) (upd (V 12) z 0) (V 13) (V 14) (V 15) ((fz_deq (nI z) (V 16) nq).2) (V 18) (V 19) (V 20) (V 21) (V 22) (V 23)) := hD
      refine lv_iload_n hx hb dX1_dropChange_58 rfl (lv_at hl 0 rfl) ?_
      have eF : fz_drop V nc nq x = fz_drop2 V nq z j := by simp only [fz_drop, c_1, c_2, ez', ej', ↓reduceIte, Bool.false_eq_true]
      exact W.iret (v := (V 12 z)) hx hb hr (fun t9 ht9 hW9 => ⟨⟨_, (), rfl, (by rw [eF] <;> rfl), fz_to ht9 (by rw [eF]; exact hP)⟩, hS.F ht9⟩) hS.2.2 dX1_dropChange_59
    · skip
      refine lv_bipush (v := (-3)) hx hb dX1_dropChange_24 (by decide) ?_
      have eF : fz_drop V nc nq x = ((-3), V) := by simp only [fz_drop, c_1, c_2, ez', ↓reduceIte, Bool.false_eq_true]
      exact W.iret (v := (-3)) hx hb hr (fun t9 ht9 hW9 => ⟨⟨_, (), rfl, (by rw [eF] <;> rfl), fz_to ht9 (by rw [eF]; exact hP)⟩, hS.F ht9⟩) hS.2.2 dX1_dropChange_26
  · skip
    refine lv_iconst (v := (-1)) hx hb dX1_dropChange_11 (by decide) ?_
    have eF : fz_drop V nc nq x = ((-1), V) := by simp only [fz_drop, c_1, ↓reduceIte, Bool.false_eq_true]
    exact W.iret (v := (-1)) hx hb hr (fun t9 ht9 hW9 => ⟨⟨_, (), rfl, (by rw [eF] <;> rfl), fz_to ht9 (by rw [eF]; exact hP)⟩, hS.F ht9⟩) hS.2.2 dX1_dropChange_12
set_option maxHeartbeats 4000000 in
set_option maxRecDepth 100000 in
/-- Calendar.repayLoan -/
theorem c_X1_repayLoan (l : Launch) (D : va_G) (cy : Nat → ClassId) (a : Nat → Nat) (V : Nat → Nat → Int32) (nt nc nq nl wk : Nat) (wf : fz_wf V nt nc nq nl wk) (x y : Int32) : fz_MI l yX1_repayLoan wsX1_repayLoan 1 22 D cy [.ref (a 0), .int x, .int y] (CW cy a V) fz_T ((fz_repay V nl x y).1) (CW cy a ((fz_repay V nl x y).2)) := by
  refine Met.ofW (cc := cX1_repayLoan) (maxL := 3) (ret := (some .int)) (by decide) rfl ?_
  intro p e s m args below meth c s₁ B hml hv
  obtain ⟨rfl, hP, hK, hD0, hE⟩ := hv
  have hx := B.exec
  have hb := B.bytes
  have hr := B.returns
  have hts := atoms_spec (ws := wsX1_repayLoan) B.pre
  have hown : s.vm.findClass RX1 = some m.cls := findClass_of_methodNamed B.named
  have hlocks := B.notSynchronized
  have hD := fz_self hD0
  generalize hAe : fz_in (CW cy a V) = A at hD ⊢
  have hS : va_S A s.heap s.heap [] := va_S.rf
  have hl := lv_entry ([.ref (a 0), .int x, .int y]) (n := 3) (Nat.le_of_ble_eq_true rfl)
  rw [lg_entry_eq]
  generalize (lg_sl ([.ref (a 0), .int x, .int y]) ++ List.replicate (3 - (lg_sl ([.ref (a 0), .int x, .int y])).length) Slot.unset).toArray = ls at hl ⊢
  have hl : lv_has ls 3 [(0, .ref (a 0)), (1, .int x), (2, .int y)] := hl
  have k_44 := hts (.fieldLink RX1 44 "FreezeCredits$Calendar" "loans" "LFreezeCredits$Loans;") (by decide +kernel)
  have inX1 : ∀ w ∈ u_ws RX1 TX1 6, w ∈ wsX1_repayLoan := by decide +kernel
  have k_103 := hts (.fieldLink RX1 103 "FreezeCredits$Loans" "left" "[I") (by decide +kernel)
  have inX5 : ∀ w ∈ u_ws RX5 TX5 7, w ∈ wsX1_repayLoan := by decide +kernel
  obtain ⟨hnt, hnt6, hnc, hnc30, hnq, hqc, hnl, hnl12, hwk, hwk39, hT, hQ, hG, hB⟩ := id wf
  refine lv_aload_n hx hb dX1_repayLoan_0 rfl (lv_at hl 0 rfl) ?_
  refine va_get (D := D) (ci := 0) (v := .ref (a 17)) (C := RX1) (T := TX1) (N := 6) hx hb hts inX1 hown hK hP 0 rfl rfl 5 (by decide) k_44 (fun _ h9 => h9) rfl dX1_repayLoan_1 ?_
  refine lv_iload_n hx hb dX1_repayLoan_4 rfl (lv_at hl 1 rfl) ?_
  refine fz_retR (va_runV (As := [.int x]) (rest := []) ⟨hx, hb, hml, hown, hts⟩ (c_X5_has l D cy a V x) (cwV 1 hts gX1_repayLoan_X5_has rfl rfl rfl (by decide +kernel) ⟨Nat.le_of_ble_eq_true rfl, Nat.le_of_ble_eq_true rfl⟩) (fz_preV (ci := 4) (q0 := 0) hK (hP.sub (ws' := LW cy a V) [17, 18, 19, 20, 21, 22, 23] rfl) rfl rfl rfl fz_T_bl (fun _ _ _ => trivial)) rfl rfl hl.1 rfl (lv_room (Nat.le_of_ble_eq_true rfl)) dX1_repayLoan_5 ⟨Nat.zero_le _, Nat.zero_le _⟩) ?_
  refine fz_ifneB (tgt := 13) hx hb dX1_repayLoan_8 (by decide) (fun c_1 => ?_) (fun c_1 => ?_)
  · skip
    obtain ⟨z, hz, ez⟩ := fz_ix_t (by omega) (show fz_ix x (nI nl) = true by rw [← hnl]; exact c_1)
    have ez' := fz_tnat ez (by omega)
    refine lv_iload_n hx hb dX1_repayLoan_13 rfl (lv_at hl 2 rfl) ?_
    refine lv_iconst (v := 1) hx hb dX1_repayLoan_14 (by decide) ?_
    refine lv_icmp_lt (tgt := 25) hx hb dX1_repayLoan_15 (by decide) (fun c_2 => ?_) (fun c_2 => ?_)
    · skip
      refine lv_bipush (v := (-2)) hx hb dX1_repayLoan_25 (by decide) ?_
      have eF : fz_repay V nl x y = ((-2), V) := by simp only [fz_repay, c_1, c_2, ez', ↓reduceIte, Bool.false_eq_true]
      exact W.iret (v := (-2)) hx hb hr (fun t9 ht9 hW9 => ⟨⟨_, (), rfl, (by rw [eF] <;> rfl), fz_to ht9 (by rw [eF]; exact hP)⟩, hS.F ht9⟩) hS.2.2 dX1_repayLoan_27
    · skip
      refine lv_iload_n hx hb dX1_repayLoan_18 rfl (lv_at hl 2 rfl) ?_
      refine lv_sipush (v := 500) hx hb dX1_repayLoan_19 (by decide) ?_
      refine lv_icmp_le (tgt := 28) hx hb dX1_repayLoan_22 (by decide) (fun c_3 => ?_) (fun c_3 => ?_)
      · skip
        refine lv_aload_n hx hb dX1_repayLoan_28 rfl (lv_at hl 0 rfl) ?_
        refine va_get (D := D) (ci := 0) (v := .ref (a 17)) (C := RX1) (T := TX1) (N := 6) hx hb hts inX1 hown hK hP 0 rfl rfl 5 (by decide) k_44 (fun _ h9 => h9) rfl dX1_repayLoan_29 ?_
        refine va_get (D := D) (ci := 4) (v := .ref (a 21)) (C := RX5) (T := TX5) (N := 7) hx hb hts inX5 hown hK hP 17 rfl rfl 4 (by decide) k_103 (fun _ h9 => h9) rfl dX1_repayLoan_32 ?_
        refine lv_iload_n hx hb dX1_repayLoan_35 rfl (lv_at hl 1 rfl) ?_
        refine fz_iald (f := V 21) hx hb hK hP 21 0 rfl rfl z ez (by omega) (by decide) dX1_repayLoan_36 ?_
        refine lv_iload_n hx hb dX1_repayLoan_37 rfl (lv_at hl 2 rfl) ?_
        refine lv_icmp_lt (tgt := 50) hx hb dX1_repayLoan_38 (by decide) (fun c_4 => ?_) (fun c_4 => ?_)
        · skip
          refine lv_bipush (v := (-3)) hx hb dX1_repayLoan_50 (by decide) ?_
          have eF : fz_repay V nl x y = ((-3), V) := by simp only [fz_repay, c_1, c_2, c_3, c_4, ez', ↓reduceIte, Bool.false_eq_true]
          exact W.iret (v := (-3)) hx hb hr (fun t9 ht9 hW9 => ⟨⟨_, (), rfl, (by rw [eF] <;> rfl), fz_to ht9 (by rw [eF]; exact hP)⟩, hS.F ht9⟩) hS.2.2 dX1_repayLoan_52
        · skip
          refine lv_aload_n hx hb dX1_repayLoan_41 rfl (lv_at hl 0 rfl) ?_
          refine lv_iload_n hx hb dX1_repayLoan_42 rfl (lv_at hl 1 rfl) ?_
          refine fz_at0 (show x = nI z from ez) ?_
          refine fz_retR (va_runV (As := [.int (nI z)]) (rest := []) ⟨hx, hb, hml, hown, hts⟩ (c_X1_freeOfTaker l D cy a V nt nc nq nl wk wf z hz) (cwV 1 hts gX1_repayLoan_X1_freeOfTaker rfl rfl rfl (by decide +kernel) ⟨Nat.le_of_ble_eq_true rfl, Nat.le_of_ble_eq_true rfl⟩) (fz_preV (ci := 0) (q0 := 0) hK hP rfl rfl rfl fz_T_bl (fun _ _ _ => trivial)) rfl rfl hl.1 rfl (lv_room (Nat.le_of_ble_eq_true rfl)) dX1_repayLoan_43 ⟨Nat.zero_le _, Nat.zero_le _⟩) ?_
          refine lv_iload_n hx hb dX1_repayLoan_46 rfl (lv_at hl 2 rfl) ?_
          refine lv_icmp_ge (tgt := 53) hx hb dX1_repayLoan_47 (by decide) (fun c_5 => ?_) (fun c_5 => ?_)
          · skip
            refine lv_aload_n hx hb dX1_repayLoan_53 rfl (lv_at hl 0 rfl) ?_
            refine lv_iload_n hx hb dX1_repayLoan_54 rfl (lv_at hl 1 rfl) ?_
            refine lv_iload_n hx hb dX1_repayLoan_55 rfl (lv_at hl 2 rfl) ?_
            refine fz_at1 (show x = nI z from ez) ?_
            refine fz_retMV (ws' := CE cy a (V 0 0) (V 3 0) (V 8 0) (V 8 1) (V 17 0) (V 1) (V 2) ((fz_pb (V 18) (V 19) z y (V 4, V 21)).1) (V 5) (V 6) (V 7) (V 9) (V 10) (V 11) (V 12) (V 13) (V 14) (V 15) (V 16) (V 18) (V 19) (V 20) ((fz_pb (V 18) (V 19) z y (V 4, V 21)).2) (V 22) (V 23)) (va_runV (As := [.int (nI z), .int y]) (rest := []) ⟨hx, hb, hml, hown, hts⟩ (c_X1_payBack l D cy a V nt nc nq nl wk wf z hz y) (cwV 2 hts gX1_repayLoan_X1_payBack rfl rfl rfl (by decide +kernel) ⟨Nat.le_of_ble_eq_true rfl, Nat.le_of_ble_eq_true rfl⟩) (fz_preMV (ci := 0) (q0 := 0) hK hP hD rfl rfl rfl fz_T_bl (fun _ _ _ => trivial)) rfl rfl hl.1 rfl (lv_room (Nat.le_of_ble_eq_true rfl)) dX1_repayLoan_56 ⟨Nat.zero_le _, Nat.zero_le _⟩) hP hD hS [0, 1, 2, 3, 4, 5, 6, 7, 8, 9, 10, 11, 12, 13, 14, 15, 16, 17, 18, 19, 20, 21, 22, 23] [] rfl rfl [true, true, true, true, true, true, true, true, true, true, true, true, true, true, true, true, true, true, true, true, true, true, true, true] (And.intro rfl (And.intro rfl (And.intro rfl (And.intro rfl (And.intro rfl (And.intro rfl (And.intro rfl (And.intro rfl (And.intro rfl (And.intro rfl (And.intro rfl (And.intro rfl (And.intro rfl (And.intro rfl (And.intro rfl (And.intro rfl (And.intro rfl (And.intro rfl (And.intro rfl (And.intro rfl (And.intro rfl (And.intro rfl (And.intro rfl (And.intro rfl trivial)))))))))))))))))))))))) rfl rfl (fun H locs hP hD hS => ?_)
            have hP : va_P D vwCl (CE cy a (V 0 0) (V 3 0) (V 8 0) (V 8 1) (V 17 0) (V 1) (V 2) ((fz_pb (V 18) (V 19) z y (V 4, V 21)).1) (V 5) (V 6) (V 7) (V 9) (V 10) (V 11) (V 12) (V 13) (V 14) (V 15) (V 16) (V 18) (V 19) (V 20) ((fz_pb (V 18) (V 19) z y (V 4, V 21)).2) (V 22) (V 23)) H := hP
            have hD : va_D A (CE cy a (V 0 0) (V 3 0) (V 8 0) (V 8 1) (V 17 0) (V 1) (V 2) ((fz_pb (V 18) (V 19) z y (V 4, V 21)).1) (V 5) (V 6) (V 7) (V 9) (V 10) (V 11) (V 12) (V 13) (V 14) (V 15) (V 16) (V 18) (V 19) (V 20) ((fz_pb (V 18) (V 19) z y (V 4, V 21)).2) (V 22) (V 23)) := hD
            refine lv_aload_n hx hb dX1_repayLoan_59 rfl (lv_at hl 0 rfl) ?_
            refine va_get (D := D) (ci := 0) (v := .ref (a 17)) (C := RX1) (T := TX1) (N := 6) hx hb hts inX1 hown hK hP 0 rfl rfl 5 (by decide) k_44 (fun _ h9 => h9) rfl dX1_repayLoan_60 ?_
            refine va_get (D := D) (ci := 4) (v := .ref (a 21)) (C := RX5) (T := TX5) (N := 7) hx hb hts inX5 hown hK hP 17 rfl rfl 4 (by decide) k_103 (fun _ h9 => h9) rfl dX1_repayLoan_63 ?_
            refine lv_iload_n hx hb dX1_repayLoan_66 rfl (lv_at hl 1 rfl) ?_
            refine fz_iald (f := (fz_pb (V 18) (V 19) z y (V 4, V 21)).2) hx hb hK hP 21 0 rfl rfl z ez (by omega) (by decide) dX1_repayLoan_67 ?_
            have eF : fz_repay V nl x y = (((fz_pb (V 18) (V 19) z y (V 4, V 21)).2) z, fz_up (fz_up V 4 ((fz_pb (V 18) (V 19) z y (V 4, V 21)).1)) 21 ((fz_pb (V 18) (V 19) z y (V 4, V 21)).2)) := by simp only [fz_repay, c_1, c_2, c_3, c_4, c_5, ez', ↓reduceIte, Bool.false_eq_true]
            exact W.iret (v := (((fz_pb (V 18) (V 19) z y (V 4, V 21)).2) z)) hx hb hr (fun t9 ht9 hW9 => ⟨⟨_, (), rfl, (by rw [eF] <;> rfl), fz_to ht9 (by rw [eF]; exact hP)⟩, hS.F ht9⟩) hS.2.2 dX1_repayLoan_68
          · skip
            refine lv_bipush (v := (-3)) hx hb dX1_repayLoan_50 (by decide) ?_
            have eF : fz_repay V nl x y = ((-3), V) := by simp only [fz_repay, c_1, c_2, c_3, c_4, c_5, ez', ↓reduceIte, Bool.false_eq_true]
            exact W.iret (v := (-3)) hx hb hr (fun t9 ht9 hW9 => ⟨⟨_, (), rfl, (by rw [eF] <;> rfl), fz_to ht9 (by rw [eF]; exact hP)⟩, hS.F ht9⟩) hS.2.2 dX1_repayLoan_52
      · skip
        refine lv_bipush (v := (-2)) hx hb dX1_repayLoan_25 (by decide) ?_
        have eF : fz_repay V nl x y = ((-2), V) := by simp only [fz_repay, c_1, c_2, c_3, ez', ↓reduceIte, Bool.false_eq_true]
        exact W.iret (v := (-2)) hx hb hr (fun t9 ht9 hW9 => ⟨⟨_, (), rfl, (by rw [eF] <;> rfl), fz_to ht9 (by rw [eF]; exact hP)⟩, hS.F ht9⟩) hS.2.2 dX1_repayLoan_27
  · skip
    refine lv_iconst (v := (-1)) hx hb dX1_repayLoan_11 (by decide) ?_
    have eF : fz_repay V nl x y = ((-1), V) := by simp only [fz_repay, c_1, ↓reduceIte, Bool.false_eq_true]
    exact W.iret (v := (-1)) hx hb hr (fun t9 ht9 hW9 => ⟨⟨_, (), rfl, (by rw [eF] <;> rfl), fz_to ht9 (by rw [eF]; exact hP)⟩, hS.F ht9⟩) hS.2.2 dX1_repayLoan_12
set_option maxHeartbeats 4000000 in
set_option maxRecDepth 100000 in
/-- Calendar.lendCredits -/
theorem c_X1_lendCredits (l : Launch) (D : va_G) (cy : Nat → ClassId) (a : Nat → Nat) (V : Nat → Nat → Int32) (nt nc nq nl wk : Nat) (wf : fz_wf V nt nc nq nl wk) (f g y w : Int32) : fz_MI l yX1_lendCredits wsX1_lendCredits 2 44 D cy [.ref (a 0), .int f, .int g, .int y, .int w] (CW cy a V) fz_T ((fz_lend V nt nl f g y w).1) (CW cy a ((fz_lend V nt nl f g y w).2)) := by
  refine Met.ofW (cc := cX1_lendCredits) (maxL := 5) (ret := (some .int)) (by decide) rfl ?_
  intro p e s m args below meth c s₁ B hml hv
  obtain ⟨rfl, hP, hK, hD0, hE⟩ := hv
  have hx := B.exec
  have hb := B.bytes
  have hr := B.returns
  have hts := atoms_spec (ws := wsX1_lendCredits) B.pre
  have hown : s.vm.findClass RX1 = some m.cls := findClass_of_methodNamed B.named
  have hlocks := B.notSynchronized
  have hD := fz_self hD0
  generalize hAe : fz_in (CW cy a V) = A at hD ⊢
  have hS : va_S A s.heap s.heap [] := va_S.rf
  have hl := lv_entry ([.ref (a 0), .int f, .int g, .int y, .int w]) (n := 5) (Nat.le_of_ble_eq_true rfl)
  rw [lg_entry_eq]
  generalize (lg_sl ([.ref (a 0), .int f, .int g, .int y, .int w]) ++ List.replicate (5 - (lg_sl ([.ref (a 0), .int f, .int g, .int y, .int w])).length) Slot.unset).toArray = ls at hl ⊢
  have hl : lv_has ls 5 [(0, .ref (a 0)), (1, .int f), (2, .int g), (3, .int y), (4, .int w)] := hl
  have k_30 := hts (.fieldLink RX1 30 "FreezeCredits$Calendar" "teams" "LFreezeCredits$Teams;") (by decide +kernel)
  have inX1 : ∀ w ∈ u_ws RX1 TX1 6, w ∈ wsX1_lendCredits := by decide +kernel
  have k_48 := hts (.fieldLink RX1 48 "FreezeCredits$Calendar" "week" "I") (by decide +kernel)
  have k_44 := hts (.fieldLink RX1 44 "FreezeCredits$Calendar" "loans" "LFreezeCredits$Loans;") (by decide +kernel)
  have k_99 := hts (.fieldLink RX1 99 "FreezeCredits$Loans" "count" "I") (by decide +kernel)
  have inX5 : ∀ w ∈ u_ws RX5 TX5 7, w ∈ wsX1_lendCredits := by decide +kernel
  have k_119 := hts (.fieldLink RX1 119 "FreezeCredits$Teams" "free" "[I") (by decide +kernel)
  have inX6 : ∀ w ∈ u_ws RX6 TX6 5, w ∈ wsX1_lendCredits := by decide +kernel
  obtain ⟨hnt, hnt6, hnc, hnc30, hnq, hqc, hnl, hnl12, hwk, hwk39, hT, hQ, hG, hB⟩ := id wf
  refine lv_aload_n hx hb dX1_lendCredits_0 rfl (lv_at hl 0 rfl) ?_
  refine va_get (D := D) (ci := 0) (v := .ref (a 3)) (C := RX1) (T := TX1) (N := 6) hx hb hts inX1 hown hK hP 0 rfl rfl 3 (by decide) k_30 (fun _ h9 => h9) rfl dX1_lendCredits_1 ?_
  refine lv_iload_n hx hb dX1_lendCredits_4 rfl (lv_at hl 1 rfl) ?_
  refine fz_retR (va_runV (As := [.int f]) (rest := []) ⟨hx, hb, hml, hown, hts⟩ (c_X6_has l D cy a V f) (cwV 1 hts gX1_lendCredits_X6_has rfl rfl rfl (by decide +kernel) ⟨Nat.le_of_ble_eq_true rfl, Nat.le_of_ble_eq_true rfl⟩) (fz_preV (ci := 5) (q0 := 0) hK (hP.sub (ws' := TW cy a V) [3, 4, 5, 6, 7] rfl) rfl rfl rfl fz_T_bl (fun _ _ _ => trivial)) rfl rfl hl.1 rfl (lv_room (Nat.le_of_ble_eq_true rfl)) dX1_lendCredits_5 ⟨Nat.zero_le _, Nat.zero_le _⟩) ?_
  refine fz_ifeqB (tgt := 22) hx hb dX1_lendCredits_8 (by decide) (fun c_1 => ?_) (fun c_1 => ?_)
  · skip
    refine lv_iconst (v := (-1)) hx hb dX1_lendCredits_22 (by decide) ?_
    have eF : fz_lend V nt nl f g y w = ((-1), V) := by simp only [fz_lend, c_1, ↓reduceIte, Bool.false_eq_true]
    exact W.iret (v := (-1)) hx hb hr (fun t9 ht9 hW9 => ⟨⟨_, (), rfl, (by rw [eF] <;> rfl), fz_to ht9 (by rw [eF]; exact hP)⟩, hS.F ht9⟩) hS.2.2 dX1_lendCredits_23
  · skip
    obtain ⟨i, hi, ei⟩ := fz_ix_t (by omega) (show fz_ix f (nI nt) = true by rw [← hnt]; exact c_1)
    have ei' := fz_tnat ei (by omega)
    refine lv_aload_n hx hb dX1_lendCredits_11 rfl (lv_at hl 0 rfl) ?_
    refine va_get (D := D) (ci := 0) (v := .ref (a 3)) (C := RX1) (T := TX1) (N := 6) hx hb hts inX1 hown hK hP 0 rfl rfl 3 (by decide) k_30 (fun _ h9 => h9) rfl dX1_lendCredits_12 ?_
    refine lv_iload_n hx hb dX1_lendCredits_15 rfl (lv_at hl 2 rfl) ?_
    refine fz_retR (va_runV (As := [.int g]) (rest := []) ⟨hx, hb, hml, hown, hts⟩ (c_X6_has l D cy a V g) (cwV 1 hts gX1_lendCredits_X6_has rfl rfl rfl (by decide +kernel) ⟨Nat.le_of_ble_eq_true rfl, Nat.le_of_ble_eq_true rfl⟩) (fz_preV (ci := 5) (q0 := 0) hK (hP.sub (ws' := TW cy a V) [3, 4, 5, 6, 7] rfl) rfl rfl rfl fz_T_bl (fun _ _ _ => trivial)) rfl rfl hl.1 rfl (lv_room (Nat.le_of_ble_eq_true rfl)) dX1_lendCredits_16 ⟨Nat.zero_le _, Nat.zero_le _⟩) ?_
    refine fz_ifneB (tgt := 24) hx hb dX1_lendCredits_19 (by decide) (fun c_2 => ?_) (fun c_2 => ?_)
    · skip
      obtain ⟨j, hj, ej⟩ := fz_ix_t (by omega) (show fz_ix g (nI nt) = true by rw [← hnt]; exact c_2)
      have ej' := fz_tnat ej (by omega)
      refine lv_iload_n hx hb dX1_lendCredits_24 rfl (lv_at hl 1 rfl) ?_
      refine lv_iload_n hx hb dX1_lendCredits_25 rfl (lv_at hl 2 rfl) ?_
      refine lv_icmp_eq (tgt := 53) hx hb dX1_lendCredits_26 (by decide) (fun c_3 => ?_) (fun c_3 => ?_)
      · skip
        refine lv_bipush (v := (-2)) hx hb dX1_lendCredits_53 (by decide) ?_
        have eF : fz_lend V nt nl f g y w = ((-2), V) := by simp only [fz_lend, c_1, c_2, c_3, ei', ej', ↓reduceIte, Bool.false_eq_true]
        exact W.iret (v := (-2)) hx hb hr (fun t9 ht9 hW9 => ⟨⟨_, (), rfl, (by rw [eF] <;> rfl), fz_to ht9 (by rw [eF]; exact hP)⟩, hS.F ht9⟩) hS.2.2 dX1_lendCredits_55
      · skip
        refine lv_iload_n hx hb dX1_lendCredits_29 rfl (lv_at hl 3 rfl) ?_
        refine lv_iconst (v := 1) hx hb dX1_lendCredits_30 (by decide) ?_
        refine lv_icmp_lt (tgt := 53) hx hb dX1_lendCredits_31 (by decide) (fun c_4 => ?_) (fun c_4 => ?_)
        · skip
          refine lv_bipush (v := (-2)) hx hb dX1_lendCredits_53 (by decide) ?_
          have eF : fz_lend V nt nl f g y w = ((-2), V) := by simp only [fz_lend, c_1, c_2, c_3, c_4, ei', ej', ↓reduceIte, Bool.false_eq_true]
          exact W.iret (v := (-2)) hx hb hr (fun t9 ht9 hW9 => ⟨⟨_, (), rfl, (by rw [eF] <;> rfl), fz_to ht9 (by rw [eF]; exact hP)⟩, hS.F ht9⟩) hS.2.2 dX1_lendCredits_55
        · skip
          refine lv_iload_n hx hb dX1_lendCredits_34 rfl (lv_at hl 3 rfl) ?_
          refine lv_sipush (v := 500) hx hb dX1_lendCredits_35 (by decide) ?_
          refine lv_icmp_gt (tgt := 53) hx hb dX1_lendCredits_38 (by decide) (fun c_5 => ?_) (fun c_5 => ?_)
          · skip
            refine lv_bipush (v := (-2)) hx hb dX1_lendCredits_53 (by decide) ?_
            have eF : fz_lend V nt nl f g y w = ((-2), V) := by simp only [fz_lend, c_1, c_2, c_3, c_4, c_5, ei', ej', ↓reduceIte, Bool.false_eq_true]
            exact W.iret (v := (-2)) hx hb hr (fun t9 ht9 hW9 => ⟨⟨_, (), rfl, (by rw [eF] <;> rfl), fz_to ht9 (by rw [eF]; exact hP)⟩, hS.F ht9⟩) hS.2.2 dX1_lendCredits_55
          · skip
            refine lv_iload hx hb dX1_lendCredits_41 (lv_at hl 4 rfl) ?_
            refine lv_if_lt (tgt := 53) hx hb dX1_lendCredits_43 (by decide) (fun c_6 => ?_) (fun c_6 => ?_)
            · skip
              refine lv_bipush (v := (-2)) hx hb dX1_lendCredits_53 (by decide) ?_
              have eF : fz_lend V nt nl f g y w = ((-2), V) := by simp only [fz_lend, c_1, c_2, c_3, c_4, c_5, c_6, ei', ej', ↓reduceIte, Bool.false_eq_true]
              exact W.iret (v := (-2)) hx hb hr (fun t9 ht9 hW9 => ⟨⟨_, (), rfl, (by rw [eF] <;> rfl), fz_to ht9 (by rw [eF]; exact hP)⟩, hS.F ht9⟩) hS.2.2 dX1_lendCredits_55
            · skip
              refine lv_iload hx hb dX1_lendCredits_46 (lv_at hl 4 rfl) ?_
              refine lv_bipush (v := 39) hx hb dX1_lendCredits_48 (by decide) ?_
              refine lv_icmp_le (tgt := 56) hx hb dX1_lendCredits_50 (by decide) (fun c_7 => ?_) (fun c_7 => ?_)
              · skip
                refine lv_iload hx hb dX1_lendCredits_56 (lv_at hl 4 rfl) ?_
                refine lv_aload_n hx hb dX1_lendCredits_58 rfl (lv_at hl 0 rfl) ?_
                refine va_get (D := D) (ci := 0) (v := .int (V 0 0)) (C := RX1) (T := TX1) (N := 6) hx hb hts inX1 hown hK hP 0 rfl rfl 0 (by decide) k_48 (fun _ h9 => h9) rfl dX1_lendCredits_59 ?_
                refine lv_icmp_lt (tgt := 98) hx hb dX1_lendCredits_62 (by decide) (fun c_8 => ?_) (fun c_8 => ?_)
                · skip
                  refine lv_bipush (v := (-3)) hx hb dX1_lendCredits_98 (by decide) ?_
                  have eF : fz_lend V nt nl f g y w = ((-3), V) := by simp only [fz_lend, c_1, c_2, c_3, c_4, c_5, c_6, c_7, c_8, ei', ej', ↓reduceIte, Bool.false_eq_true]
                  exact W.iret (v := (-3)) hx hb hr (fun t9 ht9 hW9 => ⟨⟨_, (), rfl, (by rw [eF] <;> rfl), fz_to ht9 (by rw [eF]; exact hP)⟩, hS.F ht9⟩) hS.2.2 dX1_lendCredits_100
                · skip
                  refine lv_aload_n hx hb dX1_lendCredits_65 rfl (lv_at hl 0 rfl) ?_
                  refine va_get (D := D) (ci := 0) (v := .ref (a 17)) (C := RX1) (T := TX1) (N := 6) hx hb hts inX1 hown hK hP 0 rfl rfl 5 (by decide) k_44 (fun _ h9 => h9) rfl dX1_lendCredits_66 ?_
                  refine va_get (D := D) (ci := 4) (v := .int (V 17 0)) (C := RX5) (T := TX5) (N := 7) hx hb hts inX5 hown hK hP 17 rfl rfl 0 (by decide) k_99 (fun _ h9 => h9) rfl dX1_lendCredits_69 ?_
                  refine lv_bipush (v := 12) hx hb dX1_lendCredits_72 (by decide) ?_
                  refine fz_geN (tgt := 98) hx hb nl 12 hnl rfl dX1_lendCredits_74 (by decide) (by omega) (by omega) (fun c_9 => ?_) (fun c_9 => ?_)
                  · skip
                    refine lv_bipush (v := (-3)) hx hb dX1_lendCredits_98 (by decide) ?_
                    have eF : fz_lend V nt nl f g y w = ((-3), V) := by simp only [fz_lend, c_1, c_2, c_3, c_4, c_5, c_6, c_7, c_8, c_9, ei', ej', ↓reduceIte, Bool.false_eq_true]
                    exact W.iret (v := (-3)) hx hb hr (fun t9 ht9 hW9 => ⟨⟨_, (), rfl, (by rw [eF] <;> rfl), fz_to ht9 (by rw [eF]; exact hP)⟩, hS.F ht9⟩) hS.2.2 dX1_lendCredits_100
                  · skip
                    refine lv_aload_n hx hb dX1_lendCredits_77 rfl (lv_at hl 0 rfl) ?_
                    refine va_get (D := D) (ci := 0) (v := .ref (a 3)) (C := RX1) (T := TX1) (N := 6) hx hb hts inX1 hown hK hP 0 rfl rfl 3 (by decide) k_30 (fun _ h9 => h9) rfl dX1_lendCredits_78 ?_
                    refine va_get (D := D) (ci := 5) (v := .ref (a 4)) (C := RX6) (T := TX6) (N := 5) hx hb hts inX6 hown hK hP 3 rfl rfl 1 (by decide) k_119 (fun _ h9 => h9) rfl dX1_lendCredits_81 ?_
                    refine lv_iload_n hx hb dX1_lendCredits_84 rfl (lv_at hl 1 rfl) ?_
                    refine fz_iald (f := V 4) hx hb hK hP 4 0 rfl rfl i ei (by omega) (by decide) dX1_lendCredits_85 ?_
                    refine lv_iload_n hx hb dX1_lendCredits_86 rfl (lv_at hl 3 rfl) ?_
                    refine lv_icmp_lt (tgt := 98) hx hb dX1_lendCredits_87 (by decide) (fun c_10 => ?_) (fun c_10 => ?_)
                    · skip
                      refine lv_bipush (v := (-3)) hx hb dX1_lendCredits_98 (by decide) ?_
                      have eF : fz_lend V nt nl f g y w = ((-3), V) := by simp only [fz_lend, c_1, c_2, c_3, c_4, c_5, c_6, c_7, c_8, Nat.not_le.mpr c_9, c_10, ei', ej', ↓reduceIte, Bool.false_eq_true]
                      exact W.iret (v := (-3)) hx hb hr (fun t9 ht9 hW9 => ⟨⟨_, (), rfl, (by rw [eF] <;> rfl), fz_to ht9 (by rw [eF]; exact hP)⟩, hS.F ht9⟩) hS.2.2 dX1_lendCredits_100
                    · skip
                      refine lv_aload_n hx hb dX1_lendCredits_90 rfl (lv_at hl 0 rfl) ?_
                      refine lv_iload_n hx hb dX1_lendCredits_91 rfl (lv_at hl 2 rfl) ?_
                      refine fz_retR (va_runV (As := [.int g]) (rest := []) ⟨hx, hb, hml, hown, hts⟩ (c_X1_owes l D cy a V nt nc nq nl wk wf g) (cwV 1 hts gX1_lendCredits_X1_owes rfl rfl rfl (by decide +kernel) ⟨Nat.le_of_ble_eq_true rfl, Nat.le_of_ble_eq_true rfl⟩) (fz_preV (ci := 0) (q0 := 0) hK hP rfl rfl rfl fz_T_bl (fun _ _ _ => trivial)) rfl rfl hl.1 rfl (lv_room (Nat.le_of_ble_eq_true rfl)) dX1_lendCredits_92 ⟨Nat.zero_le _, Nat.zero_le _⟩) ?_
                      refine fz_ifeqB (tgt := 101) hx hb dX1_lendCredits_95 (by decide) (fun c_11 => ?_) (fun c_11 => ?_)
                      · skip
                        refine lv_aload_n hx hb dX1_lendCredits_101 rfl (lv_at hl 0 rfl) ?_
                        refine va_get (D := D) (ci := 0) (v := .ref (a 3)) (C := RX1) (T := TX1) (N := 6) hx hb hts inX1 hown hK hP 0 rfl rfl 3 (by decide) k_30 (fun _ h9 => h9) rfl dX1_lendCredits_102 ?_
                        refine va_get (D := D) (ci := 5) (v := .ref (a 4)) (C := RX6) (T := TX6) (N := 5) hx hb hts inX6 hown hK hP 3 rfl rfl 1 (by decide) k_119 (fun _ h9 => h9) rfl dX1_lendCredits_105 ?_
                        refine lv_iload_n hx hb dX1_lendCredits_108 rfl (lv_at hl 1 rfl) ?_
                        refine lv_dup2_11 hx hb dX1_lendCredits_109 rfl rfl ?_
                        refine fz_iald (f := V 4) hx hb hK hP 4 0 rfl rfl i ei (by omega) (by decide) dX1_lendCredits_110 ?_
                        refine lv_iload_n hx hb dX1_lendCredits_111 rfl (lv_at hl 3 rfl) ?_
                        refine lv_isub hx hb dX1_lendCredits_112 ?_
                        refine fz_iast (f := V 4) hx hb hK hP hD hS 4 0 rfl rfl i ei (by omega) (by decide) dX1_lendCredits_113 (fun H locs hP hD hS => ?_)
                        have hP : va_P D vwCl (CE cy a (V 0 0) (V 3 0) (V 8 0) (V 8 1) (V 17 0) (V 1) (V 2) (upd (V 4) i ((V 4 i) - y)) (V 5) (V 6) (V 7) (V 9) (V 10) (V 11) (V 12) (V 13) (V 14) (V 15) (V 16) (V 18) (V 19) (V 20) (V 21) (V 22) (V 23)) H := hP
                        have hD : va_D A (CE cy a (V 0 0) (V 3 0) (V 8 0) (V 8 1) (V 17 0) (V 1) (V 2) (upd (V 4) i ((V 4 i) - y)) (V 5) (V 6) (V 7) (V 9) (V 10) (V 11) (V 12) (V 13) (V 14) (V 15) (V 16) (V 18) (V 19) (V 20) (V 21) (V 22) (V 23)) := hD
                        refine lv_aload_n hx hb dX1_lendCredits_114 rfl (lv_at hl 0 rfl) ?_
                        refine va_get (D := D) (ci := 0) (v := .ref (a 3)) (C := RX1) (T := TX1) (N := 6) hx hb hts inX1 hown hK hP 0 rfl rfl 3 (by decide) k_30 (fun _ h9 => h9) rfl dX1_lendCredits_115 ?_
                        refine va_get (D := D) (ci := 5) (v := .ref (a 4)) (C := RX6) (T := TX6) (N := 5) hx hb hts inX6 hown hK hP 3 rfl rfl 1 (by decide) k_119 (fun _ h9 => h9) rfl dX1_lendCredits_118 ?_
                        refine lv_iload_n hx hb dX1_lendCredits_121 rfl (lv_at hl 2 rfl) ?_
                        refine lv_dup2_11 hx hb dX1_lendCredits_122 rfl rfl ?_
                        refine fz_iald (f := upd (V 4) i ((V 4 i) - y)) hx hb hK hP 4 0 rfl rfl j ej (by omega) (by decide) dX1_lendCredits_123 ?_
                        refine lv_iload_n hx hb dX1_lendCredits_124 rfl (lv_at hl 3 rfl) ?_
                        refine lv_iadd hx hb dX1_lendCredits_125 ?_
                        refine fz_iast (f := upd (V 4) i ((V 4 i) - y)) hx hb hK hP hD hS 4 0 rfl rfl j ej (by omega) (by decide) dX1_lendCredits_126 (fun H locs hP hD hS => ?_)
                        have hP : va_P D vwCl (CE cy a (V 0 0) (V 3 0) (V 8 0) (V 8 1) (V 17 0) (V 1) (V 2) (upd (upd (V 4) i ((V 4 i) - y)) j (((upd (V 4) i ((V 4 i) - y)) j) + y)) (V 5) (V 6) (V 7) (V 9) (V 10) (V 11) (V 12) (V 13) (V 14) (V 15) (V 16) (V 18) (V 19) (V 20) (V 21) (V 22) (V 23)) H := hP
                        have hD : va_D A (CE cy a (V 0 0) (V 3 0) (V 8 0) (V 8 1) (V 17 0) (V 1) (V 2) (upd (upd (V 4) i ((V 4 i) - y)) j (((upd (V 4) i ((V 4 i) - y)) j) + y)) (V 5) (V 6) (V 7) (V 9) (V 10) (V 11) (V 12) (V 13) (V 14) (V 15) (V 16) (V 18) (V 19) (V 20) (V 21) (V 22) (V 23)) := hD
                        refine lv_aload_n hx hb dX1_lendCredits_127 rfl (lv_at hl 0 rfl) ?_
                        refine va_get (D := D) (ci := 0) (v := .ref (a 17)) (C := RX1) (T := TX1) (N := 6) hx hb hts inX1 hown hK hP 0 rfl rfl 5 (by decide) k_44 (fun _ h9 => h9) rfl dX1_lendCredits_128 ?_
                        refine lv_iload_n hx hb dX1_lendCredits_131 rfl (lv_at hl 1 rfl) ?_
                        refine lv_iload_n hx hb dX1_lendCredits_132 rfl (lv_at hl 2 rfl) ?_
                        refine lv_iload_n hx hb dX1_lendCredits_133 rfl (lv_at hl 3 rfl) ?_
                        refine lv_iload hx hb dX1_lendCredits_134 (lv_at hl 4 rfl) ?_
                        refine lv_aload_n hx hb dX1_lendCredits_136 rfl (lv_at hl 0 rfl) ?_
                        refine va_get (D := D) (ci := 0) (v := .int (V 0 0)) (C := RX1) (T := TX1) (N := 6) hx hb hts inX1 hown hK hP 0 rfl rfl 0 (by decide) k_48 (fun _ h9 => h9) rfl dX1_lendCredits_137 ?_
                        refine fz_retM (ws' := CE cy a (V 0 0) (V 3 0) (V 8 0) (V 8 1) (nI (nl + 1)) (V 1) (V 2) (upd (upd (V 4) i ((V 4 i) - y)) j (((upd (V 4) i ((V 4 i) - y)) j) + y)) (V 5) (V 6) (V 7) (V 9) (V 10) (V 11) (V 12) (V 13) (V 14) (V 15) (V 16) (upd (V 18) nl f) (upd (V 19) nl g) (upd (V 20) nl y) (upd (V 21) nl y) (upd (V 22) nl w) (upd (V 23) nl (V 0 0))) (va_runV (As := [.int f, .int g, .int y, .int w, .int (V 0 0)]) (rest := []) ⟨hx, hb, hml, hown, hts⟩ (c_X5_append l D cy a V f g y w (V 0 0) nl hnl (by omega)) (cwV 5 hts gX1_lendCredits_X5_append rfl rfl rfl (by decide +kernel) ⟨Nat.le_of_ble_eq_true rfl, Nat.le_of_ble_eq_true rfl⟩) (fz_preMV (ci := 4) (q0 := 0) hK (hP.sub (ws' := LW cy a V) [17, 18, 19, 20, 21, 22, 23] rfl) (hD.sub (ws' := LW cy a V) [17, 18, 19, 20, 21, 22, 23] (by decide) rfl) rfl rfl rfl fz_T_bl (fun _ _ _ => trivial)) rfl rfl hl.1 rfl (lv_room (Nat.le_of_ble_eq_true rfl)) dX1_lendCredits_140 ⟨Nat.zero_le _, Nat.zero_le _⟩) hP hD hS [17, 18, 19, 20, 21, 22, 23] [0, 1, 2, 3, 4, 5, 6, 7, 8, 9, 10, 11, 12, 13, 14, 15, 16] rfl rfl [false, false, false, false, false, false, false, false, false, false, false, false, false, false, false, false, false, true, true, true, true, true, true, true] (And.intro rfl (And.intro rfl (And.intro rfl (And.intro rfl (And.intro rfl (And.intro rfl (And.intro rfl (And.intro rfl (And.intro rfl (And.intro rfl (And.intro rfl (And.intro rfl (And.intro rfl (And.intro rfl (And.intro rfl (And.intro rfl (And.intro rfl (And.intro rfl (And.intro rfl (And.intro rfl (And.intro rfl (And.intro rfl (And.intro rfl (And.intro rfl trivial)))))))))))))))))))))))) rfl rfl (fun H locs hP hD hS => ?_)
                        have hP : va_P D vwCl (CE cy a (V 0 0) (V 3 0) (V 8 0) (V 8 1) (nI (nl + 1)) (V 1) (V 2) (upd (upd (V 4) i ((V 4 i) - y)) j (((upd (V 4) i ((V 4 i) - y)) j) + y)) (V 5) (V 6) (V 7) (V 9) (V 10) (V 11) (V 12) (V 13) (V 14) (V 15) (V 16) (upd (V 18) nl f) (upd (V 19) nl g) (upd (V 20) nl y) (upd (V 21) nl y) (upd (V 22) nl w) (upd (V 23) nl (V 0 0))) H := hP
                        have hD : va_D A (CE cy a (V 0 0) (V 3 0) (V 8 0) (V 8 1) (nI (nl + 1)) (V 1) (V 2) (upd (upd (V 4) i ((V 4 i) - y)) j (((upd (V 4) i ((V 4 i) - y)) j) + y)) (V 5) (V 6) (V 7) (V 9) (V 10) (V 11) (V 12) (V 13) (V 14) (V 15) (V 16) (upd (V 18) nl f) (upd (V 19) nl g) (upd (V 20) nl y) (upd (V 21) nl y) (upd (V 22) nl w) (upd (V 23) nl (V 0 0))) := hD
                        have eF : fz_lend V nt nl f g y w = (nI nl, fz_lent V nl f g i j y w) := by simp only [fz_lend, c_1, c_2, c_3, c_4, c_5, c_6, c_7, c_8, Nat.not_le.mpr c_9, c_10, c_11, ei', ej', ↓reduceIte, Bool.false_eq_true]
                        exact W.iret (v := (nI nl)) hx hb hr (fun t9 ht9 hW9 => ⟨⟨_, (), rfl, (by rw [eF] <;> rfl), fz_to ht9 (by rw [eF]; exact hP)⟩, hS.F ht9⟩) hS.2.2 dX1_lendCredits_143
                      · skip
                        refine lv_bipush (v := (-3)) hx hb dX1_lendCredits_98 (by decide) ?_
                        have eF : fz_lend V nt nl f g y w = ((-3), V) := by simp only [fz_lend, c_1, c_2, c_3, c_4, c_5, c_6, c_7, c_8, Nat.not_le.mpr c_9, c_10, c_11, ei', ej', ↓reduceIte, Bool.false_eq_true]
                        exact W.iret (v := (-3)) hx hb hr (fun t9 ht9 hW9 => ⟨⟨_, (), rfl, (by rw [eF] <;> rfl), fz_to ht9 (by rw [eF]; exact hP)⟩, hS.F ht9⟩) hS.2.2 dX1_lendCredits_100
              · skip
                refine lv_bipush (v := (-2)) hx hb dX1_lendCredits_53 (by decide) ?_
                have eF : fz_lend V nt nl f g y w = ((-2), V) := by simp only [fz_lend, c_1, c_2, c_3, c_4, c_5, c_6, c_7, ei', ej', ↓reduceIte, Bool.false_eq_true]
                exact W.iret (v := (-2)) hx hb hr (fun t9 ht9 hW9 => ⟨⟨_, (), rfl, (by rw [eF] <;> rfl), fz_to ht9 (by rw [eF]; exact hP)⟩, hS.F ht9⟩) hS.2.2 dX1_lendCredits_55
    · skip
      refine lv_iconst (v := (-1)) hx hb dX1_lendCredits_22 (by decide) ?_
      have eF : fz_lend V nt nl f g y w = ((-1), V) := by simp only [fz_lend, c_1, c_2, ei', ↓reduceIte, Bool.false_eq_true]
      exact W.iret (v := (-1)) hx hb hr (fun t9 ht9 hW9 => ⟨⟨_, (), rfl, (by rw [eF] <;> rfl), fz_to ht9 (by rw [eF]; exact hP)⟩, hS.F ht9⟩) hS.2.2 dX1_lendCredits_23
