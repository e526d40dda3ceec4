/-! simulation: paying back -/
def sN (b : Nat → Nat) : Nat → Nat
  | 0 => 0
  | n + 1 => sN b n + b n
theorem sN_cong {b c : Nat → Nat} : ∀ {n : Nat}, (∀ k, k < n → b k = c k) → sN b n = sN c n
  | 0, _ => rfl
  | n + 1, h => by rw [sN, sN, sN_cong (fun k hk => h k (Nat.lt_succ_of_lt hk)), h n (Nat.lt_succ_self n)]
theorem sN_sub {b : Nat → Nat} {z x : Nat} (hx : x ≤ b z) : ∀ {n : Nat}, z < n → sN (fun k => if k = z then b z - x else b k) n + x = sN b n
  | 0, h => absurd h (Nat.not_lt_zero z)
  | n + 1, h => by
    rw [sN, sN]
    by_cases e : z = n
    · subst e
      rw [sN_cong (c := b) (fun k hk => if_neg (by omega))]
      show sN b z + (if z = z then b z - x else b z) + x = _
      rw [if_pos rfl]
      omega
    · have ih := sN_sub (b := b) (z := z) (x := x) hx (n := n) (by omega)
      show _ + (if n = z then b z - x else b n) + x = _
      rw [if_neg (by omega)]
      omega
theorem sN_le {b : Nat → Nat} {m : Nat} : ∀ {n : Nat}, (∀ k, k < n → b k ≤ m) → sN b n ≤ n * m
  | 0, _ => by rw [Nat.zero_mul]; exact Nat.le_refl 0
  | n + 1, h => by
    have ih := sN_le (b := b) (m := m) (n := n) (fun k hk => h k (by omega))
    have := h n (by omega)
    rw [sN, Nat.succ_mul]
    omega
/-- the teams' and the loans' rows, in the middle of a payment, and the model's row -/
abbrev pst (N Z F4 F6 L : Nat → Int32) (nt nl C : Nat) : Prop := fm_fr N Z ∧ (∀ i, i < nt → F4 i = fm_t Z 0 i) ∧ (∀ i, i < nt → F6 i = fm_t Z 1 i) ∧ (∀ i, i < nt → fm_t Z 2 i = fm_t N 2 i) ∧ (∀ q, q < nl → L q = fm_l Z 3 q) ∧ ∃ a b : Nat → Nat, (∀ i, i < nt → F4 i = nI (a i)) ∧ (∀ q, q < nl → L q = nI (b q) ∧ b q ≤ 500) ∧ ∀ i, i < nt → a i + sN b nl ≤ C
theorem pst_pay {N Z F4 F6 L : Nat → Int32} {nt nl C z j g : Nat} {f b19 : Nat → Int32} (hnt : nt ≤ 6) (hnl : nl ≤ 12) (hC : C < 2147000000) (h : pst N Z F4 F6 L nt nl C) (hz : z < nl) (hj : j < nt) (hg : g < nt) (ej : b19 z = nI j) (eg : f z = nI g) (ej2 : fm_l N 1 z = nI j) (eg2 : fm_l N 0 z = nI g) {x : Nat} (h1 : ∀ k, F4 j = nI k → k < 2 ^ 31 → x ≤ k) (h2 : ∀ k, L z = nI k → k < 2 ^ 31 → x ≤ k) :
    pst N (fm_pays Z z (nI x)) (fz_pb f b19 z (nI x) (F4, L)).1 F6 (fz_pb f b19 z (nI x) (F4, L)).2 nt nl C := by
  obtain ⟨hf, e4, e6, e7, eL, a, b, ha, hb, hs⟩ := h
  have zj : fm_l Z 1 z = nI j := by rw [hf.l (by omega) (by omega) (by omega)]; exact ej2
  have zg : fm_l Z 0 z = nI g := by rw [hf.l (by omega) (by omega) (by omega)]; exact eg2
  rw [fz_pb_eq ej eg (by omega) (by omega), fm_pays_eq zj zg (by omega) (by omega)]
  have hxa : x ≤ a j := h1 _ (ha j hj) (by have := hs j hj; omega)
  have hxb : x ≤ b z := h2 _ (hb z hz).1 (by have := (hb z hz).2; omega)
  refine ⟨?_, fun i hi => ?_, fun i hi => ?_, fun i hi => ?_, fun q hq => ?_, (fun i => if i = g then (if g = j then a j - x else a g) + x else if i = j then a j - x else a i), (fun k => if k = z then b z - x else b k), fun i hi => ?_, fun q hq => ?_, fun i hi => ?_⟩
  · intro p hp
    rw [fm_pay2, pk_un (by omega)]
    exact fm_fr_ta (by omega) (by omega) (fm_fr_ta (by omega) (by omega) hf) p hp
  · show upd (upd F4 j (F4 j - nI x)) g (upd F4 j (F4 j - nI x) g + nI x) i = fm_pay2 (fm_ta (fm_ta Z 0 j (-nI x)) 0 g (nI x)) z (nI x) (49 + 3 * i + 0)
    have hR : fm_pay2 (fm_ta (fm_ta Z 0 j (-nI x)) 0 g (nI x)) z (nI x) (49 + 3 * i + 0) = fm_ta (fm_ta Z 0 j (-nI x)) 0 g (nI x) (49 + 3 * i + 0) := by
      rw [fm_pay2]
      exact pk_un (by omega)
    rw [hR]
    by_cases c1 : i = g
    · rw [c1, pk_us]
      refine Eq.trans ?_ pk_us.symm
      show _ = fm_ta Z 0 j (-nI x) (49 + 3 * g + 0) + nI x
      by_cases c2 : g = j
      · rw [c2, pk_us, Int32.sub_eq_add_neg, e4 j hj]
        rw [fm_ta, pk_us]
      · rw [pk_un c2, fm_ta_ne (by omega), e4 g hg]
        rfl
    · rw [pk_un c1, fm_ta_ne (by omega)]
      by_cases c2 : i = j
      · rw [c2, pk_us, Int32.sub_eq_add_neg, e4 j hj]
        exact pk_us.symm
      · rw [pk_un c2, fm_ta_ne (by omega), e4 i hi]
        rfl
  · show _ = fm_pay2 (fm_ta (fm_ta Z 0 j (-nI x)) 0 g (nI x)) z (nI x) (49 + 3 * i + 1)
    rw [fm_pay2, pk_un (by omega), fm_ta_ne (by omega), fm_ta_ne (by omega)]
    exact e6 i hi
  · show fm_pay2 (fm_ta (fm_ta Z 0 j (-nI x)) 0 g (nI x)) z (nI x) (49 + 3 * i + 2) = _
    rw [fm_pay2, pk_un (by omega), fm_ta_ne (by omega), fm_ta_ne (by omega)]
    exact e7 i hi
  · show upd L z (L z - nI x) q = fm_pay2 (fm_ta (fm_ta Z 0 j (-nI x)) 0 g (nI x)) z (nI x) (277 + 6 * q + 3)
    rw [fm_pay2]
    by_cases c1 : q = z
    · rw [c1, pk_us, pk_us, fm_ta_ne (by omega), fm_ta_ne (by omega), eL z hz]
      rfl
    · rw [pk_un c1, pk_un (by omega), fm_ta_ne (by omega), fm_ta_ne (by omega)]
      exact eL q hq
  · show upd (upd F4 j (F4 j - nI x)) g (upd F4 j (F4 j - nI x) g + nI x) i = nI (if i = g then (if g = j then a j - x else a g) + x else if i = j then a j - x else a i)
    by_cases c1 : i = g
    · rw [c1, pk_us, if_pos rfl]
      by_cases c2 : g = j
      · rw [c2, pk_us, if_pos rfl, ha j hj, pk_sub hxa, nI_add]
      · rw [pk_un c2, if_neg c2, ha g hg, nI_add]
    · rw [pk_un c1, if_neg c1]
      by_cases c2 : i = j
      · rw [c2, pk_us, if_pos rfl, ha j hj, pk_sub hxa]
      · rw [pk_un c2, if_neg c2]
        exact ha i hi
  · show upd L z (L z - nI x) q = nI (if q = z then b z - x else b q) ∧ (if q = z then b z - x else b q) ≤ 500
    by_cases c1 : q = z
    · rw [c1, pk_us, if_pos rfl, (hb z hz).1, pk_sub hxb]
      exact ⟨rfl, by have := (hb z hz).2; omega⟩
    · rw [pk_un c1, if_neg c1]
      exact hb q hq
  · have hsum := sN_sub (b := b) hxb hz
    have hi1 := hs i hi
    have hg1 := hs g hg
    have hj1 := hs j hj
    show (if i = g then (if g = j then a j - x else a g) + x else if i = j then a j - x else a i) + sN (fun k => if k = z then b z - x else b k) nl ≤ C
    by_cases c1 : i = g
    · rw [if_pos c1]
      by_cases c2 : g = j
      · rw [if_pos c2]
        omega
      · rw [if_neg c2]
        omega
    · rw [if_neg c1]
      by_cases c2 : i = j
      · rw [if_pos c2]
        omega
      · rw [if_neg c2]
        omega
section SIM6
variable {V M : Nat → Nat → Int32} {nt nc nq nl wk B : Nat}
theorem cR.giver (h : cR V (M 1) nt nc nq nl wk) {q : Nat} (hq : q < nl) : ∃ j, j < nt ∧ V 18 q = nI j ∧ fm_l (M 1) 0 q = nI j := by
  obtain ⟨j, h1, h2⟩ := h.wf.2.2.2.2.2.2.2.2.2.2.2.2.1 q hq
  exact ⟨j, h1, h2, (h.eq.lw (w := 0) (by decide) hq).symm.trans h2⟩
theorem cR.taker (h : cR V (M 1) nt nc nq nl wk) {q : Nat} (hq : q < nl) : ∃ j, j < nt ∧ V 19 q = nI j ∧ fm_l (M 1) 1 q = nI j := by
  obtain ⟨j, h1, h2⟩ := h.wf.2.2.2.2.2.2.2.2.2.2.2.2.2 q hq
  exact ⟨j, h1, h2, (h.eq.lw (w := 1) (by decide) hq).symm.trans h2⟩
theorem cR.pst0 (h : cR V (M 1) nt nc nq nl wk) (hb : cB V nt nc nl B) (hB : B < 2000000000) : pst (M 1) (M 1) (V 4) (V 6) (V 21) nt nl (B + 6000) := by
  refine ⟨fm_fr_rfl _, fun i hi => h.eq.t (r := 4) hi, fun i hi => h.eq.t (r := 6) hi, fun _ _ => rfl, fun q hq => h.eq.lw (w := 3) (by decide) hq, fun i => (V 4 i).toNatClampNeg, fun q => (V 21 q).toNatClampNeg, fun i hi => ?_, fun q hq => ?_, fun i hi => ?_⟩
  · obtain ⟨j, h1, h2⟩ := hb.1 i hi
    show V 4 i = nI (V 4 i).toNatClampNeg
    rw [fz_tnat h2 (by omega)]
    exact h2
  · obtain ⟨j, h1, h2⟩ := hb.2.2 q hq
    show V 21 q = nI (V 21 q).toNatClampNeg ∧ (V 21 q).toNatClampNeg ≤ 500
    rw [fz_tnat h2 (by omega)]
    exact ⟨h2, h1⟩
  · obtain ⟨j, h1, h2⟩ := hb.1 i hi
    have h3 : (V 4 i).toNatClampNeg = j := fz_tnat h2 (by omega)
    have h4 := sN_le (b := fun q => (V 21 q).toNatClampNeg) (m := 500) (n := nl) (fun k hk => by
      obtain ⟨j2, g1, g2⟩ := hb.2.2 k hk
      show (V 21 k).toNatClampNeg ≤ 500
      rw [fz_tnat g2 (by omega)]
      exact g1)
    have hnl := h.wf.2.2.2.2.2.2.2.1
    show (V 4 i).toNatClampNeg + _ ≤ _
    omega
/-- the rows behind payments -/
theorem cR_pst (h : cR V (M 1) nt nc nq nl wk) (hb : cB V nt nc nl B) {Z F4 F6 L : Nat → Int32} (hp : pst (M 1) Z F4 F6 L nt nl (B + 6600)) (hB : B < 2000000000) : cR (fz_up (fz_up (fz_up V 4 F4) 6 F6) 21 L) Z nt nc nq nl wk ∧ cB (fz_up (fz_up (fz_up V 4 F4) 6 F6) 21 L) nt nc nl (B + 6600) := by
  obtain ⟨hf, e4, e6, e7, eL, a, b, ha, hbb, hs⟩ := hp
  have hnt := h.wf.2.1
  have hnc := h.wf.2.2.2.1
  have hnl := h.wf.2.2.2.2.2.2.2.1
  refine ⟨cR_mk h.wf h.zo (ag_mk ?_ ?_ ?_ ?_ (fun q hq => ?_) (fun q hq => ?_) (fun q hq => ?_) (fun q hq => ?_) (fun q hq => ?_) (fun u hu q hq => ?_) (fun u hu q hq => ?_)) ?_ h.sb h.st h.rk h.que, fun i hi => ?_, hb.2.1, fun q hq => ?_⟩
  · exact h.eq.a0.trans (hf 0 (by omega)).symm
  · exact h.eq.a3.trans (hf 1 (by omega)).symm
  · exact h.eq.a8.trans (hf 2 (by omega)).symm
  · exact h.eq.a17.trans (hf 3 (by omega)).symm
  · exact (h.eq.a1 q hq).trans (hf _ (by omega)).symm
  · exact (h.eq.a2 q hq).trans (hf _ (by omega)).symm
  · exact e4 q hq
  · exact e6 q hq
  · exact (h.eq.t (r := 7) hq).trans (e7 q hq).symm
  · show fz_up (fz_up (fz_up V 4 F4) 6 F6) 21 L (9 + u) q = _
    rw [fz_up_ne (by omega), fz_up_ne (by omega), fz_up_ne (by omega), hf.c (by omega) hu]
    exact h.eq.cw hu hq
  · by_cases e : u = 3
    · rw [e]
      exact eL q hq
    · show fz_up (fz_up (fz_up V 4 F4) 6 F6) 21 L (18 + u) q = _
      rw [fz_up_ne (by omega), fz_up_ne (by omega), fz_up_ne (by omega), hf.l (by omega) hu e]
      exact h.eq.lw hu hq
  · exact (hf 8 (by omega)).trans h.bro
  · exact ⟨a i, by have := hs i hi; omega, ha i hi⟩
  · exact ⟨b q, (hbb q hq).2, (hbb q hq).1⟩
theorem fz_up_self (V : Nat → Nat → Int32) (r : Nat) : fz_up V r (V r) = V := by
  funext k
  by_cases e : k = r
  · rw [e, fz_up_eq]
  · rw [fz_up_ne e]
theorem fz_up_comm {V : Nat → Nat → Int32} {r k : Nat} {f g : Nat → Int32} (h : r ≠ k) : fz_up (fz_up V r f) k g = fz_up (fz_up V k g) r f := by
  funext q
  by_cases e : q = k
  · rw [e, fz_up_eq, fz_up_ne (Ne.symm h), fz_up_eq]
  · rw [fz_up_ne e]
    by_cases e2 : q = r
    · rw [e2, fz_up_eq, fz_up_eq]
    · rw [fz_up_ne e2, fz_up_ne e2, fz_up_ne e]
theorem pst_mono {N Z F4 F6 L : Nat → Int32} {C C' : Nat} (h : pst N Z F4 F6 L nt nl C) (hC : C ≤ C') : pst N Z F4 F6 L nt nl C' := by
  obtain ⟨hf, e4, e6, e7, eL, a, b, ha, hbb, hs⟩ := h
  exact ⟨hf, e4, e6, e7, eL, a, b, ha, hbb, fun i hi => Nat.le_trans (hs i hi) hC⟩
theorem sim_repay (h : cR V (M 1) nt nc nq nl wk) (hb : cB V nt nc nl B) (hB : B < 2000000000) (x y : Int32) : sim V M B 1 2 3 (fz_repay V nl x y) (fm_rep M x y) := by
  have ea : V 17 0 = M 1 3 := h.eq.a17
  have R1 : sim V M B 1 2 3 (-1, V) (1, M) := Or.inr ⟨rfl, rfl, Or.inl ⟨rfl, rfl⟩⟩
  have R2 : sim V M B 1 2 3 (-2, V) (2, M) := Or.inr ⟨rfl, rfl, Or.inr (Or.inl ⟨rfl, rfl⟩)⟩
  have R3 : sim V M B 1 2 3 (-3, V) (3, M) := Or.inr ⟨rfl, rfl, Or.inr (Or.inr ⟨rfl, rfl⟩)⟩
  rw [fz_repay, fm_rep, ea]
  by_cases c1 : fz_ix x (M 1 3) = true
  · rw [if_pos c1, if_pos c1]
    have hnl := h.wf.2.2.2.2.2.2.2.1
    have hnt := h.wf.2.1
    obtain ⟨ex, hz⟩ := fz_ix_s c1 h.mf.2.2.2.2.1 (by omega)
    obtain ⟨z, ez⟩ : ∃ z, z = x.toNatClampNeg := ⟨_, rfl⟩
    rw [← ez] at hz ⊢
    by_cases c4 : y < 1
    · have i1 : ¬ fm_in y 1 500 = true := by simp [fm_in, c4]
      rw [if_pos c4, if_neg i1]
      exact R2
    · rw [if_neg c4]
      by_cases c5 : y ≤ 500
      · have i1 : fm_in y 1 500 = true := by simp [fm_in, c4, c5]
        rw [if_pos c5, if_pos i1]
        obtain ⟨j, hj, ej, ej2⟩ := h.taker hz
        obtain ⟨g, hg, eg, eg2⟩ := h.giver hz
        have ejn : (V 19 z).toNatClampNeg = j := fz_tnat ej (by omega)
        have el : fm_l (M 1) 3 z = V 21 z := (h.eq.lw (w := 3) (by decide) hz).symm
        have et : fm_t (M 1) 0 j = V 4 j := (h.eq.t (r := 4) hj).symm
        rw [el, ej2, ejn, nI_clamp (by omega), et]
        by_cases c6 : V 21 z < y
        · rw [if_pos c6, if_pos c6]
          exact R3
        · rw [if_neg c6, if_neg c6]
          by_cases c7 : y ≤ V 4 j
          · rw [if_pos c7, if_pos c7]
            obtain ⟨k, hk1, hk5, ek⟩ := amount c4 c5
            subst ek
            have hp := pst_pay (f := V 18) (b19 := V 19) (z := z) (x := k) hnt hnl (by omega) (h.pst0 hb hB) hz hj hg ej eg ej2 eg2 (fun q hq hq2 => (nI_leI (by omega) hq2).mp (by rw [← hq]; exact c7)) (fun q hq hq2 => (nI_leI (by omega) hq2).mp (by rw [← hq]; exact Int32.not_lt.mp c6))
            obtain ⟨r1, r2⟩ := cR_pst h hb (pst_mono hp (by omega)) hB
            have ev : fz_up (fz_up (fz_up V 4 (fz_pb (V 18) (V 19) z (nI k) (V 4, V 21)).1) 6 (V 6)) 21 (fz_pb (V 18) (V 19) z (nI k) (V 4, V 21)).2 = fz_up (fz_up V 4 (fz_pb (V 18) (V 19) z (nI k) (V 4, V 21)).1) 21 (fz_pb (V 18) (V 19) z (nI k) (V 4, V 21)).2 := by
              rw [fz_up_comm (r := 4) (k := 6) (by decide), fz_up_self V 6]
            rw [ev] at r1 r2
            obtain ⟨lf, hlf, elf⟩ := r2.2.2 z hz
            have elf' : (fz_pb (V 18) (V 19) z (nI k) (V 4, V 21)).2 z = nI lf := elf
            refine Or.inl ⟨rfl, by rw [elf']; exact ok_n (by omega), ?_, nt, nc, nq, nl, wk, r1, r2⟩
            exact (hp.2.2.2.2.1 z hz).symm
          · rw [if_neg c7, if_neg c7]
            exact R3
      · have i1 : ¬ fm_in y 1 500 = true := by simp [fm_in, c5]
        rw [if_neg c5, if_neg i1]
        exact R2
  · rw [if_neg c1, if_neg c1]
    exact R1
end SIM6
