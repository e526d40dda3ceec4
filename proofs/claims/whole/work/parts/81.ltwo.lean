/-! each call of the law, on the class's side and the model's -/
/-- the wrapper's call, the model's call, and that they agree -/
def lw_two (l : Launch) (D : va_G) (cy : Nat → ClassId) (o : Nat) (f a t h x b ad : Nat → Nat) (B : Nat) (y : MethodName) (ws : List Cond) (fr lo k n : Nat) (av : List Value) (ym : MethodName) (wm : List Cond) (fm lm : Nat) (Am : List Value) (r : Nat → Int64) (sl : Nat → Nat → Nat) (g : Nat → Option Nat) (cn : Nat) (V T X : Nat → Nat → Int32) (vb : Option Nat) (S : Nat → Nat → Nat → Int32) (M : Nat → Nat → Int32) (hh : Int64) : Prop :=
  ∃ (F G : Int32) (r' : Nat → Int64) (sl' : Nat → Nat → Nat) (g' : Nat → Option Nat) (cn' : Nat) (V' T' X' : Nat → Nat → Int32) (vb' : Option Nat) (S' : Nat → Nat → Nat → Int32) (M' : Nat → Nat → Int32),
    lw_cal l y ws fr lo k n D cy av (lwW cy o f a t h x b ad r sl g cn V T X vb S M hh) F (lwW cy o f a t h x b ad r' sl' g' cn' V' T' X' vb' S' M hh) ∧ fz_MI l ym wm fm lm D cy (.ref (b 0) :: Am) (MW cy b M hh) fz_T G (MW cy b M' hh) ∧ lR B V' X' M' S' g' sl' cn' ∧ F = M' 0 2 ∧ (F = 0 → r' 0 = G.toInt64)
abbrev lwU (cy : Nat → ClassId) (o : Nat) (f a t h x : Nat → Nat) (r : Nat → Int64) (g : Nat → Option Nat) (cn : Nat) (V : Nat → Nat → Int32) (w : Nat → Nat) (N : Nat → Nat → Int32) (Z : va_W) : va_W := OW cy o r ++ (FW f a t h x ++ (HW cy h g (nI cn) ++ (CW cy a V ++ (CW cy w N ++ Z))))
section LTW
variable {l : Launch} {D : va_G} {cy : Nat → ClassId} {o : Nat} {f a t h x b ad : Nat → Nat} {r : Nat → Int64} {sl : Nat → Nat → Nat} {g : Nat → Option Nat} {cn : Nat} {V T X : Nat → Nat → Int32} {vb : Option Nat} {S : Nat → Nat → Nat → Int32} {M : Nat → Nat → Int32} {hh : Int64}
theorem lw_und {y : MethodName} {ws : List Cond} {fr lo ck n B : Nat} {av : List Value} {k1 k2 k3 : Int32} {P Q : Int32 × (Nat → Nat → Int32)} (R : lR B V X M S g sl cn) (s : sim V (fm_as M) B k1 k2 k3 P Q) (K : fm_K (fm_as M) Q) (n1 : ¬ k1 = 0) (n2 : ¬ k2 = 0) (n3 : ¬ k3 = 0)
    (ct : ∀ Z : va_W, (∀ k, k < 5 → ∃ y, g k = some y ∧ fz_hd (CW cy (sl cn) (S cn) ++ Z) y) → fz_ok P.1 = true → fz_XI l y ws fr lo ck n D cy av (lwU cy o f a t h x r g cn V (sl cn) (S cn) Z) (fz_Ew (fz_in (lwU cy o f a t h x r g cn V (sl cn) (S cn) Z))) 0 (lwU cy o f a t h x (vp_updL r 0 P.1.toInt64) (hs_g g cn) (hs_n cn) P.2 (sl cn) V Z) true xIS (lwU cy o f a t h x (vp_updL r 0 P.1.toInt64) (hs_g g cn) (hs_n cn) P.2 (sl cn) V Z))
    (c1 : ¬ k1 = 9 → ∀ Z : va_W, (∀ k, k < 5 → ∃ y, g k = some y ∧ fz_hd (CW cy (sl cn) (S cn) ++ Z) y) → fz_ok P.1 = false → fz_en P.1 = xIO → fz_XI l y ws fr lo ck n D cy av (lwU cy o f a t h x r g cn V (sl cn) (S cn) Z) (fz_Ew (fz_in (lwU cy o f a t h x r g cn V (sl cn) (S cn) Z))) k1 (lwU cy o f a t h x r g cn P.2 (sl cn) V Z) true xIS (lwU cy o f a t h x r g cn P.2 (sl cn) V Z))
    (c2 : ¬ k2 = 9 → ∀ Z : va_W, (∀ k, k < 5 → ∃ y, g k = some y ∧ fz_hd (CW cy (sl cn) (S cn) ++ Z) y) → fz_ok P.1 = false → fz_en P.1 = xIA → fz_XI l y ws fr lo ck n D cy av (lwU cy o f a t h x r g cn V (sl cn) (S cn) Z) (fz_Ew (fz_in (lwU cy o f a t h x r g cn V (sl cn) (S cn) Z))) k2 (lwU cy o f a t h x r g cn P.2 (sl cn) V Z) true xIS (lwU cy o f a t h x r g cn P.2 (sl cn) V Z))
    (c3 : ¬ k3 = 9 → ∀ Z : va_W, (∀ k, k < 5 → ∃ y, g k = some y ∧ fz_hd (CW cy (sl cn) (S cn) ++ Z) y) → fz_ok P.1 = false → fz_en P.1 = xIS → fz_XI l y ws fr lo ck n D cy av (lwU cy o f a t h x r g cn V (sl cn) (S cn) Z) (fz_Ew (fz_in (lwU cy o f a t h x r g cn V (sl cn) (S cn) Z))) k3 (lwU cy o f a t h x r g cn P.2 (sl cn) V Z) true xIS (lwU cy o f a t h x r g cn P.2 (sl cn) V Z)) :
    ∃ (F : Int32) (r' : Nat → Int64) (sl' : Nat → Nat → Nat) (g' : Nat → Option Nat) (cn' : Nat) (V' : Nat → Nat → Int32) (S' : Nat → Nat → Nat → Int32), lw_cal l y ws fr lo ck n D cy av (lwW cy o f a t h x b ad r sl g cn V T X vb S M hh) F (lwW cy o f a t h x b ad r' sl' g' cn' V' T X vb S' M hh) ∧ lR (B + 6600) V' X (fm_ends Q.2 cn Q.1).2 S' g' sl' cn' ∧ F = (fm_ends Q.2 cn Q.1).2 0 2 ∧ (F = 0 → r' 0 = (fm_ends Q.2 cn Q.1).1.toInt64) := by
  have hn : cn < 5 := Nat.lt_succ_of_le R.2.1.1
  have hz := lwW_hh (cy := cy) (o := o) (f := f) (a := a) (t := t) (h := h) (x := x) (b := b) (ad := ad) (r := r) (V := V) (T := T) (X := X) (vb := vb) (S := S) (M := M) (hh := hh) hn R.2.2.2.2.2
  rcases lR_und R s K n1 n2 n3 with ⟨h1, h2, h3, h4⟩ | ⟨h1, h2, h3, h4, h5, h6⟩
  · refine ⟨0, _, _, _, _, _, _, ⟨[], _, _, ct _ hz h1, (lwW_old hn).trans lw_nil, lw_nil'.trans (lwW_new hn), rfl⟩, h2, h3.symm, fun _ => ?_⟩
    rw [h4]
    rfl
  · have hx : ∀ k9 : Int32, Q.1 = k9 → fz_XI l y ws fr lo ck n D cy av (lwU cy o f a t h x r g cn V (sl cn) (S cn) (fz_cat (lwB cy o f a t h x b ad r sl g cn V T X vb S M hh) (fz_rest cn))) (fz_Ew (fz_in (lwU cy o f a t h x r g cn V (sl cn) (S cn) (fz_cat (lwB cy o f a t h x b ad r sl g cn V T X vb S M hh) (fz_rest cn))))) k9 (lwU cy o f a t h x r g cn P.2 (sl cn) V (fz_cat (lwB cy o f a t h x b ad r sl g cn V T X vb S M hh) (fz_rest cn))) true xIS (lwU cy o f a t h x r g cn P.2 (sl cn) V (fz_cat (lwB cy o f a t h x b ad r sl g cn V T X vb S M hh) (fz_rest cn))) →
        ∃ (F : Int32) (r' : Nat → Int64) (sl' : Nat → Nat → Nat) (g' : Nat → Option Nat) (cn' : Nat) (V' : Nat → Nat → Int32) (S' : Nat → Nat → Nat → Int32), lw_cal l y ws fr lo ck n D cy av (lwW cy o f a t h x b ad r sl g cn V T X vb S M hh) F (lwW cy o f a t h x b ad r' sl' g' cn' V' T X vb S' M hh) ∧ lR (B + 6600) V' X (fm_ends Q.2 cn Q.1).2 S' g' sl' cn' ∧ F = (fm_ends Q.2 cn Q.1).2 0 2 ∧ (F = 0 → r' 0 = (fm_ends Q.2 cn Q.1).1.toInt64) := fun k9 e9 hc => by
      rw [h1] at hc
      exact ⟨k9, r, sl, g, cn, V, hs_p S V cn, ⟨[], _, _, hc, (lwW_old hn).trans lw_nil, lw_nil'.trans (lwW_no hn), rfl⟩, h3, e9.symm.trans h4.symm, fun z9 => absurd (e9.trans z9) h5⟩
    rcases h6 with ⟨z1, z2, z3⟩ | ⟨z1, z2, z3⟩ | ⟨z1, z2, z3⟩
    · exact hx k1 z2 (c1 z3 _ hz h2 z1)
    · exact hx k2 z2 (c2 z3 _ hz h2 z1)
    · exact hx k3 z2 (c3 z3 _ hz h2 z1)
section LRD
variable {y : MethodName} {ws : List Cond} {fr lo ck n : Nat} {av : List Value} {F : Int32} {r' : Nat → Int64} {T' X' : Nat → Nat → Int32}
/-- readers -/
theorem lw_rd2 (hc : fz_XI l y ws fr lo ck n D cy av (OW cy o r ++ ((FW f a t h x) ++ (CW cy a V))) (fz_Ew (fz_in (OW cy o r ++ ((FW f a t h x) ++ (CW cy a V))))) F (OW cy o r' ++ ((FW f a t h x) ++ (CW cy a V))) true xIS (OW cy o r' ++ ((FW f a t h x) ++ (CW cy a V)))) :
    lw_cal l y ws fr lo ck n D cy av (lwW cy o f a t h x b ad r sl g cn V T X vb S M hh) F (lwW cy o f a t h x b ad r' sl g cn V T X vb S M hh) := by
  refine ⟨fz_cat (lwB cy o f a t h x b ad r sl g cn V T X vb S M hh) [2, 4, 5, 6, 7, 8, 9, 10, 11], _, _, hc, ?_, ?_, rfl⟩
  · rw [List.append_assoc, List.append_assoc]
    exact fz_cat_P (lwB cy o f a t h x b ad r sl g cn V T X vb S M hh) (L' := [0, 1, 3, 2, 4, 5, 6, 7, 8, 9, 10, 11]) (by decide)
  · rw [List.append_assoc, List.append_assoc]
    exact fz_cat_P (lwB cy o f a t h x b ad r' sl g cn V T X vb S M hh) (L := [0, 1, 3, 2, 4, 5, 6, 7, 8, 9, 10, 11]) (by decide)
theorem lw_rX (hc : fz_XI l y ws fr lo ck n D cy av (OW cy o r ++ ((FW f a t h x) ++ ((CW cy a V) ++ (XW cy ad x X vb)))) (fz_Ew (fz_in (OW cy o r ++ ((FW f a t h x) ++ ((CW cy a V) ++ (XW cy ad x X vb)))))) F (OW cy o r' ++ ((FW f a t h x) ++ ((CW cy a V) ++ (XW cy ad x X vb)))) true xIS (OW cy o r' ++ ((FW f a t h x) ++ ((CW cy a V) ++ (XW cy ad x X vb))))) :
    lw_cal l y ws fr lo ck n D cy av (lwW cy o f a t h x b ad r sl g cn V T X vb S M hh) F (lwW cy o f a t h x b ad r' sl g cn V T X vb S M hh) := by
  refine ⟨fz_cat (lwB cy o f a t h x b ad r sl g cn V T X vb S M hh) [2, 4, 6, 7, 8, 9, 10, 11], _, _, hc, ?_, ?_, rfl⟩
  · rw [List.append_assoc, List.append_assoc, List.append_assoc]
    exact fz_cat_P (lwB cy o f a t h x b ad r sl g cn V T X vb S M hh) (L' := [0, 1, 3, 5, 2, 4, 6, 7, 8, 9, 10, 11]) (by decide)
  · rw [List.append_assoc, List.append_assoc, List.append_assoc]
    exact fz_cat_P (lwB cy o f a t h x b ad r' sl g cn V T X vb S M hh) (L := [0, 1, 3, 5, 2, 4, 6, 7, 8, 9, 10, 11]) (by decide)
theorem lw_rT (hc : fz_XI l y ws fr lo ck n D cy av (OW cy o r ++ ((FW f a t h x) ++ ((CW cy a V) ++ (CW cy t T)))) (fz_Ew (fz_in (OW cy o r ++ ((FW f a t h x) ++ ((CW cy a V) ++ (CW cy t T)))))) F (OW cy o r' ++ ((FW f a t h x) ++ ((CW cy a V) ++ (CW cy t T')))) true xIS (OW cy o r' ++ ((FW f a t h x) ++ ((CW cy a V) ++ (CW cy t T'))))) :
    lw_cal l y ws fr lo ck n D cy av (lwW cy o f a t h x b ad r sl g cn V T X vb S M hh) F (lwW cy o f a t h x b ad r' sl g cn V T' X vb S M hh) := by
  refine ⟨fz_cat (lwB cy o f a t h x b ad r sl g cn V T X vb S M hh) [2, 5, 6, 7, 8, 9, 10, 11], _, _, hc, ?_, ?_, rfl⟩
  · rw [List.append_assoc, List.append_assoc, List.append_assoc]
    exact fz_cat_P (lwB cy o f a t h x b ad r sl g cn V T X vb S M hh) (L' := [0, 1, 3, 4, 2, 5, 6, 7, 8, 9, 10, 11]) (by decide)
  · rw [List.append_assoc, List.append_assoc, List.append_assoc]
    exact fz_cat_P (lwB cy o f a t h x b ad r' sl g cn V T' X vb S M hh) (L := [0, 1, 3, 4, 2, 5, 6, 7, 8, 9, 10, 11]) (by decide)
theorem lw_rY (hc : fz_XI l y ws fr lo ck n D cy av (OW cy o r ++ ((FW f a t h x) ++ (XW cy ad x X vb))) (fz_Ew (fz_in (OW cy o r ++ ((FW f a t h x) ++ (XW cy ad x X vb))))) F (OW cy o r' ++ ((FW f a t h x) ++ (XW cy ad x X' vb))) true xIS (OW cy o r' ++ ((FW f a t h x) ++ (XW cy ad x X' vb)))) :
    lw_cal l y ws fr lo ck n D cy av (lwW cy o f a t h x b ad r sl g cn V T X vb S M hh) F (lwW cy o f a t h x b ad r' sl g cn V T X' vb S M hh) := by
  refine ⟨fz_cat (lwB cy o f a t h x b ad r sl g cn V T X vb S M hh) [2, 3, 4, 6, 7, 8, 9, 10, 11], _, _, hc, ?_, ?_, rfl⟩
  · rw [List.append_assoc, List.append_assoc]
    exact fz_cat_P (lwB cy o f a t h x b ad r sl g cn V T X vb S M hh) (L' := [0, 1, 5, 2, 3, 4, 6, 7, 8, 9, 10, 11]) (by decide)
  · rw [List.append_assoc, List.append_assoc]
    exact fz_cat_P (lwB cy o f a t h x b ad r' sl g cn V T X' vb S M hh) (L := [0, 1, 5, 2, 3, 4, 6, 7, 8, 9, 10, 11]) (by decide)
/-- the model's call -/
theorem lw_mw {hh' : Int64} {M' : Nat → Nat → Int32} {As : List Value} (hc : fz_MI l y ws fr lo D cy (.ref (b 0) :: As) (MW cy b M hh) fz_T F (MW cy b M' hh')) : lw_mal (fun _ => fz_T) l y ws fr lo D cy (b 0) 7 As (lwW cy o f a t h x b ad r sl g cn V T X vb S M hh) F (lwW cy o f a t h x b ad r sl g cn V T X vb S M' hh') :=
  ⟨fz_cat (lwB cy o f a t h x b ad r sl g cn V T X vb S M hh) [0, 1, 2, 3, 4, 5, 7, 8, 9, 10, 11], _, _, _, hc, rfl, fz_cat_P (lwB cy o f a t h x b ad r sl g cn V T X vb S M hh) (L' := [6, 0, 1, 2, 3, 4, 5, 7, 8, 9, 10, 11]) (by decide), fz_cat_P (lwB cy o f a t h x b ad r sl g cn V T X vb S M' hh') (L := [6, 0, 1, 2, 3, 4, 5, 7, 8, 9, 10, 11]) (by decide), rfl⟩
end LRD
/-! the rows where the two sides say a condition otherwise -/
theorem fm_vo {x : Int32} {n : Nat} (hn : n + 1 < 2 ^ 31) : fz_vo x (nI (n + 1)) = fm_in x 0 (nI n) := by
  by_cases h : x < 0
  · simp [fm_in, fz_vo, h]
  · obtain ⟨j, hj, rfl⟩ := nI_of h
    have e : (nI n < nI j) ↔ ¬ (nI j < nI (n + 1)) := by
      rw [nI_ltI (by omega) hj, nI_ltI hj hn]
      omega
    by_cases q : nI j < nI (n + 1)
    · have : ¬ (nI n < nI j) := fun z => (e.mp z) q
      simp [fm_in, fz_vo, h, q, this]
    · have := e.mpr q
      simp [fm_in, fz_vo, h, q, this]
theorem fm_vo_11 (x : Int32) : fz_vo x 11 = fm_in x 0 10 := fm_vo (n := 10) (by decide)
theorem fm_vo_7 (x : Int32) : fz_vo x 7 = fm_in x 0 6 := fm_vo (n := 6) (by decide)
theorem fm_vo_6 (x : Int32) : fz_vo x 6 = fm_in x 0 5 := fm_vo (n := 5) (by decide)
theorem fm_vo_40 (x : Int32) : fz_vo x 40 = fm_in x 0 39 := fm_vo (n := 39) (by decide)
theorem fm_vo_18 (x : Int32) : fz_vo x 18 = fm_in x 0 17 := fm_vo (n := 17) (by decide)
theorem fm_vo_128 (x : Int32) : fz_vo x 128 = fm_in x 0 127 := fm_vo (n := 127) (by decide)
theorem wt_dec (y : Int32) : (!(decide (y < 0))) = decide (0 ≤ y) := by
  by_cases h : y < 0
  · rw [decide_eq_true h, decide_eq_false (Int32.not_le.mpr h)]
    rfl
  · rw [decide_eq_false h, decide_eq_true (Int32.not_lt.mp h)]
    rfl
theorem lR.ln {B : Nat} (R : lR B V X M S g sl cn) : M 0 1 = X 0 0 := by
  obtain ⟨ln, -, e1, e2⟩ := R.2.2.2.1
  exact e2.trans e1.symm
theorem lR.bk {B C : Nat} (R : lR B V X M S g sl cn) (hC : B ≤ C) : lR C V X (fm_bk M) S g sl cn := by
  obtain ⟨h1, h2, h3, ⟨ln, h4, h5, h6⟩, h7, h8⟩ := R
  exact ⟨h1.mono hC, h2.mono hC, h3, ⟨ln, h4, h5, h6⟩, h7, h8⟩
section LEQ
variable {nt nc nq nl wk : Nat}
theorem ldr_eq (c : cR V (M 1) nt nc nq nl wk) {y z : Int32} (hy : y.toNatClampNeg < nt) : fz_ldr V nt nl y z = (if z * M 1 4 - fm_t (M 1) 0 y.toNatClampNeg ≤ 0 then -1 else bif fz_owes (fm_l (M 1) 1) (fm_l (M 1) 3) (fm_l (M 1) 4) (M 1 0) nl y then -1 else fz_rich (fm_t (M 1) 0) y (z * M 1 4 - fm_t (M 1) 0 y.toNatClampNeg) nt) := by
  have e4 : V 1 0 = M 1 4 := c.eq.a1 0 (by decide)
  have et : V 4 y.toNatClampNeg = fm_t (M 1) 0 y.toNatClampNeg := c.eq.t (r := 4) hy
  have eo : fz_owes (V 19) (V 21) (V 22) (V 0 0) nl y = fz_owes (fm_l (M 1) 1) (fm_l (M 1) 3) (fm_l (M 1) 4) (M 1 0) nl y := ag_owes c.eq y
  have er : fz_rich (V 4) y (z * M 1 4 - fm_t (M 1) 0 y.toNatClampNeg) nt = fz_rich (fm_t (M 1) 0) y (z * M 1 4 - fm_t (M 1) 0 y.toNatClampNeg) nt := ag_rich (by have := c.wf.2.1; omega) (fun i hi => c.eq.t (r := 4) hi) nt (Nat.le_refl _)
  rw [fz_ldr, e4, et, eo, er]
theorem wt_eq (c : cR V (M 1) nt nc nq nl wk) {y : Int32} (hy : 0 ≤ y) : (if y < V 8 1 then V 16 y.toNatClampNeg else -1) = fm_pick (fm_wl (M 1) nc (-1) 1 1 9) y.toNatClampNeg := by
  obtain ⟨j, hj, rfl⟩ := nI_of (Int32.not_lt.mpr hy)
  have hq : V 8 1 = nI nq := c.wf.2.2.2.2.1
  have hqc := c.wf.2.2.2.2.2.1
  have hc30 := c.wf.2.2.2.1
  rw [nI_clamp hj, ← c.wait j, hq]
  by_cases q : j < nq
  · rw [if_pos q, if_pos ((nI_ltI hj (by omega)).mpr q)]
  · rw [if_neg q, if_neg (fun z => q ((nI_ltI hj (by omega)).mp z))]
theorem fzn_eq (c : cR V (M 1) nt nc nq nl wk) {i : Nat} (hi : i < 40) : fz_nz (V 2 i) = M 1 (9 + i) := by
  have e : V 2 i = M 1 (9 + i) := c.eq.a2 i hi
  rw [← e]
  rcases c.zo i hi with z | z
  · rw [z]; rfl
  · rw [z]; rfl
end LEQ
end LTW
set_option maxHeartbeats 1000000 in
set_option maxRecDepth 20000 in
theorem tw_addTeam (l : Launch) (hst : l.stackTraces = false) (D : va_G) (cy : Nat → ClassId) (o : Nat) (f a t h x b ad : Nat → Nat) {B : Nat} {V T X M : Nat → Nat → Int32} {S : Nat → Nat → Nat → Int32} {g : Nat → Option Nat} {sl : Nat → Nat → Nat} {cn : Nat} (R : lR B V X M S g sl cn) (hB : B < 1990000000) (r : Nat → Int64) (vb : Option Nat) (hh : Int64) (y : Int32) : lw_two l D cy o f a t h x b ad (B + 6600) yL_addTeam wsL_addTeam 8 124 1 6 [.ref (f 0), .int y, .ref o] yX9_addTeam wsX9_addTeam 2 44 [.int y] r sl g cn V T X vb S M hh := by
  obtain ⟨nt, nc, nq, nl, wk, c, cb⟩ := R.1
  have hn : cn < 5 := Nat.lt_succ_of_le R.2.1.1
  have hw := R.2.2.2.2.2 cn hn
  have s : sim V (fm_as M) B 9 1 2 (fz_bring V nt y) (fm_team (fm_as M) nt y) := sim_bring (M := fm_as M) c cb y
  obtain ⟨F, r', sl', g', cn', V', S', h1, h2, h3, h4⟩ := lw_und (l := l) (D := D) (cy := cy) (o := o) (f := f) (a := a) (t := t) (h := h) (x := x) (b := b) (ad := ad) (T := T) (r := r) (vb := vb) (hh := hh) R s (fm_K_team _ _ _) (by decide) (by decide) (by decide) (fun Z hz hok => c_L_addTeam_t l hst D cy f a t h x g cn V (sl cn) (S cn) Z nt nc nq nl wk c.wf hn hw c.zo hz y o r hok) (fun z9 => absurd rfl z9) (fun _ Z hz hok hen => c_L_addTeam_IA l hst D cy f a t h x g cn V (sl cn) (S cn) Z nt nc nq nl wk c.wf hn hw c.zo hz y o r hok hen) (fun _ Z hz hok hen => c_L_addTeam_IS l hst D cy f a t h x g cn V (sl cn) (S cn) Z nt nc nq nl wk c.wf hn hw c.zo hz y o r hok hen)
  exact ⟨F, _, r', sl', g', cn', V', T, X, vb, S', _, h1, c_X9_addTeam l D cy b M hh nt nc nl wk c.mf y cn R.2.2.1 R.2.1.1, h2, h3, h4⟩
set_option maxHeartbeats 1000000 in
set_option maxRecDepth 20000 in
theorem tw_freeze (l : Launch) (hst : l.stackTraces = false) (D : va_G) (cy : Nat → ClassId) (o : Nat) (f a t h x b ad : Nat → Nat) {B : Nat} {V T X M : Nat → Nat → Int32} {S : Nat → Nat → Nat → Int32} {g : Nat → Option Nat} {sl : Nat → Nat → Nat} {cn : Nat} (R : lR B V X M S g sl cn) (hB : B < 1990000000) (r : Nat → Int64) (vb : Option Nat) (hh : Int64) (y : Int32) (z : Int32) (fr : Bool) : lw_two l D cy o f a t h x b ad (B + 6600) yL_freeze wsL_freeze 8 126 1 6 [.ref (f 0), .int y, .int z, .int (fz_b fr), .ref o] yX9_freeze wsX9_freeze 2 47 [.int y, .int z, .int (fz_b fr)] r sl g cn V T X vb S M hh := by
  obtain ⟨nt, nc, nq, nl, wk, c, cb⟩ := R.1
  have hn : cn < 5 := Nat.lt_succ_of_le R.2.1.1
  have hw := R.2.2.2.2.2 cn hn
  have s : sim V (fm_as M) B 9 1 2 (fz_markw V wk y z fr) (fm_frees (fm_as M) y z fr) := sim_markw (M := fm_as M) c cb y z fr
  obtain ⟨F, r', sl', g', cn', V', S', h1, h2, h3, h4⟩ := lw_und (l := l) (D := D) (cy := cy) (o := o) (f := f) (a := a) (t := t) (h := h) (x := x) (b := b) (ad := ad) (T := T) (r := r) (vb := vb) (hh := hh) R s (fm_K_frees _ _ _ _) (by decide) (by decide) (by decide) (fun Z hz hok => c_L_freeze_t l hst D cy f a t h x g cn V (sl cn) (S cn) Z nt nc nq nl wk c.wf hn hw c.zo hz y z fr o r hok) (fun z9 => absurd rfl z9) (fun _ Z hz hok hen => c_L_freeze_IA l hst D cy f a t h x g cn V (sl cn) (S cn) Z nt nc nq nl wk c.wf hn hw c.zo hz y z fr o r hok hen) (fun _ Z hz hok hen => c_L_freeze_IS l hst D cy f a t h x g cn V (sl cn) (S cn) Z nt nc nq nl wk c.wf hn hw c.zo hz y z fr o r hok hen)
  exact ⟨F, _, r', sl', g', cn', V', T, X, vb, S', _, h1, c_X9_freeze l D cy b M hh nt nc nl wk c.mf y z fr cn R.2.2.1 R.2.1.1, h2, h3, h4⟩
set_option maxHeartbeats 1000000 in
set_option maxRecDepth 20000 in
theorem tw_set (l : Launch) (hst : l.stackTraces = false) (D : va_G) (cy : Nat → ClassId) (o : Nat) (f a t h x b ad : Nat → Nat) {B : Nat} {V T X M : Nat → Nat → Int32} {S : Nat → Nat → Nat → Int32} {g : Nat → Option Nat} {sl : Nat → Nat → Nat} {cn : Nat} (R : lR B V X M S g sl cn) (hB : B < 1990000000) (r : Nat → Int64) (vb : Option Nat) (hh : Int64) (y : Int32) (z : Int32) : lw_two l D cy o f a t h x b ad (B + 6600) yL_set wsL_set 8 125 1 6 [.ref (f 0), .int y, .int z, .ref o] yX9_set wsX9_set 2 45 [.int y, .int z] r sl g cn V T X vb S M hh := by
  obtain ⟨nt, nc, nq, nl, wk, c, cb⟩ := R.1
  have hn : cn < 5 := Nat.lt_succ_of_le R.2.1.1
  have hw := R.2.2.2.2.2 cn hn
  have s : sim V (fm_as M) B 9 1 9 (fz_set V y z) (fm_sets (fm_as M) y z) := sim_set (M := fm_as M) c cb y z
  obtain ⟨F, r', sl', g', cn', V', S', h1, h2, h3, h4⟩ := lw_und (l := l) (D := D) (cy := cy) (o := o) (f := f) (a := a) (t := t) (h := h) (x := x) (b := b) (ad := ad) (T := T) (r := r) (vb := vb) (hh := hh) R s (fm_K_sets _ _ _) (by decide) (by decide) (by decide) (fun Z hz hok => c_L_set_t l hst D cy f a t h x g cn V (sl cn) (S cn) Z nt nc nq nl wk c.wf hn hw c.zo hz y z o r hok) (fun z9 => absurd rfl z9) (fun _ Z hz hok hen => c_L_set_IA l hst D cy f a t h x g cn V (sl cn) (S cn) Z nt nc nq nl wk c.wf hn hw c.zo hz y z o r hok hen) (fun z9 => absurd rfl z9)
  exact ⟨F, _, r', sl', g', cn', V', T, X, vb, S', _, h1, c_X9_set l D cy b M hh nt nc nl wk c.mf y z cn R.2.2.1 R.2.1.1, h2, h3, h4⟩
set_option maxHeartbeats 1000000 in
set_option maxRecDepth 20000 in
theorem tw_endWeek (l : Launch) (hst : l.stackTraces = false) (D : va_G) (cy : Nat → ClassId) (o : Nat) (f a t h x b ad : Nat → Nat) {B : Nat} {V T X M : Nat → Nat → Int32} {S : Nat → Nat → Nat → Int32} {g : Nat → Option Nat} {sl : Nat → Nat → Nat} {cn : Nat} (R : lR B V X M S g sl cn) (hB : B < 1990000000) (r : Nat → Int64) (vb : Option Nat) (hh : Int64)  : lw_two l D cy o f a t h x b ad (B + 6600) yL_endWeek wsL_endWeek 8 123 1 6 [.ref (f 0), .ref o] yX9_endWeek wsX9_endWeek 4 90 [] r sl g cn V T X vb S M hh := by
  obtain ⟨nt, nc, nq, nl, wk, c, cb⟩ := R.1
  have hn : cn < 5 := Nat.lt_succ_of_le R.2.1.1
  have hw := R.2.2.2.2.2 cn hn
  have s : sim V (fm_as M) B 9 9 1 (fz_close V nt nc nl wk) (fm_ends1 (fm_as M) nt nc nl wk) := sim_close (M := fm_as M) c cb (by omega)
  obtain ⟨F, r', sl', g', cn', V', S', h1, h2, h3, h4⟩ := lw_und (l := l) (D := D) (cy := cy) (o := o) (f := f) (a := a) (t := t) (h := h) (x := x) (b := b) (ad := ad) (T := T) (r := r) (vb := vb) (hh := hh) R s (fm_K_ends1 _ _ _ _ _) (by decide) (by decide) (by decide) (fun Z hz hok => c_L_endWeek_t l hst D cy f a t h x g cn V (sl cn) (S cn) Z nt nc nq nl wk c.wf hn hw c.zo hz o r hok) (fun z9 => absurd rfl z9) (fun z9 => absurd rfl z9) (fun _ Z hz hok hen => c_L_endWeek_IS l hst D cy f a t h x g cn V (sl cn) (S cn) Z nt nc nq nl wk c.wf hn hw c.zo hz o r hok hen)
  exact ⟨F, _, r', sl', g', cn', V', T, X, vb, S', _, h1, c_X9_endWeek l D cy b M hh nt nc nl wk c.mf cn R.2.2.1 R.2.1.1, h2, h3, h4⟩
set_option maxHeartbeats 1000000 in
set_option maxRecDepth 20000 in
theorem tw_ask (l : Launch) (hst : l.stackTraces = false) (D : va_G) (cy : Nat → ClassId) (o : Nat) (f a t h x b ad : Nat → Nat) {B : Nat} {V T X M : Nat → Nat → Int32} {S : Nat → Nat → Nat → Int32} {g : Nat → Option Nat} {sl : Nat → Nat → Nat} {cn : Nat} (R : lR B V X M S g sl cn) (hB : B < 1990000000) (r : Nat → Int64) (vb : Option Nat) (hh : Int64) (y : Int32) (z : Int32) : lw_two l D cy o f a t h x b ad (B + 6600) yL_ask wsL_ask 8 125 1 6 [.ref (f 0), .int y, .int z, .ref o] yX9_ask wsX9_ask 3 66 [.int y, .int z] r sl g cn V T X vb S M hh := by
  obtain ⟨nt, nc, nq, nl, wk, c, cb⟩ := R.1
  have hn : cn < 5 := Nat.lt_succ_of_le R.2.1.1
  have hw := R.2.2.2.2.2 cn hn
  have s : sim V (fm_as M) B 1 2 3 (fz_enter V nc nq y z) (fm_asks (fm_as M) nc y z) := sim_enter (M := fm_as M) c cb y z
  obtain ⟨F, r', sl', g', cn', V', S', h1, h2, h3, h4⟩ := lw_und (l := l) (D := D) (cy := cy) (o := o) (f := f) (a := a) (t := t) (h := h) (x := x) (b := b) (ad := ad) (T := T) (r := r) (vb := vb) (hh := hh) R s (fm_K_asks _ _ _ _) (by decide) (by decide) (by decide) (fun Z hz hok => c_L_ask_t l hst D cy f a t h x g cn V (sl cn) (S cn) Z nt nc nq nl wk c.wf hn hw c.zo hz y z o r hok) (fun _ Z hz hok hen => c_L_ask_IO l hst D cy f a t h x g cn V (sl cn) (S cn) Z nt nc nq nl wk c.wf hn hw c.zo hz y z o r hok hen) (fun _ Z hz hok hen => c_L_ask_IA l hst D cy f a t h x g cn V (sl cn) (S cn) Z nt nc nq nl wk c.wf hn hw c.zo hz y z o r hok hen) (fun _ Z hz hok hen => c_L_ask_IS l hst D cy f a t h x g cn V (sl cn) (S cn) Z nt nc nq nl wk c.wf hn hw c.zo hz y z o r hok hen)
  exact ⟨F, _, r', sl', g', cn', V', T, X, vb, S', _, h1, c_X9_ask l D cy b M hh nt nc nl wk c.mf y z cn R.2.2.1 R.2.1.1, h2, h3, h4⟩
set_option maxHeartbeats 1000000 in
set_option maxRecDepth 20000 in
theorem tw_exempt (l : Launch) (hst : l.stackTraces = false) (D : va_G) (cy : Nat → ClassId) (o : Nat) (f a t h x b ad : Nat → Nat) {B : Nat} {V T X M : Nat → Nat → Int32} {S : Nat → Nat → Nat → Int32} {g : Nat → Option Nat} {sl : Nat → Nat → Nat} {cn : Nat} (R : lR B V X M S g sl cn) (hB : B < 1990000000) (r : Nat → Int64) (vb : Option Nat) (hh : Int64) (y : Int32) : lw_two l D cy o f a t h x b ad (B + 6600) yL_exempt wsL_exempt 8 124 1 6 [.ref (f 0), .int y, .ref o] yX9_exempt wsX9_exempt 4 87 [.int y] r sl g cn V T X vb S M hh := by
  obtain ⟨nt, nc, nq, nl, wk, c, cb⟩ := R.1
  have hn : cn < 5 := Nat.lt_succ_of_le R.2.1.1
  have hw := R.2.2.2.2.2 cn hn
  have s : sim V (fm_as M) B 1 9 2 (fz_exempt V nc nl y) (fm_exm (fm_as M) nl y) := sim_exempt (M := fm_as M) c cb (by omega) y
  obtain ⟨F, r', sl', g', cn', V', S', h1, h2, h3, h4⟩ := lw_und (l := l) (D := D) (cy := cy) (o := o) (f := f) (a := a) (t := t) (h := h) (x := x) (b := b) (ad := ad) (T := T) (r := r) (vb := vb) (hh := hh) R s (fm_K_exm _ _ _) (by decide) (by decide) (by decide) (fun Z hz hok => c_L_exempt_t l hst D cy f a t h x g cn V (sl cn) (S cn) Z nt nc nq nl wk c.wf hn hw c.zo hz y o r hok) (fun _ Z hz hok hen => c_L_exempt_IO l hst D cy f a t h x g cn V (sl cn) (S cn) Z nt nc nq nl wk c.wf hn hw c.zo hz y o r hok hen) (fun z9 => absurd rfl z9) (fun _ Z hz hok hen => c_L_exempt_IS l hst D cy f a t h x g cn V (sl cn) (S cn) Z nt nc nq nl wk c.wf hn hw c.zo hz y o r hok hen)
  exact ⟨F, _, r', sl', g', cn', V', T, X, vb, S', _, h1, c_X9_exempt l D cy b M hh nt nc nl wk c.mf y cn R.2.2.1 R.2.1.1, h2, h3, h4⟩
set_option maxHeartbeats 1000000 in
set_option maxRecDepth 20000 in
theorem tw_make (l : Launch) (hst : l.stackTraces = false) (D : va_G) (cy : Nat → ClassId) (o : Nat) (f a t h x b ad : Nat → Nat) {B : Nat} {V T X M : Nat → Nat → Int32} {S : Nat → Nat → Nat → Int32} {g : Nat → Option Nat} {sl : Nat → Nat → Nat} {cn : Nat} (R : lR B V X M S g sl cn) (hB : B < 1990000000) (r : Nat → Int64) (vb : Option Nat) (hh : Int64) (y : Int32) (fr : Bool) : lw_two l D cy o f a t h x b ad (B + 6600) yL_make wsL_make 8 125 1 6 [.ref (f 0), .int y, .int (fz_b fr), .ref o] yX9_make wsX9_make 3 69 [.int y, .int (fz_b fr)] r sl g cn V T X vb S M hh := by
  obtain ⟨nt, nc, nq, nl, wk, c, cb⟩ := R.1
  have hn : cn < 5 := Nat.lt_succ_of_le R.2.1.1
  have hw := R.2.2.2.2.2 cn hn
  have s : sim V (fm_as M) B 1 9 2 (fz_make V nc nq wk y fr) (fm_make (fm_as M) wk y fr) := sim_make (M := fm_as M) c cb (by omega) y fr
  obtain ⟨F, r', sl', g', cn', V', S', h1, h2, h3, h4⟩ := lw_und (l := l) (D := D) (cy := cy) (o := o) (f := f) (a := a) (t := t) (h := h) (x := x) (b := b) (ad := ad) (T := T) (r := r) (vb := vb) (hh := hh) R s (fm_K_make _ _ _ _) (by decide) (by decide) (by decide) (fun Z hz hok => c_L_make_t l hst D cy f a t h x g cn V (sl cn) (S cn) Z nt nc nq nl wk c.wf hn hw c.zo hz y fr o r hok) (fun _ Z hz hok hen => c_L_make_IO l hst D cy f a t h x g cn V (sl cn) (S cn) Z nt nc nq nl wk c.wf hn hw c.zo hz y fr o r hok hen) (fun z9 => absurd rfl z9) (fun _ Z hz hok hen => c_L_make_IS l hst D cy f a t h x g cn V (sl cn) (S cn) Z nt nc nq nl wk c.wf hn hw c.zo hz y fr o r hok hen)
  exact ⟨F, _, r', sl', g', cn', V', T, X, vb, S', _, h1, c_X9_make l D cy b M hh nt nc nl wk c.mf y fr cn R.2.2.1 R.2.1.1, h2, h3, h4⟩
set_option maxHeartbeats 1000000 in
set_option maxRecDepth 20000 in
theorem tw_giveUp (l : Launch) (hst : l.stackTraces = false) (D : va_G) (cy : Nat → ClassId) (o : Nat) (f a t h x b ad : Nat → Nat) {B : Nat} {V T X M : Nat → Nat → Int32} {S : Nat → Nat → Nat → Int32} {g : Nat → Option Nat} {sl : Nat → Nat → Nat} {cn : Nat} (R : lR B V X M S g sl cn) (hB : B < 1990000000) (r : Nat → Int64) (vb : Option Nat) (hh : Int64) (y : Int32) : lw_two l D cy o f a t h x b ad (B + 6600) yL_giveUp wsL_giveUp 8 124 1 6 [.ref (f 0), .int y, .ref o] yX9_giveUp wsX9_giveUp 3 64 [.int y] r sl g cn V T X vb S M hh := by
  obtain ⟨nt, nc, nq, nl, wk, c, cb⟩ := R.1
  have hn : cn < 5 := Nat.lt_succ_of_le R.2.1.1
  have hw := R.2.2.2.2.2 cn hn
  have s : sim V (fm_as M) B 1 9 2 (fz_drop V nc nq y) (fm_give (fm_as M) y) := sim_drop (M := fm_as M) c cb (by omega) y
  obtain ⟨F, r', sl', g', cn', V', S', h1, h2, h3, h4⟩ := lw_und (l := l) (D := D) (cy := cy) (o := o) (f := f) (a := a) (t := t) (h := h) (x := x) (b := b) (ad := ad) (T := T) (r := r) (vb := vb) (hh := hh) R s (fm_K_give _ _) (by decide) (by decide) (by decide) (fun Z hz hok => c_L_giveUp_t l hst D cy f a t h x g cn V (sl cn) (S cn) Z nt nc nq nl wk c.wf hn hw c.zo hz y o r hok) (fun _ Z hz hok hen => c_L_giveUp_IO l hst D cy f a t h x g cn V (sl cn) (S cn) Z nt nc nq nl wk c.wf hn hw c.zo hz y o r hok hen) (fun z9 => absurd rfl z9) (fun _ Z hz hok hen => c_L_giveUp_IS l hst D cy f a t h x g cn V (sl cn) (S cn) Z nt nc nq nl wk c.wf hn hw c.zo hz y o r hok hen)
  exact ⟨F, _, r', sl', g', cn', V', T, X, vb, S', _, h1, c_X9_giveUp l D cy b M hh nt nc nl wk c.mf y cn R.2.2.1 R.2.1.1, h2, h3, h4⟩
set_option maxHeartbeats 1000000 in
set_option maxRecDepth 20000 in
theorem tw_lend (l : Launch) (hst : l.stackTraces = false) (D : va_G) (cy : Nat → ClassId) (o : Nat) (f a t h x b ad : Nat → Nat) {B : Nat} {V T X M : Nat → Nat → Int32} {S : Nat → Nat → Nat → Int32} {g : Nat → Option Nat} {sl : Nat → Nat → Nat} {cn : Nat} (R : lR B V X M S g sl cn) (hB : B < 1990000000) (r : Nat → Int64) (vb : Option Nat) (hh : Int64) (y : Int32) (z : Int32) (u : Int32) (v : Int32) : lw_two l D cy o f a t h x b ad (B + 6600) yL_lend wsL_lend 8 127 1 6 [.ref (f 0), .int y, .int z, .int u, .int v, .ref o] yX9_lend wsX9_lend 3 69 [.int y, .int z, .int u, .int v] r sl g cn V T X vb S M hh := by
  obtain ⟨nt, nc, nq, nl, wk, c, cb⟩ := R.1
  have hn : cn < 5 := Nat.lt_succ_of_le R.2.1.1
  have hw := R.2.2.2.2.2 cn hn
  have s : sim V (fm_as M) B 1 2 3 (fz_lend V nt nl y z u v) (fm_lend (fm_as M) nl y z u v) := sim_lend (M := fm_as M) c cb (by omega) y z u v
  obtain ⟨F, r', sl', g', cn', V', S', h1, h2, h3, h4⟩ := lw_und (l := l) (D := D) (cy := cy) (o := o) (f := f) (a := a) (t := t) (h := h) (x := x) (b := b) (ad := ad) (T := T) (r := r) (vb := vb) (hh := hh) R s (fm_K_lend _ _ _ _ _ _) (by decide) (by decide) (by decide) (fun Z hz hok => c_L_lend_t l hst D cy f a t h x g cn V (sl cn) (S cn) Z nt nc nq nl wk c.wf hn hw c.zo hz y z u v o r hok) (fun _ Z hz hok hen => c_L_lend_IO l hst D cy f a t h x g cn V (sl cn) (S cn) Z nt nc nq nl wk c.wf hn hw c.zo hz y z u v o r hok hen) (fun _ Z hz hok hen => c_L_lend_IA l hst D cy f a t h x g cn V (sl cn) (S cn) Z nt nc nq nl wk c.wf hn hw c.zo hz y z u v o r hok hen) (fun _ Z hz hok hen => c_L_lend_IS l hst D cy f a t h x g cn V (sl cn) (S cn) Z nt nc nq nl wk c.wf hn hw c.zo hz y z u v o r hok hen)
  exact ⟨F, _, r', sl', g', cn', V', T, X, vb, S', _, h1, c_X9_lend l D cy b M hh nt nc nl wk c.mf y z u v cn R.2.2.1 R.2.1.1, h2, h3, h4⟩
set_option maxHeartbeats 1000000 in
set_option maxRecDepth 20000 in
theorem tw_repay (l : Launch) (hst : l.stackTraces = false) (D : va_G) (cy : Nat → ClassId) (o : Nat) (f a t h x b ad : Nat → Nat) {B : Nat} {V T X M : Nat → Nat → Int32} {S : Nat → Nat → Nat → Int32} {g : Nat → Option Nat} {sl : Nat → Nat → Nat} {cn : Nat} (R : lR B V X M S g sl cn) (hB : B < 1990000000) (r : Nat → Int64) (vb : Option Nat) (hh : Int64) (y : Int32) (z : Int32) : lw_two l D cy o f a t h x b ad (B + 6600) yL_repay wsL_repay 8 125 1 6 [.ref (f 0), .int y, .int z, .ref o] yX9_repay wsX9_repay 3 67 [.int y, .int z] r sl g cn V T X vb S M hh := by
  obtain ⟨nt, nc, nq, nl, wk, c, cb⟩ := R.1
  have hn : cn < 5 := Nat.lt_succ_of_le R.2.1.1
  have hw := R.2.2.2.2.2 cn hn
  have s : sim V (fm_as M) B 1 2 3 (fz_repay V nl y z) (fm_rep (fm_as M) y z) := sim_repay (M := fm_as M) c cb (by omega) y z
  obtain ⟨F, r', sl', g', cn', V', S', h1, h2, h3, h4⟩ := lw_und (l := l) (D := D) (cy := cy) (o := o) (f := f) (a := a) (t := t) (h := h) (x := x) (b := b) (ad := ad) (T := T) (r := r) (vb := vb) (hh := hh) R s (fm_K_rep _ _ _) (by decide) (by decide) (by decide) (fun Z hz hok => c_L_repay_t l hst D cy f a t h x g cn V (sl cn) (S cn) Z nt nc nq nl wk c.wf hn hw c.zo hz y z o r hok) (fun _ Z hz hok hen => c_L_repay_IO l hst D cy f a t h x g cn V (sl cn) (S cn) Z nt nc nq nl wk c.wf hn hw c.zo hz y z o r hok hen) (fun _ Z hz hok hen => c_L_repay_IA l hst D cy f a t h x g cn V (sl cn) (S cn) Z nt nc nq nl wk c.wf hn hw c.zo hz y z o r hok hen) (fun _ Z hz hok hen => c_L_repay_IS l hst D cy f a t h x g cn V (sl cn) (S cn) Z nt nc nq nl wk c.wf hn hw c.zo hz y z o r hok hen)
  exact ⟨F, _, r', sl', g', cn', V', T, X, vb, S', _, h1, c_X9_repay l D cy b M hh nt nc nl wk c.mf y z cn R.2.2.1 R.2.1.1, h2, h3, h4⟩
set_option maxHeartbeats 1000000 in
set_option maxRecDepth 20000 in
theorem tw_team (l : Launch) (hst : l.stackTraces = false) (D : va_G) (cy : Nat → ClassId) (o : Nat) (f a t h x b ad : Nat → Nat) {B : Nat} {V T X M : Nat → Nat → Int32} {S : Nat → Nat → Nat → Int32} {g : Nat → Option Nat} {sl : Nat → Nat → Nat} {cn : Nat} (R : lR B V X M S g sl cn) (hB : B < 1990000000) (r : Nat → Int64) (vb : Option Nat) (hh : Int64) (y : Int32) (z : Int32) : lw_two l D cy o f a t h x b ad (B + 6600) yL_team wsL_team 8 126 2 12 [.ref (f 0), .int y, .int z, .ref o] yX9_team wsX9_team 3 68 [.int y, .int z] r sl g cn V T X vb S M hh := by
  obtain ⟨nt, nc, nq, nl, wk, c, cb⟩ := R.1
  have e1 : V 3 0 = M 1 1 := c.eq.a3
  have e2 : fz_vo z 11 = fm_in z 0 10 := fm_vo_11 z
  by_cases h1 : fz_ix y (M 1 1) = true
  · have hy := fz_ix_s (n := nt) (by rw [e1]; exact h1) c.wf.1 (by have := c.wf.2.1; omega)
    by_cases h2 : fm_in z 0 10 = true
    · have e : fm_qteam M nc nl y z = (fz_tval (fm_V (M 1)) nc nl y.toNatClampNeg z.toNatClampNeg, fz_up M 0 (upd (M 0) 2 0)) := by rw [fm_qteam, if_pos h1, if_pos h2]
      have ev : (fz_tval V nc nl y.toNatClampNeg z.toNatClampNeg) = (fz_tval (fm_V (M 1)) nc nl y.toNatClampNeg z.toNatClampNeg) := by
        exact ag_tval c.eq hy.2 _
      have hok : (fz_ix y (V 3 0) && fz_vo z 11) = true := by rw [e1, e2, h1, h2]; rfl
      exact ⟨0, _, vp_updL r 0 (fz_tval V nc nl y.toNatClampNeg z.toNatClampNeg).toInt64, sl, g, cn, V, T, X, vb, S, _, lw_rd2 (c_L_team_t l hst D cy f t h x a V nt nc nq nl wk c.wf y z o r hok), c_X9_team l D cy b M hh nt nc nl wk c.mf y z, by rw [e]; exact R.code (by omega), by rw [e]; rfl, fun _ => by rw [e, ← ev]; rfl⟩
    · have h2 := Bool.eq_false_iff.mpr h2
      have e : fm_qteam M nc nl y z = (0, fz_up M 0 (upd (M 0) 2 2)) := by rw [fm_qteam, if_pos h1, if_neg (by rw [h2]; decide)]
      have hok : (fz_ix y (V 3 0) && fz_vo z 11) = false := by rw [e1, e2, h1, h2]; rfl
      exact ⟨2, _, r, sl, g, cn, V, T, X, vb, S, _, lw_rd2 (c_L_team_IA l hst D cy f t h x a V nt nc nq nl wk c.wf y z o r hok (by rw [e1, h1]; rfl)), c_X9_team l D cy b M hh nt nc nl wk c.mf y z, by rw [e]; exact R.code (by omega), by rw [e]; rfl, fun z9 => absurd z9 (by decide)⟩
  · have h1 := Bool.eq_false_iff.mpr h1
    have e : fm_qteam M nc nl y z = (0, fz_up M 0 (upd (M 0) 2 1)) := by rw [fm_qteam, if_neg (by rw [h1]; decide)]
    have hok : (fz_ix y (V 3 0) && fz_vo z 11) = false := by rw [e1, h1]; rfl
    exact ⟨1, _, r, sl, g, cn, V, T, X, vb, S, _, lw_rd2 (c_L_team_IO l hst D cy f t h x a V nt nc nq nl wk c.wf y z o r hok (by rw [e1, h1]; rfl)), c_X9_team l D cy b M hh nt nc nl wk c.mf y z, by rw [e]; exact R.code (by omega), by rw [e]; rfl, fun z9 => absurd z9 (by decide)⟩
set_option maxHeartbeats 1000000 in
set_option maxRecDepth 20000 in
theorem tw_change (l : Launch) (hst : l.stackTraces = false) (D : va_G) (cy : Nat → ClassId) (o : Nat) (f a t h x b ad : Nat → Nat) {B : Nat} {V T X M : Nat → Nat → Int32} {S : Nat → Nat → Nat → Int32} {g : Nat → Option Nat} {sl : Nat → Nat → Nat} {cn : Nat} (R : lR B V X M S g sl cn) (hB : B < 1990000000) (r : Nat → Int64) (vb : Option Nat) (hh : Int64) (y : Int32) (z : Int32) : lw_two l D cy o f a t h x b ad (B + 6600) yL_change wsL_change 8 126 2 12 [.ref (f 0), .int y, .int z, .ref o] yX9_change wsX9_change 2 43 [.int y, .int z] r sl g cn V T X vb S M hh := by
  obtain ⟨nt, nc, nq, nl, wk, c, cb⟩ := R.1
  have e1 : V 8 0 = M 1 2 := c.eq.a8
  have e2 : fz_vo z 7 = fm_in z 0 6 := fm_vo_7 z
  by_cases h1 : fz_ix y (M 1 2) = true
  · have hy := fz_ix_s (n := nc) (by rw [e1]; exact h1) c.wf.2.2.1 (by have := c.wf.2.2.2.1; omega)
    by_cases h2 : fm_in z 0 6 = true
    · have e : fm_qch M y z = (fm_c (M 1) z.toNatClampNeg y.toNatClampNeg, fz_up M 0 (upd (M 0) 2 0)) := by rw [fm_qch, if_pos h1, if_pos h2]
      have ev : (V (9 + z.toNatClampNeg) y.toNatClampNeg) = (fm_c (M 1) z.toNatClampNeg y.toNatClampNeg) := by
        exact c.eq.cw (fz_vo_s (n := 7) (by decide) (e2.trans h2)).2 hy.2
      have hok : (fz_ix y (V 8 0) && fz_vo z 7) = true := by rw [e1, e2, h1, h2]; rfl
      exact ⟨0, _, vp_updL r 0 (V (9 + z.toNatClampNeg) y.toNatClampNeg).toInt64, sl, g, cn, V, T, X, vb, S, _, lw_rd2 (c_L_change_t l hst D cy f t h x a V nt nc nq nl wk c.wf y z o r hok), c_X9_change l D cy b M hh nt nc nl wk c.mf y z, by rw [e]; exact R.code (by omega), by rw [e]; rfl, fun _ => by rw [e, ← ev]; rfl⟩
    · have h2 := Bool.eq_false_iff.mpr h2
      have e : fm_qch M y z = (0, fz_up M 0 (upd (M 0) 2 2)) := by rw [fm_qch, if_pos h1, if_neg (by rw [h2]; decide)]
      have hok : (fz_ix y (V 8 0) && fz_vo z 7) = false := by rw [e1, e2, h1, h2]; rfl
      exact ⟨2, _, r, sl, g, cn, V, T, X, vb, S, _, lw_rd2 (c_L_change_IA l hst D cy f t h x a V nt nc nq nl wk c.wf y z o r hok (by rw [e1, h1]; rfl)), c_X9_change l D cy b M hh nt nc nl wk c.mf y z, by rw [e]; exact R.code (by omega), by rw [e]; rfl, fun z9 => absurd z9 (by decide)⟩
  · have h1 := Bool.eq_false_iff.mpr h1
    have e : fm_qch M y z = (0, fz_up M 0 (upd (M 0) 2 1)) := by rw [fm_qch, if_neg (by rw [h1]; decide)]
    have hok : (fz_ix y (V 8 0) && fz_vo z 7) = false := by rw [e1, h1]; rfl
    exact ⟨1, _, r, sl, g, cn, V, T, X, vb, S, _, lw_rd2 (c_L_change_IO l hst D cy f t h x a V nt nc nq nl wk c.wf y z o r hok (by rw [e1, h1]; rfl)), c_X9_change l D cy b M hh nt nc nl wk c.mf y z, by rw [e]; exact R.code (by omega), by rw [e]; rfl, fun z9 => absurd z9 (by decide)⟩
set_option maxHeartbeats 1000000 in
set_option maxRecDepth 20000 in
theorem tw_loan (l : Launch) (hst : l.stackTraces = false) (D : va_G) (cy : Nat → ClassId) (o : Nat) (f a t h x b ad : Nat → Nat) {B : Nat} {V T X M : Nat → Nat → Int32} {S : Nat → Nat → Nat → Int32} {g : Nat → Option Nat} {sl : Nat → Nat → Nat} {cn : Nat} (R : lR B V X M S g sl cn) (hB : B < 1990000000) (r : Nat → Int64) (vb : Option Nat) (hh : Int64) (y : Int32) (z : Int32) : lw_two l D cy o f a t h x b ad (B + 6600) yL_loan wsL_loan 8 126 1 6 [.ref (f 0), .int y, .int z, .ref o] yX9_loan wsX9_loan 2 43 [.int y, .int z] r sl g cn V T X vb S M hh := by
  obtain ⟨nt, nc, nq, nl, wk, c, cb⟩ := R.1
  have e1 : V 17 0 = M 1 3 := c.eq.a17
  have e2 : fz_vo z 6 = fm_in z 0 5 := fm_vo_6 z
  by_cases h1 : fz_ix y (M 1 3) = true
  · have hy := fz_ix_s (n := nl) (by rw [e1]; exact h1) c.wf.2.2.2.2.2.2.1 (by have := c.wf.2.2.2.2.2.2.2.1; omega)
    by_cases h2 : fm_in z 0 5 = true
    · have e : fm_qln M y z = (fm_l (M 1) z.toNatClampNeg y.toNatClampNeg, fz_up M 0 (upd (M 0) 2 0)) := by rw [fm_qln, if_pos h1, if_pos h2]
      have ev : (V (18 + z.toNatClampNeg) y.toNatClampNeg) = (fm_l (M 1) z.toNatClampNeg y.toNatClampNeg) := by
        exact c.eq.lw (fz_vo_s (n := 6) (by decide) (e2.trans h2)).2 hy.2
      have hok : (fz_ix y (V 17 0) && fz_vo z 6) = true := by rw [e1, e2, h1, h2]; rfl
      exact ⟨0, _, vp_updL r 0 (V (18 + z.toNatClampNeg) y.toNatClampNeg).toInt64, sl, g, cn, V, T, X, vb, S, _, lw_rd2 (c_L_loan_t l hst D cy f t h x a V nt nc nq nl wk c.wf y z o r hok), c_X9_loan l D cy b M hh nt nc nl wk c.mf y z, by rw [e]; exact R.code (by omega), by rw [e]; rfl, fun _ => by rw [e, ← ev]; rfl⟩
    · have h2 := Bool.eq_false_iff.mpr h2
      have e : fm_qln M y z = (0, fz_up M 0 (upd (M 0) 2 2)) := by rw [fm_qln, if_pos h1, if_neg (by rw [h2]; decide)]
      have hok : (fz_ix y (V 17 0) && fz_vo z 6) = false := by rw [e1, e2, h1, h2]; rfl
      exact ⟨2, _, r, sl, g, cn, V, T, X, vb, S, _, lw_rd2 (c_L_loan_IA l hst D cy f t h x a V nt nc nq nl wk c.wf y z o r hok (by rw [e1, h1]; rfl)), c_X9_loan l D cy b M hh nt nc nl wk c.mf y z, by rw [e]; exact R.code (by omega), by rw [e]; rfl, fun z9 => absurd z9 (by decide)⟩
  · have h1 := Bool.eq_false_iff.mpr h1
    have e : fm_qln M y z = (0, fz_up M 0 (upd (M 0) 2 1)) := by rw [fm_qln, if_neg (by rw [h1]; decide)]
    have hok : (fz_ix y (V 17 0) && fz_vo z 6) = false := by rw [e1, h1]; rfl
    exact ⟨1, _, r, sl, g, cn, V, T, X, vb, S, _, lw_rd2 (c_L_loan_IO l hst D cy f t h x a V nt nc nq nl wk c.wf y z o r hok (by rw [e1, h1]; rfl)), c_X9_loan l D cy b M hh nt nc nl wk c.mf y z, by rw [e]; exact R.code (by omega), by rw [e]; rfl, fun z9 => absurd z9 (by decide)⟩
set_option maxHeartbeats 1000000 in
set_option maxRecDepth 20000 in
theorem tw_lender (l : Launch) (hst : l.stackTraces = false) (D : va_G) (cy : Nat → ClassId) (o : Nat) (f a t h x b ad : Nat → Nat) {B : Nat} {V T X M : Nat → Nat → Int32} {S : Nat → Nat → Nat → Int32} {g : Nat → Option Nat} {sl : Nat → Nat → Nat} {cn : Nat} (R : lR B V X M S g sl cn) (hB : B < 1990000000) (r : Nat → Int64) (vb : Option Nat) (hh : Int64) (y : Int32) (z : Int32) : lw_two l D cy o f a t h x b ad (B + 6600) yL_lender wsL_lender 8 126 2 12 [.ref (f 0), .int y, .int z, .ref o] yX9_lender wsX9_lender 2 47 [.int y, .int z] r sl g cn V T X vb S M hh := by
  obtain ⟨nt, nc, nq, nl, wk, c, cb⟩ := R.1
  have e1 : V 3 0 = M 1 1 := c.eq.a3
  have e2 : fz_risk z = fm_in z 1 9 := rfl
  by_cases h1 : fz_ix y (M 1 1) = true
  · have hy := fz_ix_s (n := nt) (by rw [e1]; exact h1) c.wf.1 (by have := c.wf.2.1; omega)
    by_cases h2 : fm_in z 1 9 = true
    · have e : fm_qlend M nt nl y z = (if z * M 1 4 - fm_t (M 1) 0 y.toNatClampNeg ≤ 0 then -1 else bif fz_owes (fm_l (M 1) 1) (fm_l (M 1) 3) (fm_l (M 1) 4) (M 1 0) nl y then -1 else fz_rich (fm_t (M 1) 0) y (z * M 1 4 - fm_t (M 1) 0 y.toNatClampNeg) nt, fz_up M 0 (upd (M 0) 2 0)) := by rw [fm_qlend, if_pos h1, if_pos h2]
      have ev : (fz_ldr V nt nl y z) = (if z * M 1 4 - fm_t (M 1) 0 y.toNatClampNeg ≤ 0 then -1 else bif fz_owes (fm_l (M 1) 1) (fm_l (M 1) 3) (fm_l (M 1) 4) (M 1 0) nl y then -1 else fz_rich (fm_t (M 1) 0) y (z * M 1 4 - fm_t (M 1) 0 y.toNatClampNeg) nt) := by
        exact ldr_eq c hy.2
      have hok : (fz_ix y (V 3 0) && fz_risk z) = true := by rw [e1, e2, h1, h2]; rfl
      exact ⟨0, _, vp_updL r 0 (fz_ldr V nt nl y z).toInt64, sl, g, cn, V, T, X, vb, S, _, lw_rd2 (c_L_lender_t l hst D cy f t h x a V nt nc nq nl wk c.wf y z o r hok), c_X9_lender l D cy b M hh nt nc nl wk c.mf y z, by rw [e]; exact R.code (by omega), by rw [e]; rfl, fun _ => by rw [e, ← ev]; rfl⟩
    · have h2 := Bool.eq_false_iff.mpr h2
      have e : fm_qlend M nt nl y z = (0, fz_up M 0 (upd (M 0) 2 2)) := by rw [fm_qlend, if_pos h1, if_neg (by rw [h2]; decide)]
      have hok : (fz_ix y (V 3 0) && fz_risk z) = false := by rw [e1, e2, h1, h2]; rfl
      exact ⟨2, _, r, sl, g, cn, V, T, X, vb, S, _, lw_rd2 (c_L_lender_IA l hst D cy f t h x a V nt nc nq nl wk c.wf y z o r hok (by rw [e1, h1]; rfl)), c_X9_lender l D cy b M hh nt nc nl wk c.mf y z, by rw [e]; exact R.code (by omega), by rw [e]; rfl, fun z9 => absurd z9 (by decide)⟩
  · have h1 := Bool.eq_false_iff.mpr h1
    have e : fm_qlend M nt nl y z = (0, fz_up M 0 (upd (M 0) 2 1)) := by rw [fm_qlend, if_neg (by rw [h1]; decide)]
    have hok : (fz_ix y (V 3 0) && fz_risk z) = false := by rw [e1, h1]; rfl
    exact ⟨1, _, r, sl, g, cn, V, T, X, vb, S, _, lw_rd2 (c_L_lender_IO l hst D cy f t h x a V nt nc nq nl wk c.wf y z o r hok (by rw [e1, h1]; rfl)), c_X9_lender l D cy b M hh nt nc nl wk c.mf y z, by rw [e]; exact R.code (by omega), by rw [e]; rfl, fun z9 => absurd z9 (by decide)⟩
set_option maxHeartbeats 1000000 in
set_option maxRecDepth 20000 in
theorem tw_weeksUntil (l : Launch) (hst : l.stackTraces = false) (D : va_G) (cy : Nat → ClassId) (o : Nat) (f a t h x b ad : Nat → Nat) {B : Nat} {V T X M : Nat → Nat → Int32} {S : Nat → Nat → Nat → Int32} {g : Nat → Option Nat} {sl : Nat → Nat → Nat} {cn : Nat} (R : lR B V X M S g sl cn) (hB : B < 1990000000) (r : Nat → Int64) (vb : Option Nat) (hh : Int64) (y : Int32) (z : Int32) : lw_two l D cy o f a t h x b ad (B + 6600) yL_weeksUntil wsL_weeksUntil 8 128 2 12 [.ref (f 0), .int y, .int z, .ref o] yX9_weeksUntil wsX9_weeksUntil 3 70 [.int y, .int z] r sl g cn V T X vb S M hh := by
  obtain ⟨nt, nc, nq, nl, wk, c, cb⟩ := R.1
  have e1 : V 3 0 = M 1 1 := c.eq.a3
  have e2 : fz_risk z = fm_in z 1 9 := rfl
  by_cases h1 : fz_ix y (M 1 1) = true
  · have hy := fz_ix_s (n := nt) (by rw [e1]; exact h1) c.wf.1 (by have := c.wf.2.1; omega)
    by_cases h2 : fm_in z 1 9 = true
    · have e : fm_qwu M nt nc nl wk y z = (fz_wu (fun n => fm_t (fm_it (M 1) nt nc nl wk n) 0 y.toNatClampNeg) (z * M 1 4) (39 - wk) 0, fm_bk M) := by rw [fm_qwu, if_pos h1, if_pos h2]
      have ev : ((cx_wu V nt nc nl wk y z).1) = (fz_wu (fun n => fm_t (fm_it (M 1) nt nc nl wk n) 0 y.toNatClampNeg) (z * M 1 4) (39 - wk) 0) := by
        rw [show M 1 4 = V 1 0 from (c.eq.a1 0 (by decide)).symm]
        exact c.wu cb (by omega) hy.2 _
      have hok : (fz_ix y (V 3 0) && fz_risk z) = true := by rw [e1, e2, h1, h2]; rfl
      exact ⟨0, _, vp_updL r 0 ((cx_wu V nt nc nl wk y z).1).toInt64, sl, g, cn, V, _, X, vb, S, _, lw_rT (c_L_weeksUntil_t l hst D cy f h x a V t T nt nc nq nl wk c.wf y z c.zo o r hok), c_X9_weeksUntil l D cy b M hh nt nc nl wk c.mf y z, by rw [e]; exact R.bk (by omega), by rw [e]; rfl, fun _ => by rw [e, ← ev]; rfl⟩
    · have h2 := Bool.eq_false_iff.mpr h2
      have e : fm_qwu M nt nc nl wk y z = (0, fz_up M 0 (upd (M 0) 2 2)) := by rw [fm_qwu, if_pos h1, if_neg (by rw [h2]; decide)]
      have hok : (fz_ix y (V 3 0) && fz_risk z) = false := by rw [e1, e2, h1, h2]; rfl
      exact ⟨2, _, r, sl, g, cn, V, T, X, vb, S, _, lw_rT (c_L_weeksUntil_IA l hst D cy f h x a V t T nt nc nq nl wk c.wf y z c.zo o r hok (by rw [e1, h1]; rfl)), c_X9_weeksUntil l D cy b M hh nt nc nl wk c.mf y z, by rw [e]; exact R.code (by omega), by rw [e]; rfl, fun z9 => absurd z9 (by decide)⟩
  · have h1 := Bool.eq_false_iff.mpr h1
    have e : fm_qwu M nt nc nl wk y z = (0, fz_up M 0 (upd (M 0) 2 1)) := by rw [fm_qwu, if_neg (by rw [h1]; decide)]
    have hok : (fz_ix y (V 3 0) && fz_risk z) = false := by rw [e1, h1]; rfl
    exact ⟨1, _, r, sl, g, cn, V, T, X, vb, S, _, lw_rT (c_L_weeksUntil_IO l hst D cy f h x a V t T nt nc nq nl wk c.wf y z c.zo o r hok (by rw [e1, h1]; rfl)), c_X9_weeksUntil l D cy b M hh nt nc nl wk c.mf y z, by rw [e]; exact R.code (by omega), by rw [e]; rfl, fun z9 => absurd z9 (by decide)⟩
set_option maxHeartbeats 1000000 in
set_option maxRecDepth 20000 in
theorem tw_waiting (l : Launch) (hst : l.stackTraces = false) (D : va_G) (cy : Nat → ClassId) (o : Nat) (f a t h x b ad : Nat → Nat) {B : Nat} {V T X M : Nat → Nat → Int32} {S : Nat → Nat → Nat → Int32} {g : Nat → Option Nat} {sl : Nat → Nat → Nat} {cn : Nat} (R : lR B V X M S g sl cn) (hB : B < 1990000000) (r : Nat → Int64) (vb : Option Nat) (hh : Int64) (y : Int32) : lw_two l D cy o f a t h x b ad (B + 6600) yL_waiting wsL_waiting 7 103 1 6 [.ref (f 0), .int y, .ref o] yX9_waiting wsX9_waiting 2 48 [.int y] r sl g cn V T X vb S M hh := by
  obtain ⟨nt, nc, nq, nl, wk, c, cb⟩ := R.1
  have e2 : (!(decide (y < 0))) = decide (0 ≤ y) := wt_dec y
  by_cases h1 : decide (0 ≤ y) = true
  · have h1c : (!(decide (y < 0))) = true := e2.trans h1
    have e : fm_qwait M nc y = (fm_pick (fm_wl (M 1) nc (-1) 1 1 9) y.toNatClampNeg, fz_up M 0 (upd (M 0) 2 0)) := by rw [fm_qwait, if_pos (of_decide_eq_true h1)]
    have ev : (if y < V 8 1 then V 16 y.toNatClampNeg else -1) = (fm_pick (fm_wl (M 1) nc (-1) 1 1 9) y.toNatClampNeg) := by
      exact wt_eq c (of_decide_eq_true h1)
    exact ⟨0, _, vp_updL r 0 (if y < V 8 1 then V 16 y.toNatClampNeg else -1).toInt64, sl, g, cn, V, T, X, vb, S, _, lw_rd2 (c_L_waiting_t l hst D cy f t h x a V nt nc nq nl wk c.wf y o r h1c), c_X9_waiting l D cy b M hh nt nc nl wk c.mf y, by rw [e]; exact R.code (by omega), by rw [e]; rfl, fun _ => by rw [e, ← ev]; rfl⟩
  · have h1 := Bool.eq_false_iff.mpr h1
    have e : fm_qwait M nc y = (0, fz_up M 0 (upd (M 0) 2 1)) := by rw [fm_qwait, if_neg (by exact of_decide_eq_false h1)]
    have h1c : (!(decide (y < 0))) = false := e2.trans h1
    exact ⟨1, _, r, sl, g, cn, V, T, X, vb, S, _, lw_rd2 (c_L_waiting_IA l hst D cy f t h x a V nt nc nq nl wk c.wf y o r h1c rfl), c_X9_waiting l D cy b M hh nt nc nl wk c.mf y, by rw [e]; exact R.code (by omega), by rw [e]; rfl, fun z9 => absurd z9 (by decide)⟩
set_option maxHeartbeats 1000000 in
set_option maxRecDepth 20000 in
theorem tw_frozen (l : Launch) (hst : l.stackTraces = false) (D : va_G) (cy : Nat → ClassId) (o : Nat) (f a t h x b ad : Nat → Nat) {B : Nat} {V T X M : Nat → Nat → Int32} {S : Nat → Nat → Nat → Int32} {g : Nat → Option Nat} {sl : Nat → Nat → Nat} {cn : Nat} (R : lR B V X M S g sl cn) (hB : B < 1990000000) (r : Nat → Int64) (vb : Option Nat) (hh : Int64) (y : Int32) : lw_two l D cy o f a t h x b ad (B + 6600) yL_frozen wsL_frozen 7 103 1 6 [.ref (f 0), .int y, .ref o] yX9_frozen wsX9_frozen 1 22 [.int y] r sl g cn V T X vb S M hh := by
  obtain ⟨nt, nc, nq, nl, wk, c, cb⟩ := R.1
  have e2 : fz_vo y 40 = fm_in y 0 39 := fm_vo_40 y
  by_cases h1 : fm_in y 0 39 = true
  · have h1c : fz_vo y 40 = true := e2.trans h1
    have e : fm_qfrz M y = (M 1 (9 + y.toNatClampNeg), fz_up M 0 (upd (M 0) 2 0)) := by rw [fm_qfrz, if_pos h1]
    have ev : (fz_nz (V 2 y.toNatClampNeg)) = (M 1 (9 + y.toNatClampNeg)) := by
      exact fzn_eq c (fz_vo_s (n := 40) (by decide) (e2.trans h1)).2
    exact ⟨0, _, vp_updL r 0 (fz_nz (V 2 y.toNatClampNeg)).toInt64, sl, g, cn, V, T, X, vb, S, _, lw_rd2 (c_L_frozen_t l hst D cy f t h x a V y o r h1c), c_X9_frozen l D cy b M hh nt nc nl wk c.mf y, by rw [e]; exact R.code (by omega), by rw [e]; rfl, fun _ => by rw [e, ← ev]; rfl⟩
  · have h1 := Bool.eq_false_iff.mpr h1
    have e : fm_qfrz M y = (0, fz_up M 0 (upd (M 0) 2 1)) := by rw [fm_qfrz, if_neg (by rw [h1]; decide)]
    have h1c : fz_vo y 40 = false := e2.trans h1
    exact ⟨1, _, r, sl, g, cn, V, T, X, vb, S, _, lw_rd2 (c_L_frozen_IA l hst D cy f t h x a V y o r h1c rfl), c_X9_frozen l D cy b M hh nt nc nl wk c.mf y, by rw [e]; exact R.code (by omega), by rw [e]; rfl, fun z9 => absurd z9 (by decide)⟩
set_option maxHeartbeats 1000000 in
set_option maxRecDepth 20000 in
theorem tw_whole (l : Launch) (hst : l.stackTraces = false) (D : va_G) (cy : Nat → ClassId) (o : Nat) (f a t h x b ad : Nat → Nat) {B : Nat} {V T X M : Nat → Nat → Int32} {S : Nat → Nat → Nat → Int32} {g : Nat → Option Nat} {sl : Nat → Nat → Nat} {cn : Nat} (R : lR B V X M S g sl cn) (hB : B < 1990000000) (r : Nat → Int64) (vb : Option Nat) (hh : Int64) (y : Int32) : lw_two l D cy o f a t h x b ad (B + 6600) yL_whole wsL_whole 8 129 1 6 [.ref (f 0), .int y, .ref o] yX9_whole wsX9_whole 4 87 [.int y] r sl g cn V T X vb S M hh := by
  obtain ⟨nt, nc, nq, nl, wk, c, cb⟩ := R.1
  have e2 : fz_vo y 18 = fm_in y 0 17 := fm_vo_18 y
  by_cases h1 : fm_in y 0 17 = true
  · have h1c : fz_vo y 18 = true := e2.trans h1
    have e : fm_qwhole M nt nc nl wk y = (fm_num M nt nc nl wk y.toNatClampNeg, fz_up M 0 (upd (M 0) 2 0)) := by rw [fm_qwhole, if_pos h1]
    have ev : (if y.toNatClampNeg = 17 then X 0 0 else fz_wval V nt nc nl wk y.toNatClampNeg) = (fm_num M nt nc nl wk y.toNatClampNeg) := by
      exact c.wval R.ln (fz_vo_s (n := 18) (by decide) (e2.trans h1)).2
    exact ⟨0, _, vp_updL r 0 (if y.toNatClampNeg = 17 then X 0 0 else fz_wval V nt nc nl wk y.toNatClampNeg).toInt64, sl, g, cn, V, T, X, vb, S, _, lw_rX (c_L_whole_t l hst D cy f t h a V x ad X vb nt nc nq nl wk c.wf y o r h1c), c_X9_whole l D cy b M hh nt nc nl wk c.mf y, by rw [e]; exact R.code (by omega), by rw [e]; rfl, fun _ => by rw [e, ← ev]; rfl⟩
  · have h1 := Bool.eq_false_iff.mpr h1
    have e : fm_qwhole M nt nc nl wk y = (0, fz_up M 0 (upd (M 0) 2 1)) := by rw [fm_qwhole, if_neg (by rw [h1]; decide)]
    have h1c : fz_vo y 18 = false := e2.trans h1
    exact ⟨1, _, r, sl, g, cn, V, T, X, vb, S, _, lw_rX (c_L_whole_IA l hst D cy f t h a V x ad X vb nt nc nq nl wk c.wf y o r h1c rfl), c_X9_whole l D cy b M hh nt nc nl wk c.mf y, by rw [e]; exact R.code (by omega), by rw [e]; rfl, fun z9 => absurd z9 (by decide)⟩
set_option maxHeartbeats 1000000 in
set_option maxRecDepth 20000 in
theorem tw_reason (l : Launch) (hst : l.stackTraces = false) (D : va_G) (cy : Nat → ClassId) (o : Nat) (f a t h x b ad : Nat → Nat) {B : Nat} {V T X M : Nat → Nat → Int32} {S : Nat → Nat → Nat → Int32} {g : Nat → Option Nat} {sl : Nat → Nat → Nat} {cn : Nat} (R : lR B V X M S g sl cn) (hB : B < 1990000000) (r : Nat → Int64) (vb : Option Nat) (hh : Int64) (y : Int32) : lw_two l D cy o f a t h x b ad (B + 6600) yL_reason wsL_reason 8 124 1 6 [.ref (f 0), .int y, .ref o] yX9_reason wsX9_reason 3 66 [.int y] r sl g cn V T X vb S M hh := by
  obtain ⟨nt, nc, nq, nl, wk, c, cb⟩ := R.1
  have e2 : fz_ix y (V 8 0) = fz_ix y (M 1 2) := (congrArg (fz_ix y) c.eq.a8 : fz_ix y (V 8 0) = fz_ix y (M 1 2))
  by_cases h1 : fz_ix y (M 1 2) = true
  · have h1c : fz_ix y (V 8 0) = true := e2.trans h1
    have e : fm_qwhy M nl y = (fz_reason (fm_V (M 1)) nl y.toNatClampNeg, fz_up M 0 (upd (M 0) 2 0)) := by rw [fm_qwhy, if_pos h1]
    have ev : (fz_reason V nl y.toNatClampNeg) = (fz_reason (fm_V (M 1)) nl y.toNatClampNeg) := by
      have hy := fz_ix_s (n := nc) (h1c) c.wf.2.2.1 (by have := c.wf.2.2.2.1; omega)
      exact ag_reason c.eq hy.2 (by obtain ⟨j, hj, ej⟩ := c.at9 hy.2; have := c.wf.2.1; rw [ej, nI_clamp (by omega)]; exact hj)
    exact ⟨0, _, vp_updL r 0 (fz_reason V nl y.toNatClampNeg).toInt64, sl, g, cn, V, T, X, vb, S, _, lw_rd2 (c_L_reason_t l hst D cy f t h x a V nt nc nq nl wk c.wf y o r h1c), c_X9_reason l D cy b M hh nt nc nl wk c.mf y, by rw [e]; exact R.code (by omega), by rw [e]; rfl, fun _ => by rw [e, ← ev]; rfl⟩
  · have h1 := Bool.eq_false_iff.mpr h1
    have e : fm_qwhy M nl y = (0, fz_up M 0 (upd (M 0) 2 1)) := by rw [fm_qwhy, if_neg (by rw [h1]; decide)]
    have h1c : fz_ix y (V 8 0) = false := e2.trans h1
    exact ⟨1, _, r, sl, g, cn, V, T, X, vb, S, _, lw_rd2 (c_L_reason_IO l hst D cy f t h x a V nt nc nq nl wk c.wf y o r h1c rfl), c_X9_reason l D cy b M hh nt nc nl wk c.mf y, by rw [e]; exact R.code (by omega), by rw [e]; rfl, fun z9 => absurd z9 (by decide)⟩
set_option maxHeartbeats 1000000 in
set_option maxRecDepth 20000 in
theorem tw_exemptible (l : Launch) (hst : l.stackTraces = false) (D : va_G) (cy : Nat → ClassId) (o : Nat) (f a t h x b ad : Nat → Nat) {B : Nat} {V T X M : Nat → Nat → Int32} {S : Nat → Nat → Nat → Int32} {g : Nat → Option Nat} {sl : Nat → Nat → Nat} {cn : Nat} (R : lR B V X M S g sl cn) (hB : B < 1990000000) (r : Nat → Int64) (vb : Option Nat) (hh : Int64) (y : Int32) : lw_two l D cy o f a t h x b ad (B + 6600) yL_exemptible wsL_exemptible 8 124 1 6 [.ref (f 0), .int y, .ref o] yX9_exemptible wsX9_exemptible 3 72 [.int y] r sl g cn V T X vb S M hh := by
  obtain ⟨nt, nc, nq, nl, wk, c, cb⟩ := R.1
  have e2 : fz_ix y (V 3 0) = fz_ix y (M 1 1) := (congrArg (fz_ix y) c.eq.a3 : fz_ix y (V 3 0) = fz_ix y (M 1 1))
  by_cases h1 : fz_ix y (M 1 1) = true
  · have h1c : fz_ix y (V 3 0) = true := e2.trans h1
    have e : fm_qxc M nc nl y = (fm_xc (M 1) nc nl y.toNatClampNeg, fz_up M 0 (upd (M 0) 2 0)) := by rw [fm_qxc, if_pos h1]
    have ev : (fz_xc V nl nq y.toNatClampNeg) = (fm_xc (M 1) nc nl y.toNatClampNeg) := by
      have hy := fz_ix_s (n := nt) (h1c) c.wf.1 (by have := c.wf.2.1; omega)
      exact c.xc hy.2
    exact ⟨0, _, vp_updL r 0 (fz_xc V nl nq y.toNatClampNeg).toInt64, sl, g, cn, V, T, X, vb, S, _, lw_rd2 (c_L_exemptible_t l hst D cy f t h x a V nt nc nq nl wk c.wf y o r h1c), c_X9_exemptible l D cy b M hh nt nc nl wk c.mf y, by rw [e]; exact R.code (by omega), by rw [e]; rfl, fun _ => by rw [e, ← ev]; rfl⟩
  · have h1 := Bool.eq_false_iff.mpr h1
    have e : fm_qxc M nc nl y = (0, fz_up M 0 (upd (M 0) 2 1)) := by rw [fm_qxc, if_neg (by rw [h1]; decide)]
    have h1c : fz_ix y (V 3 0) = false := e2.trans h1
    exact ⟨1, _, r, sl, g, cn, V, T, X, vb, S, _, lw_rd2 (c_L_exemptible_IO l hst D cy f t h x a V nt nc nq nl wk c.wf y o r h1c rfl), c_X9_exemptible l D cy b M hh nt nc nl wk c.mf y, by rw [e]; exact R.code (by omega), by rw [e]; rfl, fun z9 => absurd z9 (by decide)⟩
set_option maxHeartbeats 1000000 in
set_option maxRecDepth 20000 in
theorem tw_inBeing (l : Launch) (hst : l.stackTraces = false) (D : va_G) (cy : Nat → ClassId) (o : Nat) (f a t h x b ad : Nat → Nat) {B : Nat} {V T X M : Nat → Nat → Int32} {S : Nat → Nat → Nat → Int32} {g : Nat → Option Nat} {sl : Nat → Nat → Nat} {cn : Nat} (R : lR B V X M S g sl cn) (hB : B < 1990000000) (r : Nat → Int64) (vb : Option Nat) (hh : Int64) (y : Int32) : lw_two l D cy o f a t h x b ad (B + 6600) yL_inBeing wsL_inBeing 7 110 1 6 [.ref (f 0), .int y, .ref o] yX9_inBeing wsX9_inBeing 3 70 [.int y] r sl g cn V T X vb S M hh := by
  obtain ⟨nt, nc, nq, nl, wk, c, cb⟩ := R.1
  have e2 := fm_vo_40 y
  by_cases h1 : fm_in y 0 39 = true
  · have h1c := e2.trans h1
    by_cases h2 : wk + y.toNatClampNeg ≤ 39
    · have e : fm_qib M nt nc nl wk y = (fz_sum (fm_t (fm_it (M 1) nt nc nl wk y.toNatClampNeg) 0) nt + fz_sum (fm_c (fm_it (M 1) nt nc nl wk y.toNatClampNeg) 3) nc, fm_bk M) := by rw [fm_qib, if_pos h1, if_pos h2]
      have ev : (cx_ib V T nt nc nl wk y).1 = fz_sum (fm_t (fm_it (M 1) nt nc nl wk y.toNatClampNeg) 0) nt + fz_sum (fm_c (fm_it (M 1) nt nc nl wk y.toNatClampNeg) 3) nc := by
        rw [cx_ib, if_pos h2]
        exact c.ib cb (by omega) h2
      exact ⟨0, _, vp_updL r 0 ((cx_ib V T nt nc nl wk y).1).toInt64, sl, g, cn, V, _, X, vb, S, _, lw_rT (c_L_inBeing_t l hst D cy f h x a V t T nt nc nq nl wk c.wf y c.zo o r h1c), c_X9_inBeing l D cy b M hh nt nc nl wk c.mf y, by rw [e]; exact R.bk (by omega), by rw [e]; rfl, fun _ => by rw [e, ← ev]; rfl⟩
    · have e : fm_qib M nt nc nl wk y = (-1, fz_up M 0 (upd (M 0) 2 0)) := by rw [fm_qib, if_pos h1, if_neg h2]
      have ev : (cx_ib V T nt nc nl wk y).1 = -1 := by rw [cx_ib, if_neg h2]
      exact ⟨0, _, vp_updL r 0 ((cx_ib V T nt nc nl wk y).1).toInt64, sl, g, cn, V, _, X, vb, S, _, lw_rT (c_L_inBeing_t l hst D cy f h x a V t T nt nc nq nl wk c.wf y c.zo o r h1c), c_X9_inBeing l D cy b M hh nt nc nl wk c.mf y, by rw [e]; exact R.code (by omega), by rw [e]; rfl, fun _ => by rw [e, ← ev]; rfl⟩
  · have h1 := Bool.eq_false_iff.mpr h1
    have e : fm_qib M nt nc nl wk y = (0, fz_up M 0 (upd (M 0) 2 1)) := by rw [fm_qib, if_neg (by rw [h1]; decide)]
    exact ⟨1, _, r, sl, g, cn, V, T, X, vb, S, _, lw_rT (c_L_inBeing_IA l hst D cy f h x a V t T nt nc nq nl wk c.wf y c.zo o r (e2.trans h1) rfl), c_X9_inBeing l D cy b M hh nt nc nl wk c.mf y, by rw [e]; exact R.code (by omega), by rw [e]; rfl, fun z9 => absurd z9 (by decide)⟩
set_option maxHeartbeats 1000000 in
set_option maxRecDepth 20000 in
theorem tw_type (l : Launch) (hst : l.stackTraces = false) (D : va_G) (cy : Nat → ClassId) (o : Nat) (f a t h x b ad : Nat → Nat) {B : Nat} {V T X M : Nat → Nat → Int32} {S : Nat → Nat → Nat → Int32} {g : Nat → Option Nat} {sl : Nat → Nat → Nat} {cn : Nat} (R : lR B V X M S g sl cn) (hB : B < 1990000000) (r : Nat → Int64) (vb : Option Nat) (hh : Int64) (y : Int32) : lw_two l D cy o f a t h x b ad (B + 6600) yL_type wsL_type 7 103 1 6 [.ref (f 0), .int y, .ref o] yX9_type wsX9_type 1 22 [.int y] r sl g cn V T X vb S M hh := by
  obtain ⟨hc, hS, h0, ⟨ln, hl150, hlx, hlm⟩, hT, hg⟩ := id R
  have e2 := fm_vo_128 y
  by_cases h1 : fm_in y 0 127 = true
  · by_cases h2 : ln = 150
    · have e : fm_type M ln y = (0, fz_up M 0 (upd (M 0) 2 2)) := by rw [fm_type, if_pos h1, if_pos h2]
      exact ⟨2, _, r, sl, g, cn, V, T, X, vb, S, _, lw_rY (c_L_type_IS l hst D cy f a t h x ad X vb y ln hlx hl150 o r (by rw [e2, h1, decide_eq_false (by omega)]; rfl) (by rw [e2, h1]; rfl)), c_X9_type l D cy b M hh y ln hlm hl150, by rw [e]; exact R.code (by omega), by rw [e]; rfl, fun z9 => absurd z9 (by decide)⟩
    · have e : fm_type M ln y = (nI (ln + 1), fz_up (fz_up M 0 (upd (upd (M 0) 1 (nI (ln + 1))) 2 0)) 4 (upd (M 4) ln y)) := by rw [fm_type, if_pos h1, if_neg h2]
      exact ⟨0, _, vp_updL r 0 (nI (ln + 1)).toInt64, sl, g, cn, V, T, _, vb, S, _, lw_rY (c_L_type_t l hst D cy f a t h x ad X vb y ln hlx hl150 o r (by rw [e2, h1, decide_eq_true (by omega)]; rfl)), c_X9_type l D cy b M hh y ln hlm hl150, by
        rw [e]
        refine ⟨hc.mono (by omega), hS.mono (by omega), h0, ⟨ln + 1, by omega, rfl, rfl⟩, ?_, hg⟩
        show upd (X 2) ln y = upd (M 4) ln y
        rw [hT], by rw [e]; rfl, fun _ => by rw [e]; rfl⟩
  · have h1 := Bool.eq_false_iff.mpr h1
    have e : fm_type M ln y = (0, fz_up M 0 (upd (M 0) 2 1)) := by rw [fm_type, if_neg (by rw [h1]; decide)]
    exact ⟨1, _, r, sl, g, cn, V, T, X, vb, S, _, lw_rY (c_L_type_IA l hst D cy f a t h x ad X vb y ln hlx hl150 o r (by rw [e2, h1]; rfl) (by rw [e2, h1]; rfl)), c_X9_type l D cy b M hh y ln hlm hl150, by rw [e]; exact R.code (by omega), by rw [e]; rfl, fun z9 => absurd z9 (by decide)⟩
theorem lwW_at (cy : Nat → ClassId) (o : Nat) (f a t h x b ad : Nat → Nat) {V T X M : Nat → Nat → Int32} {S : Nat → Nat → Nat → Int32} {g : Nat → Option Nat} {sl : Nat → Nat → Nat} {cn : Nat} (r : Nat → Int64) (vb : Option Nat) (hh : Int64) {k : Nat} (hk : k < 5) : (lwW cy o f a t h x b ad r sl g cn V T X vb S M hh).Perm (OW cy o r ++ (FW f a t h x ++ (HW cy h g (nI cn) ++ (CW cy a V ++ (CW cy (sl k) (S k) ++ fz_cat (lwB cy o f a t h x b ad r sl g cn V T X vb S M hh) (fz_rest k)))))) :=
  fz_cat_P (lwB cy o f a t h x b ad r sl g cn V T X vb S M hh) (fz_rest_P k hk)
theorem lwW_back (cy : Nat → ClassId) (o : Nat) (f a t h x b ad : Nat → Nat) {V T X M : Nat → Nat → Int32} {S : Nat → Nat → Nat → Int32} {g : Nat → Option Nat} {sl : Nat → Nat → Nat} {cn : Nat} (r : Nat → Int64) (vb : Option Nat) (hh : Int64) {r' : Nat → Int64} {k : Nat} (hk : k < 5) : (OW cy o r' ++ (FW f a t h x ++ (HW cy h g (nI k) ++ (CW cy a (S k) ++ (CW cy (sl k) (S k) ++ fz_cat (lwB cy o f a t h x b ad r sl g cn V T X vb S M hh) (fz_rest k)))))).Perm (lwW cy o f a t h x b ad r' sl g k (S k) T X vb S M hh) := by
  match k, hk with
  | 0, _ => exact fz_cat_P (lwB cy o f a t h x b ad r' sl g 0 (S 0) T X vb S M hh) (L := [0, 1, 2, 3, 7, 4, 5, 6, 8, 9, 10, 11]) (by decide)
  | 1, _ => exact fz_cat_P (lwB cy o f a t h x b ad r' sl g 1 (S 1) T X vb S M hh) (L := [0, 1, 2, 3, 8, 4, 5, 6, 7, 9, 10, 11]) (by decide)
  | 2, _ => exact fz_cat_P (lwB cy o f a t h x b ad r' sl g 2 (S 2) T X vb S M hh) (L := [0, 1, 2, 3, 9, 4, 5, 6, 7, 8, 10, 11]) (by decide)
  | 3, _ => exact fz_cat_P (lwB cy o f a t h x b ad r' sl g 3 (S 3) T X vb S M hh) (L := [0, 1, 2, 3, 10, 4, 5, 6, 7, 8, 9, 11]) (by decide)
  | 4, _ => exact fz_cat_P (lwB cy o f a t h x b ad r' sl g 4 (S 4) T X vb S M hh) (L := [0, 1, 2, 3, 11, 4, 5, 6, 7, 8, 9, 10]) (by decide)
set_option maxHeartbeats 1000000 in
set_option maxRecDepth 20000 in
theorem tw_undo (l : Launch) (hst : l.stackTraces = false) (D : va_G) (cy : Nat → ClassId) (o : Nat) (f a t h x b ad : Nat → Nat) {B : Nat} {V T X M : Nat → Nat → Int32} {S : Nat → Nat → Nat → Int32} {g : Nat → Option Nat} {sl : Nat → Nat → Nat} {cn : Nat} (R : lR B V X M S g sl cn) (hB : B < 1990000000) (r : Nat → Int64) (vb : Option Nat) (hh : Int64) : lw_two l D cy o f a t h x b ad (B + 6600) yL_undo wsL_undo 7 110 1 6 [.ref (f 0), .ref o] yX9_undo wsX9_undo 1 21 [] r sl g cn V T X vb S M hh := by
  obtain ⟨hc, hS, h0, hln, hT, hg⟩ := id R
  cases cn with
  | zero =>
    have e : fm_undo M 0 = (0, fz_up M 0 (upd (M 0) 2 1)) := by rw [fm_undo, if_pos rfl]
    have hw := c_L_undo_IS l hst D cy f a t h x g (fz_cat (lwB cy o f a t h x b ad r sl g 0 V T X vb S M hh) [3, 4, 5, 6, 7, 8, 9, 10, 11]) o r
    rw [← nI_0] at hw
    exact ⟨1, _, r, sl, g, 0, V, T, X, vb, S, _, ⟨[], _, _, hw, lw_nil, lw_nil', rfl⟩, c_X9_undo l D cy b M hh 0 h0 (by omega), by rw [e]; exact R.code (by omega), by rw [e]; rfl, fun z9 => absurd z9 (by decide)⟩
  | succ k =>
    have hk : k < 5 := by have := hS.1; omega
    have hx := hS.2 k (Nat.lt_succ_self k)
    obtain ⟨nt, nc, nq, nl, wk, c, cb⟩ := id hx
    have e : fm_undo M (k + 1) = (nI k, fz_up (fz_up M 0 (upd (upd (M 0) 0 (nI k)) 2 0)) 1 (fun i => M 2 (349 * k + i))) := by rw [fm_undo, if_neg (Nat.succ_ne_zero k)]; rfl
    exact ⟨0, _, vp_updL r 0 (nI k).toInt64, sl, g, k, S k, T, X, vb, S, _, ⟨[], _, _, c_L_undo_t l hst D cy f a t h x g k V (sl k) (S k) _ hk (hg k hk) c.zo o r, (lwW_at cy o f a t h x b ad r vb hh hk).trans lw_nil, lw_nil'.trans (lwW_back cy o f a t h x b ad r vb hh hk), rfl⟩, c_X9_undo l D cy b M hh (k + 1) h0 hS.1, by
      rw [e]
      exact ⟨hx.mono (by omega), ⟨by have := hS.1; omega, fun j hj => (hS.2 j (by omega)).mono (by omega)⟩, rfl, hln, hT, hg⟩, by rw [e]; rfl, fun _ => by rw [e]; rfl⟩
