/-! the calls that read, for arguments in their ranges -/
section POP2
variable {l : Launch} {D : va_G} {cy : Nat → ClassId} {f a t h x ad : Nat → Nat} {cn : Nat} {V : Nat → Nat → Int32} {L : List Int32} {K : (Nat → Nat → Nat → Int32) → Prop} {nt nc nq nl wk B : Nat}
theorem vo_n {w n : Nat} (hw : w < n) (hn : n < 2 ^ 31) : fz_vo (nI w) (nI n) = true := by
  simp only [fz_vo, Bool.and_eq_true, Bool.not_eq_true', decide_eq_false_iff_not, decide_eq_true_eq]
  exact ⟨nI_pos (by omega), nI_lt hw hn⟩
theorem pt_whole (hst : l.stackTraces = false) (J : pJ V nt nc nq nl wk B) (w : Nat) (hw : w < 17) : pw_op l yL_whole wsL_whole 8 129 1 6 D cy [.ref (f 0), .int (nI w)] (pK cy f a t h x ad cn V L K) (fz_wval V nt nc nl wk w) (pK cy f a t h x ad cn V L K) := by
  have C := pw_whole_t (D := D) (cy := cy) (f := f) (a := a) (t := t) (h := h) (x := x) (ad := ad) (cn := cn) (L := L) (K := K) hst J.wf (nI w) (vo_n (n := 18) (by omega) (by omega))
  rw [nI_clamp (by omega), if_neg (by omega)] at C
  exact C
theorem pt_whole17 (hst : l.stackTraces = false) (J : pJ V nt nc nq nl wk B) : pw_op l yL_whole wsL_whole 8 129 1 6 D cy [.ref (f 0), .int 17] (pK cy f a t h x ad cn V L K) (nI L.length) (pK cy f a t h x ad cn V L K) :=
  pw_whole_t (D := D) (cy := cy) (f := f) (a := a) (t := t) (h := h) (x := x) (ad := ad) (cn := cn) (L := L) (K := K) hst J.wf 17 (by decide)
theorem pt_team (hst : l.stackTraces = false) (J : pJ V nt nc nq nl wk B) (i w : Nat) (hi : i < nt) (hw : w < 11) : pw_op l yL_team wsL_team 8 126 2 12 D cy [.ref (f 0), .int (nI i), .int (nI w)] (pK cy f a t h x ad cn V L K) (fz_tval V nc nl i w) (pK cy f a t h x ad cn V L K) := by
  have h6 := J.nt6
  have C := pw_team_t (D := D) (cy := cy) (f := f) (a := a) (t := t) (h := h) (x := x) (ad := ad) (cn := cn) (L := L) (K := K) hst J.wf (nI i) (nI w) (by rw [J.e3, fz_ix_n (by omega) hi, show fz_vo (nI w) 11 = true from vo_n (n := 11) hw (by omega)]; rfl)
  rw [nI_clamp (by omega), nI_clamp (by omega)] at C
  exact C
theorem pt_change (hst : l.stackTraces = false) (J : pJ V nt nc nq nl wk B) (i w : Nat) (hi : i < nc) (hw : w < 7) : pw_op l yL_change wsL_change 8 126 2 12 D cy [.ref (f 0), .int (nI i), .int (nI w)] (pK cy f a t h x ad cn V L K) (V (9 + w) i) (pK cy f a t h x ad cn V L K) := by
  have h6 := J.nc30
  have C := pw_change_t (D := D) (cy := cy) (f := f) (a := a) (t := t) (h := h) (x := x) (ad := ad) (cn := cn) (L := L) (K := K) hst J.wf (nI i) (nI w) (by rw [J.e8, fz_ix_n (by omega) hi, show fz_vo (nI w) 7 = true from vo_n (n := 7) hw (by omega)]; rfl)
  rw [nI_clamp (by omega), nI_clamp (by omega)] at C
  exact C
theorem pt_loan (hst : l.stackTraces = false) (J : pJ V nt nc nq nl wk B) (i w : Nat) (hi : i < nl) (hw : w < 6) : pw_op l yL_loan wsL_loan 8 126 1 6 D cy [.ref (f 0), .int (nI i), .int (nI w)] (pK cy f a t h x ad cn V L K) (V (18 + w) i) (pK cy f a t h x ad cn V L K) := by
  have h6 := J.nl12
  have C := pw_loan_t (D := D) (cy := cy) (f := f) (a := a) (t := t) (h := h) (x := x) (ad := ad) (cn := cn) (L := L) (K := K) hst J.wf (nI i) (nI w) (by rw [J.e17, fz_ix_n (by omega) hi, show fz_vo (nI w) 6 = true from vo_n (n := 6) hw (by omega)]; rfl)
  rw [nI_clamp (by omega), nI_clamp (by omega)] at C
  exact C
theorem ix_out {n : Nat} (hn : n < 2 ^ 31) : fz_ix (nI n) (nI n) = false := by
  rw [fz_ix, decide_eq_true (Int32.le_refl _), Bool.not_true, Bool.and_false]
theorem pt_teamX (hst : l.stackTraces = false) (J : pJ V nt nc nq nl wk B) (z : Int32) : pw_op l yL_team wsL_team 8 126 2 12 D cy [.ref (f 0), .int (nI nt), .int z] (pK cy f a t h x ad cn V L K) (-11) (pK cy f a t h x ad cn V L K) := by
  have h6 := J.nt6
  exact pw_team_IO hst J.wf (nI nt) z (by rw [J.e3, ix_out (by omega)]; rfl) (by rw [J.e3, ix_out (by omega)]; rfl)
theorem pt_changeX (hst : l.stackTraces = false) (J : pJ V nt nc nq nl wk B) (z : Int32) : pw_op l yL_change wsL_change 8 126 2 12 D cy [.ref (f 0), .int (nI nc), .int z] (pK cy f a t h x ad cn V L K) (-11) (pK cy f a t h x ad cn V L K) := by
  have h6 := J.nc30
  exact pw_change_IO hst J.wf (nI nc) z (by rw [J.e8, ix_out (by omega)]; rfl) (by rw [J.e8, ix_out (by omega)]; rfl)
theorem pt_loanX (hst : l.stackTraces = false) (J : pJ V nt nc nq nl wk B) (z : Int32) : pw_op l yL_loan wsL_loan 8 126 1 6 D cy [.ref (f 0), .int (nI nl), .int z] (pK cy f a t h x ad cn V L K) (-11) (pK cy f a t h x ad cn V L K) := by
  have h6 := J.nl12
  exact pw_loan_IO hst J.wf (nI nl) z (by rw [J.e17, ix_out (by omega)]; rfl) (by rw [J.e17, ix_out (by omega)]; rfl)
theorem pt_waiting (hst : l.stackTraces = false) (J : pJ V nt nc nq nl wk B) (k : Nat) (hk : k < 1000) : pw_op l yL_waiting wsL_waiting 7 103 1 6 D cy [.ref (f 0), .int (nI k)] (pK cy f a t h x ad cn V L K) (if k < nq then V 16 k else -1) (pK cy f a t h x ad cn V L K) := by
  have h6 := J.nqc
  have h7 := J.nc30
  have C := pw_waiting_t (D := D) (cy := cy) (f := f) (a := a) (t := t) (h := h) (x := x) (ad := ad) (cn := cn) (L := L) (K := K) hst J.wf (nI k) (by rw [decide_eq_false (nI_pos (by omega))]; rfl)
  rw [nI_clamp (by omega), J.e81] at C
  have e : (if nI k < nI nq then V 16 k else -1) = (if k < nq then V 16 k else -1) := by
    by_cases c : k < nq
    · rw [if_pos c, if_pos (nI_lt c (by omega))]
    · rw [if_neg c, if_neg (fun z => c ((nI_ltI (by omega) (by omega)).mp z))]
  rw [e] at C
  exact C
theorem pt_reason (hst : l.stackTraces = false) (J : pJ V nt nc nq nl wk B) (i : Nat) (hi : i < nc) : pw_op l yL_reason wsL_reason 8 124 1 6 D cy [.ref (f 0), .int (nI i)] (pK cy f a t h x ad cn V L K) (fz_reason V nl i) (pK cy f a t h x ad cn V L K) := by
  have h6 := J.nc30
  have C := pw_reason_t (D := D) (cy := cy) (f := f) (a := a) (t := t) (h := h) (x := x) (ad := ad) (cn := cn) (L := L) (K := K) hst J.wf (nI i) (by rw [J.e8, fz_ix_n (by omega) hi])
  rw [nI_clamp (by omega)] at C
  exact C
theorem pt_xc (hst : l.stackTraces = false) (J : pJ V nt nc nq nl wk B) (i : Nat) (hi : i < nt) : pw_op l yL_exemptible wsL_exemptible 8 124 1 6 D cy [.ref (f 0), .int (nI i)] (pK cy f a t h x ad cn V L K) (fz_xc V nl nq i) (pK cy f a t h x ad cn V L K) := by
  have h6 := J.nt6
  have C := pw_exemptible_t (D := D) (cy := cy) (f := f) (a := a) (t := t) (h := h) (x := x) (ad := ad) (cn := cn) (L := L) (K := K) hst J.wf (nI i) (by rw [J.e3, fz_ix_n (by omega) hi])
  rw [nI_clamp (by omega)] at C
  exact C
theorem pt_lender (hst : l.stackTraces = false) (J : pJ V nt nc nq nl wk B) (i : Nat) (hi : i < nt) (z : Int32) (hz : fz_risk z = true) : pw_op l yL_lender wsL_lender 8 126 2 12 D cy [.ref (f 0), .int (nI i), .int z] (pK cy f a t h x ad cn V L K) (fz_ldr V nt nl (nI i) z) (pK cy f a t h x ad cn V L K) := by
  have h6 := J.nt6
  exact pw_lender_t hst J.wf (nI i) z (by rw [J.e3, fz_ix_n (by omega) hi, hz]; rfl)
theorem pt_being (hst : l.stackTraces = false) (J : pJ V nt nc nq nl wk B) (i : Nat) (hi : i < 40) : pw_op l yL_inBeing wsL_inBeing 7 110 1 6 D cy [.ref (f 0), .int (nI i)] (pK cy f a t h x ad cn V L K) (if wk + i ≤ 39 then fz_sum (fz_its V nt nc nl wk i 4) nt + fz_sum (fz_its V nt nc nl wk i 12) nc else -1) (pK cy f a t h x ad cn V L K) := by
  have C := pw_inBeing_t (D := D) (cy := cy) (f := f) (a := a) (t := t) (h := h) (x := x) (ad := ad) (cn := cn) (L := L) (K := K) hst J.wf J.zo (nI i) (vo_n (n := 40) hi (by omega))
  rw [nI_clamp (by omega)] at C
  exact C
theorem pt_until (hst : l.stackTraces = false) (J : pJ V nt nc nq nl wk B) (i : Nat) (hi : i < nt) (z : Int32) (hz : fz_risk z = true) : pw_op l yL_weeksUntil wsL_weeksUntil 8 128 2 12 D cy [.ref (f 0), .int (nI i), .int z] (pK cy f a t h x ad cn V L K) (fz_wu (fun k => fz_its V nt nc nl wk k 4 i) (z * V 1 0) (39 - wk) 0) (pK cy f a t h x ad cn V L K) := by
  have h6 := J.nt6
  have C := pw_weeksUntil_t (D := D) (cy := cy) (f := f) (a := a) (t := t) (h := h) (x := x) (ad := ad) (cn := cn) (L := L) (K := K) hst J.wf J.zo (nI i) z (by rw [J.e3, fz_ix_n (by omega) hi, hz]; rfl)
  rw [nI_clamp (by omega)] at C
  exact C
end POP2
