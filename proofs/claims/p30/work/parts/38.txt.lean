/-! texts of commands -/
theorem fz_re_fits {C : String} (ad : Nat → Nat) (o : Option Nat) : fits (.object C) (va_re ad o) = true := by
  cases o <;> rfl
theorem tx_sp_e {T : Nat → Int32} {n p : Nat} (h : n ≤ p) : tx_sp T n p = p := by rw [tx_sp, show n - p = 0 by omega, tx_sk]
theorem tx_le_e {T : Nat → Int32} {n p : Nat} (h : n ≤ p) : tx_le T n p = p := by rw [tx_le, show n - p = 0 by omega, tx_sk]
theorem tx_at_in {T : Nat → Int32} {n p : Nat} (h : p < n) : tx_at T n p = T p := by rw [tx_at, if_pos h]
theorem tx_sp_yes {T : Nat → Int32} {n p : Nat} (h : p < n) (h2 : T p = 32) : tx_sp T n p = tx_sp T n (p + 1) := (tx_sp_y (by rw [tx_at_in h]; exact h2)).2
theorem tx_sp_no {T : Nat → Int32} {n p : Nat} (h : p < n) (h2 : ¬ T p = 32) : tx_sp T n p = p := tx_sp_n (by rw [tx_at_in h]; exact h2)
theorem tx_le_yes {T : Nat → Int32} {n p : Nat} (h : p < n) (h2 : ¬ T p < 97) (h3 : ¬ 122 < T p) : tx_le T n p = tx_le T n (p + 1) := (tx_le_y (by rw [tx_at_in h]; simp [fm_in, Int32.not_lt.mp h2, Int32.not_lt.mp h3])).2
theorem tx_le_no {T : Nat → Int32} {n p : Nat} (h : p < n) (h2 : T p < 97 ∨ 122 < T p) : tx_le T n p = p := tx_le_n (by
  rw [tx_at_in h, fm_in]
  rcases h2 with q | q
  · rw [decide_eq_true q]
    rfl
  · rw [decide_eq_true q, Bool.not_true, Bool.and_false])
/-- word i stands from p to q -/
def vb_st (T : Nat → Int32) (i p q : Nat) : Bool := decide (vbl i = q - p) && !(fz_any (fun k => !(decide (vbc i k = T (p + k)))) (vbl i))
def vb_fd (f : Nat → Bool) : Nat → Nat → Option Nat
  | 0, _ => none
  | n + 1, k => bif f k then some k else vb_fd f n (k + 1)
theorem vb_fd_y {f : Nat → Bool} {n k : Nat} (hn : 0 < n) (h : f k = true) : vb_fd f n k = some k := by
  obtain ⟨j, rfl⟩ : ∃ j, n = j + 1 := ⟨n - 1, by omega⟩
  rw [vb_fd, h, cond_true]
theorem vb_fd_n {f : Nat → Bool} {n k : Nat} (hn : 0 < n) (h : f k = false) : vb_fd f n k = vb_fd f (n - 1) (k + 1) := by
  obtain ⟨j, rfl⟩ : ∃ j, n = j + 1 := ⟨n - 1, by omega⟩
  rw [vb_fd, h, cond_false]
  rfl
theorem vb_fd_lt {f : Nat → Bool} : ∀ {n k w : Nat}, vb_fd f n k = some w → w < k + n ∧ f w = true
  | 0, _, _, h => nomatch h
  | n + 1, k, w, h => by
    rw [vb_fd] at h
    cases e : f k
    · rw [e, cond_false] at h
      have := vb_fd_lt h
      exact ⟨by omega, this.2⟩
    · rw [e, cond_true] at h
      cases h
      exact ⟨by omega, e⟩
/-- the verb whose word stands from p to q -/
def vb_find (T : Nat → Int32) (p q : Nat) : Option Nat := vb_fd (fun i => vb_st T i p q) 12 0
theorem vb_find_lt {T : Nat → Int32} {p q w : Nat} (h : vb_find T p q = some w) : w < 12 := by
  have := (vb_fd_lt h).1
  omega
/-- a number is read, the class's way -/
def cx_ok (T : Nat → Int32) (n p : Nat) : Bool := decide (tx_at T n p = 32) && fm_in (tx_at T n (tx_sp T n p)) 48 57
def cx_at (T : Nat → Int32) (n p : Nat) : Nat := if tx_at T n p = 32 then (bif fm_in (tx_at T n (tx_sp T n p)) 48 57 then (tx_ne T n p).1 else tx_sp T n p) else p
def cx_Z (T : Nat → Int32) (n p i : Nat) (Z : Nat → Int32) : Nat → Int32 := bif cx_ok T n p then upd Z i (tx_ne T n p).2 else Z
def cx_ns (T : Nat → Int32) (n : Nat) : Nat → Nat → Nat → (Nat → Int32) → Bool × Nat × (Nat → Int32)
  | 0, _, p, Z => (true, p, Z)
  | k + 1, i, p, Z => bif cx_ok T n p then cx_ns T n k (i + 1) (cx_at T n p) (cx_Z T n p i Z) else (false, cx_at T n p, cx_Z T n p i Z)
theorem cx_ns_y {T : Nat → Int32} {n k i p : Nat} {Z : Nat → Int32} (hk : 0 < k) (h : cx_ok T n p = true) : cx_ns T n k i p Z = cx_ns T n (k - 1) (i + 1) (cx_at T n p) (cx_Z T n p i Z) := by
  obtain ⟨j, rfl⟩ : ∃ j, k = j + 1 := ⟨k - 1, by omega⟩
  rw [cx_ns, h, cond_true]
  rfl
theorem cx_ns_n {T : Nat → Int32} {n k i p : Nat} {Z : Nat → Int32} (hk : 0 < k) (h : cx_ok T n p = false) : cx_ns T n k i p Z = (false, cx_at T n p, cx_Z T n p i Z) := by
  obtain ⟨j, rfl⟩ : ∃ j, k = j + 1 := ⟨k - 1, by omega⟩
  rw [cx_ns, h, cond_false]
theorem cx_R_at (T : Nat → Int32) (n p : Nat) : tx_R n p (cx_at T n p) := by
  rw [cx_at]
  split
  · cases fm_in (tx_at T n (tx_sp T n p)) 48 57
    · exact tx_R_sp T n p
    · exact tx_R_ne T n p
  · exact tx_R.rf
theorem cx_R_ns (T : Nat → Int32) (n : Nat) : ∀ k i p Z, tx_R n p (cx_ns T n k i p Z).2.1
  | 0, i, p, Z => tx_R.rf
  | k + 1, i, p, Z => by
    rw [cx_ns]
    cases cx_ok T n p
    · exact cx_R_at T n p
    · exact (cx_R_at T n p).tr (cx_R_ns T n k (i + 1) _ _)
/-- a command is read: fault, place, verb, numbers -/
def cx_rd2 (T : Nat → Int32) (n w : Nat) (r : Bool × Nat × (Nat → Int32)) : Int32 × Nat × Option Nat × (Nat → Int32) := bif r.1 then (if tx_at T n (tx_sp T n r.2.1) = 59 then (-1, tx_sp T n r.2.1 + 1, some w, r.2.2) else (nI (tx_sp T n r.2.1), tx_sp T n r.2.1, some w, r.2.2)) else (nI r.2.1, r.2.1, some w, r.2.2)
def cx_rd (T : Nat → Int32) (n p : Nat) (Z : Nat → Int32) : Int32 × Nat × Option Nat × (Nat → Int32) := match vb_find T p (tx_le T n p) with
  | none => (nI p, tx_le T n p, none, Z)
  | some w => cx_rd2 T n w (cx_ns T n (tx_many w) 0 (tx_le T n p) Z)
theorem cx_rd_none {T : Nat → Int32} {n p : Nat} {Z : Nat → Int32} (h : vb_find T p (tx_le T n p) = none) : cx_rd T n p Z = (nI p, tx_le T n p, none, Z) := by rw [cx_rd, h]
theorem cx_rd_some {T : Nat → Int32} {n p w : Nat} {Z : Nat → Int32} (h : vb_find T p (tx_le T n p) = some w) : cx_rd T n p Z = cx_rd2 T n w (cx_ns T n (tx_many w) 0 (tx_le T n p) Z) := by rw [cx_rd, h]
theorem cx_rd_le {T : Nat → Int32} {n p : Nat} {Z : Nat → Int32} (hp : p < n) : (cx_rd T n p Z).2.1 ≤ n + 1 := by
  have h1 := tx_R_le T n p
  cases h : vb_find T p (tx_le T n p) with
  | none =>
    rw [cx_rd_none h]
    show tx_le T n p ≤ n + 1
    unfold tx_R at h1
    omega
  | some w =>
    rw [cx_rd_some h]
    have h2 := h1.tr (cx_R_ns T n (tx_many w) 0 (tx_le T n p) Z)
    have h3 := h2.tr (tx_R_sp T n _)
    unfold tx_R at h2 h3
    rw [cx_rd2]
    cases (cx_ns T n (tx_many w) 0 (tx_le T n p) Z).1
    · show (cx_ns T n (tx_many w) 0 (tx_le T n p) Z).2.1 ≤ n + 1
      omega
    · rw [cond_true]
      split
      · show tx_sp T n (cx_ns T n (tx_many w) 0 (tx_le T n p) Z).2.1 + 1 ≤ n + 1
        omega
      · show tx_sp T n (cx_ns T n (tx_many w) 0 (tx_le T n p) Z).2.1 ≤ n + 1
        omega
theorem vbl_ge : ∀ i, i < 12 → 3 ≤ vbl i := by decide +kernel
theorem cx_rd_adv {T : Nat → Int32} {n p : Nat} {Z : Nat → Int32} (hp : p < 2000) (hn : n < 2000) (h : (cx_rd T n p Z).1 = -1) : p + 2 ≤ (cx_rd T n p Z).2.1 := by
  have h1 := tx_R_le T n p
  cases e : vb_find T p (tx_le T n p) with
  | none =>
    rw [cx_rd_none e] at h
    exact absurd h (fm_m1 (by omega))
  | some w =>
    rw [cx_rd_some e] at h ⊢
    have h2 := h1.tr (cx_R_ns T n (tx_many w) 0 (tx_le T n p) Z)
    have h3 := h2.tr (tx_R_sp T n _)
    have h4 := (cx_R_ns T n (tx_many w) 0 (tx_le T n p) Z).1
    have h5 := tx_sp_ge T n (cx_ns T n (tx_many w) 0 (tx_le T n p) Z).2.1
    obtain ⟨hw, hst⟩ := vb_fd_lt e
    have hl := vbl_ge w (by omega)
    have hst2 : vb_st T w p (tx_le T n p) = true := hst
    rw [vb_st, Bool.and_eq_true, decide_eq_true_eq] at hst2
    have hst3 := hst2.1
    unfold tx_R at h2 h3
    rw [cx_rd2] at h ⊢
    cases e2 : (cx_ns T n (tx_many w) 0 (tx_le T n p) Z).1
    · rw [e2, cond_false] at h
      exact absurd h (fm_m1 (by show (cx_ns T n (tx_many w) 0 (tx_le T n p) Z).2.1 < 2 ^ 31; omega))
    · rw [e2, cond_true] at h
      rw [cond_true]
      split at h
      · next h9 =>
        rw [if_pos h9]
        show p + 2 ≤ tx_sp T n (cx_ns T n (tx_many w) 0 (tx_le T n p) Z).2.1 + 1
        omega
      · exact absurd h (fm_m1 (by show tx_sp T n (cx_ns T n (tx_many w) 0 (tx_le T n p) Z).2.1 < 2 ^ 31; omega))
/-- the text's fault; place, verb and numbers then -/
def cx_ff (T : Nat → Int32) (n : Nat) : Nat → Nat → Option Nat → (Nat → Int32) → Int32 × Nat × Option Nat × (Nat → Int32)
  | 0, a, v, Z => (-1, a, v, Z)
  | k + 1, a, v, Z => if tx_sp T n a < n then (if (cx_rd T n (tx_sp T n a) Z).1 = -1 then cx_ff T n k (cx_rd T n (tx_sp T n a) Z).2.1 (cx_rd T n (tx_sp T n a) Z).2.2.1 (cx_rd T n (tx_sp T n a) Z).2.2.2 else cx_rd T n (tx_sp T n a) Z) else (-1, tx_sp T n a, v, Z)
theorem cx_ff_e {T : Nat → Int32} {n k a : Nat} {v : Option Nat} {Z : Nat → Int32} (hk : 0 < k) (h : ¬ tx_sp T n a < n) : cx_ff T n k a v Z = (-1, tx_sp T n a, v, Z) := by
  obtain ⟨j, rfl⟩ : ∃ j, k = j + 1 := ⟨k - 1, by omega⟩
  rw [cx_ff, if_neg h]
theorem cx_ff_f {T : Nat → Int32} {n k a : Nat} {v : Option Nat} {Z : Nat → Int32} (hk : 0 < k) (h : tx_sp T n a < n) (h2 : ¬ (cx_rd T n (tx_sp T n a) Z).1 = -1) : cx_ff T n k a v Z = cx_rd T n (tx_sp T n a) Z := by
  obtain ⟨j, rfl⟩ : ∃ j, k = j + 1 := ⟨k - 1, by omega⟩
  rw [cx_ff, if_pos h, if_neg h2]
theorem cx_ff_s {T : Nat → Int32} {n k a : Nat} {v : Option Nat} {Z : Nat → Int32} (hk : 0 < k) (h : tx_sp T n a < n) (h2 : (cx_rd T n (tx_sp T n a) Z).1 = -1) : cx_ff T n k a v Z = cx_ff T n (k - 1) (cx_rd T n (tx_sp T n a) Z).2.1 (cx_rd T n (tx_sp T n a) Z).2.2.1 (cx_rd T n (tx_sp T n a) Z).2.2.2 := by
  obtain ⟨j, rfl⟩ : ∃ j, k = j + 1 := ⟨k - 1, by omega⟩
  rw [cx_ff, if_pos h, if_pos h2]
  rfl
/-- charAt, whatever the formatter is -/
theorem c_J0_charAt_5068e (l : Launch) (D : va_G) (cy : Nat → ClassId) (adK adV : Nat → Nat) (i : Nat) (hi : i < 12) (k : Nat) (hk : k < vbl i) : fz_RI l yJ0_charAt_5068e wsJ0_charAt_5068e 3 64 D cy [.ref (adK i), .int (nI k)] ([] : va_W) (fz_St adK adV (fun _ => False)) (vbc i k) := by
  intro p e ha hc hk9 s m args below hf happ hP hK
  rcases hP.2.2.2.2.2 with hz | ⟨t, hz⟩
  · exact c_J0_charAt_5068e_n l D cy adK adV i hi k hk p e ha hc hk9 s m args below hf happ ⟨hP.1, hP.2.1, hP.2.2.1, hP.2.2.2, hz⟩ hK
  · exact c_J0_charAt_5068e_r l D cy adK adV i hi k hk t p e ha hc hk9 s m args below hf happ ⟨hP.1, hP.2.1, hP.2.2.1, hP.2.2.2, hz⟩ hK
set_option maxHeartbeats 4000000 in
set_option maxRecDepth 100000 in
/-- CommandText.append -/
theorem c_X3_append (l : Launch) (D : va_G) (cy : Nat → ClassId) (x : Nat → Nat) (ad : Nat → Nat) (X : Nat → Nat → Int32) (vb : Option Nat) (v : Int32) (hv : v.toInt8.toInt32 = v) (ln : Nat) (hln : X 0 0 = nI ln) (hlt : ln < 150) : fz_MI l yX3_append wsX3_append 0 0 D cy [.ref (x 0), .int v] (XW cy ad x X vb) fz_T (nI (ln + 1)) (XW cy ad x (fz_up (fz_up X 0 (upd (X 0) 0 (nI (ln + 1)))) 2 (upd (X 2) ln v)) vb) := by
  refine Met.ofW (cc := cX3_append) (maxL := 2) (ret := (some .int)) (by decide) rfl ?_
  intro p e s m args below meth c s₁ B hml hv
  obtain ⟨rfl, hP, hK, hD0, hE⟩ := hv
  have hx := B.exec
  have hb := B.bytes
  have hr := B.returns
  have hts := atoms_spec (ws := wsX3_append) B.pre
  have hown : s.vm.findClass RX3 = some m.cls := findClass_of_methodNamed B.named
  have hlocks := B.notSynchronized
  have hD := fz_self hD0
  generalize hAe : fz_in (XW cy ad x X vb) = A at hD ⊢
  have hS : va_S A s.heap s.heap [] := va_S.rf
  have hl := lv_entry ([.ref (x 0), .int v]) (n := 2) (Nat.le_of_ble_eq_true rfl)
  rw [lg_entry_eq]
  generalize (lg_sl ([.ref (x 0), .int v]) ++ List.replicate (2 - (lg_sl ([.ref (x 0), .int v])).length) Slot.unset).toArray = ls at hl ⊢
  have hl : lv_has ls 2 [(0, .ref (x 0)), (1, .int v)] := hl
  have k_15 := hts (.fieldLink RX3 15 "FreezeCredits$CommandText" "bytes" "[B") (by decide +kernel)
  have inX3 : ∀ w ∈ u_ws RX3 TX3 5, w ∈ wsX3_append := by decide +kernel
  have k_19 := hts (.fieldLink RX3 19 "FreezeCredits$CommandText" "length" "I") (by decide +kernel)
  refine lv_aload_n hx hb dX3_append_0 rfl (lv_at hl 0 rfl) ?_
  refine va_get (D := D) (ci := 2) (v := .ref (x 2)) (C := RX3) (T := TX3) (N := 5) hx hb hts inX3 hown hK hP 0 rfl rfl 3 (by decide) k_15 (fun _ h9 => h9) rfl dX3_append_1 ?_
  refine lv_aload_n hx hb dX3_append_4 rfl (lv_at hl 0 rfl) ?_
  refine va_get (D := D) (ci := 2) (v := .int (X 0 0)) (C := RX3) (T := TX3) (N := 5) hx hb hts inX3 hown hK hP 0 rfl rfl 0 (by decide) k_19 (fun _ h9 => h9) rfl dX3_append_5 ?_
  refine lv_iload_n hx hb dX3_append_8 rfl (lv_at hl 1 rfl) ?_
  refine lv_i2b (v := v.toInt8.toInt32) hx hb dX3_append_9 rfl ?_
  refine fz_top (show _ = v from hv) ?_
  refine fz_bast (f := X 2) hx hb hK hP hD hS 2 2 rfl rfl (y := v) (by rw [← hv]; exact pk_vb v) ln hln (by omega) (by decide) dX3_append_10 (fun H locs hP hD hS => ?_)
  have hP : va_P D vwCl (XE cy ad x (X 0 0) (X 0 1) (X 1) (upd (X 2) ln v) vb) H := hP
  have hD : va_D A (XE cy ad x (X 0 0) (X 0 1) (X 1) (upd (X 2) ln v) vb) := hD
  refine lv_aload_n hx hb dX3_append_11 rfl (lv_at hl 0 rfl) ?_
  refine lv_dup hx hb dX3_append_12 rfl ?_
  refine va_get (D := D) (ci := 2) (v := .int (X 0 0)) (C := RX3) (T := TX3) (N := 5) hx hb hts inX3 hown hK hP 0 rfl rfl 0 (by decide) k_19 (fun _ h9 => h9) rfl dX3_append_13 ?_
  refine lv_iconst (v := 1) hx hb dX3_append_16 (by decide) ?_
  refine fz_iaddN hx hb ln 1 hln rfl dX3_append_17 ?_
  refine va_put (D := D) (ci := 2) (v := .int (nI (ln + 1))) (ty := tyX3 0) (C := RX3) (T := TX3) (N := 5) hx hb hts inX3 tyX3 tyX3_ok nmX3 hown hK hP hD hS 0 rfl rfl 0 (by decide) k_19 (fun _ h9 => h9) rfl (by decide +kernel) rfl rfl (Nat.le_of_ble_eq_true rfl) dX3_append_18 (fun H locs hP hD hS => ?_)
  have hP : va_P D vwCl (XE cy ad x (nI (ln + 1)) (X 0 1) (X 1) (upd (X 2) ln v) vb) H := hP
  have hD : va_D A (XE cy ad x (nI (ln + 1)) (X 0 1) (X 1) (upd (X 2) ln v) vb) := hD
  refine lv_aload_n hx hb dX3_append_21 rfl (lv_at hl 0 rfl) ?_
  refine va_get (D := D) (ci := 2) (v := .int (nI (ln + 1))) (C := RX3) (T := TX3) (N := 5) hx hb hts inX3 hown hK hP 0 rfl rfl 0 (by decide) k_19 (fun _ h9 => h9) rfl dX3_append_22 ?_
  exact W.iret (v := (nI (ln + 1))) hx hb hr (fun t9 ht9 hW9 => ⟨⟨_, (), rfl, rfl, fz_to ht9 hP⟩, hS.F ht9⟩) hS.2.2 dX3_append_25
set_option maxHeartbeats 4000000 in
set_option maxRecDepth 100000 in
/-- CommandText.rewind -/
theorem c_X3_rewind (l : Launch) (D : va_G) (cy : Nat → ClassId) (x : Nat → Nat) (ad : Nat → Nat) (X : Nat → Nat → Int32) (vb : Option Nat) : fz_MV l yX3_rewind wsX3_rewind 0 0 D cy [.ref (x 0)] (XW cy ad x X vb) fz_T (XW cy ad x (fz_up X 0 (upd (X 0) 1 0)) vb) := by
  refine Met.ofW (cc := cX3_rewind) (maxL := 1) (ret := none) (by decide) rfl ?_
  intro p e s m args below meth c s₁ B hml hv
  obtain ⟨rfl, hP, hK, hD0, hE⟩ := hv
  have hx := B.exec
  have hb := B.bytes
  have hr := B.returns
  have hts := atoms_spec (ws := wsX3_rewind) B.pre
  have hown : s.vm.findClass RX3 = some m.cls := findClass_of_methodNamed B.named
  have hlocks := B.notSynchronized
  have hD := fz_self hD0
  generalize hAe : fz_in (XW cy ad x X vb) = A at hD ⊢
  have hS : va_S A s.heap s.heap [] := va_S.rf
  have hl := lv_entry ([.ref (x 0)]) (n := 1) (Nat.le_of_ble_eq_true rfl)
  rw [lg_entry_eq]
  generalize (lg_sl ([.ref (x 0)]) ++ List.replicate (1 - (lg_sl ([.ref (x 0)])).length) Slot.unset).toArray = ls at hl ⊢
  have hl : lv_has ls 1 [(0, .ref (x 0))] := hl
  have k_23 := hts (.fieldLink RX3 23 "FreezeCredits$CommandText" "at" "I") (by decide +kernel)
  have inX3 : ∀ w ∈ u_ws RX3 TX3 5, w ∈ wsX3_rewind := by decide +kernel
  refine lv_aload_n hx hb dX3_rewind_0 rfl (lv_at hl 0 rfl) ?_
  refine lv_iconst (v := 0) hx hb dX3_rewind_1 (by decide) ?_
  refine va_put (D := D) (ci := 2) (v := .int 0) (ty := tyX3 4) (C := RX3) (T := TX3) (N := 5) hx hb hts inX3 tyX3 tyX3_ok nmX3 hown hK hP hD hS 0 rfl rfl 4 (by decide) k_23 (fun _ h9 => h9) rfl (by decide +kernel) rfl rfl (Nat.le_of_ble_eq_true rfl) dX3_rewind_2 (fun H locs hP hD hS => ?_)
  have hP : va_P D vwCl (XE cy ad x (X 0 0) 0 (X 1) (X 2) vb) H := hP
  have hD : va_D A (XE cy ad x (X 0 0) 0 (X 1) (X 2) vb) := hD
  exact W.vret hx hb hr (fun t9 ht9 hW9 => ⟨⟨(), rfl, trivial, fz_to ht9 hP⟩, hS.F ht9⟩) hS.2.2 dX3_rewind_5
set_option maxHeartbeats 4000000 in
set_option maxRecDepth 100000 in
/-- CommandText.skipSpaces -/
theorem c_X3_skipSpaces (l : Launch) (D : va_G) (cy : Nat → ClassId) (x : Nat → Nat) (ad : Nat → Nat) (X : Nat → Nat → Int32) (vb : Option Nat) (ln : Nat) (hln : X 0 0 = nI ln) (hln150 : ln ≤ 150) (pp : Nat) (hp : X 0 1 = nI pp) (hp9 : pp < 2000) : fz_MV l yX3_skipSpaces wsX3_skipSpaces 0 0 D cy [.ref (x 0)] (XW cy ad x X vb) fz_T (XW cy ad x (fz_up X 0 (upd (X 0) 1 (nI (tx_sp (X 2) ln pp)))) vb) := by
  refine Met.ofW (cc := cX3_skipSpaces) (maxL := 1) (ret := none) (by decide) rfl ?_
  intro p e s m args below meth c s₁ B hml hv
  obtain ⟨rfl, hP, hK, hD0, hE⟩ := hv
  have hx := B.exec
  have hb := B.bytes
  have hr := B.returns
  have hts := atoms_spec (ws := wsX3_skipSpaces) B.pre
  have hown : s.vm.findClass RX3 = some m.cls := findClass_of_methodNamed B.named
  have hlocks := B.notSynchronized
  have hD := fz_self hD0
  generalize hAe : fz_in (XW cy ad x X vb) = A at hD ⊢
  have hS : va_S A s.heap s.heap [] := va_S.rf
  have hl := lv_entry ([.ref (x 0)]) (n := 1) (Nat.le_of_ble_eq_true rfl)
  rw [lg_entry_eq]
  generalize (lg_sl ([.ref (x 0)]) ++ List.replicate (1 - (lg_sl ([.ref (x 0)])).length) Slot.unset).toArray = ls at hl ⊢
  have hl : lv_has ls 1 [(0, .ref (x 0))] := hl
  have k_23 := hts (.fieldLink RX3 23 "FreezeCredits$CommandText" "at" "I") (by decide +kernel)
  have inX3 : ∀ w ∈ u_ws RX3 TX3 5, w ∈ wsX3_skipSpaces := by decide +kernel
  have k_19 := hts (.fieldLink RX3 19 "FreezeCredits$CommandText" "length" "I") (by decide +kernel)
  have k_15 := hts (.fieldLink RX3 15 "FreezeCredits$CommandText" "bytes" "[B") (by decide +kernel)
  have hP := fz_Pw (ws2 := XE cy ad x (X 0 0) (nI pp) (X 1) (X 2) vb) hP (by rw [show nI pp = X 0 1 from hp.symm])
  have hD := fz_Dw (ws2 := XE cy ad x (X 0 0) (nI pp) (X 1) (X 2) vb) hD (by rw [show nI pp = X 0 1 from hp.symm])
  refine fz_loopM (σ := Nat) (pc := 0) (nL := 1) (fun q => [(0, .ref (x 0))]) (fun q => XE cy ad x (X 0 0) (nI q) (X 1) (X 2) vb) (fun q => (q = pp ∨ q ≤ ln) ∧ (tx_sp (X 2) ln q = tx_sp (X 2) ln pp)) (fun q => ln - q) ?_ pp (show (pp = pp ∨ pp ≤ ln) ∧ (tx_sp (X 2) ln pp = tx_sp (X 2) ln pp) from ⟨(Or.inl rfl), rfl⟩) _ _ ls hP hD hS (lv_sub hl [0] rfl)
  rintro q ⟨hq, eS⟩ ih0 H locs ls hP hD hS hl
  have hP : va_P D vwCl (XE cy ad x (X 0 0) (nI q) (X 1) (X 2) vb) H := hP
  have hD : va_D A (XE cy ad x (X 0 0) (nI q) (X 1) (X 2) vb) := hD
  have hq : q = pp ∨ q ≤ ln := hq
  have eS : tx_sp (X 2) ln q = tx_sp (X 2) ln pp := eS
  have hl : lv_has ls 1 [(0, .ref (x 0))] := hl
  refine lv_aload_n hx hb dX3_skipSpaces_0 rfl (lv_at hl 0 rfl) ?_
  refine va_get (D := D) (ci := 2) (v := .int (nI q)) (C := RX3) (T := TX3) (N := 5) hx hb hts inX3 hown hK hP 0 rfl rfl 4 (by decide) k_23 (fun _ h9 => h9) rfl dX3_skipSpaces_1 ?_
  refine lv_aload_n hx hb dX3_skipSpaces_4 rfl (lv_at hl 0 rfl) ?_
  refine va_get (D := D) (ci := 2) (v := .int (X 0 0)) (C := RX3) (T := TX3) (N := 5) hx hb hts inX3 hown hK hP 0 rfl rfl 0 (by decide) k_19 (fun _ h9 => h9) rfl dX3_skipSpaces_5 ?_
  refine fz_geN (tgt := 38) hx hb q ln rfl hln dX3_skipSpaces_8 (by decide) (by omega) (by omega) (fun c_1 => ?_) (fun c_1 => ?_)
  · skip
    exact W.vret hx hb hr (fun t9 ht9 hW9 => ⟨⟨(), rfl, trivial, fz_to ht9 (by rw [← eS, tx_sp_e (by omega)]; exact hP)⟩, hS.F ht9⟩) hS.2.2 dX3_skipSpaces_38
  · skip
    refine lv_aload_n hx hb dX3_skipSpaces_11 rfl (lv_at hl 0 rfl) ?_
    refine va_get (D := D) (ci := 2) (v := .ref (x 2)) (C := RX3) (T := TX3) (N := 5) hx hb hts inX3 hown hK hP 0 rfl rfl 3 (by decide) k_15 (fun _ h9 => h9) rfl dX3_skipSpaces_12 ?_
    refine lv_aload_n hx hb dX3_skipSpaces_15 rfl (lv_at hl 0 rfl) ?_
    refine va_get (D := D) (ci := 2) (v := .int (nI q)) (C := RX3) (T := TX3) (N := 5) hx hb hts inX3 hown hK hP 0 rfl rfl 4 (by decide) k_23 (fun _ h9 => h9) rfl dX3_skipSpaces_16 ?_
    refine fz_bald (f := X 2) hx hb hK hP 2 2 rfl rfl q rfl (by omega) (by decide) dX3_skipSpaces_19 ?_
    refine lv_bipush (v := 32) hx hb dX3_skipSpaces_20 (by decide) ?_
    refine lv_icmp_ne (tgt := 38) hx hb dX3_skipSpaces_22 (by decide) (fun c_2 => ?_) (fun c_2 => ?_)
    · skip
      exact W.vret hx hb hr (fun t9 ht9 hW9 => ⟨⟨(), rfl, trivial, fz_to ht9 (by rw [← eS, tx_sp_no (by omega) c_2]; exact hP)⟩, hS.F ht9⟩) hS.2.2 dX3_skipSpaces_38
    · skip
      refine lv_aload_n hx hb dX3_skipSpaces_25 rfl (lv_at hl 0 rfl) ?_
      refine lv_dup hx hb dX3_skipSpaces_26 rfl ?_
      refine va_get (D := D) (ci := 2) (v := .int (nI q)) (C := RX3) (T := TX3) (N := 5) hx hb hts inX3 hown hK hP 0 rfl rfl 4 (by decide) k_23 (fun _ h9 => h9) rfl dX3_skipSpaces_27 ?_
      refine lv_iconst (v := 1) hx hb dX3_skipSpaces_30 (by decide) ?_
      refine fz_iaddN hx hb q 1 rfl rfl dX3_skipSpaces_31 ?_
      refine va_put (D := D) (ci := 2) (v := .int (nI (q + 1))) (ty := tyX3 4) (C := RX3) (T := TX3) (N := 5) hx hb hts inX3 tyX3 tyX3_ok nmX3 hown hK hP hD hS 0 rfl rfl 4 (by decide) k_23 (fun _ h9 => h9) rfl (by decide +kernel) rfl rfl (Nat.le_of_ble_eq_true rfl) dX3_skipSpaces_32 (fun H locs hP hD hS => ?_)
      have hP : va_P D vwCl (XE cy ad x (X 0 0) (nI (q + 1)) (X 1) (X 2) vb) H := hP
      have hD : va_D A (XE cy ad x (X 0 0) (nI (q + 1)) (X 1) (X 2) vb) := hD
      refine lv_goto (tgt := 0) hx hb dX3_skipSpaces_35 (by decide) ?_
      exact ih0 (q + 1) (show ((q + 1) = pp ∨ (q + 1) ≤ ln) ∧ (tx_sp (X 2) ln (q + 1) = tx_sp (X 2) ln pp) from ⟨(Or.inr (by omega)), (by rw [← eS, tx_sp_yes (by omega) c_2])⟩) (by show ln - (q + 1) < ln - q; omega) _ _ ls hP hD hS (lv_sub hl [0] rfl)
set_option maxHeartbeats 4000000 in
set_option maxRecDepth 100000 in
/-- CommandText.skipLetters -/
theorem c_X3_skipLetters (l : Launch) (D : va_G) (cy : Nat → ClassId) (x : Nat → Nat) (ad : Nat → Nat) (X : Nat → Nat → Int32) (vb : Option Nat) (ln : Nat) (hln : X 0 0 = nI ln) (hln150 : ln ≤ 150) (pp : Nat) (hp : X 0 1 = nI pp) (hp9 : pp < 2000) : fz_MV l yX3_skipLetters wsX3_skipLetters 0 0 D cy [.ref (x 0)] (XW cy ad x X vb) fz_T (XW cy ad x (fz_up X 0 (upd (X 0) 1 (nI (tx_le (X 2) ln pp)))) vb) := by
  refine Met.ofW (cc := cX3_skipLetters) (maxL := 1) (ret := none) (by decide) rfl ?_
  intro p e s m args below meth c s₁ B hml hv
  obtain ⟨rfl, hP, hK, hD0, hE⟩ := hv
  have hx := B.exec
  have hb := B.bytes
  have hr := B.returns
  have hts := atoms_spec (ws := wsX3_skipLetters) B.pre
  have hown : s.vm.findClass RX3 = some m.cls := findClass_of_methodNamed B.named
  have hlocks := B.notSynchronized
  have hD := fz_self hD0
  generalize hAe : fz_in (XW cy ad x X vb) = A at hD ⊢
  have hS : va_S A s.heap s.heap [] := va_S.rf
  have hl := lv_entry ([.ref (x 0)]) (n := 1) (Nat.le_of_ble_eq_true rfl)
  rw [lg_entry_eq]
  generalize (lg_sl ([.ref (x 0)]) ++ List.replicate (1 - (lg_sl ([.ref (x 0)])).length) Slot.unset).toArray = ls at hl ⊢
  have hl : lv_has ls 1 [(0, .ref (x 0))] := hl
  have k_23 := hts (.fieldLink RX3 23 "FreezeCredits$CommandText" "at" "I") (by decide +kernel)
  have inX3 : ∀ w ∈ u_ws RX3 TX3 5, w ∈ wsX3_skipLetters := by decide +kernel
  have k_19 := hts (.fieldLink RX3 19 "FreezeCredits$CommandText" "length" "I") (by decide +kernel)
  have k_15 := hts (.fieldLink RX3 15 "FreezeCredits$CommandText" "bytes" "[B") (by decide +kernel)
  have hP := fz_Pw (ws2 := XE cy ad x (X 0 0) (nI pp) (X 1) (X 2) vb) hP (by rw [show nI pp = X 0 1 from hp.symm])
  have hD := fz_Dw (ws2 := XE cy ad x (X 0 0) (nI pp) (X 1) (X 2) vb) hD (by rw [show nI pp = X 0 1 from hp.symm])
  refine fz_loopM (σ := Nat) (pc := 0) (nL := 1) (fun q => [(0, .ref (x 0))]) (fun q => XE cy ad x (X 0 0) (nI q) (X 1) (X 2) vb) (fun q => (q = pp ∨ q ≤ ln) ∧ (tx_le (X 2) ln q = tx_le (X 2) ln pp)) (fun q => ln - q) ?_ pp (show (pp = pp ∨ pp ≤ ln) ∧ (tx_le (X 2) ln pp = tx_le (X 2) ln pp) from ⟨(Or.inl rfl), rfl⟩) _ _ ls hP hD hS (lv_sub hl [0] rfl)
  rintro q ⟨hq, eS⟩ ih0 H locs ls hP hD hS hl
  have hP : va_P D vwCl (XE cy ad x (X 0 0) (nI q) (X 1) (X 2) vb) H := hP
  have hD : va_D A (XE cy ad x (X 0 0) (nI q) (X 1) (X 2) vb) := hD
  have hq : q = pp ∨ q ≤ ln := hq
  have eS : tx_le (X 2) ln q = tx_le (X 2) ln pp := eS
  have hl : lv_has ls 1 [(0, .ref (x 0))] := hl
  refine lv_aload_n hx hb dX3_skipLetters_0 rfl (lv_at hl 0 rfl) ?_
  refine va_get (D := D) (ci := 2) (v := .int (nI q)) (C := RX3) (T := TX3) (N := 5) hx hb hts inX3 hown hK hP 0 rfl rfl 4 (by decide) k_23 (fun _ h9 => h9) rfl dX3_skipLetters_1 ?_
  refine lv_aload_n hx hb dX3_skipLetters_4 rfl (lv_at hl 0 rfl) ?_
  refine va_get (D := D) (ci := 2) (v := .int (X 0 0)) (C := RX3) (T := TX3) (N := 5) hx hb hts inX3 hown hK hP 0 rfl rfl 0 (by decide) k_19 (fun _ h9 => h9) rfl dX3_skipLetters_5 ?_
  refine fz_geN (tgt := 52) hx hb q ln rfl hln dX3_skipLetters_8 (by decide) (by omega) (by omega) (fun c_1 => ?_) (fun c_1 => ?_)
  · skip
    exact W.vret hx hb hr (fun t9 ht9 hW9 => ⟨⟨(), rfl, trivial, fz_to ht9 (by rw [← eS, tx_le_e (by omega)]; exact hP)⟩, hS.F ht9⟩) hS.2.2 dX3_skipLetters_52
  · skip
    refine lv_aload_n hx hb dX3_skipLetters_11 rfl (lv_at hl 0 rfl) ?_
    refine va_get (D := D) (ci := 2) (v := .ref (x 2)) (C := RX3) (T := TX3) (N := 5) hx hb hts inX3 hown hK hP 0 rfl rfl 3 (by decide) k_15 (fun _ h9 => h9) rfl dX3_skipLetters_12 ?_
    refine lv_aload_n hx hb dX3_skipLetters_15 rfl (lv_at hl 0 rfl) ?_
    refine va_get (D := D) (ci := 2) (v := .int (nI q)) (C := RX3) (T := TX3) (N := 5) hx hb hts inX3 hown hK hP 0 rfl rfl 4 (by decide) k_23 (fun _ h9 => h9) rfl dX3_skipLetters_16 ?_
    refine fz_bald (f := X 2) hx hb hK hP 2 2 rfl rfl q rfl (by omega) (by decide) dX3_skipLetters_19 ?_
    refine lv_bipush (v := 97) hx hb dX3_skipLetters_20 (by decide) ?_
    refine lv_icmp_lt (tgt := 52) hx hb dX3_skipLetters_22 (by decide) (fun c_2 => ?_) (fun c_2 => ?_)
    · skip
      exact W.vret hx hb hr (fun t9 ht9 hW9 => ⟨⟨(), rfl, trivial, fz_to ht9 (by rw [← eS, tx_le_no (by omega) (Or.inl c_2)]; exact hP)⟩, hS.F ht9⟩) hS.2.2 dX3_skipLetters_52
    · skip
      refine lv_aload_n hx hb dX3_skipLetters_25 rfl (lv_at hl 0 rfl) ?_
      refine va_get (D := D) (ci := 2) (v := .ref (x 2)) (C := RX3) (T := TX3) (N := 5) hx hb hts inX3 hown hK hP 0 rfl rfl 3 (by decide) k_15 (fun _ h9 => h9) rfl dX3_skipLetters_26 ?_
      refine lv_aload_n hx hb dX3_skipLetters_29 rfl (lv_at hl 0 rfl) ?_
      refine va_get (D := D) (ci := 2) (v := .int (nI q)) (C := RX3) (T := TX3) (N := 5) hx hb hts inX3 hown hK hP 0 rfl rfl 4 (by decide) k_23 (fun _ h9 => h9) rfl dX3_skipLetters_30 ?_
      refine fz_bald (f := X 2) hx hb hK hP 2 2 rfl rfl q rfl (by omega) (by decide) dX3_skipLetters_33 ?_
      refine lv_bipush (v := 122) hx hb dX3_skipLetters_34 (by decide) ?_
      refine lv_icmp_gt (tgt := 52) hx hb dX3_skipLetters_36 (by decide) (fun c_3 => ?_) (fun c_3 => ?_)
      · skip
        exact W.vret hx hb hr (fun t9 ht9 hW9 => ⟨⟨(), rfl, trivial, fz_to ht9 (by rw [← eS, tx_le_no (by omega) (Or.inr c_3)]; exact hP)⟩, hS.F ht9⟩) hS.2.2 dX3_skipLetters_52
      · skip
        refine lv_aload_n hx hb dX3_skipLetters_39 rfl (lv_at hl 0 rfl) ?_
        refine lv_dup hx hb dX3_skipLetters_40 rfl ?_
        refine va_get (D := D) (ci := 2) (v := .int (nI q)) (C := RX3) (T := TX3) (N := 5) hx hb hts inX3 hown hK hP 0 rfl rfl 4 (by decide) k_23 (fun _ h9 => h9) rfl dX3_skipLetters_41 ?_
        refine lv_iconst (v := 1) hx hb dX3_skipLetters_44 (by decide) ?_
        refine fz_iaddN hx hb q 1 rfl rfl dX3_skipLetters_45 ?_
        refine va_put (D := D) (ci := 2) (v := .int (nI (q + 1))) (ty := tyX3 4) (C := RX3) (T := TX3) (N := 5) hx hb hts inX3 tyX3 tyX3_ok nmX3 hown hK hP hD hS 0 rfl rfl 4 (by decide) k_23 (fun _ h9 => h9) rfl (by decide +kernel) rfl rfl (Nat.le_of_ble_eq_true rfl) dX3_skipLetters_46 (fun H locs hP hD hS => ?_)
        have hP : va_P D vwCl (XE cy ad x (X 0 0) (nI (q + 1)) (X 1) (X 2) vb) H := hP
        have hD : va_D A (XE cy ad x (X 0 0) (nI (q + 1)) (X 1) (X 2) vb) := hD
        refine lv_goto (tgt := 0) hx hb dX3_skipLetters_49 (by decide) ?_
        exact ih0 (q + 1) (show ((q + 1) = pp ∨ (q + 1) ≤ ln) ∧ (tx_le (X 2) ln (q + 1) = tx_le (X 2) ln pp) from ⟨(Or.inr (by omega)), (by rw [← eS, tx_le_yes (by omega) c_2 c_3])⟩) (by show ln - (q + 1) < ln - q; omega) _ _ ls hP hD hS (lv_sub hl [0] rfl)
set_option maxHeartbeats 4000000 in
set_option maxRecDepth 100000 in
/-- CommandText.next -/
theorem c_X3_next (l : Launch) (D : va_G) (cy : Nat → ClassId) (x : Nat → Nat) (ad : Nat → Nat) (X : Nat → Nat → Int32) (vb : Option Nat) (ln : Nat) (hln : X 0 0 = nI ln) (hln150 : ln ≤ 150) (pp : Nat) (hp : X 0 1 = nI pp) (hp9 : pp < 2000) : fz_RI l yX3_next wsX3_next 0 0 D cy [.ref (x 0)] (XW cy ad x X vb) fz_T (tx_at (X 2) ln pp) := by
  refine Met.ofW (cc := cX3_next) (maxL := 1) (ret := (some .int)) (by decide) rfl ?_
  intro p e s m args below meth c s₁ B hml hv
  obtain ⟨rfl, hP, hK, hE⟩ := hv
  have hx := B.exec
  have hb := B.bytes
  have hr := B.returns
  have hts := atoms_spec (ws := wsX3_next) B.pre
  have hown : s.vm.findClass RX3 = some m.cls := findClass_of_methodNamed B.named
  have hlocks := B.notSynchronized
  have hl := lv_entry ([.ref (x 0)]) (n := 1) (Nat.le_of_ble_eq_true rfl)
  rw [lg_entry_eq]
  generalize (lg_sl ([.ref (x 0)]) ++ List.replicate (1 - (lg_sl ([.ref (x 0)])).length) Slot.unset).toArray = ls at hl ⊢
  have hl : lv_has ls 1 [(0, .ref (x 0))] := hl
  have k_23 := hts (.fieldLink RX3 23 "FreezeCredits$CommandText" "at" "I") (by decide +kernel)
  have inX3 : ∀ w ∈ u_ws RX3 TX3 5, w ∈ wsX3_next := by decide +kernel
  have k_19 := hts (.fieldLink RX3 19 "FreezeCredits$CommandText" "length" "I") (by decide +kernel)
  have k_15 := hts (.fieldLink RX3 15 "FreezeCredits$CommandText" "bytes" "[B") (by decide +kernel)
  refine lv_aload_n hx hb dX3_next_0 rfl (lv_at hl 0 rfl) ?_
  refine va_get (D := D) (ci := 2) (v := .int (X 0 1)) (C := RX3) (T := TX3) (N := 5) hx hb hts inX3 hown hK hP 0 rfl rfl 4 (by decide) k_23 (fun _ h9 => h9) rfl dX3_next_1 ?_
  refine lv_aload_n hx hb dX3_next_4 rfl (lv_at hl 0 rfl) ?_
  refine va_get (D := D) (ci := 2) (v := .int (X 0 0)) (C := RX3) (T := TX3) (N := 5) hx hb hts inX3 hown hK hP 0 rfl rfl 0 (by decide) k_19 (fun _ h9 => h9) rfl dX3_next_5 ?_
  refine fz_geN (tgt := 23) hx hb pp ln hp hln dX3_next_8 (by decide) (by omega) (by omega) (fun c_1 => ?_) (fun c_1 => ?_)
  · skip
    refine lv_iconst (v := (-1)) hx hb dX3_next_23 (by decide) ?_
    exact W.iret (v := (-1)) hx hb hr (fun t9 ht9 hW9 => ⟨_, rfl, (by rw [tx_at, if_neg (by omega)]), ht9⟩) (fun _ h => nomatch h) dX3_next_24
  · skip
    refine lv_aload_n hx hb dX3_next_11 rfl (lv_at hl 0 rfl) ?_
    refine va_get (D := D) (ci := 2) (v := .ref (x 2)) (C := RX3) (T := TX3) (N := 5) hx hb hts inX3 hown hK hP 0 rfl rfl 3 (by decide) k_15 (fun _ h9 => h9) rfl dX3_next_12 ?_
    refine lv_aload_n hx hb dX3_next_15 rfl (lv_at hl 0 rfl) ?_
    refine va_get (D := D) (ci := 2) (v := .int (X 0 1)) (C := RX3) (T := TX3) (N := 5) hx hb hts inX3 hown hK hP 0 rfl rfl 4 (by decide) k_23 (fun _ h9 => h9) rfl dX3_next_16 ?_
    refine fz_bald (f := X 2) hx hb hK hP 2 2 rfl rfl pp hp (by omega) (by decide) dX3_next_19 ?_
    refine lv_goto (tgt := 24) hx hb dX3_next_20 (by decide) ?_
    exact W.iret (v := (X 2 pp)) hx hb hr (fun t9 ht9 hW9 => ⟨_, rfl, (by rw [tx_at, if_pos (by omega)]), ht9⟩) (fun _ h => nomatch h) dX3_next_24
set_option maxHeartbeats 4000000 in
set_option maxRecDepth 100000 in
/-- CommandText.isDigit -/
theorem c_X3_isDigit (l : Launch) (D : va_G) (cy : Nat → ClassId) (v : Int32) : fz_RI l yX3_isDigit wsX3_isDigit 0 0 D cy [.int v] ([] : va_W) fz_T (fz_b (fm_in v 48 57)) := by
  refine Met.ofW (cc := cX3_isDigit) (maxL := 1) (ret := (some .boolean)) (by decide) rfl ?_
  intro p e s m args below meth c s₁ B hml hv
  obtain ⟨rfl, hP, hK, hE⟩ := hv
  have hx := B.exec
  have hb := B.bytes
  have hr := B.returns
  have hts := atoms_spec (ws := wsX3_isDigit) B.pre
  have hown : s.vm.findClass RX3 = some m.cls := findClass_of_methodNamed B.named
  have hlocks := B.notSynchronized
  have hl := lv_entry ([.int v]) (n := 1) (Nat.le_of_ble_eq_true rfl)
  rw [lg_entry_eq]
  generalize (lg_sl ([.int v]) ++ List.replicate (1 - (lg_sl ([.int v])).length) Slot.unset).toArray = ls at hl ⊢
  have hl : lv_has ls 1 [(0, .int v)] := hl
  refine lv_iload_n hx hb dX3_isDigit_0 rfl (lv_at hl 0 rfl) ?_
  refine lv_bipush (v := 48) hx hb dX3_isDigit_1 (by decide) ?_
  refine lv_icmp_lt (tgt := 16) hx hb dX3_isDigit_3 (by decide) (fun c_1 => ?_) (fun c_1 => ?_)
  · skip
    refine lv_iconst (v := 0) hx hb dX3_isDigit_16 (by decide) ?_
    exact W.zret (v := 0) hx hb hr (by decide) (fun t9 ht9 hW9 => ⟨_, rfl, (by simp [fm_in, fz_b, c_1]), ht9⟩) (fun _ h => nomatch h) dX3_isDigit_17
  · skip
    refine lv_iload_n hx hb dX3_isDigit_6 rfl (lv_at hl 0 rfl) ?_
    refine lv_bipush (v := 57) hx hb dX3_isDigit_7 (by decide) ?_
    refine lv_icmp_gt (tgt := 16) hx hb dX3_isDigit_9 (by decide) (fun c_2 => ?_) (fun c_2 => ?_)
    · skip
      refine lv_iconst (v := 0) hx hb dX3_isDigit_16 (by decide) ?_
      exact W.zret (v := 0) hx hb hr (by decide) (fun t9 ht9 hW9 => ⟨_, rfl, (by simp [fm_in, fz_b, c_1, c_2]), ht9⟩) (fun _ h => nomatch h) dX3_isDigit_17
    · skip
      refine lv_iconst (v := 1) hx hb dX3_isDigit_12 (by decide) ?_
      refine lv_goto (tgt := 17) hx hb dX3_isDigit_13 (by decide) ?_
      exact W.zret (v := 1) hx hb hr (by decide) (fun t9 ht9 hW9 => ⟨_, rfl, (by simp [fm_in, fz_b, c_1, c_2]), ht9⟩) (fun _ h => nomatch h) dX3_isDigit_17
set_option maxHeartbeats 4000000 in
set_option maxRecDepth 100000 in
/-- CommandText.hasMore -/
theorem c_X3_hasMore (l : Launch) (D : va_G) (cy : Nat → ClassId) (x : Nat → Nat) (ad : Nat → Nat) (X : Nat → Nat → Int32) (vb : Option Nat) (ln : Nat) (hln : X 0 0 = nI ln) (hln150 : ln ≤ 150) (pp : Nat) (hp : X 0 1 = nI pp) (hp9 : pp < 2000) : fz_MI l yX3_hasMore wsX3_hasMore 1 20 D cy [.ref (x 0)] (XW cy ad x X vb) fz_T (fz_b (decide (tx_sp (X 2) ln pp < ln))) (XW cy ad x (fz_up X 0 (upd (X 0) 1 (nI (tx_sp (X 2) ln pp)))) vb) := by
  refine Met.ofW (cc := cX3_hasMore) (maxL := 1) (ret := (some .boolean)) (by decide) rfl ?_
  intro p e s m args below meth c s₁ B hml hv
  obtain ⟨rfl, hP, hK, hD0, hE⟩ := hv
  have hx := B.exec
  have hb := B.bytes
  have hr := B.returns
  have hts := atoms_spec (ws := wsX3_hasMore) B.pre
  have hown : s.vm.findClass RX3 = some m.cls := findClass_of_methodNamed B.named
  have hlocks := B.notSynchronized
  have hD := fz_self hD0
  generalize hAe : fz_in (XW cy ad x X vb) = A at hD ⊢
  have hS : va_S A s.heap s.heap [] := va_S.rf
  have hl := lv_entry ([.ref (x 0)]) (n := 1) (Nat.le_of_ble_eq_true rfl)
  rw [lg_entry_eq]
  generalize (lg_sl ([.ref (x 0)]) ++ List.replicate (1 - (lg_sl ([.ref (x 0)])).length) Slot.unset).toArray = ls at hl ⊢
  have hl : lv_has ls 1 [(0, .ref (x 0))] := hl
  have k_23 := hts (.fieldLink RX3 23 "FreezeCredits$CommandText" "at" "I") (by decide +kernel)
  have inX3 : ∀ w ∈ u_ws RX3 TX3 5, w ∈ wsX3_hasMore := by decide +kernel
  have k_19 := hts (.fieldLink RX3 19 "FreezeCredits$CommandText" "length" "I") (by decide +kernel)
  have hsp9 := tx_R_sp (X 2) ln pp
  unfold tx_R at hsp9
  refine lv_aload_n hx hb dX3_hasMore_0 rfl (lv_at hl 0 rfl) ?_
  refine fz_retMV (ws' := XE cy ad x (X 0 0) (nI (tx_sp (X 2) ln pp)) (X 1) (X 2) vb) (va_runV (As := []) (rest := []) ⟨hx, hb, hml, hown, hts⟩ (c_X3_skipSpaces l D cy x ad X vb ln hln hln150 pp hp hp9) (cwV 0 hts gX3_hasMore_X3_skipSpaces rfl rfl rfl (by decide +kernel) ⟨Nat.le_of_ble_eq_true rfl, Nat.le_of_ble_eq_true rfl⟩) (fz_preMV (ci := 2) (q0 := 0) hK hP hD rfl rfl rfl fz_T_bl (fun _ _ _ => trivial)) rfl rfl hl.1 rfl (lv_room (Nat.le_of_ble_eq_true rfl)) dX3_hasMore_1 ⟨Nat.zero_le _, Nat.zero_le _⟩) hP hD hS [0, 1, 2] [] rfl rfl [true, true, true] (And.intro rfl (And.intro rfl (And.intro rfl trivial))) rfl rfl (fun H locs hP hD hS => ?_)
  have hP : va_P D vwCl (XE cy ad x (X 0 0) (nI (tx_sp (X 2) ln pp)) (X 1) (X 2) vb) H := hP
  have hD : va_D A (XE cy ad x (X 0 0) (nI (tx_sp (X 2) ln pp)) (X 1) (X 2) vb) := hD
  refine lv_aload_n hx hb dX3_hasMore_4 rfl (lv_at hl 0 rfl) ?_
  refine va_get (D := D) (ci := 2) (v := .int (nI (tx_sp (X 2) ln pp))) (C := RX3) (T := TX3) (N := 5) hx hb hts inX3 hown hK hP 0 rfl rfl 4 (by decide) k_23 (fun _ h9 => h9) rfl dX3_hasMore_5 ?_
  refine lv_aload_n hx hb dX3_hasMore_8 rfl (lv_at hl 0 rfl) ?_
  refine va_get (D := D) (ci := 2) (v := .int (X 0 0)) (C := RX3) (T := TX3) (N := 5) hx hb hts inX3 hown hK hP 0 rfl rfl 0 (by decide) k_19 (fun _ h9 => h9) rfl dX3_hasMore_9 ?_
  refine fz_geN (tgt := 19) hx hb (tx_sp (X 2) ln pp) ln rfl hln dX3_hasMore_12 (by decide) (by omega) (by omega) (fun c_1 => ?_) (fun c_1 => ?_)
  · skip
    refine lv_iconst (v := 0) hx hb dX3_hasMore_19 (by decide) ?_
    exact W.zret (v := 0) hx hb hr (by decide) (fun t9 ht9 hW9 => ⟨⟨_, (), rfl, (by rw [decide_eq_false (by omega)]; rfl), fz_to ht9 hP⟩, hS.F ht9⟩) hS.2.2 dX3_hasMore_20
  · skip
    refine lv_iconst (v := 1) hx hb dX3_hasMore_15 (by decide) ?_
    refine lv_goto (tgt := 20) hx hb dX3_hasMore_16 (by decide) ?_
    exact W.zret (v := 1) hx hb hr (by decide) (fun t9 ht9 hW9 => ⟨⟨_, (), rfl, (by rw [decide_eq_true (by omega)]; rfl), fz_to ht9 hP⟩, hS.F ht9⟩) hS.2.2 dX3_hasMore_20
set_option maxHeartbeats 4000000 in
set_option maxRecDepth 100000 in
/-- CommandText.stands -/
theorem c_X3_stands (l : Launch) (D : va_G) (cy : Nat → ClassId) (x : Nat → Nat) (ad : Nat → Nat) (X : Nat → Nat → Int32) (vb : Option Nat) (adK adV : Nat → Nat) (i : Nat) (hi : i < 12) (pp qq : Nat) (hpq : pp ≤ qq) (hq150 : qq ≤ 150) : fz_RI l yX3_stands wsX3_stands 4 85 D cy [.ref (x 0), .ref (adK i), .int (nI pp), .int (nI qq)] (XW cy ad x X vb) (fz_St adK adV (fun _ => False)) (fz_b (vb_st (X 2) i pp qq)) := by
  refine Met.ofW (cc := cX3_stands) (maxL := 5) (ret := (some .boolean)) (by decide) rfl ?_
  intro p e s m args below meth c s₁ B hml hv
  obtain ⟨rfl, hP, hK, hE⟩ := hv
  have hx := B.exec
  have hb := B.bytes
  have hr := B.returns
  have hts := atoms_spec (ws := wsX3_stands) B.pre
  have hown : s.vm.findClass RX3 = some m.cls := findClass_of_methodNamed B.named
  have hlocks := B.notSynchronized
  have hl := lv_entry ([.ref (x 0), .ref (adK i), .int (nI pp), .int (nI qq)]) (n := 5) (Nat.le_of_ble_eq_true rfl)
  rw [lg_entry_eq]
  generalize (lg_sl ([.ref (x 0), .ref (adK i), .int (nI pp), .int (nI qq)]) ++ List.replicate (5 - (lg_sl ([.ref (x 0), .ref (adK i), .int (nI pp), .int (nI qq)])).length) Slot.unset).toArray = ls at hl ⊢
  have hl : lv_has ls 5 [(0, .ref (x 0)), (1, .ref (adK i)), (2, .int (nI pp)), (3, .int (nI qq))] := hl
  have k_15 := hts (.fieldLink RX3 15 "FreezeCredits$CommandText" "bytes" "[B") (by decide +kernel)
  have inX3 : ∀ w ∈ u_ws RX3 TX3 5, w ∈ wsX3_stands := by decide +kernel
  have hvl := vbl_le i hi
  refine lv_aload_n hx hb dX3_stands_0 rfl (lv_at hl 1 rfl) ?_
  refine fz_retR (va_runV (As := []) (rest := []) ⟨hx, hb, hml, hown, hts⟩ (c_J0_length_8abf5 l D cy adK adV i hi) (cwV 0 hts gX3_stands_J0_length_8abf5 rfl rfl rfl (by decide +kernel) ⟨Nat.le_of_ble_eq_true rfl, Nat.le_of_ble_eq_true rfl⟩) (fz_preVr hK (fz_nil) (vk_recv hE.1 hi va_S.rf) fz_St_bl (fun U hU hW => (fz_St.to (locs := []) (A := fun _ => False) (B := fun _ => False) hE (by rw [hU]; exact va_S.rf) hW.alike (fun _ h => h)))) rfl rfl hl.1 rfl (lv_room (Nat.le_of_ble_eq_true rfl)) dX3_stands_1 ⟨Nat.zero_le _, Nat.zero_le _⟩) ?_
  refine lv_iload_n hx hb dX3_stands_4 rfl (lv_at hl 3 rfl) ?_
  refine lv_iload_n hx hb dX3_stands_5 rfl (lv_at hl 2 rfl) ?_
  refine fz_isubN hx hb qq pp rfl rfl hpq dX3_stands_6 ?_
  refine fz_eqN (tgt := 12) hx hb (vbl i) (qq - pp) rfl rfl dX3_stands_7 (by decide) (by omega) (by omega) (fun c_1 => ?_) (fun c_1 => ?_)
  · skip
    refine lv_iconst (v := 0) hx hb dX3_stands_12 (by decide) ?_
    refine lv_istore (lv' := [(4, .int 0), (0, .ref (x 0)), (1, .ref (adK i)), (2, .int (nI pp)), (3, .int (nI qq))]) hx hb dX3_stands_13 hl (by decide) rfl (fun ls hl => ?_)
    refine fz_loop (σ := Nat) (pc := 15) (nL := 5) (fun k => [(0, .ref (x 0)), (1, .ref (adK i)), (2, .int (nI pp)), (3, .int (nI qq)), (4, .int (nI k))]) (fun k => (k ≤ vbl i) ∧ (fz_any (fun q9 => !(decide (vbc i q9 = X 2 (pp + q9)))) k = false)) (fun k => vbl i - k) ?_ 0 (show (0 ≤ vbl i) ∧ (fz_any (fun q9 => !(decide (vbc i q9 = X 2 (pp + q9)))) 0 = false) from ⟨(by omega), rfl⟩) ls (lv_sub hl [1, 2, 3, 4, 0] rfl)
    rintro k ⟨hk, ha⟩ ih15 ls hl
    have hk : k ≤ vbl i := hk
    have ha : fz_any (fun q9 => !(decide (vbc i q9 = X 2 (pp + q9)))) k = false := ha
    have hl : lv_has ls 5 [(0, .ref (x 0)), (1, .ref (adK i)), (2, .int (nI pp)), (3, .int (nI qq)), (4, .int (nI k))] := hl
    refine lv_iload hx hb dX3_stands_15 (lv_at hl 4 rfl) ?_
    refine lv_aload_n hx hb dX3_stands_17 rfl (lv_at hl 1 rfl) ?_
    refine fz_retR (va_runV (As := []) (rest := [.int (nI k)]) ⟨hx, hb, hml, hown, hts⟩ (c_J0_length_8abf5 l D cy adK adV i hi) (cwV 0 hts gX3_stands_J0_length_8abf5 rfl rfl rfl (by decide +kernel) ⟨Nat.le_of_ble_eq_true rfl, Nat.le_of_ble_eq_true rfl⟩) (fz_preVr hK (fz_nil) (vk_recv hE.1 hi va_S.rf) fz_St_bl (fun U hU hW => (fz_St.to (locs := []) (A := fun _ => False) (B := fun _ => False) hE (by rw [hU]; exact va_S.rf) hW.alike (fun _ h => h)))) rfl rfl hl.1 rfl (lv_room (Nat.le_of_ble_eq_true rfl)) dX3_stands_18 ⟨Nat.zero_le _, Nat.zero_le _⟩) ?_
    refine fz_geN (tgt := 50) hx hb k (vbl i) rfl rfl dX3_stands_21 (by decide) (by omega) (by omega) (fun c_2 => ?_) (fun c_2 => ?_)
    · skip
      refine lv_iconst (v := 1) hx hb dX3_stands_50 (by decide) ?_
      exact W.zret (v := 1) hx hb hr (by decide) (fun t9 ht9 hW9 => ⟨_, rfl, (by rw [vb_st, decide_eq_true c_1, show vbl i = k by omega, ha]; rfl), ht9⟩) (fun _ h => nomatch h) dX3_stands_51
    · skip
      refine lv_aload_n hx hb dX3_stands_24 rfl (lv_at hl 1 rfl) ?_
      refine lv_iload hx hb dX3_stands_25 (lv_at hl 4 rfl) ?_
      refine fz_retR (va_runV (As := [.int (nI k)]) (rest := []) ⟨hx, hb, hml, hown, hts⟩ (c_J0_charAt_5068e l D cy adK adV i hi k (by omega)) (cwV 1 hts gX3_stands_J0_charAt_5068e rfl rfl rfl (by decide +kernel) ⟨Nat.le_of_ble_eq_true rfl, Nat.le_of_ble_eq_true rfl⟩) (fz_preVr hK (fz_nil) (vk_recv hE.1 hi va_S.rf) fz_St_bl (fun U hU hW => (fz_St.to (locs := []) (A := fun _ => False) (B := fun _ => False) hE (by rw [hU]; exact va_S.rf) hW.alike (fun _ h => h)))) rfl rfl hl.1 rfl (lv_room (Nat.le_of_ble_eq_true rfl)) dX3_stands_27 ⟨Nat.zero_le _, Nat.zero_le _⟩) ?_
      refine lv_aload_n hx hb dX3_stands_30 rfl (lv_at hl 0 rfl) ?_
      refine va_get (D := D) (ci := 2) (v := .ref (x 2)) (C := RX3) (T := TX3) (N := 5) hx hb hts inX3 hown hK hP 0 rfl rfl 3 (by decide) k_15 (fun _ h9 => h9) rfl dX3_stands_31 ?_
      refine lv_iload_n hx hb dX3_stands_34 rfl (lv_at hl 2 rfl) ?_
      refine lv_iload hx hb dX3_stands_35 (lv_at hl 4 rfl) ?_
      refine fz_iaddN hx hb pp k rfl rfl dX3_stands_37 ?_
      refine fz_bald (f := X 2) hx hb hK hP 2 2 rfl rfl (pp + k) rfl (by omega) (by decide) dX3_stands_38 ?_
      refine lv_icmp_eq (tgt := 44) hx hb dX3_stands_39 (by decide) (fun c_3 => ?_) (fun c_3 => ?_)
      · skip
        refine lv_iinc (v := nI (k + 1)) (lv' := [(4, .int (nI (k + 1))), (0, .ref (x 0)), (1, .ref (adK i)), (2, .int (nI pp)), (3, .int (nI qq))]) hx hb dX3_stands_44 hl (k := 4) rfl (fz_inc rfl) (by decide) rfl (fun ls hl => ?_)
        refine lv_goto (tgt := 15) hx hb dX3_stands_47 (by decide) ?_
        exact ih15 (k + 1) (show ((k + 1) ≤ vbl i) ∧ (fz_any (fun q9 => !(decide (vbc i q9 = X 2 (pp + q9)))) (k + 1) = false) from ⟨(by omega), (fz_any_step ha (by simp [c_3]))⟩) (by show vbl i - (k + 1) < vbl i - k; omega) ls (lv_sub hl [1, 2, 3, 4, 0] rfl)
      · skip
        refine lv_iconst (v := 0) hx hb dX3_stands_42 (by decide) ?_
        exact W.zret (v := 0) hx hb hr (by decide) (fun t9 ht9 hW9 => ⟨_, rfl, (by rw [vb_st, decide_eq_true c_1, fz_any_hit (k := k) (by simp [c_3]) (by omega)]; rfl), ht9⟩) (fun _ h => nomatch h) dX3_stands_43
  · skip
    refine lv_iconst (v := 0) hx hb dX3_stands_10 (by decide) ?_
    exact W.zret (v := 0) hx hb hr (by decide) (fun t9 ht9 hW9 => ⟨_, rfl, (by rw [vb_st, decide_eq_false c_1]; rfl), ht9⟩) (fun _ h => nomatch h) dX3_stands_11
set_option maxHeartbeats 4000000 in
set_option maxRecDepth 100000 in
/-- CommandText.findVerb -/
theorem c_X3_findVerb (l : Launch) (D : va_G) (cy : Nat → ClassId) (x : Nat → Nat) (ad : Nat → Nat) (X : Nat → Nat → Int32) (vb : Option Nat) (adK adV : Nat → Nat) (pp qq : Nat) (hpq : pp ≤ qq) (hq150 : qq ≤ 150) : fz_RE l yX3_findVerb wsX3_findVerb 5 109 D cy ad [.ref (x 0), .int (nI pp), .int (nI qq)] (XW cy ad x X vb) (fz_Vb ad adK adV (fun _ => False)) (vb_find (X 2) pp qq) := by
  refine Met.ofW (cc := cX3_findVerb) (maxL := 4) (ret := (some (.object "FreezeCredits$Verb"))) (by decide) rfl ?_
  intro p e s m args below meth c s₁ B hml hv
  obtain ⟨rfl, hP, hK, hE⟩ := hv
  have hx := B.exec
  have hb := B.bytes
  have hr := B.returns
  have hts := atoms_spec (ws := wsX3_findVerb) B.pre
  have hown : s.vm.findClass RX3 = some m.cls := findClass_of_methodNamed B.named
  have hlocks := B.notSynchronized
  have hl := lv_entry ([.ref (x 0), .int (nI pp), .int (nI qq)]) (n := 4) (Nat.le_of_ble_eq_true rfl)
  rw [lg_entry_eq]
  generalize (lg_sl ([.ref (x 0), .int (nI pp), .int (nI qq)]) ++ List.replicate (4 - (lg_sl ([.ref (x 0), .int (nI pp), .int (nI qq)])).length) Slot.unset).toArray = ls at hl ⊢
  have hl : lv_has ls 4 [(0, .ref (x 0)), (1, .int (nI pp)), (2, .int (nI qq))] := hl
  have k_69 := hts (.fieldLink RX3 69 "FreezeCredits$Verb" "word" "Ljava/lang/String;") (by decide +kernel)
  obtain ⟨hSt, hEn, hWd, ⟨tv, hVz, hVT⟩, hSw⟩ := id hE
  refine lv_iconst (v := 0) hx hb dX3_findVerb_0 (by decide) ?_
  refine lv_istore_n (lv' := [(3, .int 0), (0, .ref (x 0)), (1, .int (nI pp)), (2, .int (nI qq))]) hx hb dX3_findVerb_1 rfl hl (by decide) rfl (fun ls hl => ?_)
  refine fz_loop (σ := Nat) (pc := 2) (nL := 4) (fun k => [(0, .ref (x 0)), (1, .int (nI pp)), (2, .int (nI qq)), (3, .int (nI k))]) (fun k => (k ≤ 12) ∧ (vb_fd (fun i => vb_st (X 2) i pp qq) (12 - k) k = vb_find (X 2) pp qq)) (fun k => 12 - k) ?_ 0 (show (0 ≤ 12) ∧ (vb_fd (fun i => vb_st (X 2) i pp qq) (12 - 0) 0 = vb_find (X 2) pp qq) from ⟨(by omega), rfl⟩) ls (lv_sub hl [1, 2, 3, 0] rfl)
  rintro k ⟨hk, eV⟩ ih2 ls hl
  have hk : k ≤ 12 := hk
  have eV : vb_fd (fun i => vb_st (X 2) i pp qq) (12 - k) k = vb_find (X 2) pp qq := eV
  have hl : lv_has ls 4 [(0, .ref (x 0)), (1, .int (nI pp)), (2, .int (nI qq)), (3, .int (nI k))] := hl
  refine lv_iload_n hx hb dX3_findVerb_2 rfl (lv_at hl 3 rfl) ?_
  refine va_gets (v := .ref tv) hx hb hVz va_S.rf hown (hts (.fieldLink RX3 65 "FreezeCredits$CommandText" "VERBS" "[LFreezeCredits$Verb;") (by decide +kernel)) (fun _ h9 => h9) dX3_findVerb_3 ?_
  refine va_tlen (v := nI 12) hx hb hVT va_S.rf rfl dX3_findVerb_6 ?_
  refine fz_geN (tgt := 39) hx hb k 12 rfl rfl dX3_findVerb_7 (by decide) (by omega) (by omega) (fun c_1 => ?_) (fun c_1 => ?_)
  · skip
    refine lv_null hx hb dX3_findVerb_39 ?_
    exact W.aret (v := .null) hx hb hr (Or.inl ⟨_, rfl⟩) (Or.inl rfl) (fun t9 ht9 hW9 => ⟨none, rfl, (by rw [← eV, show 12 - k = 0 by omega, vb_fd]), ht9⟩) (fun _ h => nomatch h) dX3_findVerb_40
  · skip
    refine lv_aload_n hx hb dX3_findVerb_10 rfl (lv_at hl 0 rfl) ?_
    refine va_gets (v := .ref tv) hx hb hVz va_S.rf hown (hts (.fieldLink RX3 65 "FreezeCredits$CommandText" "VERBS" "[LFreezeCredits$Verb;") (by decide +kernel)) (fun _ h9 => h9) dX3_findVerb_11 ?_
    refine lv_iload_n hx hb dX3_findVerb_14 rfl (lv_at hl 3 rfl) ?_
    refine vb_tq hx hb hVT va_S.rf (i := (nI k)) (by rw [show nI k = nI k from rfl]; exact vp_in_nI (by omega) (by decide)) (v := .ref (ad k)) (by show _ = _; rw [show nI k = nI k from rfl, nI_clamp (by omega)]) dX3_findVerb_15 ?_
    refine vk_getf hx hb (hWd k (by omega)) va_S.rf hown (hts (.fieldLink RX3 69 "FreezeCredits$Verb" "word" "Ljava/lang/String;") (by decide +kernel)) (fun _ h9 => h9) dX3_findVerb_16 ?_
    refine lv_iload_n hx hb dX3_findVerb_19 rfl (lv_at hl 1 rfl) ?_
    refine lv_iload_n hx hb dX3_findVerb_20 rfl (lv_at hl 2 rfl) ?_
    refine fz_retR (va_runV (As := [.ref (adK k), .int (nI pp), .int (nI qq)]) (rest := []) ⟨hx, hb, hml, hown, hts⟩ (c_X3_stands l D cy x ad X vb adK adV k (by omega) pp qq hpq hq150) (cwV 3 hts gX3_findVerb_X3_stands rfl rfl rfl (by decide +kernel) ⟨Nat.le_of_ble_eq_true rfl, Nat.le_of_ble_eq_true rfl⟩) (fz_preV (ci := 2) (q0 := 0) hK hP rfl rfl rfl fz_St_bl (fun U hU hW => (fz_St.to (locs := []) (A := fun _ => False) (B := fun _ => False) hSt (by rw [hU]; exact va_S.rf) hW.alike (fun _ h => h)))) rfl rfl hl.1 rfl (lv_room (Nat.le_of_ble_eq_true rfl)) dX3_findVerb_21 ⟨Nat.zero_le _, Nat.zero_le _⟩) ?_
    refine fz_ifeqB (tgt := 33) hx hb dX3_findVerb_24 (by decide) (fun c_2 => ?_) (fun c_2 => ?_)
    · skip
      refine lv_iinc (v := nI (k + 1)) (lv' := [(3, .int (nI (k + 1))), (0, .ref (x 0)), (1, .int (nI pp)), (2, .int (nI qq))]) hx hb dX3_findVerb_33 hl (k := 3) rfl (fz_inc rfl) (by decide) rfl (fun ls hl => ?_)
      refine lv_goto (tgt := 2) hx hb dX3_findVerb_36 (by decide) ?_
      exact ih2 (k + 1) (show ((k + 1) ≤ 12) ∧ (vb_fd (fun i => vb_st (X 2) i pp qq) (12 - (k + 1)) (k + 1) = vb_find (X 2) pp qq) from ⟨(by omega), (by rw [← eV, vb_fd_n (f := fun i => vb_st (X 2) i pp qq) (k := k) (n := 12 - k) (by omega) c_2, show 12 - (k + 1) = 12 - k - 1 by omega])⟩) (by show 12 - (k + 1) < 12 - k; omega) ls (lv_sub hl [1, 2, 3, 0] rfl)
    · skip
      refine va_gets (v := .ref tv) hx hb hVz va_S.rf hown (hts (.fieldLink RX3 65 "FreezeCredits$CommandText" "VERBS" "[LFreezeCredits$Verb;") (by decide +kernel)) (fun _ h9 => h9) dX3_findVerb_27 ?_
      refine lv_iload_n hx hb dX3_findVerb_30 rfl (lv_at hl 3 rfl) ?_
      refine vb_tq hx hb hVT va_S.rf (i := (nI k)) (by rw [show nI k = nI k from rfl]; exact vp_in_nI (by omega) (by decide)) (v := .ref (ad k)) (by show _ = _; rw [show nI k = nI k from rfl, nI_clamp (by omega)]) dX3_findVerb_31 ?_
      exact W.aret (v := .ref (ad k)) hx hb hr (Or.inl ⟨_, rfl⟩) (Or.inr ⟨_, rfl⟩) (fun t9 ht9 hW9 => ⟨some k, rfl, (by rw [← eV, vb_fd_y (f := fun i => vb_st (X 2) i pp qq) (k := k) (n := 12 - k) (by omega) c_2]), ht9⟩) (fun _ h => nomatch h) dX3_findVerb_32
set_option maxHeartbeats 4000000 in
set_option maxRecDepth 100000 in
/-- CommandText.readNumber -/
theorem c_X3_readNumber (l : Launch) (D : va_G) (cy : Nat → ClassId) (x : Nat → Nat) (ad : Nat → Nat) (X : Nat → Nat → Int32) (vb : Option Nat) (i : Nat) (hi4 : i < 4) (ln : Nat) (hln : X 0 0 = nI ln) (hln150 : ln ≤ 150) (pp : Nat) (hp : X 0 1 = nI pp) (hp9 : pp < 1000) : fz_MI l yX3_readNumber wsX3_readNumber 1 20 D cy [.ref (x 0), .int (nI i)] (XW cy ad x X vb) fz_T (fz_b (cx_ok (X 2) ln pp)) (XW cy ad x (fz_up (fz_up X 0 (upd (X 0) 1 (nI (cx_at (X 2) ln pp)))) 1 (cx_Z (X 2) ln pp i (X 1))) vb) := by
  refine Met.ofW (cc := cX3_readNumber) (maxL := 4) (ret := (some .boolean)) (by decide) rfl ?_
  intro p e s m args below meth c s₁ B hml hv
  obtain ⟨rfl, hP, hK, hD0, hE⟩ := hv
  have hx := B.exec
  have hb := B.bytes
  have hr := B.returns
  have hts := atoms_spec (ws := wsX3_readNumber) B.pre
  have hown : s.vm.findClass RX3 = some m.cls := findClass_of_methodNamed B.named
  have hlocks := B.notSynchronized
  have hD := fz_self hD0
  generalize hAe : fz_in (XW cy ad x X vb) = A at hD ⊢
  have hS : va_S A s.heap s.heap [] := va_S.rf
  have hl := lv_entry ([.ref (x 0), .int (nI i)]) (n := 4) (Nat.le_of_ble_eq_true rfl)
  rw [lg_entry_eq]
  generalize (lg_sl ([.ref (x 0), .int (nI i)]) ++ List.replicate (4 - (lg_sl ([.ref (x 0), .int (nI i)])).length) Slot.unset).toArray = ls at hl ⊢
  have hl : lv_has ls 4 [(0, .ref (x 0)), (1, .int (nI i))] := hl
  have k_23 := hts (.fieldLink RX3 23 "FreezeCredits$CommandText" "at" "I") (by decide +kernel)
  have inX3 : ∀ w ∈ u_ws RX3 TX3 5, w ∈ wsX3_readNumber := by decide +kernel
  have k_9 := hts (.fieldLink RX3 9 "FreezeCredits$CommandText" "numbers" "[I") (by decide +kernel)
  have hsp := tx_R_sp (X 2) ln pp
  unfold tx_R at hsp
  refine lv_aload_n hx hb dX3_readNumber_0 rfl (lv_at hl 0 rfl) ?_
  refine fz_retR (va_runV (As := []) (rest := []) ⟨hx, hb, hml, hown, hts⟩ (c_X3_next l D cy x ad X vb ln hln hln150 pp hp (by omega)) (cwV 0 hts gX3_readNumber_X3_next rfl rfl rfl (by decide +kernel) ⟨Nat.le_of_ble_eq_true rfl, Nat.le_of_ble_eq_true rfl⟩) (fz_preV (ci := 2) (q0 := 0) hK hP rfl rfl rfl fz_T_bl (fun _ _ _ => trivial)) rfl rfl hl.1 rfl (lv_room (Nat.le_of_ble_eq_true rfl)) dX3_readNumber_1 ⟨Nat.zero_le _, Nat.zero_le _⟩) ?_
  refine lv_bipush (v := 32) hx hb dX3_readNumber_4 (by decide) ?_
  refine lv_icmp_eq (tgt := 11) hx hb dX3_readNumber_6 (by decide) (fun c_1 => ?_) (fun c_1 => ?_)
  · skip
    refine lv_aload_n hx hb dX3_readNumber_11 rfl (lv_at hl 0 rfl) ?_
    refine fz_retMV (ws' := XE cy ad x (X 0 0) (nI (tx_sp (X 2) ln pp)) (X 1) (X 2) vb) (va_runV (As := []) (rest := []) ⟨hx, hb, hml, hown, hts⟩ (c_X3_skipSpaces l D cy x ad X vb ln hln hln150 pp hp (by omega)) (cwV 0 hts gX3_readNumber_X3_skipSpaces rfl rfl rfl (by decide +kernel) ⟨Nat.le_of_ble_eq_true rfl, Nat.le_of_ble_eq_true rfl⟩) (fz_preMV (ci := 2) (q0 := 0) hK hP hD rfl rfl rfl fz_T_bl (fun _ _ _ => trivial)) rfl rfl hl.1 rfl (lv_room (Nat.le_of_ble_eq_true rfl)) dX3_readNumber_12 ⟨Nat.zero_le _, Nat.zero_le _⟩) hP hD hS [0, 1, 2] [] rfl rfl [true, true, true] (And.intro rfl (And.intro rfl (And.intro rfl trivial))) rfl rfl (fun H locs hP hD hS => ?_)
    have hP : va_P D vwCl (XE cy ad x (X 0 0) (nI (tx_sp (X 2) ln pp)) (X 1) (X 2) vb) H := hP
    have hD : va_D A (XE cy ad x (X 0 0) (nI (tx_sp (X 2) ln pp)) (X 1) (X 2) vb) := hD
    refine lv_aload_n hx hb dX3_readNumber_15 rfl (lv_at hl 0 rfl) ?_
    refine fz_retR (va_runV (As := []) (rest := []) ⟨hx, hb, hml, hown, hts⟩ (c_X3_next l D cy x ad (fz_up X 0 (upd (X 0) 1 (nI (tx_sp (X 2) ln pp)))) vb ln hln hln150 (tx_sp (X 2) ln pp) rfl (by omega)) (cwV 0 hts gX3_readNumber_X3_next rfl rfl rfl (by decide +kernel) ⟨Nat.le_of_ble_eq_true rfl, Nat.le_of_ble_eq_true rfl⟩) (fz_preV (ci := 2) (q0 := 0) hK hP rfl rfl rfl fz_T_bl (fun _ _ _ => trivial)) rfl rfl hl.1 rfl (lv_room (Nat.le_of_ble_eq_true rfl)) dX3_readNumber_16 ⟨Nat.zero_le _, Nat.zero_le _⟩) ?_
    refine fz_top (show _ = tx_at (X 2) ln (tx_sp (X 2) ln pp) from rfl) ?_
    refine fz_retR (va_runS (As := [.int (tx_at (X 2) ln (tx_sp (X 2) ln pp))]) (rest := []) ⟨hx, hb, hml, hown, hts⟩ (c_X3_isDigit l D cy (tx_at (X 2) ln (tx_sp (X 2) ln pp))) (va_cwS 1 hts gX3_readNumber_X3_isDigit rfl rfl rfl (by decide +kernel) ⟨Nat.le_of_ble_eq_true rfl, Nat.le_of_ble_eq_true rfl⟩) (fz_preS hK (fz_nil) fz_T_bl (fun _ _ _ => trivial)) rfl rfl hl.1 rfl (lv_room (Nat.le_of_ble_eq_true rfl)) dX3_readNumber_19 ⟨Nat.zero_le _, Nat.zero_le _⟩) ?_
    refine fz_ifneB (tgt := 27) hx hb dX3_readNumber_22 (by decide) (fun c_2 => ?_) (fun c_2 => ?_)
    · skip
      refine lv_iconst (v := 0) hx hb dX3_readNumber_27 (by decide) ?_
      refine lv_istore_n (lv' := [(2, .int 0), (0, .ref (x 0)), (1, .int (nI i))]) hx hb dX3_readNumber_28 rfl hl (by decide) rfl (fun ls hl => ?_)
      refine lv_iconst (v := 0) hx hb dX3_readNumber_29 (by decide) ?_
      refine lv_istore_n (lv' := [(3, .int 0), (2, .int 0), (0, .ref (x 0)), (1, .int (nI i))]) hx hb dX3_readNumber_30 rfl hl (by decide) rfl (fun ls hl => ?_)
      refine fz_loopM (σ := Nat × Nat × Int32) (pc := 31) (nL := 4) (fun x9 => match x9 with | (d, eb, v) => [(0, .ref (x 0)), (1, .int (nI i)), (2, .int v), (3, .int (nI d))]) (fun x9 => match x9 with | (d, eb, v) => XE cy ad x (X 0 0) (nI eb) (X 1) (X 2) vb) (fun x9 => match x9 with | (d, eb, v) => (d ≤ 3) ∧ (eb = tx_sp (X 2) ln pp + d) ∧ (tx_nd (X 2) ln (3 - d) eb v = tx_ne (X 2) ln pp)) (fun x9 => match x9 with | (d, eb, v) => 3 - d) ?_ (0, tx_sp (X 2) ln pp, 0) (show (0 ≤ 3) ∧ ((tx_sp (X 2) ln pp) = tx_sp (X 2) ln pp + 0) ∧ (tx_nd (X 2) ln (3 - 0) (tx_sp (X 2) ln pp) 0 = tx_ne (X 2) ln pp) from ⟨(by omega), rfl, rfl⟩) _ _ ls hP hD hS (lv_sub hl [2, 3, 1, 0] rfl)
      rintro ⟨d, eb, v⟩ ⟨hd, he, eN⟩ ih31 H locs ls hP hD hS hl
      have hP : va_P D vwCl (XE cy ad x (X 0 0) (nI eb) (X 1) (X 2) vb) H := hP
      have hD : va_D A (XE cy ad x (X 0 0) (nI eb) (X 1) (X 2) vb) := hD
      have hd : d ≤ 3 := hd
      have he : eb = tx_sp (X 2) ln pp + d := he
      have eN : tx_nd (X 2) ln (3 - d) eb v = tx_ne (X 2) ln pp := eN
      have hl : lv_has ls 4 [(0, .ref (x 0)), (1, .int (nI i)), (2, .int v), (3, .int (nI d))] := hl
      refine lv_iload_n hx hb dX3_readNumber_31 rfl (lv_at hl 3 rfl) ?_
      refine lv_iconst (v := 3) hx hb dX3_readNumber_32 (by decide) ?_
      refine fz_geN (tgt := 75) hx hb d 3 rfl rfl dX3_readNumber_33 (by decide) (by omega) (by omega) (fun c_3 => ?_) (fun c_3 => ?_)
      · skip
        have eN9 : tx_ne (X 2) ln pp = (eb, v) := by rw [← eN, tx_nd_0 (by omega)]
        refine lv_aload_n hx hb dX3_readNumber_75 rfl (lv_at hl 0 rfl) ?_
        refine va_get (D := D) (ci := 2) (v := .ref (x 1)) (C := RX3) (T := TX3) (N := 5) hx hb hts inX3 hown hK hP 0 rfl rfl 2 (by decide) k_9 (fun _ h9 => h9) rfl dX3_readNumber_76 ?_
        refine lv_iload_n hx hb dX3_readNumber_79 rfl (lv_at hl 1 rfl) ?_
        refine lv_iload_n hx hb dX3_readNumber_80 rfl (lv_at hl 2 rfl) ?_
        refine fz_iast (f := X 1) hx hb hK hP hD hS 1 0 rfl rfl i rfl (by omega) (by decide) dX3_readNumber_81 (fun H locs hP hD hS => ?_)
        have hP : va_P D vwCl (XE cy ad x (X 0 0) (nI eb) (upd (X 1) i v) (X 2) vb) H := hP
        have hD : va_D A (XE cy ad x (X 0 0) (nI eb) (upd (X 1) i v) (X 2) vb) := hD
        refine lv_iconst (v := 1) hx hb dX3_readNumber_82 (by decide) ?_
        exact W.zret (v := 1) hx hb hr (by decide) (fun t9 ht9 hW9 => ⟨⟨_, (), rfl, (by rw [cx_ok, decide_eq_true c_1, c_2]; rfl), fz_to ht9 (by rw [cx_at, if_pos c_1, cx_Z, cx_ok, c_2, decide_eq_true c_1, eN9]; exact hP)⟩, hS.F ht9⟩) hS.2.2 dX3_readNumber_83
      · skip
        refine lv_aload_n hx hb dX3_readNumber_36 rfl (lv_at hl 0 rfl) ?_
        refine fz_retR (va_runV (As := []) (rest := []) ⟨hx, hb, hml, hown, hts⟩ (c_X3_next l D cy x ad (fz_up X 0 (upd (X 0) 1 (nI eb))) vb ln hln hln150 eb rfl (by omega)) (cwV 0 hts gX3_readNumber_X3_next rfl rfl rfl (by decide +kernel) ⟨Nat.le_of_ble_eq_true rfl, Nat.le_of_ble_eq_true rfl⟩) (fz_preV (ci := 2) (q0 := 0) hK hP rfl rfl rfl fz_T_bl (fun _ _ _ => trivial)) rfl rfl hl.1 rfl (lv_room (Nat.le_of_ble_eq_true rfl)) dX3_readNumber_37 ⟨Nat.zero_le _, Nat.zero_le _⟩) ?_
        refine fz_top (show _ = tx_at (X 2) ln eb from rfl) ?_
        refine fz_retR (va_runS (As := [.int (tx_at (X 2) ln eb)]) (rest := []) ⟨hx, hb, hml, hown, hts⟩ (c_X3_isDigit l D cy (tx_at (X 2) ln eb)) (va_cwS 1 hts gX3_readNumber_X3_isDigit rfl rfl rfl (by decide +kernel) ⟨Nat.le_of_ble_eq_true rfl, Nat.le_of_ble_eq_true rfl⟩) (fz_preS hK (fz_nil) fz_T_bl (fun _ _ _ => trivial)) rfl rfl hl.1 rfl (lv_room (Nat.le_of_ble_eq_true rfl)) dX3_readNumber_40 ⟨Nat.zero_le _, Nat.zero_le _⟩) ?_
        refine fz_ifeqB (tgt := 75) hx hb dX3_readNumber_43 (by decide) (fun c_4 => ?_) (fun c_4 => ?_)
        · skip
          have eN9 : tx_ne (X 2) ln pp = (eb, v) := by rw [← eN, tx_nd_n c_4]
          refine lv_aload_n hx hb dX3_readNumber_75 rfl (lv_at hl 0 rfl) ?_
          refine va_get (D := D) (ci := 2) (v := .ref (x 1)) (C := RX3) (T := TX3) (N := 5) hx hb hts inX3 hown hK hP 0 rfl rfl 2 (by decide) k_9 (fun _ h9 => h9) rfl dX3_readNumber_76 ?_
          refine lv_iload_n hx hb dX3_readNumber_79 rfl (lv_at hl 1 rfl) ?_
          refine lv_iload_n hx hb dX3_readNumber_80 rfl (lv_at hl 2 rfl) ?_
          refine fz_iast (f := X 1) hx hb hK hP hD hS 1 0 rfl rfl i rfl (by omega) (by decide) dX3_readNumber_81 (fun H locs hP hD hS => ?_)
          have hP : va_P D vwCl (XE cy ad x (X 0 0) (nI eb) (upd (X 1) i v) (X 2) vb) H := hP
          have hD : va_D A (XE cy ad x (X 0 0) (nI eb) (upd (X 1) i v) (X 2) vb) := hD
          refine lv_iconst (v := 1) hx hb dX3_readNumber_82 (by decide) ?_
          exact W.zret (v := 1) hx hb hr (by decide) (fun t9 ht9 hW9 => ⟨⟨_, (), rfl, (by rw [cx_ok, decide_eq_true c_1, c_2]; rfl), fz_to ht9 (by rw [cx_at, if_pos c_1, cx_Z, cx_ok, c_2, decide_eq_true c_1, eN9]; exact hP)⟩, hS.F ht9⟩) hS.2.2 dX3_readNumber_83
        · skip
          refine lv_bipush (v := 10) hx hb dX3_readNumber_46 (by decide) ?_
          refine lv_iload_n hx hb dX3_readNumber_48 rfl (lv_at hl 2 rfl) ?_
          refine lv_imul hx hb dX3_readNumber_49 ?_
          refine lv_aload_n hx hb dX3_readNumber_50 rfl (lv_at hl 0 rfl) ?_
          refine fz_retR (va_runV (As := []) (rest := [.int (10 * v)]) ⟨hx, hb, hml, hown, hts⟩ (c_X3_next l D cy x ad (fz_up X 0 (upd (X 0) 1 (nI eb))) vb ln hln hln150 eb rfl (by omega)) (cwV 0 hts gX3_readNumber_X3_next rfl rfl rfl (by decide +kernel) ⟨Nat.le_of_ble_eq_true rfl, Nat.le_of_ble_eq_true rfl⟩) (fz_preV (ci := 2) (q0 := 0) hK hP rfl rfl rfl fz_T_bl (fun _ _ _ => trivial)) rfl rfl hl.1 rfl (lv_room (Nat.le_of_ble_eq_true rfl)) dX3_readNumber_51 ⟨Nat.zero_le _, Nat.zero_le _⟩) ?_
          refine fz_top (show _ = tx_at (X 2) ln eb from rfl) ?_
          refine lv_iadd hx hb dX3_readNumber_54 ?_
          refine lv_bipush (v := 48) hx hb dX3_readNumber_55 (by decide) ?_
          refine lv_isub hx hb dX3_readNumber_57 ?_
          refine lv_istore_n (lv' := [(2, .int (((10 * v) + (tx_at (X 2) ln eb)) - 48)), (0, .ref (x 0)), (1, .int (nI i)), (3, .int (nI d))]) hx hb dX3_readNumber_58 rfl hl (by decide) rfl (fun ls hl => ?_)
          refine lv_aload_n hx hb dX3_readNumber_59 rfl (lv_at hl 1 rfl) ?_
          refine lv_dup hx hb dX3_readNumber_60 rfl ?_
          refine va_get (D := D) (ci := 2) (v := .int (nI eb)) (C := RX3) (T := TX3) (N := 5) hx hb hts inX3 hown hK hP 0 rfl rfl 4 (by decide) k_23 (fun _ h9 => h9) rfl dX3_readNumber_61 ?_
          refine lv_iconst (v := 1) hx hb dX3_readNumber_64 (by decide) ?_
          refine fz_iaddN hx hb eb 1 rfl rfl dX3_readNumber_65 ?_
          refine va_put (D := D) (ci := 2) (v := .int (nI (eb + 1))) (ty := tyX3 4) (C := RX3) (T := TX3) (N := 5) hx hb hts inX3 tyX3 tyX3_ok nmX3 hown hK hP hD hS 0 rfl rfl 4 (by decide) k_23 (fun _ h9 => h9) rfl (by decide +kernel) rfl rfl (Nat.le_of_ble_eq_true rfl) dX3_readNumber_66 (fun H locs hP hD hS => ?_)
          have hP : va_P D vwCl (XE cy ad x (X 0 0) (nI (eb + 1)) (X 1) (X 2) vb) H := hP
          have hD : va_D A (XE cy ad x (X 0 0) (nI (eb + 1)) (X 1) (X 2) vb) := hD
          refine lv_iinc (v := nI (d + 1)) (lv' := [(3, .int (nI (d + 1))), (2, .int (((10 * v) + (tx_at (X 2) ln eb)) - 48)), (0, .ref (x 0)), (1, .int (nI i))]) hx hb dX3_readNumber_69 hl (k := 3) rfl (fz_inc rfl) (by decide) rfl (fun ls hl => ?_)
          refine lv_goto (tgt := 31) hx hb dX3_readNumber_72 (by decide) ?_
          exact ih31 (d + 1, eb + 1, ((10 * v) + (tx_at (X 2) ln eb)) - 48) (show ((d + 1) ≤ 3) ∧ ((eb + 1) = tx_sp (X 2) ln pp + (d + 1)) ∧ (tx_nd (X 2) ln (3 - (d + 1)) (eb + 1) (((10 * v) + (tx_at (X 2) ln eb)) - 48) = tx_ne (X 2) ln pp) from ⟨(by omega), (by omega), (by rw [← eN, tx_nd_y (k := 3 - d) (by omega) c_4, show 3 - (d + 1) = 3 - d - 1 by omega])⟩) (by show 3 - (d + 1) < 3 - d; omega) _ _ ls hP hD hS (lv_sub hl [2, 3, 1, 0] rfl)
    · skip
      refine lv_iconst (v := 0) hx hb dX3_readNumber_25 (by decide) ?_
      exact W.zret (v := 0) hx hb hr (by decide) (fun t9 ht9 hW9 => ⟨⟨_, (), rfl, (by rw [cx_ok, decide_eq_true c_1, c_2]; rfl), fz_to ht9 (by rw [cx_at, if_pos c_1, cx_Z, cx_ok, c_2, decide_eq_true c_1]; exact hP)⟩, hS.F ht9⟩) hS.2.2 dX3_readNumber_26
  · skip
    refine lv_iconst (v := 0) hx hb dX3_readNumber_9 (by decide) ?_
    exact W.zret (v := 0) hx hb hr (by decide) (fun t9 ht9 hW9 => ⟨⟨_, (), rfl, (by rw [cx_ok, decide_eq_false c_1]; rfl), fz_to ht9 (by rw [cx_at, if_neg c_1, cx_Z, cx_ok, decide_eq_false c_1, hp.symm]; exact hP)⟩, hS.F ht9⟩) hS.2.2 dX3_readNumber_10
set_option maxHeartbeats 4000000 in
set_option maxRecDepth 100000 in
/-- CommandText.readCommand -/
theorem c_X3_readCommand (l : Launch) (D : va_G) (cy : Nat → ClassId) (x : Nat → Nat) (ad : Nat → Nat) (X : Nat → Nat → Int32) (vb : Option Nat) (adK adV : Nat → Nat) (ln : Nat) (hln : X 0 0 = nI ln) (hln150 : ln ≤ 150) (pp : Nat) (hp : X 0 1 = nI pp) (hp9 : pp < ln) : fz_MI l yX3_readCommand wsX3_readCommand 6 132 D cy [.ref (x 0)] (XW cy ad x X vb) (fz_Vb ad adK adV (fz_in (XW cy ad x X vb))) ((cx_rd (X 2) ln pp (X 1)).1) (XW cy ad x (fz_up (fz_up X 0 (upd (X 0) 1 (nI (cx_rd (X 2) ln pp (X 1)).2.1))) 1 (cx_rd (X 2) ln pp (X 1)).2.2.2) ((cx_rd (X 2) ln pp (X 1)).2.2.1)) := by
  refine Met.ofW (cc := cX3_readCommand) (maxL := 3) (ret := (some .int)) (by decide) rfl ?_
  intro p e s m args below meth c s₁ B hml hv
  obtain ⟨rfl, hP, hK, hD0, hE⟩ := hv
  have hx := B.exec
  have hb := B.bytes
  have hr := B.returns
  have hts := atoms_spec (ws := wsX3_readCommand) B.pre
  have hown : s.vm.findClass RX3 = some m.cls := findClass_of_methodNamed B.named
  have hlocks := B.notSynchronized
  have hD := fz_self hD0
  generalize hAe : fz_in (XW cy ad x X vb) = A at hD hE ⊢
  have hS : va_S A s.heap s.heap [] := va_S.rf
  have hl := lv_entry ([.ref (x 0)]) (n := 3) (Nat.le_of_ble_eq_true rfl)
  rw [lg_entry_eq]
  generalize (lg_sl ([.ref (x 0)]) ++ List.replicate (3 - (lg_sl ([.ref (x 0)])).length) Slot.unset).toArray = ls at hl ⊢
  have hl : lv_has ls 3 [(0, .ref (x 0))] := hl
  have k_23 := hts (.fieldLink RX3 23 "FreezeCredits$CommandText" "at" "I") (by decide +kernel)
  have inX3 : ∀ w ∈ u_ws RX3 TX3 5, w ∈ wsX3_readCommand := by decide +kernel
  have k_47 := hts (.fieldLink RX3 47 "FreezeCredits$CommandText" "verb" "LFreezeCredits$Verb;") (by decide +kernel)
  have k_51 := hts (.fieldLink RX3 51 "FreezeCredits$Verb" "numbers" "I") (by decide +kernel)
  have hle9 := tx_R_le (X 2) ln pp
  unfold tx_R at hle9
  refine lv_aload_n hx hb dX3_readCommand_0 rfl (lv_at hl 0 rfl) ?_
  refine va_get (D := D) (ci := 2) (v := .int (X 0 1)) (C := RX3) (T := TX3) (N := 5) hx hb hts inX3 hown hK hP 0 rfl rfl 4 (by decide) k_23 (fun _ h9 => h9) rfl dX3_readCommand_1 ?_
  refine lv_istore_n (lv' := [(1, .int (X 0 1)), (0, .ref (x 0))]) hx hb dX3_readCommand_4 rfl hl (by decide) rfl (fun ls hl => ?_)
  refine lv_aload_n hx hb dX3_readCommand_5 rfl (lv_at hl 1 rfl) ?_
  refine fz_retMV (ws' := XE cy ad x (X 0 0) (nI (tx_le (X 2) ln pp)) (X 1) (X 2) vb) (va_runV (As := []) (rest := []) ⟨hx, hb, hml, hown, hts⟩ (c_X3_skipLetters l D cy x ad X vb ln hln hln150 pp hp (by omega)) (cwV 0 hts gX3_readCommand_X3_skipLetters rfl rfl rfl (by decide +kernel) ⟨Nat.le_of_ble_eq_true rfl, Nat.le_of_ble_eq_true rfl⟩) (fz_preMV (ci := 2) (q0 := 0) hK hP hD rfl rfl rfl fz_T_bl (fun _ _ _ => trivial)) rfl rfl hl.1 rfl (lv_room (Nat.le_of_ble_eq_true rfl)) dX3_readCommand_6 ⟨Nat.zero_le _, Nat.zero_le _⟩) hP hD hS [0, 1, 2] [] rfl rfl [true, true, true] (And.intro rfl (And.intro rfl (And.intro rfl trivial))) rfl rfl (fun H locs hP hD hS => ?_)
  have hP : va_P D vwCl (XE cy ad x (X 0 0) (nI (tx_le (X 2) ln pp)) (X 1) (X 2) vb) H := hP
  have hD : va_D A (XE cy ad x (X 0 0) (nI (tx_le (X 2) ln pp)) (X 1) (X 2) vb) := hD
  refine lv_aload_n hx hb dX3_readCommand_9 rfl (lv_at hl 1 rfl) ?_
  refine lv_aload_n hx hb dX3_readCommand_10 rfl (lv_at hl 1 rfl) ?_
  refine lv_iload_n hx hb dX3_readCommand_11 rfl (lv_at hl 0 rfl) ?_
  refine lv_aload_n hx hb dX3_readCommand_12 rfl (lv_at hl 1 rfl) ?_
  refine va_get (D := D) (ci := 2) (v := .int (nI (tx_le (X 2) ln pp))) (C := RX3) (T := TX3) (N := 5) hx hb hts inX3 hown hK hP 0 rfl rfl 4 (by decide) k_23 (fun _ h9 => h9) rfl dX3_readCommand_13 ?_
  refine fz_at1 (show X 0 1 = nI pp from hp) ?_
  refine fz_retRE (va_runV (As := [.int (nI pp), .int (nI (tx_le (X 2) ln pp))]) (rest := [.ref (x 0)]) ⟨hx, hb, hml, hown, hts⟩ (c_X3_findVerb l D cy x ad (fz_up X 0 (upd (X 0) 1 (nI (tx_le (X 2) ln pp)))) vb adK adV pp (tx_le (X 2) ln pp) (by omega) (by omega)) (cwV 2 hts gX3_readCommand_X3_findVerb rfl rfl rfl (by decide +kernel) ⟨Nat.le_of_ble_eq_true rfl, Nat.le_of_ble_eq_true rfl⟩) (fz_preV (ci := 2) (q0 := 0) hK hP rfl rfl rfl fz_Vb_bl (fun U hU hW => hE.to (by rw [hU]; exact hS) hW.alike (fun _ h => h.elim))) rfl rfl hl.1 rfl (lv_room (Nat.le_of_ble_eq_true rfl)) dX3_readCommand_16 ⟨Nat.zero_le _, Nat.zero_le _⟩) ?_
  refine va_put (D := D) (ci := 2) (v := va_re ad (vb_find (X 2) pp (tx_le (X 2) ln pp))) (ty := tyX3 1) (C := RX3) (T := TX3) (N := 5) hx hb hts inX3 tyX3 tyX3_ok nmX3 hown hK hP hD hS 0 rfl rfl 1 (by decide) k_47 (fun _ h9 => h9) rfl (by decide +kernel) rfl (fz_re_fits _ _) (Nat.le_of_ble_eq_true rfl) dX3_readCommand_19 (fun H locs hP hD hS => ?_)
  have hP : va_P D vwCl (XE cy ad x (X 0 0) (nI (tx_le (X 2) ln pp)) (X 1) (X 2) (vb_find (X 2) pp (tx_le (X 2) ln pp))) H := hP
  have hD : va_D A (XE cy ad x (X 0 0) (nI (tx_le (X 2) ln pp)) (X 1) (X 2) (vb_find (X 2) pp (tx_le (X 2) ln pp))) := hD
  refine lv_aload_n hx hb dX3_readCommand_22 rfl (lv_at hl 1 rfl) ?_
  refine va_get (D := D) (ci := 2) (v := va_re ad (vb_find (X 2) pp (tx_le (X 2) ln pp))) (C := RX3) (T := TX3) (N := 5) hx hb hts inX3 hown hK hP 0 rfl rfl 1 (by decide) k_47 (fun _ h9 => h9) rfl dX3_readCommand_23 ?_
  refine fz_ifnonnullE (tgt := 31) hx hb dX3_readCommand_26 (by decide) (fun w c_1 => ?_) (fun c_1 => ?_)
  · skip
    have hw := vb_find_lt c_1
    have hm4 := tx_many_le hw
    refine lv_iconst (v := 0) hx hb dX3_readCommand_31 (by decide) ?_
    refine lv_istore_n (lv' := [(2, .int 0), (1, .int (X 0 1)), (0, .ref (x 0))]) hx hb dX3_readCommand_32 rfl hl (by decide) rfl (fun ls hl => ?_)
    rw [show X 0 1 = nI pp from hp] at hl
    refine fz_loopM (σ := Nat × Nat × (Nat → Int32)) (pc := 33) (nL := 3) (fun x9 => match x9 with | (k, a, U) => [(0, .ref (x 0)), (1, .int (nI pp)), (2, .int (nI k))]) (fun x9 => match x9 with | (k, a, U) => XE cy ad x (X 0 0) (nI a) U (X 2) (vb_find (X 2) pp (tx_le (X 2) ln pp))) (fun x9 => match x9 with | (k, a, U) => (k ≤ tx_many w) ∧ (a ≤ pp ∨ a ≤ ln) ∧ (cx_ns (X 2) ln (tx_many w - k) k a U = cx_ns (X 2) ln (tx_many w) 0 (tx_le (X 2) ln pp) (X 1))) (fun x9 => match x9 with | (k, a, U) => tx_many w - k) ?_ (0, tx_le (X 2) ln pp, X 1) (show (0 ≤ tx_many w) ∧ ((tx_le (X 2) ln pp) ≤ pp ∨ (tx_le (X 2) ln pp) ≤ ln) ∧ (cx_ns (X 2) ln (tx_many w - 0) 0 (tx_le (X 2) ln pp) (X 1) = cx_ns (X 2) ln (tx_many w) 0 (tx_le (X 2) ln pp) (X 1)) from ⟨(Nat.zero_le _), (by omega), rfl⟩) _ _ ls hP hD hS (lv_sub hl [2, 1, 0] rfl)
    rintro ⟨k, a, U⟩ ⟨hk, ha, eN⟩ ih33 H locs ls hP hD hS hl
    have hP : va_P D vwCl (XE cy ad x (X 0 0) (nI a) U (X 2) (vb_find (X 2) pp (tx_le (X 2) ln pp))) H := hP
    have hD : va_D A (XE cy ad x (X 0 0) (nI a) U (X 2) (vb_find (X 2) pp (tx_le (X 2) ln pp))) := hD
    have hk : k ≤ tx_many w := hk
    have ha : a ≤ pp ∨ a ≤ ln := ha
    have eN : cx_ns (X 2) ln (tx_many w - k) k a U = cx_ns (X 2) ln (tx_many w) 0 (tx_le (X 2) ln pp) (X 1) := eN
    have hl : lv_has ls 3 [(0, .ref (x 0)), (1, .int (nI pp)), (2, .int (nI k))] := hl
    refine lv_iload_n hx hb dX3_readCommand_33 rfl (lv_at hl 2 rfl) ?_
    refine lv_aload_n hx hb dX3_readCommand_34 rfl (lv_at hl 0 rfl) ?_
    refine va_get (D := D) (ci := 2) (v := va_re ad (vb_find (X 2) pp (tx_le (X 2) ln pp))) (C := RX3) (T := TX3) (N := 5) hx hb hts inX3 hown hK hP 0 rfl rfl 1 (by decide) k_47 (fun _ h9 => h9) rfl dX3_readCommand_35 ?_
    refine fz_topv (show va_re ad (vb_find (X 2) pp (tx_le (X 2) ln pp)) = .ref (ad w) from by rw [c_1]; rfl) ?_
    refine vk_getf hx hb (fz_Vb.num hE (i := w) (by omega)) hS hown (hts (.fieldLink RX3 51 "FreezeCredits$Verb" "numbers" "I") (by decide +kernel)) (fun _ h9 => h9) dX3_readCommand_38 ?_
    refine fz_geN (tgt := 63) hx hb k (tx_many w) rfl rfl dX3_readCommand_41 (by decide) (by omega) (by omega) (fun c_2 => ?_) (fun c_2 => ?_)
    · skip
      have hsp9 := tx_R_sp (X 2) ln a
      unfold tx_R at hsp9
      refine lv_aload_n hx hb dX3_readCommand_63 rfl (lv_at hl 0 rfl) ?_
      refine fz_retMV (ws' := XE cy ad x (X 0 0) (nI (tx_sp (X 2) ln a)) U (X 2) (vb_find (X 2) pp (tx_le (X 2) ln pp))) (va_runV (As := []) (rest := []) ⟨hx, hb, hml, hown, hts⟩ (c_X3_skipSpaces l D cy x ad (fz_up (fz_up X 0 (upd (X 0) 1 (nI a))) 1 U) (vb_find (X 2) pp (tx_le (X 2) ln pp)) ln hln hln150 a rfl (by omega)) (cwV 0 hts gX3_readCommand_X3_skipSpaces rfl rfl rfl (by decide +kernel) ⟨Nat.le_of_ble_eq_true rfl, Nat.le_of_ble_eq_true rfl⟩) (fz_preMV (ci := 2) (q0 := 0) hK hP hD rfl rfl rfl fz_T_bl (fun _ _ _ => trivial)) rfl rfl hl.1 rfl (lv_room (Nat.le_of_ble_eq_true rfl)) dX3_readCommand_64 ⟨Nat.zero_le _, Nat.zero_le _⟩) hP hD hS [0, 1, 2] [] rfl rfl [true, true, true] (And.intro rfl (And.intro rfl (And.intro rfl trivial))) rfl rfl (fun H locs hP hD hS => ?_)
      have hP : va_P D vwCl (XE cy ad x (X 0 0) (nI (tx_sp (X 2) ln a)) U (X 2) (vb_find (X 2) pp (tx_le (X 2) ln pp))) H := hP
      have hD : va_D A (XE cy ad x (X 0 0) (nI (tx_sp (X 2) ln a)) U (X 2) (vb_find (X 2) pp (tx_le (X 2) ln pp))) := hD
      refine lv_aload_n hx hb dX3_readCommand_67 rfl (lv_at hl 0 rfl) ?_
      refine fz_retR (va_runV (As := []) (rest := []) ⟨hx, hb, hml, hown, hts⟩ (c_X3_next l D cy x ad (fz_up (fz_up X 0 (upd (X 0) 1 (nI (tx_sp (X 2) ln a)))) 1 U) (vb_find (X 2) pp (tx_le (X 2) ln pp)) ln hln hln150 (tx_sp (X 2) ln a) rfl (by omega)) (cwV 0 hts gX3_readCommand_X3_next rfl rfl rfl (by decide +kernel) ⟨Nat.le_of_ble_eq_true rfl, Nat.le_of_ble_eq_true rfl⟩) (fz_preV (ci := 2) (q0 := 0) hK hP rfl rfl rfl fz_T_bl (fun _ _ _ => trivial)) rfl rfl hl.1 rfl (lv_room (Nat.le_of_ble_eq_true rfl)) dX3_readCommand_68 ⟨Nat.zero_le _, Nat.zero_le _⟩) ?_
      refine fz_top (show _ = tx_at (X 2) ln (tx_sp (X 2) ln a) from rfl) ?_
      refine lv_bipush (v := 59) hx hb dX3_readCommand_71 (by decide) ?_
      refine lv_icmp_eq (tgt := 81) hx hb dX3_readCommand_73 (by decide) (fun c_3 => ?_) (fun c_3 => ?_)
      · skip
        refine lv_aload_n hx hb dX3_readCommand_81 rfl (lv_at hl 0 rfl) ?_
        refine lv_dup hx hb dX3_readCommand_82 rfl ?_
        refine va_get (D := D) (ci := 2) (v := .int (nI (tx_sp (X 2) ln a))) (C := RX3) (T := TX3) (N := 5) hx hb hts inX3 hown hK hP 0 rfl rfl 4 (by decide) k_23 (fun _ h9 => h9) rfl dX3_readCommand_83 ?_
        refine lv_iconst (v := 1) hx hb dX3_readCommand_86 (by decide) ?_
        refine fz_iaddN hx hb (tx_sp (X 2) ln a) 1 rfl rfl dX3_readCommand_87 ?_
        refine va_put (D := D) (ci := 2) (v := .int (nI ((tx_sp (X 2) ln a) + 1))) (ty := tyX3 4) (C := RX3) (T := TX3) (N := 5) hx hb hts inX3 tyX3 tyX3_ok nmX3 hown hK hP hD hS 0 rfl rfl 4 (by decide) k_23 (fun _ h9 => h9) rfl (by decide +kernel) rfl rfl (Nat.le_of_ble_eq_true rfl) dX3_readCommand_88 (fun H locs hP hD hS => ?_)
        have hP : va_P D vwCl (XE cy ad x (X 0 0) (nI ((tx_sp (X 2) ln a) + 1)) U (X 2) (vb_find (X 2) pp (tx_le (X 2) ln pp))) H := hP
        have hD : va_D A (XE cy ad x (X 0 0) (nI ((tx_sp (X 2) ln a) + 1)) U (X 2) (vb_find (X 2) pp (tx_le (X 2) ln pp))) := hD
        have eR : cx_rd (X 2) ln pp (X 1) = (-1, tx_sp (X 2) ln a + 1, some w, U) := by rw [cx_rd_some c_1, ← eN, show tx_many w - k = 0 by omega, cx_ns, cx_rd2, cond_true, if_pos c_3]
        rw [c_1] at hP
        refine lv_iconst (v := (-1)) hx hb dX3_readCommand_91 (by decide) ?_
        exact W.iret (v := (-1)) hx hb hr (fun t9 ht9 hW9 => ⟨⟨_, (), rfl, (by rw [eR]), fz_to ht9 (by rw [eR]; exact hP)⟩, hS.F ht9⟩) hS.2.2 dX3_readCommand_92
      · skip
        have eR : cx_rd (X 2) ln pp (X 1) = (nI (tx_sp (X 2) ln a), tx_sp (X 2) ln a, some w, U) := by rw [cx_rd_some c_1, ← eN, show tx_many w - k = 0 by omega, cx_ns, cx_rd2, cond_true, if_neg c_3]
        rw [c_1] at hP
        refine lv_aload_n hx hb dX3_readCommand_76 rfl (lv_at hl 0 rfl) ?_
        refine va_get (D := D) (ci := 2) (v := .int (nI (tx_sp (X 2) ln a))) (C := RX3) (T := TX3) (N := 5) hx hb hts inX3 hown hK hP 0 rfl rfl 4 (by decide) k_23 (fun _ h9 => h9) rfl dX3_readCommand_77 ?_
        exact W.iret (v := (nI (tx_sp (X 2) ln a))) hx hb hr (fun t9 ht9 hW9 => ⟨⟨_, (), rfl, (by rw [eR]), fz_to ht9 (by rw [eR]; exact hP)⟩, hS.F ht9⟩) hS.2.2 dX3_readCommand_80
    · skip
      refine lv_aload_n hx hb dX3_readCommand_44 rfl (lv_at hl 0 rfl) ?_
      refine lv_iload_n hx hb dX3_readCommand_45 rfl (lv_at hl 2 rfl) ?_
      refine fz_retM (ws' := XE cy ad x (X 0 0) (nI (cx_at (X 2) ln a)) (cx_Z (X 2) ln a k U) (X 2) (vb_find (X 2) pp (tx_le (X 2) ln pp))) (va_runV (As := [.int (nI k)]) (rest := []) ⟨hx, hb, hml, hown, hts⟩ (c_X3_readNumber l D cy x ad (fz_up (fz_up X 0 (upd (X 0) 1 (nI a))) 1 U) (vb_find (X 2) pp (tx_le (X 2) ln pp)) k (by omega) ln hln hln150 a rfl (by omega)) (cwV 1 hts gX3_readCommand_X3_readNumber rfl rfl rfl (by decide +kernel) ⟨Nat.le_of_ble_eq_true rfl, Nat.le_of_ble_eq_true rfl⟩) (fz_preMV (ci := 2) (q0 := 0) hK hP hD rfl rfl rfl fz_T_bl (fun _ _ _ => trivial)) rfl rfl hl.1 rfl (lv_room (Nat.le_of_ble_eq_true rfl)) dX3_readCommand_46 ⟨Nat.zero_le _, Nat.zero_le _⟩) hP hD hS [0, 1, 2] [] rfl rfl [true, true, true] (And.intro rfl (And.intro rfl (And.intro rfl trivial))) rfl rfl (fun H locs hP hD hS => ?_)
      have hP : va_P D vwCl (XE cy ad x (X 0 0) (nI (cx_at (X 2) ln a)) (cx_Z (X 2) ln a k U) (X 2) (vb_find (X 2) pp (tx_le (X 2) ln pp))) H := hP
      have hD : va_D A (XE cy ad x (X 0 0) (nI (cx_at (X 2) ln a)) (cx_Z (X 2) ln a k U) (X 2) (vb_find (X 2) pp (tx_le (X 2) ln pp))) := hD
      refine fz_top (show _ = fz_b (cx_ok (X 2) ln a) from rfl) ?_
      refine fz_ifneB (tgt := 57) hx hb dX3_readCommand_49 (by decide) (fun c_4 => ?_) (fun c_4 => ?_)
      · skip
        refine lv_iinc (v := nI (k + 1)) (lv' := [(2, .int (nI (k + 1))), (0, .ref (x 0)), (1, .int (nI pp))]) hx hb dX3_readCommand_57 hl (k := 2) rfl (fz_inc rfl) (by decide) rfl (fun ls hl => ?_)
        refine lv_goto (tgt := 33) hx hb dX3_readCommand_60 (by decide) ?_
        exact ih33 (k + 1, cx_at (X 2) ln a, cx_Z (X 2) ln a k U) (show ((k + 1) ≤ tx_many w) ∧ ((cx_at (X 2) ln a) ≤ pp ∨ (cx_at (X 2) ln a) ≤ ln) ∧ (cx_ns (X 2) ln (tx_many w - (k + 1)) (k + 1) (cx_at (X 2) ln a) (cx_Z (X 2) ln a k U) = cx_ns (X 2) ln (tx_many w) 0 (tx_le (X 2) ln pp) (X 1)) from ⟨(by omega), (by have hz := (cx_R_at (X 2) ln a).2; omega), (by rw [← eN, cx_ns_y (k := tx_many w - k) (by omega) c_4, show tx_many w - (k + 1) = tx_many w - k - 1 by omega])⟩) (by show tx_many w - (k + 1) < tx_many w - k; omega) _ _ ls hP hD hS (lv_sub hl [1, 2, 0] rfl)
      · skip
        have eR : cx_rd (X 2) ln pp (X 1) = (nI (cx_at (X 2) ln a), cx_at (X 2) ln a, some w, cx_Z (X 2) ln a k U) := by rw [cx_rd_some c_1, ← eN, cx_ns_n (k := tx_many w - k) (by omega) c_4]; rfl
        rw [c_1] at hP
        refine lv_aload_n hx hb dX3_readCommand_52 rfl (lv_at hl 0 rfl) ?_
        refine va_get (D := D) (ci := 2) (v := .int (nI (cx_at (X 2) ln a))) (C := RX3) (T := TX3) (N := 5) hx hb hts inX3 hown hK hP 0 rfl rfl 4 (by decide) k_23 (fun _ h9 => h9) rfl dX3_readCommand_53 ?_
        exact W.iret (v := (nI (cx_at (X 2) ln a))) hx hb hr (fun t9 ht9 hW9 => ⟨⟨_, (), rfl, (by rw [eR]), fz_to ht9 (by rw [eR]; exact hP)⟩, hS.F ht9⟩) hS.2.2 dX3_readCommand_56
  · skip
    have eR : cx_rd (X 2) ln pp (X 1) = (nI pp, tx_le (X 2) ln pp, none, X 1) := cx_rd_none c_1
    rw [c_1] at hP
    refine lv_iload_n hx hb dX3_readCommand_29 rfl (lv_at hl 0 rfl) ?_
    exact W.iret (v := (X 0 1)) hx hb hr (fun t9 ht9 hW9 => ⟨⟨_, (), rfl, (by rw [eR]; exact hp), fz_to ht9 (by rw [eR]; exact hP)⟩, hS.F ht9⟩) hS.2.2 dX3_readCommand_30
set_option maxHeartbeats 4000000 in
set_option maxRecDepth 100000 in
/-- CommandText.findFault -/
theorem c_X3_findFault (l : Launch) (D : va_G) (cy : Nat → ClassId) (x : Nat → Nat) (ad : Nat → Nat) (X : Nat → Nat → Int32) (vb : Option Nat) (adK adV : Nat → Nat) (ln : Nat) (hln : X 0 0 = nI ln) (hln150 : ln ≤ 150) : fz_MI l yX3_findFault wsX3_findFault 7 154 D cy [.ref (x 0)] (XW cy ad x X vb) (fz_Vb ad adK adV (fz_in (XW cy ad x X vb))) ((cx_ff (X 2) ln 150 0 vb (X 1)).1) (XW cy ad x (fz_up (fz_up X 0 (upd (X 0) 1 (nI (cx_ff (X 2) ln 150 0 vb (X 1)).2.1))) 1 (cx_ff (X 2) ln 150 0 vb (X 1)).2.2.2) ((cx_ff (X 2) ln 150 0 vb (X 1)).2.2.1)) := by
  refine Met.ofW (cc := cX3_findFault) (maxL := 3) (ret := (some .int)) (by decide) rfl ?_
  intro p e s m args below meth c s₁ B hml hv
  obtain ⟨rfl, hP, hK, hD0, hE⟩ := hv
  have hx := B.exec
  have hb := B.bytes
  have hr := B.returns
  have hts := atoms_spec (ws := wsX3_findFault) B.pre
  have hown : s.vm.findClass RX3 = some m.cls := findClass_of_methodNamed B.named
  have hlocks := B.notSynchronized
  have hD := fz_self hD0
  generalize hAe : fz_in (XW cy ad x X vb) = A at hD hE ⊢
  have hS : va_S A s.heap s.heap [] := va_S.rf
  have hl := lv_entry ([.ref (x 0)]) (n := 3) (Nat.le_of_ble_eq_true rfl)
  rw [lg_entry_eq]
  generalize (lg_sl ([.ref (x 0)]) ++ List.replicate (3 - (lg_sl ([.ref (x 0)])).length) Slot.unset).toArray = ls at hl ⊢
  have hl : lv_has ls 3 [(0, .ref (x 0))] := hl
  refine lv_aload_n hx hb dX3_findFault_0 rfl (lv_at hl 0 rfl) ?_
  refine fz_retMV (ws' := XE cy ad x (X 0 0) 0 (X 1) (X 2) vb) (va_runV (As := []) (rest := []) ⟨hx, hb, hml, hown, hts⟩ (c_X3_rewind l D cy x ad X vb) (cwV 0 hts gX3_findFault_X3_rewind rfl rfl rfl (by decide +kernel) ⟨Nat.le_of_ble_eq_true rfl, Nat.le_of_ble_eq_true rfl⟩) (fz_preMV (ci := 2) (q0 := 0) hK hP hD rfl rfl rfl fz_T_bl (fun _ _ _ => trivial)) rfl rfl hl.1 rfl (lv_room (Nat.le_of_ble_eq_true rfl)) dX3_findFault_1 ⟨Nat.zero_le _, Nat.zero_le _⟩) hP hD hS [0, 1, 2] [] rfl rfl [true, true, true] (And.intro rfl (And.intro rfl (And.intro rfl trivial))) rfl rfl (fun H locs hP hD hS => ?_)
  have hP : va_P D vwCl (XE cy ad x (X 0 0) 0 (X 1) (X 2) vb) H := hP
  have hD : va_D A (XE cy ad x (X 0 0) 0 (X 1) (X 2) vb) := hD
  refine lv_iconst (v := 0) hx hb dX3_findFault_4 (by decide) ?_
  refine lv_istore_n (lv' := [(1, .int 0), (0, .ref (x 0))]) hx hb dX3_findFault_5 rfl hl (by decide) rfl (fun ls hl => ?_)
  have hP := fz_Pw (ws2 := XE cy ad x (X 0 0) (nI 0) (X 1) (X 2) vb) hP rfl
  have hD := fz_Dw (ws2 := XE cy ad x (X 0 0) (nI 0) (X 1) (X 2) vb) hD rfl
  refine fz_loopM (σ := Nat × Nat × (Option Nat) × (Nat → Int32)) (pc := 6) (nL := 3) (fun x9 => match x9 with | (k, a, v, U) => [(0, .ref (x 0)), (1, .int (nI k))]) (fun x9 => match x9 with | (k, a, v, U) => XE cy ad x (X 0 0) (nI a) U (X 2) v) (fun x9 => match x9 with | (k, a, v, U) => (2 * k ≤ a) ∧ (a ≤ ln + 1) ∧ (cx_ff (X 2) ln (150 - k) a v U = (cx_ff (X 2) ln 150 0 vb (X 1)))) (fun x9 => match x9 with | (k, a, v, U) => 150 - k) ?_ (0, 0, vb, X 1) (show (2 * 0 ≤ 0) ∧ (0 ≤ ln + 1) ∧ (cx_ff (X 2) ln (150 - 0) 0 vb (X 1) = (cx_ff (X 2) ln 150 0 vb (X 1))) from ⟨(Nat.zero_le _), (Nat.zero_le _), rfl⟩) _ _ ls hP hD hS (lv_sub hl [1, 0] rfl)
  rintro ⟨k, a, v, U⟩ ⟨hk, ha, eO⟩ ih6 H locs ls hP hD hS hl
  have hP : va_P D vwCl (XE cy ad x (X 0 0) (nI a) U (X 2) v) H := hP
  have hD : va_D A (XE cy ad x (X 0 0) (nI a) U (X 2) v) := hD
  have hk : 2 * k ≤ a := hk
  have ha : a ≤ ln + 1 := ha
  have eO : cx_ff (X 2) ln (150 - k) a v U = (cx_ff (X 2) ln 150 0 vb (X 1)) := eO
  have hl : lv_has ls 3 [(0, .ref (x 0)), (1, .int (nI k))] := hl
  refine lv_iload_n hx hb dX3_findFault_6 rfl (lv_at hl 1 rfl) ?_
  refine lv_sipush (v := 150) hx hb dX3_findFault_7 (by decide) ?_
  refine fz_geN (tgt := 38) hx hb k 150 rfl rfl dX3_findFault_10 (by decide) (by omega) (by omega) (fun c_1 => ?_) (fun c_1 => ?_)
  · skip
    exact absurd c_1 (by omega)
  · skip
    have hsp9 := tx_R_sp (X 2) ln a
    unfold tx_R at hsp9
    refine lv_aload_n hx hb dX3_findFault_13 rfl (lv_at hl 0 rfl) ?_
    refine fz_retM (ws' := XE cy ad x (X 0 0) (nI (tx_sp (X 2) ln a)) U (X 2) v) (va_runV (As := []) (rest := []) ⟨hx, hb, hml, hown, hts⟩ (c_X3_hasMore l D cy x ad (fz_up (fz_up X 0 (upd (X 0) 1 (nI a))) 1 U) v ln hln hln150 a rfl (by omega)) (cwV 0 hts gX3_findFault_X3_hasMore rfl rfl rfl (by decide +kernel) ⟨Nat.le_of_ble_eq_true rfl, Nat.le_of_ble_eq_true rfl⟩) (fz_preMV (ci := 2) (q0 := 0) hK hP hD rfl rfl rfl fz_T_bl (fun _ _ _ => trivial)) rfl rfl hl.1 rfl (lv_room (Nat.le_of_ble_eq_true rfl)) dX3_findFault_14 ⟨Nat.zero_le _, Nat.zero_le _⟩) hP hD hS [0, 1, 2] [] rfl rfl [true, true, true] (And.intro rfl (And.intro rfl (And.intro rfl trivial))) rfl rfl (fun H locs hP hD hS => ?_)
    have hP : va_P D vwCl (XE cy ad x (X 0 0) (nI (tx_sp (X 2) ln a)) U (X 2) v) H := hP
    have hD : va_D A (XE cy ad x (X 0 0) (nI (tx_sp (X 2) ln a)) U (X 2) v) := hD
    refine fz_top (show _ = fz_b (decide (tx_sp (X 2) ln a < ln)) from rfl) ?_
    refine fz_ifeqB (tgt := 38) hx hb dX3_findFault_17 (by decide) (fun c_2 => ?_) (fun c_2 => ?_)
    · skip
      refine lv_iconst (v := (-1)) hx hb dX3_findFault_38 (by decide) ?_
      exact W.iret (v := (-1)) hx hb hr (fun t9 ht9 hW9 => ⟨⟨_, (), rfl, (by rw [← eO, cx_ff_e (k := 150 - k) (by omega) (of_decide_eq_false c_2)]), fz_to ht9 (by rw [← eO, cx_ff_e (k := 150 - k) (by omega) (of_decide_eq_false c_2)]; exact hP)⟩, hS.F ht9⟩) hS.2.2 dX3_findFault_39
    · skip
      have hlt9 : tx_sp (X 2) ln a < ln := of_decide_eq_true c_2
      have hle9 := cx_rd_le (T := X 2) (n := ln) (Z := U) hlt9
      refine lv_aload_n hx hb dX3_findFault_20 rfl (lv_at hl 0 rfl) ?_
      refine fz_retM (ws' := XE cy ad x (X 0 0) (nI (cx_rd (X 2) ln (tx_sp (X 2) ln a) U).2.1) ((cx_rd (X 2) ln (tx_sp (X 2) ln a) U).2.2.2) (X 2) ((cx_rd (X 2) ln (tx_sp (X 2) ln a) U).2.2.1)) (va_runV (As := []) (rest := []) ⟨hx, hb, hml, hown, hts⟩ (c_X3_readCommand l D cy x ad (fz_up (fz_up X 0 (upd (X 0) 1 (nI (tx_sp (X 2) ln a)))) 1 U) v adK adV ln hln hln150 (tx_sp (X 2) ln a) rfl (by omega)) (cwV 0 hts gX3_findFault_X3_readCommand rfl rfl rfl (by decide +kernel) ⟨Nat.le_of_ble_eq_true rfl, Nat.le_of_ble_eq_true rfl⟩) (fz_preMV (ci := 2) (q0 := 0) hK hP hD rfl rfl rfl fz_Vb_bl (fun U hU hW => hE.to (by rw [hU]; exact hS) hW.alike (fun q h => by obtain ⟨k9, e9, h9⟩ := h; exact hD.2 k9 _ h9))) rfl rfl hl.1 rfl (lv_room (Nat.le_of_ble_eq_true rfl)) dX3_findFault_21 ⟨Nat.zero_le _, Nat.zero_le _⟩) hP hD hS [0, 1, 2] [] rfl rfl [true, true, true] (And.intro rfl (And.intro rfl (And.intro rfl trivial))) rfl rfl (fun H locs hP hD hS => ?_)
      have hP : va_P D vwCl (XE cy ad x (X 0 0) (nI (cx_rd (X 2) ln (tx_sp (X 2) ln a) U).2.1) ((cx_rd (X 2) ln (tx_sp (X 2) ln a) U).2.2.2) (X 2) ((cx_rd (X 2) ln (tx_sp (X 2) ln a) U).2.2.1)) H := hP
      have hD : va_D A (XE cy ad x (X 0 0) (nI (cx_rd (X 2) ln (tx_sp (X 2) ln a) U).2.1) ((cx_rd (X 2) ln (tx_sp (X 2) ln a) U).2.2.2) (X 2) ((cx_rd (X 2) ln (tx_sp (X 2) ln a) U).2.2.1)) := hD
      refine fz_top (show _ = (cx_rd (X 2) ln (tx_sp (X 2) ln a) U).1 from rfl) ?_
      refine lv_istore_n (lv' := [(2, .int ((cx_rd (X 2) ln (tx_sp (X 2) ln a) U).1)), (0, .ref (x 0)), (1, .int (nI k))]) hx hb dX3_findFault_24 rfl hl (by decide) rfl (fun ls hl => ?_)
      refine lv_iload_n hx hb dX3_findFault_25 rfl (lv_at hl 0 rfl) ?_
      refine lv_iconst (v := (-1)) hx hb dX3_findFault_26 (by decide) ?_
      refine lv_icmp_eq (tgt := 32) hx hb dX3_findFault_27 (by decide) (fun c_3 => ?_) (fun c_3 => ?_)
      · skip
        refine lv_iinc (v := nI (k + 1)) (lv' := [(1, .int (nI (k + 1))), (2, .int ((cx_rd (X 2) ln (tx_sp (X 2) ln a) U).1)), (0, .ref (x 0))]) hx hb dX3_findFault_32 hl (k := 2) rfl (fz_inc rfl) (by decide) rfl (fun ls hl => ?_)
        refine lv_goto (tgt := 6) hx hb dX3_findFault_35 (by decide) ?_
        exact ih6 (k + 1, (cx_rd (X 2) ln (tx_sp (X 2) ln a) U).2.1, (cx_rd (X 2) ln (tx_sp (X 2) ln a) U).2.2.1, (cx_rd (X 2) ln (tx_sp (X 2) ln a) U).2.2.2) (show (2 * (k + 1) ≤ ((cx_rd (X 2) ln (tx_sp (X 2) ln a) U).2.1)) ∧ (((cx_rd (X 2) ln (tx_sp (X 2) ln a) U).2.1) ≤ ln + 1) ∧ (cx_ff (X 2) ln (150 - (k + 1)) ((cx_rd (X 2) ln (tx_sp (X 2) ln a) U).2.1) ((cx_rd (X 2) ln (tx_sp (X 2) ln a) U).2.2.1) ((cx_rd (X 2) ln (tx_sp (X 2) ln a) U).2.2.2) = (cx_ff (X 2) ln 150 0 vb (X 1))) from ⟨(by have h9 := cx_rd_adv (by omega) (by omega) c_3; omega), (by omega), (by rw [← eO, cx_ff_s (k := 150 - k) (by omega) hlt9 c_3, show 150 - (k + 1) = 150 - k - 1 by omega])⟩) (by show 150 - (k + 1) < 150 - k; omega) _ _ ls hP hD hS (lv_sub hl [2, 0] rfl)
      · skip
        refine lv_iload_n hx hb dX3_findFault_30 rfl (lv_at hl 0 rfl) ?_
        exact W.iret (v := ((cx_rd (X 2) ln (tx_sp (X 2) ln a) U).1)) hx hb hr (fun t9 ht9 hW9 => ⟨⟨_, (), rfl, (by rw [← eO, cx_ff_f (k := 150 - k) (by omega) hlt9 c_3]), fz_to ht9 (by rw [← eO, cx_ff_f (k := 150 - k) (by omega) hlt9 c_3]; exact hP)⟩, hS.F ht9⟩) hS.2.2 dX3_findFault_31
