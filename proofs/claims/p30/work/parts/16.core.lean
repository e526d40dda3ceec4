/-! the core: worlds, contracts, rows of my own over the kit's -/
abbrev fz_TY (cy : Nat → ClassId) : List (ClassId × FieldType) := [(cy 0, .int), (cy 1, .boolean), (cy 2, .byte), (cy 3, .object "FreezeCredits$Calendar")]
/-- a state's rows: row r becomes f -/
def fz_up (V : Nat → Nat → Int32) (r : Nat) (f : Nat → Int32) : Nat → Nat → Int32 := fun k => bif Nat.beq k r then f else V k
def fz_b (b : Bool) : Int32 := bif b then 1 else 0
theorem fz_b_t : fz_b true = 1 := rfl
theorem fz_b_f : fz_b false = 0 := rfl
theorem fz_b_0 {b : Bool} (h : fz_b b = 0) : b = false := by cases b with
  | false => rfl
  | true => exact absurd h (by decide)
theorem fz_b_1 {b : Bool} (h : ¬ fz_b b = 0) : b = true := by cases b with
  | false => exact absurd rfl h
  | true => rfl
theorem fz_b_and (b : Bool) : fz_b b &&& 1 = fz_b b := by cases b <;> decide
theorem fz_b_nar (b : Bool) : vp_nar .boolean (fz_b b) = fz_b b := by cases b <;> decide
theorem fz_b_narrow (b : Bool) : narrow .boolean (.int (fz_b b)) = .int (fz_b b) := by cases b <;> decide
def fz_min (x y : Int32) : Int32 := if y < x then y else x
def fz_max (x y : Int32) : Int32 := if x < y then y else x
/-- x is a place below the count n -/
def fz_ix (x n : Int32) : Bool := !(decide (x < 0)) && !(decide (n ≤ x))
theorem fz_ix_t {x : Int32} {n : Nat} (hn : n < 2 ^ 31) (h : fz_ix x (nI n) = true) : ∃ j : Nat, j < n ∧ x = nI j := by
  simp only [fz_ix, Bool.and_eq_true, Bool.not_eq_true', decide_eq_false_iff_not] at h
  rcases pk_ix x hn with q | q | q
  · exact absurd q h.1
  · exact absurd q h.2
  · exact q
theorem fz_tnat {x : Int32} {j : Nat} (h : x = nI j) (hj : j < 2 ^ 31) : x.toNatClampNeg = j := by
  rw [h]
  exact nI_clamp hj
/-- a number below n, by itself -/
theorem fz_tn {x : Int32} {n : Nat} (h : ∃ j : Nat, j < n ∧ x = nI j) (hn : n ≤ 2 ^ 31) : x = nI x.toNatClampNeg ∧ x.toNatClampNeg < n := by
  obtain ⟨j, hj, e⟩ := h
  rw [fz_tnat e (by omega)]
  exact ⟨e, hj⟩
theorem fz_ix_s {x c : Int32} {n : Nat} (h : fz_ix x c = true) (hc : c = nI n) (hn : n < 2 ^ 31) : x = nI x.toNatClampNeg ∧ x.toNatClampNeg < n := fz_tn (fz_ix_t hn (by rw [← hc]; exact h)) (by omega)
theorem fz_ix_n {j n : Nat} (hn : n < 2 ^ 31) (h : j < n) : fz_ix (nI j) (nI n) = true := by
  simp only [fz_ix, Bool.and_eq_true, Bool.not_eq_true', decide_eq_false_iff_not]
  exact ⟨nI_pos (Nat.lt_trans h hn), nI_ge h hn⟩
def fz_sum (f : Nat → Int32) : Nat → Int32
  | 0 => 0
  | n + 1 => fz_sum f n + f n
def fz_ct (f : Nat → Bool) : Nat → Nat
  | 0 => 0
  | n + 1 => fz_ct f n + (bif f n then 1 else 0)
theorem fz_ct_le (f : Nat → Bool) : ∀ n, fz_ct f n ≤ n
  | 0 => Nat.le_refl 0
  | n + 1 => by
    have h := fz_ct_le f n
    rw [fz_ct]
    cases f n <;> simp <;> omega
theorem fz_ct_cong {f g : Nat → Bool} : ∀ {n : Nat}, (∀ k, k < n → f k = g k) → fz_ct f n = fz_ct g n
  | 0, _ => rfl
  | n + 1, h => by rw [fz_ct, fz_ct, fz_ct_cong (fun k hk => h k (Nat.lt_succ_of_lt hk)), h n (Nat.lt_succ_self n)]
def fz_any (f : Nat → Bool) : Nat → Bool
  | 0 => false
  | n + 1 => fz_any f n || f n
theorem fz_any_step {f : Nat → Bool} {n : Nat} (h : fz_any f n = false) (h2 : f n = false) : fz_any f (n + 1) = false := by simp [fz_any, h, h2]
theorem fz_any_hit {f : Nat → Bool} {k : Nat} (h : f k = true) : ∀ {n : Nat}, k < n → fz_any f n = true
  | 0, hk => absurd hk (Nat.not_lt_zero k)
  | n + 1, hk => by
    rcases Nat.lt_or_ge k n with q | q
    · simp [fz_any, fz_any_hit h q]
    · have e : k = n := by omega
      subst e
      simp [fz_any, h]
theorem fz_any_cong {f g : Nat → Bool} : ∀ {n : Nat}, (∀ k, k < n → f k = g k) → fz_any f n = fz_any g n
  | 0, _ => rfl
  | n + 1, h => by rw [fz_any, fz_any, fz_any_cong (fun k hk => h k (Nat.lt_succ_of_lt hk)), h n (Nat.lt_succ_self n)]
theorem fz_sum_cong {f g : Nat → Int32} : ∀ {n : Nat}, (∀ k, k < n → f k = g k) → fz_sum f n = fz_sum g n
  | 0, _ => rfl
  | n + 1, h => by rw [fz_sum, fz_sum, fz_sum_cong (fun k hk => h k (Nat.lt_succ_of_lt hk)), h n (Nat.lt_succ_self n)]
-- contracts
/-- the start of a method that reads, or writes, the world W; E: what else it wants -/
def fz_R (D : va_G) (cy : Nat → ClassId) (av : List Value) (W : va_W) (E : State → Prop) : Array Value → State → Prop := va_Pc av (fun U => va_P D vwCl W U.heap ∧ va_K D vwCl (fz_TY cy) U ∧ E U)
def fz_M (D : va_G) (cy : Nat → ClassId) (av : List Value) (W : va_W) (E : State → Prop) : Array Value → State → Prop := va_Pc av (fun U => va_P D vwCl W U.heap ∧ va_K D vwCl (fz_TY cy) U ∧ va_D (fun _ => True) W ∧ E U)
def fz_in (W : va_W) : Nat → Prop := fun q => ∃ (k : Nat) (e : va_E), W[k]? = some (q, e)
def fz_bl (E : State → Prop) : Prop := ∀ (a : Array Value) (U : State) (g : JFrame) (mk : MethodId), E U → E (U.calling g mk a)
def fz_T : State → Prop := fun _ => True
theorem fz_T_bl : fz_bl fz_T := fun _ _ _ _ _ => trivial
theorem fz_nil {D : va_G} {cl : List vw_C} {H : Heap} : va_P D cl ([] : va_W) H := fun k q h => by simp at h
theorem fz_R_blind {D : va_G} {cy : Nat → ClassId} {av : List Value} {W : va_W} {E : State → Prop} (h : fz_bl E) : FrameBlind (fz_R D cy av W E) := fun a U g mk q => ⟨q.1, q.2.1, va_K.moved (u := U) (U := U.calling g mk a) (Vm.Alike.refl U.vm) q.2.2.1, h a U g mk q.2.2.2⟩
theorem fz_M_blind {D : va_G} {cy : Nat → ClassId} {av : List Value} {W : va_W} {E : State → Prop} (h : fz_bl E) : FrameBlind (fz_M D cy av W E) := fun a U g mk q => ⟨q.1, q.2.1, va_K.moved (u := U) (U := U.calling g mk a) (Vm.Alike.refl U.vm) q.2.2.1, q.2.2.2.1, h a U g mk q.2.2.2.2⟩
abbrev fz_RI (l : Launch) (y : MethodName) (ws : List Cond) (fr lo : Nat) (D : va_G) (cy : Nat → ClassId) (av : List Value) (W : va_W) (E : State → Prop) (F : Int32) : Prop := Met l y ws ({ frames := fr, cells := 0, slots := 0, locals := lo }) (fz_R D cy av W E) (vp_Si (fun r => r = F)) 0 0 (fun _ => False)
abbrev fz_RL (l : Launch) (y : MethodName) (ws : List Cond) (fr lo : Nat) (D : va_G) (cy : Nat → ClassId) (av : List Value) (W : va_W) (E : State → Prop) (F : Int64) : Prop := Met l y ws ({ frames := fr, cells := 0, slots := 0, locals := lo }) (fz_R D cy av W E) (vp_Sl (fun r => r = F)) 0 0 (fun _ => False)
abbrev fz_MI (l : Launch) (y : MethodName) (ws : List Cond) (fr lo : Nat) (D : va_G) (cy : Nat → ClassId) (av : List Value) (W : va_W) (E : State → Prop) (F : Int32) (W' : va_W) : Prop := Met l y ws ({ frames := fr, cells := 0, slots := 0, locals := lo }) (fz_M D cy av W E) (va_Qi (fun (r : Int32) (_ : Unit) => r = F) (fun _ t => va_P D vwCl W' t.heap) (fz_in W)) 0 0 (fz_in W)
abbrev fz_ML (l : Launch) (y : MethodName) (ws : List Cond) (fr lo : Nat) (D : va_G) (cy : Nat → ClassId) (av : List Value) (W : va_W) (E : State → Prop) (F : Int64) (W' : va_W) : Prop := Met l y ws ({ frames := fr, cells := 0, slots := 0, locals := lo }) (fz_M D cy av W E) (va_Ql (fun (r : Int64) (_ : Unit) => r = F) (fun _ t => va_P D vwCl W' t.heap) (fz_in W)) 0 0 (fz_in W)
abbrev fz_MV (l : Launch) (y : MethodName) (ws : List Cond) (fr lo : Nat) (D : va_G) (cy : Nat → ClassId) (av : List Value) (W : va_W) (E : State → Prop) (W' : va_W) : Prop := Met l y ws ({ frames := fr, cells := 0, slots := 0, locals := lo }) (fz_M D cy av W E) (va_Qv (fun (_ : Unit) => True) (fun _ t => va_P D vwCl W' t.heap) (fz_in W)) 0 0 (fz_in W)
-- worlds by their places
theorem fz_in_lt {D : va_G} {cl : List vw_C} {W : va_W} {H : Heap} (h : va_P D cl W H) {q : Nat} (hq : fz_in W q) : q < H.size := by
  obtain ⟨k, e, hk⟩ := hq
  exact (h k _ hk).lt
theorem fz_self {W : va_W} {A : Nat → Prop} (h : va_D A W) : va_D (fz_in W) W := ⟨h.1, fun k q hk => ⟨k, q.2, hk⟩⟩
theorem fz_Dc {A : Nat → Prop} {W W' : va_W} (e : W'.map Prod.fst = W.map Prod.fst) (h : va_D A W) : va_D A W' := by
  have key : ∀ (k : Nat) (q : Nat × va_E), W'[k]? = some q → ∃ q0, W[k]? = some q0 ∧ q0.1 = q.1 := by
    intro k q hk
    have h1 : (W'.map Prod.fst)[k]? = some q.1 := by rw [List.getElem?_map, hk]; rfl
    rw [e, List.getElem?_map] at h1
    cases hq : W[k]? with
    | none => rw [hq] at h1; cases h1
    | some q0 => rw [hq] at h1; exact ⟨q0, rfl, Option.some.inj h1⟩
  refine ⟨fun i j p q hi hj hpq => ?_, fun k q hk => ?_⟩
  · obtain ⟨p0, h1, h2⟩ := key i p hi
    obtain ⟨q0, h3, h4⟩ := key j q hj
    exact h.1 i j p0 q0 h1 h3 (h2.trans (hpq.trans h4.symm))
  · obtain ⟨q0, h1, h2⟩ := key k q hk
    rw [← h2]
    exact h.2 k q0 h1
theorem fz_inW {W W' : va_W} (e : W'.map Prod.fst = W.map Prod.fst) {q : Nat} (h : fz_in W' q) : fz_in W q := by
  obtain ⟨k, x, hk⟩ := h
  have h1 : (W'.map Prod.fst)[k]? = some q := by rw [List.getElem?_map, hk]; rfl
  rw [e, List.getElem?_map] at h1
  cases hq : W[k]? with
  | none => rw [hq] at h1; cases h1
  | some q0 =>
    rw [hq] at h1
    obtain ⟨q1, e1⟩ := q0
    have : q1 = q := Option.some.inj h1
    subst this
    exact ⟨k, e1, hq⟩
/-- the places pl of ws are the cells wc -/
theorem fz_in_of {W wc : va_W} (pl : List Nat) (h : pl.filterMap (fun i => W[i]?) = wc) {q : Nat} (hq : fz_in wc q) : ∃ (i : Nat) (e : va_E), i ∈ pl ∧ W[i]? = some (q, e) := by
  obtain ⟨k, e, hk⟩ := hq
  subst h
  obtain ⟨i, h1, h2⟩ := List.mem_filterMap.mp (List.mem_of_getElem? hk)
  exact ⟨i, e, h1, h2⟩
/-- a world out of the callee's new cells (at pl) and the old ones (at pr) -/
theorem fz_put {D : va_G} {cl : List vw_C} {ws ws' wc wc' : va_W} {A A1 : Nat → Prop} {H H1 : Heap} (hP : va_P D cl ws H) (hD : va_D A ws) (pl pr : List Nat) (h0 : pl.filterMap (fun i => ws[i]?) = wc) (h1 : pl.filterMap (fun i => ws'[i]?) = wc') (h2 : pr.map (fun i => ws'[i]?) = pr.map (fun i => ws[i]?))
    (hcov : (List.range ws'.length).all (fun k => (pl.contains k && !(pr.contains k)) || (pr.contains k && !(pl.contains k))) = true)
    (hA1 : ∀ q, A1 q → q < H.size → fz_in wc q) (hk : ∀ q : Nat, q < H.size → ¬ A1 q → H1[q]? = H[q]?) (hP1 : va_P D cl wc' H1) : va_P D cl ws' H1 := by
  intro k q hq
  have hl : k < ws'.length := (List.getElem?_eq_some_iff.mp hq).1
  have hc := List.all_eq_true.mp hcov k (List.mem_range.mpr hl)
  rcases Bool.or_eq_true _ _ |>.mp hc with h | h
  · have hm : k ∈ pl := List.contains_iff_mem.mp (Bool.and_eq_true _ _ |>.mp h).1
    have : q ∈ wc' := by
      rw [← h1]
      exact List.mem_filterMap.mpr ⟨k, hm, hq⟩
    obtain ⟨i, hi⟩ := List.getElem?_of_mem this
    exact hP1 i q hi
  · have hm : k ∈ pr := List.contains_iff_mem.mp (Bool.and_eq_true _ _ |>.mp h).1
    have hn : ¬ k ∈ pl := fun z => by
      have := (Bool.and_eq_true _ _ |>.mp h).2
      rw [List.contains_iff_mem.mpr z] at this
      cases this
    obtain ⟨i, hi⟩ := List.getElem?_of_mem hm
    have e := congrArg (fun l => l[i]?) h2
    simp only [List.getElem?_map, hi, Option.map_some] at e
    have hw : ws[k]? = some q := by rw [← Option.some.inj e]; exact hq
    have hlt := (hP k q hw).lt
    refine (hP k q hw).kept (hk q.1 hlt (fun z => ?_))
    obtain ⟨j, e2, h3, h4⟩ := fz_in_of pl h0 (hA1 q.1 z hlt)
    have := hD.1 k j q (q.1, e2) hw h4 rfl
    subst this
    exact hn h3
theorem fz_z_eq {x : Nat} (h1 : x < 2 ^ 31) (h : nI x = 0) : x = 0 := (nI_eq h1 (by decide)).mp (h.trans nI_0.symm)
theorem fz_z_le {x : Nat} (h1 : x < 2 ^ 31) (h : nI x ≤ 0) : x = 0 := Nat.le_zero.mp ((nI_leI h1 (by decide : 0 < 2 ^ 31)).mp (by rw [nI_0]; exact h))
theorem fz_z_gt {x : Nat} (h : (0 : Int32) < nI x) : 0 < x := Nat.pos_of_ne_zero fun z => absurd h (by subst z; decide)
theorem fz_z_ngt {x : Nat} (h1 : x < 2 ^ 31) (h : ¬ (0 : Int32) < nI x) : x = 0 := Nat.eq_zero_of_not_pos fun z => h (by rw [← nI_0]; exact nI_lt z h1)
theorem fz_dec {X : Int32} {n : Nat} (h : X = nI n) (h0 : 0 < n) : X + Int32.ofInt (-1) = nI (n - 1) := by
  subst h
  obtain ⟨k, rfl⟩ : ∃ k, n = k + 1 := ⟨n - 1, by omega⟩
  exact pk_m1 k
theorem fz_to {D : va_G} {cl : List vw_C} {W : va_W} {t : State} {H : Heap} (e : t.heap = H) (h : va_P D cl W H) : va_P D cl W t.heap := by
  rw [e]
  exact h
section FZ
variable {p : Program} {l : Launch} {e : Env} {R : Room} {s : State} {m : MethodId} {args : Array Value} {below : List Frame} {meth : Method} {c : Code} {H : Heap} {locs : List Loc} {cells slots : Nat} {Q : State → Prop}
variable {cc : ByteArray} {pc : Nat} {ls : Array Slot} {rest st0 : List Value} {D : va_G} {cl : List vw_C} {A : Nat → Prop} {a : Nat} {tys : List (ClassId × FieldType)} {ws : va_W} {H0 : Heap}
-- arrays by a place that is a number
theorem fz_iald (hx : p.tables.exec = Jvm.exec) (hb : c.code = cc) (hK : va_K D cl tys s) (hP : va_P D cl ws H) (q0 t0 : Nat) {cA : ClassId} {n : Nat} {f : Nat → Int32} (ha : ws[q0]? = some (a, .inl (cA, n, .inl f))) (ht : tys[t0]? = some (cA, .int)) {i : Int32} (j : Nat) (hi : i = nI j) (hj : j < n) (hn : n < 2 ^ 31) (hdg : decode cc pc = .ok (.iaload, 1))
    (kk : W p l e R s m args below meth c H locs cells slots Q (F0 m (pc + 1) ls (.int (f j) :: rest))) : W p l e R s m args below meth c H locs cells slots Q (F0 m pc ls (.int i :: .ref a :: rest)) := by
  subst hi
  refine va_iald hx hb hK hP q0 t0 ha ht (vp_in_nI hj hn) hdg ?_
  rw [nI_clamp (Nat.lt_trans hj hn)]
  exact kk
theorem fz_zald (hx : p.tables.exec = Jvm.exec) (hb : c.code = cc) (hK : va_K D cl tys s) (hP : va_P D cl ws H) (q0 t0 : Nat) {cA : ClassId} {n : Nat} {f : Nat → Int32} (ha : ws[q0]? = some (a, .inl (cA, n, .inl f))) (ht : tys[t0]? = some (cA, .boolean)) {i : Int32} (j : Nat) (hi : i = nI j) (hj : j < n) (hn : n < 2 ^ 31) (hdg : decode cc pc = .ok (.baload, 1))
    (kk : W p l e R s m args below meth c H locs cells slots Q (F0 m (pc + 1) ls (.int (f j) :: rest))) : W p l e R s m args below meth c H locs cells slots Q (F0 m pc ls (.int i :: .ref a :: rest)) := by
  subst hi
  refine va_zald hx hb hK hP q0 t0 ha ht (vp_in_nI hj hn) hdg ?_
  rw [nI_clamp (Nat.lt_trans hj hn)]
  exact kk
theorem fz_bald (hx : p.tables.exec = Jvm.exec) (hb : c.code = cc) (hK : va_K D cl tys s) (hP : va_P D cl ws H) (q0 t0 : Nat) {cA : ClassId} {n : Nat} {f : Nat → Int32} (ha : ws[q0]? = some (a, .inl (cA, n, .inl f))) (ht : tys[t0]? = some (cA, .byte)) {i : Int32} (j : Nat) (hi : i = nI j) (hj : j < n) (hn : n < 2 ^ 31) (hdg : decode cc pc = .ok (.baload, 1))
    (kk : W p l e R s m args below meth c H locs cells slots Q (F0 m (pc + 1) ls (.int (f j) :: rest))) : W p l e R s m args below meth c H locs cells slots Q (F0 m pc ls (.int i :: .ref a :: rest)) := by
  subst hi
  refine va_bald hx hb hK hP q0 t0 ha ht (vp_in_nI hj hn) hdg ?_
  rw [nI_clamp (Nat.lt_trans hj hn)]
  exact kk
theorem fz_iast (hx : p.tables.exec = Jvm.exec) (hb : c.code = cc) (hK : va_K D cl tys s) (hP : va_P D cl ws H) (hD : va_D A ws) (hS : va_S A H0 H locs) (q0 t0 : Nat) {cA : ClassId} {n : Nat} {f : Nat → Int32} (ha : ws[q0]? = some (a, .inl (cA, n, .inl f))) (ht : tys[t0]? = some (cA, .int)) {i x : Int32} (j : Nat) (hi : i = nI j) (hj : j < n) (hn : n < 2 ^ 31) (hdg : decode cc pc = .ok (.iastore, 1))
    (kk : ∀ (H1 : Heap) (locs1 : List Loc), va_P D cl (ws.set q0 (a, .inl (cA, n, .inl (upd f j x)))) H1 → va_D A (ws.set q0 (a, .inl (cA, n, .inl (upd f j x)))) → va_S A H0 H1 locs1 → W p l e R s m args below meth c H1 locs1 cells slots Q (F0 m (pc + 1) ls rest)) : W p l e R s m args below meth c H locs cells slots Q (F0 m pc ls (.int x :: .int i :: .ref a :: rest)) := by
  subst hi
  refine va_iast hx hb hK hP hD hS q0 t0 ha ht (vp_in_nI hj hn) hdg ?_
  rw [nI_clamp (Nat.lt_trans hj hn)]
  exact kk
theorem fz_zast (hx : p.tables.exec = Jvm.exec) (hb : c.code = cc) (hK : va_K D cl tys s) (hP : va_P D cl ws H) (hD : va_D A ws) (hS : va_S A H0 H locs) (q0 t0 : Nat) {cA : ClassId} {n : Nat} {f : Nat → Int32} (ha : ws[q0]? = some (a, .inl (cA, n, .inl f))) (ht : tys[t0]? = some (cA, .boolean)) {i x y : Int32} (hv : vp_nar .boolean x = y) (j : Nat) (hi : i = nI j) (hj : j < n) (hn : n < 2 ^ 31) (hdg : decode cc pc = .ok (.bastore, 1))
    (kk : ∀ (H1 : Heap) (locs1 : List Loc), va_P D cl (ws.set q0 (a, .inl (cA, n, .inl (upd f j y)))) H1 → va_D A (ws.set q0 (a, .inl (cA, n, .inl (upd f j y)))) → va_S A H0 H1 locs1 → W p l e R s m args below meth c H1 locs1 cells slots Q (F0 m (pc + 1) ls rest)) : W p l e R s m args below meth c H locs cells slots Q (F0 m pc ls (.int x :: .int i :: .ref a :: rest)) := by
  subst hi
  refine va_zast hx hb hK hP hD hS q0 t0 ha ht (vp_in_nI hj hn) hdg ?_
  rw [nI_clamp (Nat.lt_trans hj hn), hv]
  exact kk
theorem fz_bast (hx : p.tables.exec = Jvm.exec) (hb : c.code = cc) (hK : va_K D cl tys s) (hP : va_P D cl ws H) (hD : va_D A ws) (hS : va_S A H0 H locs) (q0 t0 : Nat) {cA : ClassId} {n : Nat} {f : Nat → Int32} (ha : ws[q0]? = some (a, .inl (cA, n, .inl f))) (ht : tys[t0]? = some (cA, .byte)) {i x y : Int32} (hv : vp_nar .byte x = y) (j : Nat) (hi : i = nI j) (hj : j < n) (hn : n < 2 ^ 31) (hdg : decode cc pc = .ok (.bastore, 1))
    (kk : ∀ (H1 : Heap) (locs1 : List Loc), va_P D cl (ws.set q0 (a, .inl (cA, n, .inl (upd f j y)))) H1 → va_D A (ws.set q0 (a, .inl (cA, n, .inl (upd f j y)))) → va_S A H0 H1 locs1 → W p l e R s m args below meth c H1 locs1 cells slots Q (F0 m (pc + 1) ls rest)) : W p l e R s m args below meth c H locs cells slots Q (F0 m pc ls (.int x :: .int i :: .ref a :: rest)) := by
  subst hi
  refine va_bast hx hb hK hP hD hS q0 t0 ha ht (vp_in_nI hj hn) hdg ?_
  rw [nI_clamp (Nat.lt_trans hj hn), hv]
  exact kk
-- branches on numbers
theorem fz_geN (hx : p.tables.exec = Jvm.exec) (hb : c.code = cc) {X Y : Int32} (x y : Nat) (e1 : X = nI x) (e2 : Y = nI y) {off : Int} {tgt : Nat} (hdg : decode cc pc = .ok (.if_icmp .ge off, 3)) (ht : (pc : Int) + off = (tgt : Int)) (h1 : x < 2 ^ 31) (h2 : y < 2 ^ 31)
    (kt : y ≤ x → W p l e R s m args below meth c H locs cells slots Q (F0 m tgt ls rest)) (kf : x < y → W p l e R s m args below meth c H locs cells slots Q (F0 m (pc + 3) ls rest)) : W p l e R s m args below meth c H locs cells slots Q (F0 m pc ls (.int Y :: .int X :: rest)) := by
  subst e1
  subst e2
  exact lv_icmp_ge hx hb hdg ht (fun h => kt ((nI_leI h2 h1).mp h)) (fun h => kf (Nat.lt_of_not_le fun z => h ((nI_leI h2 h1).mpr z)))
theorem fz_ltN (hx : p.tables.exec = Jvm.exec) (hb : c.code = cc) {X Y : Int32} (x y : Nat) (e1 : X = nI x) (e2 : Y = nI y) {off : Int} {tgt : Nat} (hdg : decode cc pc = .ok (.if_icmp .lt off, 3)) (ht : (pc : Int) + off = (tgt : Int)) (h1 : x < 2 ^ 31) (h2 : y < 2 ^ 31)
    (kt : x < y → W p l e R s m args below meth c H locs cells slots Q (F0 m tgt ls rest)) (kf : y ≤ x → W p l e R s m args below meth c H locs cells slots Q (F0 m (pc + 3) ls rest)) : W p l e R s m args below meth c H locs cells slots Q (F0 m pc ls (.int Y :: .int X :: rest)) := by
  subst e1
  subst e2
  exact lv_icmp_lt hx hb hdg ht (fun h => kt ((nI_ltI h1 h2).mp h)) (fun h => kf (Nat.le_of_not_lt fun z => h ((nI_ltI h1 h2).mpr z)))
theorem fz_leN (hx : p.tables.exec = Jvm.exec) (hb : c.code = cc) {X Y : Int32} (x y : Nat) (e1 : X = nI x) (e2 : Y = nI y) {off : Int} {tgt : Nat} (hdg : decode cc pc = .ok (.if_icmp .le off, 3)) (ht : (pc : Int) + off = (tgt : Int)) (h1 : x < 2 ^ 31) (h2 : y < 2 ^ 31)
    (kt : x ≤ y → W p l e R s m args below meth c H locs cells slots Q (F0 m tgt ls rest)) (kf : y < x → W p l e R s m args below meth c H locs cells slots Q (F0 m (pc + 3) ls rest)) : W p l e R s m args below meth c H locs cells slots Q (F0 m pc ls (.int Y :: .int X :: rest)) := by
  subst e1
  subst e2
  exact lv_icmp_le hx hb hdg ht (fun h => kt ((nI_leI h1 h2).mp h)) (fun h => kf (Nat.lt_of_not_le fun z => h ((nI_leI h1 h2).mpr z)))
theorem fz_gtN (hx : p.tables.exec = Jvm.exec) (hb : c.code = cc) {X Y : Int32} (x y : Nat) (e1 : X = nI x) (e2 : Y = nI y) {off : Int} {tgt : Nat} (hdg : decode cc pc = .ok (.if_icmp .gt off, 3)) (ht : (pc : Int) + off = (tgt : Int)) (h1 : x < 2 ^ 31) (h2 : y < 2 ^ 31)
    (kt : y < x → W p l e R s m args below meth c H locs cells slots Q (F0 m tgt ls rest)) (kf : x ≤ y → W p l e R s m args below meth c H locs cells slots Q (F0 m (pc + 3) ls rest)) : W p l e R s m args below meth c H locs cells slots Q (F0 m pc ls (.int Y :: .int X :: rest)) := by
  subst e1
  subst e2
  exact lv_icmp_gt hx hb hdg ht (fun h => kt ((nI_ltI h2 h1).mp h)) (fun h => kf (Nat.le_of_not_lt fun z => h ((nI_ltI h2 h1).mpr z)))
theorem fz_eqN (hx : p.tables.exec = Jvm.exec) (hb : c.code = cc) {X Y : Int32} (x y : Nat) (e1 : X = nI x) (e2 : Y = nI y) {off : Int} {tgt : Nat} (hdg : decode cc pc = .ok (.if_icmp .eq off, 3)) (ht : (pc : Int) + off = (tgt : Int)) (h1 : x < 2 ^ 31) (h2 : y < 2 ^ 31)
    (kt : x = y → W p l e R s m args below meth c H locs cells slots Q (F0 m tgt ls rest)) (kf : ¬ x = y → W p l e R s m args below meth c H locs cells slots Q (F0 m (pc + 3) ls rest)) : W p l e R s m args below meth c H locs cells slots Q (F0 m pc ls (.int Y :: .int X :: rest)) := by
  subst e1
  subst e2
  exact lv_icmp_eq hx hb hdg ht (fun h => kt ((nI_eq h1 h2).mp h)) (fun h => kf (fun z => h ((nI_eq h1 h2).mpr z)))
theorem fz_neN (hx : p.tables.exec = Jvm.exec) (hb : c.code = cc) {X Y : Int32} (x y : Nat) (e1 : X = nI x) (e2 : Y = nI y) {off : Int} {tgt : Nat} (hdg : decode cc pc = .ok (.if_icmp .ne off, 3)) (ht : (pc : Int) + off = (tgt : Int)) (h1 : x < 2 ^ 31) (h2 : y < 2 ^ 31)
    (kt : ¬ x = y → W p l e R s m args below meth c H locs cells slots Q (F0 m tgt ls rest)) (kf : x = y → W p l e R s m args below meth c H locs cells slots Q (F0 m (pc + 3) ls rest)) : W p l e R s m args below meth c H locs cells slots Q (F0 m pc ls (.int Y :: .int X :: rest)) := by
  subst e1
  subst e2
  exact lv_icmp_ne hx hb hdg ht (fun h => kt (fun z => h ((nI_eq h1 h2).mpr z))) (fun h => kf ((nI_eq h1 h2).mp h))
theorem fz_ifleN (hx : p.tables.exec = Jvm.exec) (hb : c.code = cc) {X : Int32} (x : Nat) (e1 : X = nI x) {off : Int} {tgt : Nat} (hdg : decode cc pc = .ok (.ifCond .le off, 3)) (ht : (pc : Int) + off = (tgt : Int)) (h1 : x < 2 ^ 31)
    (kt : x = 0 → W p l e R s m args below meth c H locs cells slots Q (F0 m tgt ls rest)) (kf : 0 < x → W p l e R s m args below meth c H locs cells slots Q (F0 m (pc + 3) ls rest)) : W p l e R s m args below meth c H locs cells slots Q (F0 m pc ls (.int X :: rest)) := by
  subst e1
  exact lv_if_le hx hb hdg ht (fun h => kt (fz_z_le h1 h)) (fun h => kf (Nat.pos_of_ne_zero fun z => h (by subst z; decide)))
theorem fz_ifgtN (hx : p.tables.exec = Jvm.exec) (hb : c.code = cc) {X : Int32} (x : Nat) (e1 : X = nI x) {off : Int} {tgt : Nat} (hdg : decode cc pc = .ok (.ifCond .gt off, 3)) (ht : (pc : Int) + off = (tgt : Int)) (h1 : x < 2 ^ 31)
    (kt : 0 < x → W p l e R s m args below meth c H locs cells slots Q (F0 m tgt ls rest)) (kf : x = 0 → W p l e R s m args below meth c H locs cells slots Q (F0 m (pc + 3) ls rest)) : W p l e R s m args below meth c H locs cells slots Q (F0 m pc ls (.int X :: rest)) := by
  subst e1
  exact lv_if_gt hx hb hdg ht (fun h => kt (fz_z_gt h)) (fun h => kf (fz_z_ngt h1 h))
theorem fz_ifeqN (hx : p.tables.exec = Jvm.exec) (hb : c.code = cc) {X : Int32} (x : Nat) (e1 : X = nI x) {off : Int} {tgt : Nat} (hdg : decode cc pc = .ok (.ifCond .eq off, 3)) (ht : (pc : Int) + off = (tgt : Int)) (h1 : x < 2 ^ 31)
    (kt : x = 0 → W p l e R s m args below meth c H locs cells slots Q (F0 m tgt ls rest)) (kf : 0 < x → W p l e R s m args below meth c H locs cells slots Q (F0 m (pc + 3) ls rest)) : W p l e R s m args below meth c H locs cells slots Q (F0 m pc ls (.int X :: rest)) := by
  subst e1
  exact lv_if_eq hx hb hdg ht (fun h => kt (fz_z_eq h1 h)) (fun h => kf (Nat.pos_of_ne_zero fun z => h (by subst z; decide)))
theorem fz_ifneN (hx : p.tables.exec = Jvm.exec) (hb : c.code = cc) {X : Int32} (x : Nat) (e1 : X = nI x) {off : Int} {tgt : Nat} (hdg : decode cc pc = .ok (.ifCond .ne off, 3)) (ht : (pc : Int) + off = (tgt : Int)) (h1 : x < 2 ^ 31)
    (kt : 0 < x → W p l e R s m args below meth c H locs cells slots Q (F0 m tgt ls rest)) (kf : x = 0 → W p l e R s m args below meth c H locs cells slots Q (F0 m (pc + 3) ls rest)) : W p l e R s m args below meth c H locs cells slots Q (F0 m pc ls (.int X :: rest)) := by
  subst e1
  exact lv_if_ne hx hb hdg ht (fun h => kt (Nat.pos_of_ne_zero fun z => h (by subst z; decide))) (fun h => kf (fz_z_eq h1 h))
-- numbers on the stack
theorem fz_iaddN (hx : p.tables.exec = Jvm.exec) (hb : c.code = cc) {X Y : Int32} (x y : Nat) (e1 : X = nI x) (e2 : Y = nI y) (hdg : decode cc pc = .ok (.iadd, 1)) (kk : W p l e R s m args below meth c H locs cells slots Q (F0 m (pc + 1) ls (.int (nI (x + y)) :: rest))) : W p l e R s m args below meth c H locs cells slots Q (F0 m pc ls (.int Y :: .int X :: rest)) := by
  subst e1
  subst e2
  refine lv_iadd hx hb hdg ?_
  rw [nI_add]
  exact kk
theorem fz_imulN (hx : p.tables.exec = Jvm.exec) (hb : c.code = cc) {X Y : Int32} (x y : Nat) (e1 : X = nI x) (e2 : Y = nI y) (hdg : decode cc pc = .ok (.imul, 1)) (kk : W p l e R s m args below meth c H locs cells slots Q (F0 m (pc + 1) ls (.int (nI (x * y)) :: rest))) : W p l e R s m args below meth c H locs cells slots Q (F0 m pc ls (.int Y :: .int X :: rest)) := by
  subst e1
  subst e2
  refine lv_imul hx hb hdg ?_
  rw [pk_mul]
  exact kk
theorem fz_isubN (hx : p.tables.exec = Jvm.exec) (hb : c.code = cc) {X Y : Int32} (x y : Nat) (e1 : X = nI x) (e2 : Y = nI y) (h : y ≤ x) (hdg : decode cc pc = .ok (.isub, 1)) (kk : W p l e R s m args below meth c H locs cells slots Q (F0 m (pc + 1) ls (.int (nI (x - y)) :: rest))) : W p l e R s m args below meth c H locs cells slots Q (F0 m pc ls (.int Y :: .int X :: rest)) := by
  subst e1
  subst e2
  refine lv_isub hx hb hdg ?_
  rw [pk_sub h]
  exact kk
theorem fz_inc {X : Int32} {n : Nat} (h : X = nI n) : X + Int32.ofInt 1 = nI (n + 1) := by
  subst h
  exact nI_1 n
theorem fz_top {x y : Int32} (h : x = y) (kk : W p l e R s m args below meth c H locs cells slots Q (F0 m pc ls (.int y :: rest))) : W p l e R s m args below meth c H locs cells slots Q (F0 m pc ls (.int x :: rest)) := by
  subst h
  exact kk
theorem fz_at0 {x y : Int32} (h : x = y) (kk : W p l e R s m args below meth c H locs cells slots Q (F0 m pc ls (.int y :: rest))) : W p l e R s m args below meth c H locs cells slots Q (F0 m pc ls (.int x :: rest)) := by
  subst h
  exact kk
theorem fz_at1 {x y : Int32} {v0 : Value} (h : x = y) (kk : W p l e R s m args below meth c H locs cells slots Q (F0 m pc ls (v0 :: .int y :: rest))) : W p l e R s m args below meth c H locs cells slots Q (F0 m pc ls (v0 :: .int x :: rest)) := by
  subst h
  exact kk
theorem fz_at2 {x y : Int32} {v0 v1 : Value} (h : x = y) (kk : W p l e R s m args below meth c H locs cells slots Q (F0 m pc ls (v0 :: v1 :: .int y :: rest))) : W p l e R s m args below meth c H locs cells slots Q (F0 m pc ls (v0 :: v1 :: .int x :: rest)) := by
  subst h
  exact kk
theorem fz_at3 {x y : Int32} {v0 v1 v2 : Value} (h : x = y) (kk : W p l e R s m args below meth c H locs cells slots Q (F0 m pc ls (v0 :: v1 :: v2 :: .int y :: rest))) : W p l e R s m args below meth c H locs cells slots Q (F0 m pc ls (v0 :: v1 :: v2 :: .int x :: rest)) := by
  subst h
  exact kk
theorem fz_at4 {x y : Int32} {v0 v1 v2 v3 : Value} (h : x = y) (kk : W p l e R s m args below meth c H locs cells slots Q (F0 m pc ls (v0 :: v1 :: v2 :: v3 :: .int y :: rest))) : W p l e R s m args below meth c H locs cells slots Q (F0 m pc ls (v0 :: v1 :: v2 :: v3 :: .int x :: rest)) := by
  subst h
  exact kk
-- loops and joins: x tells the loop's numbers; its locals, what holds of it, its measure
theorem fz_loop {σ : Type} {nL : Nat} (LV : σ → List (Nat × Value)) (I : σ → Prop) (μ : σ → Nat) (hs : ∀ x : σ, I x → (∀ y : σ, I y → μ y < μ x → ∀ ls : Array Slot, lv_has ls nL (LV y) → W p l e R s m args below meth c H locs cells slots Q (F0 m pc ls rest)) → ∀ ls : Array Slot, lv_has ls nL (LV x) → W p l e R s m args below meth c H locs cells slots Q (F0 m pc ls rest))
    (x : σ) (h : I x) (ls : Array Slot) (hl : lv_has ls nL (LV x)) : W p l e R s m args below meth c H locs cells slots Q (F0 m pc ls rest) := by
  have key : ∀ (n : Nat) (x : σ), I x → μ x < n → ∀ ls : Array Slot, lv_has ls nL (LV x) → W p l e R s m args below meth c H locs cells slots Q (F0 m pc ls rest) := by
    intro n
    induction n with
    | zero => intro x _ h; exact absurd h (Nat.not_lt_zero _)
    | succ n ih => intro x hx hn; exact hs x hx (fun y hy hlt => ih y hy (by omega))
  exact key (μ x + 1) x h (Nat.lt_succ_self _) ls hl
theorem fz_cut {σ : Type} {nL pcj : Nat} {g : JFrame} (LV : σ → List (Nat × Value)) (I : σ → Prop) (hJ : ∀ x : σ, I x → ∀ ls : Array Slot, lv_has ls nL (LV x) → W p l e R s m args below meth c H locs cells slots Q (F0 m pcj ls []))
    (kk : (∀ x : σ, I x → ∀ ls : Array Slot, lv_has ls nL (LV x) → W p l e R s m args below meth c H locs cells slots Q (F0 m pcj ls [])) → W p l e R s m args below meth c H locs cells slots Q g) : W p l e R s m args below meth c H locs cells slots Q g := kk hJ
theorem fz_loopM {σ : Type} {nL : Nat} (LV : σ → List (Nat × Value)) (WS : σ → va_W) (I : σ → Prop) (μ : σ → Nat) (hs : ∀ x : σ, I x → (∀ y : σ, I y → μ y < μ x → ∀ (H : Heap) (locs : List Loc) (ls : Array Slot), va_P D cl (WS y) H → va_D A (WS y) → va_S A H0 H locs → lv_has ls nL (LV y) → W p l e R s m args below meth c H locs cells slots Q (F0 m pc ls rest)) → ∀ (H : Heap) (locs : List Loc) (ls : Array Slot), va_P D cl (WS x) H → va_D A (WS x) → va_S A H0 H locs → lv_has ls nL (LV x) → W p l e R s m args below meth c H locs cells slots Q (F0 m pc ls rest))
    (x : σ) (h : I x) (H : Heap) (locs : List Loc) (ls : Array Slot) (hP : va_P D cl (WS x) H) (hD : va_D A (WS x)) (hS : va_S A H0 H locs) (hl : lv_has ls nL (LV x)) : W p l e R s m args below meth c H locs cells slots Q (F0 m pc ls rest) := by
  have key : ∀ (n : Nat) (x : σ), I x → μ x < n → ∀ (H : Heap) (locs : List Loc) (ls : Array Slot), va_P D cl (WS x) H → va_D A (WS x) → va_S A H0 H locs → lv_has ls nL (LV x) → W p l e R s m args below meth c H locs cells slots Q (F0 m pc ls rest) := by
    intro n
    induction n with
    | zero => intro x _ h; exact absurd h (Nat.not_lt_zero _)
    | succ n ih => intro x hx hn; exact hs x hx (fun y hy hlt => ih y hy (by omega))
  exact key (μ x + 1) x h (Nat.lt_succ_self _) H locs ls hP hD hS hl
theorem fz_cutM {σ : Type} {nL pcj : Nat} {g : JFrame} {H9 : Heap} {locs9 : List Loc} (LV : σ → List (Nat × Value)) (WS : σ → va_W) (I : σ → Prop) (hJ : ∀ x : σ, I x → ∀ (H : Heap) (locs : List Loc) (ls : Array Slot), va_P D cl (WS x) H → va_D A (WS x) → va_S A H0 H locs → lv_has ls nL (LV x) → W p l e R s m args below meth c H locs cells slots Q (F0 m pcj ls []))
    (kk : (∀ x : σ, I x → ∀ (H : Heap) (locs : List Loc) (ls : Array Slot), va_P D cl (WS x) H → va_D A (WS x) → va_S A H0 H locs → lv_has ls nL (LV x) → W p l e R s m args below meth c H locs cells slots Q (F0 m pcj ls [])) → W p l e R s m args below meth c H9 locs9 cells slots Q g) : W p l e R s m args below meth c H9 locs9 cells slots Q g := kk hJ
theorem fz_ifeqB (hx : p.tables.exec = Jvm.exec) (hb : c.code = cc) {x : Bool} {off : Int} {tgt : Nat} (hdg : decode cc pc = .ok (.ifCond .eq off, 3)) (ht : (pc : Int) + off = (tgt : Int))
    (kt : x = false → W p l e R s m args below meth c H locs cells slots Q (F0 m tgt ls rest)) (kf : x = true → W p l e R s m args below meth c H locs cells slots Q (F0 m (pc + 3) ls rest)) : W p l e R s m args below meth c H locs cells slots Q (F0 m pc ls (.int (fz_b x) :: rest)) :=
  lv_if_eq hx hb hdg ht (fun h => kt (fz_b_0 h)) (fun h => kf (fz_b_1 h))
theorem fz_ifneB (hx : p.tables.exec = Jvm.exec) (hb : c.code = cc) {x : Bool} {off : Int} {tgt : Nat} (hdg : decode cc pc = .ok (.ifCond .ne off, 3)) (ht : (pc : Int) + off = (tgt : Int))
    (kt : x = true → W p l e R s m args below meth c H locs cells slots Q (F0 m tgt ls rest)) (kf : x = false → W p l e R s m args below meth c H locs cells slots Q (F0 m (pc + 3) ls rest)) : W p l e R s m args below meth c H locs cells slots Q (F0 m pc ls (.int (fz_b x) :: rest)) :=
  lv_if_ne hx hb hdg ht (fun h => kt (fz_b_1 h)) (fun h => kf (fz_b_0 h))
-- calls
theorem fz_preS {cy : Nat → ClassId} {As : List Value} {Wc : va_W} {E : State → Prop} (hK : va_K D vwCl (fz_TY cy) s) (hP : va_P D vwCl Wc H) (hbl : fz_bl E) (hE : ∀ U : State, U.heap = H → s.WarmedH U.vm → E U) : PreS s H (fz_R D cy As Wc E) As :=
  ⟨fz_R_blind hbl, fun U hU hW => ⟨rfl, by rw [hU]; exact hP, va_K.moved hW.alike hK, hE U hU hW⟩⟩
theorem fz_preV {cy : Nat → ClassId} {As : List Value} {Wc : va_W} {E : State → Prop} {C : String} {b ci q0 : Nat} {q : vw_C} {fs : List Value} (hK : va_K D vwCl (fz_TY cy) s) (hP : va_P D vwCl Wc H) (hc : vwCl[ci]? = some q) (hC : q.1 = C) (he : Wc[q0]? = some (b, .inr (ci, fs))) (hbl : fz_bl E) (hE : ∀ U : State, U.heap = H → s.WarmedH U.vm → E U) : PreV s H C b (fz_R D cy (.ref b :: As) Wc E) As := by
  subst hC
  exact ⟨fz_R_blind hbl, va_recv hK hP hc he, fun U hU hW => ⟨rfl, by rw [hU]; exact hP, va_K.moved hW.alike hK, hE U hU hW⟩⟩
theorem fz_preMS {cy : Nat → ClassId} {As : List Value} {Wc : va_W} {E : State → Prop} {A0 : Nat → Prop} (hK : va_K D vwCl (fz_TY cy) s) (hP : va_P D vwCl Wc H) (hD : va_D A0 Wc) (hbl : fz_bl E) (hE : ∀ U : State, U.heap = H → s.WarmedH U.vm → E U) : PreS s H (fz_M D cy As Wc E) As :=
  ⟨fz_M_blind hbl, fun U hU hW => ⟨rfl, by rw [hU]; exact hP, va_K.moved hW.alike hK, hD.weaken (fun _ _ _ _ => trivial), hE U hU hW⟩⟩
theorem fz_preMV {cy : Nat → ClassId} {As : List Value} {Wc : va_W} {E : State → Prop} {A0 : Nat → Prop} {C : String} {b ci q0 : Nat} {q : vw_C} {fs : List Value} (hK : va_K D vwCl (fz_TY cy) s) (hP : va_P D vwCl Wc H) (hD : va_D A0 Wc) (hc : vwCl[ci]? = some q) (hC : q.1 = C) (he : Wc[q0]? = some (b, .inr (ci, fs))) (hbl : fz_bl E) (hE : ∀ U : State, U.heap = H → s.WarmedH U.vm → E U) : PreV s H C b (fz_M D cy (.ref b :: As) Wc E) As := by
  subst hC
  exact ⟨fz_M_blind hbl, va_recv hK hP hc he, fun U hU hW => ⟨rfl, by rw [hU]; exact hP, va_K.moved hW.alike hK, hD.weaken (fun _ _ _ _ => trivial), hE U hU hW⟩⟩
theorem fz_retR {F : Int32} {av : Array Value} (hr : va_Run p l e R s m args below meth c H locs cells slots 0 0 (F0 m pc ls st0) rest (vp_Si (fun r => r = F) av) (fun _ => False)) (kk : W p l e R s m args below meth c H locs cells slots Q (F0 m (pc + 3) ls (.int F :: rest))) : W p l e R s m args below meth c H locs cells slots Q (F0 m pc ls st0) :=
  vp_callSi hr.run (fun r h => by rw [h]; exact kk)
theorem fz_retRL {F : Int64} {av : Array Value} (hr : va_Run p l e R s m args below meth c H locs cells slots 0 0 (F0 m pc ls st0) rest (vp_Sl (fun r => r = F) av) (fun _ => False)) (kk : W p l e R s m args below meth c H locs cells slots Q (F0 m (pc + 3) ls (.long F :: rest))) : W p l e R s m args below meth c H locs cells slots Q (F0 m pc ls st0) :=
  vp_callSl hr.run (fun r h => by rw [h]; exact kk)
/-- two worlds entry by entry: the same addresses; where the mask says false, the same entry -/
def fz_sm : va_W → va_W → List Bool → Prop
  | [], [], [] => True
  | x :: a, y :: b, true :: c => x.1 = y.1 ∧ fz_sm a b c
  | x :: a, y :: b, false :: c => x = y ∧ fz_sm a b c
  | _, _, _ => False
theorem fz_smD : ∀ (ws ws' : va_W) (mk : List Bool), fz_sm ws ws' mk → ws'.map Prod.fst = ws.map Prod.fst ∧ ∀ i : Nat, mk[i]? = some false → ws'[i]? = ws[i]?
  | [], [], [], _ => ⟨rfl, fun _ h => nomatch h⟩
  | x :: a, y :: b, true :: c, h => by
    obtain ⟨h1, h2⟩ := fz_smD a b c h.2
    refine ⟨by rw [List.map_cons, List.map_cons, h1, h.1], fun i hi => ?_⟩
    cases i with
    | zero => exact nomatch hi
    | succ i => rw [List.getElem?_cons_succ, List.getElem?_cons_succ]; exact h2 i hi
  | x :: a, y :: b, false :: c, h => by
    obtain ⟨h1, h2⟩ := fz_smD a b c h.2
    refine ⟨by rw [List.map_cons, List.map_cons, h1, h.1], fun i hi => ?_⟩
    cases i with
    | zero => rw [List.getElem?_cons_zero, List.getElem?_cons_zero, h.1]
    | succ i => rw [List.getElem?_cons_succ, List.getElem?_cons_succ]; exact h2 i hi
  | [], [], _ :: _, h => False.elim h
  | [], _ :: _, _, h => False.elim h
  | _ :: _, [], _, h => False.elim h
  | _ :: _, _ :: _, [], h => False.elim h
theorem fz_sm2 {ws ws' : va_W} {mk : List Bool} (h : fz_sm ws ws' mk) (pr : List Nat) (hp : pr.all (fun i => mk[i]? == some false) = true) : pr.map (fun i => ws'[i]?) = pr.map (fun i => ws[i]?) :=
  List.map_congr_left fun i hi => (fz_smD ws ws' mk h).2 i (by have := List.all_eq_true.mp hp i hi; exact eq_of_beq this)
theorem fz_retM {F : Int32} {av : Array Value} {Wc Wc' ws' : va_W} (hr : va_Run p l e R s m args below meth c H locs cells slots 0 0 (F0 m pc ls st0) rest (va_Qi (fun (r : Int32) (_ : Unit) => r = F) (fun _ t => va_P D cl Wc' t.heap) (fz_in Wc) av) (fz_in Wc))
    (hP : va_P D cl ws H) (hD : va_D A ws) (hS : va_S A H0 H locs) (pl pr : List Nat) (h0 : pl.filterMap (fun i => ws[i]?) = Wc) (h1 : pl.filterMap (fun i => ws'[i]?) = Wc') (mk : List Bool) (h2 : fz_sm ws ws' mk) (hp2 : pr.all (fun i => mk[i]? == some false) = true)
    (hcov : (List.range ws'.length).all (fun k => (pl.contains k && !(pr.contains k)) || (pr.contains k && !(pl.contains k))) = true)
    (kk : ∀ (H1 : Heap) (locs1 : List Loc), va_P D cl ws' H1 → va_D A ws' → va_S A H0 H1 locs1 → W p l e R s m args below meth c H1 locs1 cells slots Q (F0 m (pc + 3) ls (.int F :: rest))) : W p l e R s m args below meth c H locs cells slots Q (F0 m pc ls st0) := by
  have hin : ∀ q, fz_in Wc q → A q := fun q hq => by
    obtain ⟨i, x, -, hi⟩ := fz_in_of pl h0 hq
    exact hD.2 i _ hi
  refine va_calli hr hS (fun q _ h => hin q h) hin (fun r u t H1 locs1 ht hvm hp hB hz hk hS1 => ?_)
  rw [hp]
  rw [ht] at hB
  exact kk H1 locs1 (fz_put hP hD pl pr h0 h1 (fz_sm2 h2 pr hp2) hcov (fun q h _ => h) hk hB) (fz_Dc (fz_smD _ _ _ h2).1 hD) hS1
theorem fz_retML {F : Int64} {av : Array Value} {Wc Wc' ws' : va_W} (hr : va_Run p l e R s m args below meth c H locs cells slots 0 0 (F0 m pc ls st0) rest (va_Ql (fun (r : Int64) (_ : Unit) => r = F) (fun _ t => va_P D cl Wc' t.heap) (fz_in Wc) av) (fz_in Wc))
    (hP : va_P D cl ws H) (hD : va_D A ws) (hS : va_S A H0 H locs) (pl pr : List Nat) (h0 : pl.filterMap (fun i => ws[i]?) = Wc) (h1 : pl.filterMap (fun i => ws'[i]?) = Wc') (mk : List Bool) (h2 : fz_sm ws ws' mk) (hp2 : pr.all (fun i => mk[i]? == some false) = true)
    (hcov : (List.range ws'.length).all (fun k => (pl.contains k && !(pr.contains k)) || (pr.contains k && !(pl.contains k))) = true)
    (kk : ∀ (H1 : Heap) (locs1 : List Loc), va_P D cl ws' H1 → va_D A ws' → va_S A H0 H1 locs1 → W p l e R s m args below meth c H1 locs1 cells slots Q (F0 m (pc + 3) ls (.long F :: rest))) : W p l e R s m args below meth c H locs cells slots Q (F0 m pc ls st0) := by
  have hin : ∀ q, fz_in Wc q → A q := fun q hq => by
    obtain ⟨i, x, -, hi⟩ := fz_in_of pl h0 hq
    exact hD.2 i _ hi
  refine va_calll hr hS (fun q _ h => hin q h) hin (fun r u t H1 locs1 ht hvm hp hB hz hk hS1 => ?_)
  rw [hp]
  rw [ht] at hB
  exact kk H1 locs1 (fz_put hP hD pl pr h0 h1 (fz_sm2 h2 pr hp2) hcov (fun q h _ => h) hk hB) (fz_Dc (fz_smD _ _ _ h2).1 hD) hS1
theorem fz_retMV {av : Array Value} {Wc Wc' ws' : va_W} (hr : va_Run p l e R s m args below meth c H locs cells slots 0 0 (F0 m pc ls st0) rest (va_Qv (fun (_ : Unit) => True) (fun _ t => va_P D cl Wc' t.heap) (fz_in Wc) av) (fz_in Wc))
    (hP : va_P D cl ws H) (hD : va_D A ws) (hS : va_S A H0 H locs) (pl pr : List Nat) (h0 : pl.filterMap (fun i => ws[i]?) = Wc) (h1 : pl.filterMap (fun i => ws'[i]?) = Wc') (mk : List Bool) (h2 : fz_sm ws ws' mk) (hp2 : pr.all (fun i => mk[i]? == some false) = true)
    (hcov : (List.range ws'.length).all (fun k => (pl.contains k && !(pr.contains k)) || (pr.contains k && !(pl.contains k))) = true)
    (kk : ∀ (H1 : Heap) (locs1 : List Loc), va_P D cl ws' H1 → va_D A ws' → va_S A H0 H1 locs1 → W p l e R s m args below meth c H1 locs1 cells slots Q (F0 m (pc + 3) ls rest)) : W p l e R s m args below meth c H locs cells slots Q (F0 m pc ls st0) := by
  have hin : ∀ q, fz_in Wc q → A q := fun q hq => by
    obtain ⟨i, x, -, hi⟩ := fz_in_of pl h0 hq
    exact hD.2 i _ hi
  refine va_callv hr hS (fun q _ h => hin q h) hin (fun u t H1 locs1 ht hvm hp hB hz hk hS1 => ?_)
  rw [ht] at hB
  exact kk H1 locs1 (fz_put hP hD pl pr h0 h1 (fz_sm2 h2 pr hp2) hcov (fun q h _ => h) hk hB) (fz_Dc (fz_smD _ _ _ h2).1 hD) hS1
end FZ
