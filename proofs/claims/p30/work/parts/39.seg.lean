/-! the class's whole world: the object, its history, calendars, its text; worlds by their segments -/
abbrev FW (f a t h x : Nat → Nat) : va_W := [(f 0, .inr (6, [.ref (a 0), .ref (t 0), .ref (h 0), .ref (x 0)]))]
abbrev HW (cy : Nat → ClassId) (h : Nat → Nat) (g : Nat → Option Nat) (cn : Int32) : va_W := [(h 0, .inr (3, [.int cn, .ref (h 1)])), (h 1, .inl (cy 3, 5, .inr (.inr (.inr (.inr g)))))]
theorem fz_seg {D : va_G} {cl : List vw_C} {P M S : va_W} {H : Heap} (h : va_P D cl (P ++ (M ++ S)) H) : va_P D cl M H := by
  intro k q hk
  obtain ⟨i, hi⟩ := List.getElem?_of_mem (List.mem_append_right P (List.mem_append_left S (List.mem_of_getElem? hk)))
  exact h i q hi
theorem fz_segD {A : Nat → Prop} {P M S : va_W} (h : va_D A (P ++ (M ++ S))) : va_D A M := by
  have key : ∀ (k : Nat) (q : Nat × va_E), M[k]? = some q → (P ++ (M ++ S))[P.length + k]? = some q := by
    intro k q hk
    rw [List.getElem?_append_right (Nat.le_add_right _ _), Nat.add_sub_cancel_left, List.getElem?_append_left (List.getElem?_eq_some_iff.mp hk).1]
    exact hk
  refine ⟨fun i j p q hi hj e => ?_, fun k q hk => h.2 _ q (key k q hk)⟩
  have := h.1 _ _ p q (key i p hi) (key j q hj) e
  omega
/-- a callee's new cells in the middle of a world -/
theorem fz_sg {D : va_G} {cl : List vw_C} {A : Nat → Prop} {P S Wc Wc' : va_W} {H H1 : Heap} (hP : va_P D cl (P ++ (Wc ++ S)) H) (hD : va_D A (P ++ (Wc ++ S))) (hk : ∀ q : Nat, q < H.size → ¬ fz_in Wc q → H1[q]? = H[q]?) (hP1 : va_P D cl Wc' H1) (e : Wc'.map Prod.fst = Wc.map Prod.fst) : va_P D cl (P ++ (Wc' ++ S)) H1 ∧ va_D A (P ++ (Wc' ++ S)) := by
  have hlen : Wc'.length = Wc.length := by
    have := congrArg List.length e
    rwa [List.length_map, List.length_map] at this
  refine ⟨fun k q hq => ?_, fz_Dc (by rw [List.map_append, List.map_append, List.map_append, List.map_append, e]) hD⟩
  have out : (P ++ (Wc ++ S))[k]? = some q → (k < P.length ∨ P.length + Wc.length ≤ k) → va_at D cl q H1 := by
    intro ho hout
    refine (hP k q ho).kept (hk q.1 (hP k q ho).lt fun z => ?_)
    obtain ⟨j, x, hj⟩ := z
    have hl := (List.getElem?_eq_some_iff.mp hj).1
    have h2 : (P ++ (Wc ++ S))[P.length + j]? = some (q.1, x) := by
      rw [List.getElem?_append_right (Nat.le_add_right _ _), Nat.add_sub_cancel_left, List.getElem?_append_left hl]
      exact hj
    have := hD.1 k _ q _ ho h2 rfl
    omega
  by_cases c1 : k < P.length
  · exact out (by rw [List.getElem?_append_left c1] at hq ⊢; exact hq) (Or.inl c1)
  · have c1' := Nat.le_of_not_lt c1
    rw [List.getElem?_append_right c1'] at hq
    by_cases c2 : k - P.length < Wc'.length
    · rw [List.getElem?_append_left c2] at hq
      exact hP1 _ q hq
    · have c2' := Nat.le_of_not_lt c2
      refine out ?_ (Or.inr (by omega))
      rw [List.getElem?_append_right c2'] at hq
      rw [List.getElem?_append_right c1', List.getElem?_append_right (by omega), ← hlen]
      exact hq
section FZS
variable {p : Program} {l : Launch} {e : Env} {R : Room} {s : State} {m : MethodId} {args : Array Value} {below : List Frame} {meth : Method} {c : Code} {H : Heap} {locs : List Loc} {cells slots : Nat} {Q : State → Prop}
variable {cc : ByteArray} {pc : Nat} {ls : Array Slot} {rest st0 : List Value} {D : va_G} {cl : List vw_C} {A : Nat → Prop} {a : Nat} {tys : List (ClassId × FieldType)} {ws : va_W} {H0 : Heap}
theorem fz_inA {P Wc S : va_W} (hD : va_D A (P ++ (Wc ++ S))) {q : Nat} (hq : fz_in Wc q) : A q := by
  obtain ⟨k, x, hk⟩ := hq
  exact (fz_segD hD).2 k _ hk
/-- behind a call whose world is a segment of this one -/
theorem fz_sretM {F : Int32} {av : Array Value} {P S Wc Wc' : va_W} (hr : va_Run p l e R s m args below meth c H locs cells slots 0 0 (F0 m pc ls st0) rest (va_Qi (fun (r : Int32) (_ : Unit) => r = F) (fun _ t => va_P D cl Wc' t.heap) (fz_in Wc) av) (fz_in Wc))
    (hP : va_P D cl (P ++ (Wc ++ S)) H) (hD : va_D A (P ++ (Wc ++ S))) (hS : va_S A H0 H locs) (h2 : Wc'.map Prod.fst = Wc.map Prod.fst)
    (kk : ∀ (H1 : Heap) (locs1 : List Loc), va_P D cl (P ++ (Wc' ++ S)) H1 → va_D A (P ++ (Wc' ++ S)) → va_S A H0 H1 locs1 → W p l e R s m args below meth c H1 locs1 cells slots Q (F0 m (pc + 3) ls (.int F :: rest))) : W p l e R s m args below meth c H locs cells slots Q (F0 m pc ls st0) := by
  have hin : ∀ q, fz_in Wc q → A q := fun q hq => fz_inA hD hq
  refine va_calli hr hS (fun q _ h => hin q h) hin (fun r u t H1 locs1 ht hvm hp hB hz hk hS1 => ?_)
  rw [hp]
  rw [ht] at hB
  obtain ⟨g1, g2⟩ := fz_sg hP hD (fun q h n => hk q h n) hB h2
  exact kk H1 locs1 g1 g2 hS1
theorem fz_sretMV {av : Array Value} {P S Wc Wc' : va_W} (hr : va_Run p l e R s m args below meth c H locs cells slots 0 0 (F0 m pc ls st0) rest (va_Qv (fun (_ : Unit) => True) (fun _ t => va_P D cl Wc' t.heap) (fz_in Wc) av) (fz_in Wc))
    (hP : va_P D cl (P ++ (Wc ++ S)) H) (hD : va_D A (P ++ (Wc ++ S))) (hS : va_S A H0 H locs) (h2 : Wc'.map Prod.fst = Wc.map Prod.fst)
    (kk : ∀ (H1 : Heap) (locs1 : List Loc), va_P D cl (P ++ (Wc' ++ S)) H1 → va_D A (P ++ (Wc' ++ S)) → va_S A H0 H1 locs1 → W p l e R s m args below meth c H1 locs1 cells slots Q (F0 m (pc + 3) ls rest)) : W p l e R s m args below meth c H locs cells slots Q (F0 m pc ls st0) := by
  have hin : ∀ q, fz_in Wc q → A q := fun q hq => fz_inA hD hq
  refine va_callv hr hS (fun q _ h => hin q h) hin (fun u t H1 locs1 ht hvm hp hB hz hk hS1 => ?_)
  rw [ht] at hB
  obtain ⟨g1, g2⟩ := fz_sg hP hD (fun q h n => hk q h n) hB h2
  exact kk H1 locs1 g1 g2 hS1
-- arrays of references
theorem fz_aald (hx : p.tables.exec = Jvm.exec) (hb : c.code = cc) (hK : va_K D cl tys s) (hP : va_P D cl ws H) (q0 t0 : Nat) {cA : ClassId} {C : String} {n : Nat} {f : Nat → Option Nat} (ha : ws[q0]? = some (a, .inl (cA, n, .inr (.inr (.inr (.inr f)))))) (ht : tys[t0]? = some (cA, .object C)) {i : Int32} (j : Nat) (hi : i = nI j) (hj : j < n) (hn : n < 2 ^ 31) {w : Nat} (hw : f j = some w) (hdg : decode cc pc = .ok (.aaload, 1))
    (kk : W p l e R s m args below meth c H locs cells slots Q (F0 m (pc + 1) ls (.ref w :: rest))) : W p l e R s m args below meth c H locs cells slots Q (F0 m pc ls (.int i :: .ref a :: rest)) := by
  subst hi
  refine va_aldq hx hb hK hP q0 t0 ha ht (vp_in_nI hj hn) hdg ?_
  rw [nI_clamp (Nat.lt_trans hj hn), hw]
  exact kk
theorem fz_aast (hx : p.tables.exec = Jvm.exec) (hb : c.code = cc) (hK : va_K D cl tys s) (hP : va_P D cl ws H) (hD : va_D A ws) (hS : va_S A H0 H locs) (q0 t0 ci : Nat) {cA : ClassId} {r : vw_C} {n v : Nat} {vs : List Value} {f : Nat → Option Nat} (ha : ws[q0]? = some (a, .inl (cA, n, .inr (.inr (.inr (.inr f)))))) (ht : tys[t0]? = some (cA, .object r.1)) (hv : (v, .inr (ci, vs)) ∈ ws) (hc : cl[ci]? = some r) {i : Int32} (j : Nat) (hi : i = nI j) (hj : j < n) (hn : n < 2 ^ 31) (hdg : decode cc pc = .ok (.aastore, 1))
    (kk : ∀ (H1 : Heap) (locs1 : List Loc), va_P D cl (ws.set q0 (a, .inl (cA, n, .inr (.inr (.inr (.inr (va_up f j (some v)))))))) H1 → va_D A (ws.set q0 (a, .inl (cA, n, .inr (.inr (.inr (.inr (va_up f j (some v)))))))) → va_S A H0 H1 locs1 → W p l e R s m args below meth c H1 locs1 cells slots Q (F0 m (pc + 1) ls rest)) : W p l e R s m args below meth c H locs cells slots Q (F0 m pc ls (.ref v :: .int i :: .ref a :: rest)) := by
  subst hi
  obtain ⟨qk, hq⟩ := List.getElem?_of_mem hv
  refine va_astq hx hb hK hP hD hS q0 t0 qk ci ha ht hq hc (vp_in_nI hj hn) hdg ?_
  rw [nI_clamp (Nat.lt_trans hj hn)]
  exact kk
end FZS
theorem fz_cellQ {n : Nat} {f g : Nat → Option Nat} (h : ∀ j, j < n → f j = g j) (cA : ClassId) : vp_cell cA (n, .inr (.inr (.inr (.inr f)))) = vp_cell cA (n, .inr (.inr (.inr (.inr g)))) := by
  rw [vp_cell_q, vp_cell_q]
  unfold arrV
  congr 2
  funext j
  show va_rf (f j.val) = va_rf (g j.val)
  rw [h j.val j.isLt]
/-- a history's slots, told otherwise -/
theorem fz_HWe {D : va_G} {cl : List vw_C} {cy : Nat → ClassId} {h : Nat → Nat} {g g' : Nat → Option Nat} {cn : Int32} {P S : va_W} {H : Heap} (e : ∀ k, k < 5 → g k = g' k) (hP : va_P D cl (P ++ (HW cy h g cn ++ S)) H) : va_P D cl (P ++ (HW cy h g' cn ++ S)) H := by
  intro k q hq
  have m1 := List.mem_of_getElem? hq
  rcases List.mem_append.mp m1 with h1 | h1
  · obtain ⟨i, hi⟩ := List.getElem?_of_mem (List.mem_append_left (HW cy h g cn ++ S) h1)
    exact hP i q hi
  · rcases List.mem_append.mp h1 with h2 | h2
    · rcases List.mem_cons.mp h2 with h3 | h3
      · obtain ⟨i, hi⟩ := List.getElem?_of_mem (List.mem_append_right P (List.mem_append_left S (List.mem_cons_self (a := q) (l := [(h 1, .inl (cy 3, 5, .inr (.inr (.inr (.inr g)))))]))))
        subst h3
        exact hP i _ hi
      · cases List.mem_singleton.mp h3
        have h4 : va_at D cl (h 1, .inl (cy 3, 5, .inr (.inr (.inr (.inr g))))) H := by
          obtain ⟨i, hi⟩ := List.getElem?_of_mem (List.mem_append_right P (List.mem_append_left S (List.mem_cons_of_mem (h 0, .inr (3, [.int cn, .ref (h 1)])) (List.mem_cons_self (a := ((h 1, .inl (cy 3, 5, .inr (.inr (.inr (.inr g))))) : Nat × va_E)) (l := [])))))
          exact hP i _ hi
        exact fz_atE (fz_cellQ e (cy 3)) h4
    · obtain ⟨i, hi⟩ := List.getElem?_of_mem (List.mem_append_right P (List.mem_append_right (HW cy h g cn) h2))
      exact hP i q hi
/-- x is a calendar of the world Z -/
def fz_hd (Z : va_W) (x : Nat) : Prop := ∃ fs : List Value, (x, .inr (0, fs)) ∈ Z
theorem fz_hd_r {Y Z : va_W} {x : Nat} (h : fz_hd Z x) : fz_hd (Y ++ Z) x := by
  obtain ⟨fs, h⟩ := h
  exact ⟨fs, List.mem_append_right Y h⟩
theorem fz_hd_c {cy : Nat → ClassId} {w : Nat → Nat} {N N' : Nat → Nat → Int32} {Z : va_W} {x : Nat} (h : fz_hd (CW cy w N ++ Z) x) : fz_hd (CW cy w N' ++ Z) x := by
  obtain ⟨fs, h⟩ := h
  rcases List.mem_append.mp h with h | h
  · refine ⟨[.int (N' 0 0), .ref (w 1), .ref (w 2), .ref (w 3), .ref (w 8), .ref (w 17)], List.mem_append_left Z ?_⟩
    have e : x = w 0 := by
      simp only [List.mem_cons, Prod.mk.injEq, Sum.inr.injEq, reduceCtorEq, and_false, false_or, or_false, List.not_mem_nil] at h
      rcases h with h | h | h | h
      · exact h.1
      all_goals exact absurd h.2.1 (by decide)
    rw [e]
    exact List.mem_cons_self
  · exact ⟨fs, List.mem_append_right _ h⟩
