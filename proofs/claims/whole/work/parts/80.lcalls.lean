/-! the law's calls, told over the whole world -/
def lw_cal (l : Launch) (y : MethodName) (ws : List Cond) (fr lo k n : Nat) (D : va_G) (cy : Nat → ClassId) (av : List Value) (Wn : va_W) (F : Int32) (Wn' : va_W) : Prop :=
  ∃ S Wc Wc' : va_W, fz_XI l y ws fr lo k n D cy av Wc (fz_Ew (fz_in Wc)) F Wc' true xIS Wc' ∧ Wn.Perm (Wc ++ S) ∧ (Wc' ++ S).Perm Wn' ∧ Wc'.map Prod.fst = Wc.map Prod.fst
def lw_mal (E : (Nat → Prop) → State → Prop) (l : Launch) (y : MethodName) (ws : List Cond) (fr lo : Nat) (D : va_G) (cy : Nat → ClassId) (rb ci : Nat) (As : List Value) (Wn : va_W) (F : Int32) (Wn' : va_W) : Prop :=
  ∃ (S Wc Wc' : va_W) (fs : List Value), fz_MI l y ws fr lo D cy (.ref rb :: As) Wc (E (fz_in Wc)) F Wc' ∧ Wc[0]? = some (rb, .inr (ci, fs)) ∧ Wn.Perm (Wc ++ S) ∧ (Wc' ++ S).Perm Wn' ∧ Wc'.map Prod.fst = Wc.map Prod.fst
theorem lw_nil {W : va_W} : W.Perm (W ++ []) := by rw [List.append_nil]
theorem lw_nil' {W : va_W} : (W ++ []).Perm W := by rw [List.append_nil]
section LWC
variable {p : Program} {l : Launch} {e : Env} {R : Room} {s : State} {m : MethodId} {args : Array Value} {below : List Frame} {meth : Method} {c : Code} {H : Heap} {locs : List Loc} {cells slots : Nat} {Q : State → Prop}
variable {cc : ByteArray} {pc : Nat} {ls : Array Slot} {rest st0 : List Value} {D : va_G} {cy : Nat → ClassId} {A : Nat → Prop} {H0 : Heap}
/-- a wrapper is called -/
theorem lw_callW {y : MethodName} {ws : List Cond} {fr lo k n na nL index maxL : Nat} {av : List Value} {Wn Wn' : va_W} {F : Int32} {Ts : List Cond} {own : String} {bytes : ByteArray} {ret : Option FieldType} {hh : List (Nat × Nat × Nat × Nat)} (C : lw_cal l y ws fr lo k n D cy av Wn F Wn')
    (Sf : CallFix p m c cc nL s args Ts own) (cw : vx_CSW R s args own index y bytes maxL ret hh ws { frames := fr, cells := k, slots := n, locals := lo } k n na) (hK : va_K D vwCl (fz_TY cy) s) (hP : va_P D vwCl Wn H) (hD : va_D A Wn) (hS : va_S A s.heap H locs) (hE : fz_Ew A s) (hn : av.length = na) (hsize : ls.size = nL) (hst : st0 = av.reverse ++ rest) (hW : (rest.map fun v => v.category).sum ≤ 8) (hdg : decode cc pc = .ok (.invokestatic index, 3)) (hf : cells + k ≤ R.cells ∧ slots + n ≤ R.slots)
    (kk : ∀ (H1 : Heap) (locs1 : List Loc), va_P D vwCl Wn' H1 → va_D A Wn' → va_S A s.heap H1 locs1 → W p l e R s m args below meth c H1 locs1 (cells + k) (slots + n) Q (F0 m (pc + 3) ls (.int F :: rest))) : W p l e R s m args below meth c H locs cells slots Q (F0 m pc ls st0) := by
  obtain ⟨S, Wc, Wc', hc, e1, e2, e3⟩ := C
  have hP' : va_P D vwCl ([] ++ (Wc ++ S)) H := fz_permP (fun q hq => e1.mem_iff.mpr hq) hP
  have hD' : va_D A ([] ++ (Wc ++ S)) := fz_permD e1 hD
  exact fz_xretI (P := []) (S := S) (Wc := Wc) (Wc' := Wc') (WX := Wc') (vx_runSX Sf hc cw (fz_preMS hK (fz_seg hP') (fz_segD hD') fz_Ew_bl (fun U hU hW => hE.up hU hS hW (fun q h9 => fz_inA hD' h9))) rfl hn hsize hst (by show 2 * 0 + _ ≤ 8; omega) hdg hf) hP' hD' hS e3 e3
    (fun z => absurd z (by decide)) (fun _ H1 locs1 p1 d1 s1 => kk H1 locs1 (fz_permP (fun q hq => e2.mem_iff.mpr hq) p1) (fz_permD e2 d1) s1)
/-- a method is called -/
theorem lw_callM {E : (Nat → Prop) → State → Prop} {y : MethodName} {ws : List Cond} {fr lo na nL index maxL rb ci : Nat} {As : List Value} {Wn Wn' : va_W} {F : Int32} {Ts : List Cond} {own C : String} {q : vw_C} {bytes : ByteArray} {ret : Option FieldType} (K : lw_mal E l y ws fr lo D cy rb ci As Wn F Wn')
    (Sf : CallFix p m c cc nL s args Ts own) (cw : CallW R s args own C index y bytes maxL ret ws { frames := fr, cells := 0, slots := 0, locals := lo } 0 0 na) (hc : vwCl[ci]? = some q) (hC : q.1 = C) (hK : va_K D vwCl (fz_TY cy) s) (hP : va_P D vwCl Wn H) (hD : va_D A Wn) (hS : va_S A s.heap H locs) (hbl : ∀ B, fz_bl (E B)) (hE : ∀ B : Nat → Prop, (∀ q, B q → A q) → ∀ U : State, U.heap = H → s.WarmedH U.vm → E B U) (hn : As.length = na) (hsize : ls.size = nL) (hst : st0 = As.reverse ++ .ref rb :: rest) (hW : (rest.map fun v => v.category).sum ≤ 8) (hdg : decode cc pc = .ok (.invokevirtual index, 3)) (hf : cells + 0 ≤ R.cells ∧ slots + 0 ≤ R.slots)
    (kk : ∀ (H1 : Heap) (locs1 : List Loc), va_P D vwCl Wn' H1 → va_D A Wn' → va_S A s.heap H1 locs1 → W p l e R s m args below meth c H1 locs1 cells slots Q (F0 m (pc + 3) ls (.int F :: rest))) : W p l e R s m args below meth c H locs cells slots Q (F0 m pc ls st0) := by
  obtain ⟨S, Wc, Wc', fs, hm, h0, e1, e2, e3⟩ := K
  have hP' : va_P D vwCl ([] ++ (Wc ++ S)) H := fz_permP (fun q hq => e1.mem_iff.mpr hq) hP
  have hD' : va_D A ([] ++ (Wc ++ S)) := fz_permD e1 hD
  exact fz_sretM (P := []) (S := S) (Wc := Wc) (Wc' := Wc') (va_runV Sf hm cw (fz_preMV hK (fz_seg hP') (fz_segD hD') hc hC h0 (hbl _) (fun U hU hW => hE _ (fun q h9 => fz_inA hD' h9) U hU hW)) rfl hn hsize hst (by show 2 * 0 + _ ≤ 8; omega) hdg hf) hP' hD' hS e3
    (fun H1 locs1 p1 d1 s1 => kk H1 locs1 (fz_permP (fun q hq => e2.mem_iff.mpr hq) p1) (fz_permD e2 d1) s1)
/-- a cell of the script -/
theorem lw_elem (hx : p.tables.exec = Jvm.exec) (hb : c.code = cc) {sc L nL : Nat} {xs : Nat → Int32} {lv : List (Nat × Value)} (hX : va_X sc L xs s H0) (hbl : sc < H0.size) (hbA : ¬ A sc) (hS : va_S A H0 H locs) {i k a b : Nat} {kz : Int} (hl : lv_has ls nL lv) (h0 : lv[a]? = some (0, .ref sc)) (h4 : lv[b]? = some (4, .int (nI i))) (hik : i + k < L) (hL : L ≤ 2560) (hk : Int32.ofInt kz = nI k)
    (d0 : decode cc pc = .ok (.aload_n 0, 1)) (d1 : decode cc (pc + 1) = .ok (.iload 4, 2)) (d3 : decode cc (pc + 3) = .ok (.iconst kz, 1)) (d4 : decode cc (pc + 4) = .ok (.iadd, 1)) (d5 : decode cc (pc + 5) = .ok (.iaload, 1))
    (kk : W p l e R s m args below meth c H locs cells slots Q (F0 m (pc + 6) ls (.int (xs (i + k)) :: rest))) : W p l e R s m args below meth c H locs cells slots Q (F0 m pc ls rest) := by
  refine lv_aload_n hx hb d0 rfl (lv_at hl a h0) ?_
  refine lv_iload hx hb d1 (lv_at hl b h4) ?_
  refine lv_iconst hx hb d3 hk ?_
  refine lv_iadd hx hb d4 ?_
  rw [nI_add]
  refine va_sld hx hb hX hbl hbA hS (vp_in_nI hik (by omega)) d5 ?_
  rw [nI_clamp (by omega)]
  exact kk
end LWC
