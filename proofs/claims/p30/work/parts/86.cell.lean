/-! a cell of the script, or a number by its place -/
set_option maxHeartbeats 1000000 in
set_option maxRecDepth 20000 in
theorem m_cell (l : Launch) {sc L : Nat} {xs : Nat → Int32} (hL : L ≤ 260) {k : Nat} (hk : k < 1000) : Met l yL_cell wsL_cell ({ frames := 0, cells := 0, slots := 0, locals := 0 }) (va_Pc [.ref sc, .int (nI k)] (fun U => va_X sc L xs U U.heap)) (vp_Si (fun r => ∃ z, z < 2 ^ 31 ∧ r = nI z)) 0 0 (fun _ => False) := by
  refine Met.ofW (cc := cL_cell) (maxL := 2) (ret := (some .int)) (by decide) rfl ?_
  intro p e s m args below meth c s₁ B9 hml hv
  obtain ⟨rfl, hX⟩ := hv
  have hx := B9.exec
  have hb := B9.bytes
  have hr := B9.returns
  have hts := atoms_spec (ws := wsL_cell) B9.pre
  have hown : s.vm.findClass RL = some m.cls := findClass_of_methodNamed B9.named
  have hbl : sc < s.heap.size := by
    obtain ⟨scr, h1, -⟩ := hX
    exact (Array.getElem?_eq_some_iff.mp h1).1
  have hbA : ¬ (fun _ : Nat => False) sc := fun z => z
  have hS : va_S (fun _ : Nat => False) s.heap s.heap [] := va_S.rf
  have hl := lv_entry ([.ref sc, .int (nI k)]) (n := 2) (Nat.le_of_ble_eq_true rfl)
  rw [lg_entry_eq]
  generalize (lg_sl ([.ref sc, .int (nI k)]) ++ List.replicate (2 - (lg_sl ([.ref sc, .int (nI k)])).length) Slot.unset).toArray = ls at hl ⊢
  have hl : lv_has ls 2 [(0, .ref sc), (1, .int (nI k))] := hl
  refine lv_iload_n hx hb dL_cell_0 rfl (lv_at hl 1 rfl) ?_
  refine lv_aload_n hx hb dL_cell_1 rfl (lv_at hl 0 rfl) ?_
  refine va_slen hx hb hX hbl hbA hS dL_cell_2 ?_
  refine lv_icmp_ge (tgt := 12) hx hb dL_cell_3 (by decide) (fun c9 => ?_) (fun c9 => ?_)
  · refine lv_ldc (v := 15485803) hx hb hown (hts (.constant RL 7 (15485803)) (by decide +kernel)) dL_cell_12 ?_
    refine lv_iload_n hx hb dL_cell_14 rfl (lv_at hl 1 rfl) ?_
    refine lv_imul hx hb dL_cell_15 ?_
    refine lv_sipush (v := 181) hx hb dL_cell_16 (by decide) ?_
    refine lv_iadd hx hb dL_cell_19 ?_
    refine lv_ldc (v := 2147483647) hx hb hown (hts (.constant RL 8 (2147483647)) (by decide +kernel)) dL_cell_20 ?_
    refine lv_iand hx hb dL_cell_22 ?_
    exact W.iret hx hb hr (fun t9 ht9 hW9 => ⟨_, rfl, and_max _, ht9⟩) (fun _ h => nomatch h) dL_cell_23
  · have hi : k < L := Nat.lt_of_not_le fun z => c9 ((nI_leI (a := L) (by omega) (by omega)).mpr z)
    refine lv_aload_n hx hb dL_cell_6 rfl (lv_at hl 0 rfl) ?_
    refine lv_iload_n hx hb dL_cell_7 rfl (lv_at hl 1 rfl) ?_
    refine va_sld hx hb hX hbl hbA hS (vp_in_nI hi (by omega)) dL_cell_8 ?_
    refine lv_goto (tgt := 20) hx hb dL_cell_9 (by decide) ?_
    refine lv_ldc (v := 2147483647) hx hb hown (hts (.constant RL 8 (2147483647)) (by decide +kernel)) dL_cell_20 ?_
    refine lv_iand hx hb dL_cell_22 ?_
    exact W.iret hx hb hr (fun t9 ht9 hW9 => ⟨_, rfl, and_max _, ht9⟩) (fun _ h => nomatch h) dL_cell_23
section CELL
variable {p : Program} {l : Launch} {e : Env} {R : Room} {s : State} {m : MethodId} {args : Array Value} {below : List Frame} {meth : Method} {c : Code} {H : Heap} {locs : List Loc} {cells slots : Nat} {Q : State → Prop}
variable {cc : ByteArray} {pc : Nat} {ls : Array Slot} {rest st0 : List Value} {A : Nat → Prop}
theorem cell_ret {P : Int32 → Prop} {av : Array Value} (hr : va_Run p l e R s m args below meth c H locs cells slots 0 0 (F0 m pc ls st0) rest (vp_Si P av) (fun _ => False)) (kk : ∀ r : Int32, P r → W p l e R s m args below meth c H locs cells slots Q (F0 m (pc + 3) ls (.int r :: rest))) : W p l e R s m args below meth c H locs cells slots Q (F0 m pc ls st0) :=
  vp_callSi hr.run kk
theorem cell_call {sc L nL index : Nat} {xs : Nat → Int32} {Ts : List Cond} {own : String} (hL : L ≤ 260) {k : Nat} (hk : k < 1000) (hX : va_X sc L xs s s.heap) (hbl : sc < s.heap.size) (hbA : ¬ A sc) (hS : va_S A s.heap H locs)
    (Sf : CallFix p m c cc nL s args Ts own) (cw : CallB R s args own index yL_cell cL_cell 2 (some .int) wsL_cell { frames := 0, cells := 0, slots := 0, locals := 0 } 0 0 2 ∧ (Cond.static yL_cell).before args s = true) (hsize : ls.size = nL) (hst : st0 = ([.ref sc, .int (nI k)] : List Value).reverse ++ rest) (hW : (rest.map fun v => v.category).sum ≤ 8) (hdg : decode cc pc = .ok (.invokestatic index, 3)) (hf : cells + 0 ≤ R.cells ∧ slots + 0 ≤ R.slots)
    (kk : ∀ z : Nat, z < 2 ^ 31 → W p l e R s m args below meth c H locs cells slots Q (F0 m (pc + 3) ls (.int (nI z) :: rest))) : W p l e R s m args below meth c H locs cells slots Q (F0 m pc ls st0) := by
  have hp : PreS s H (va_Pc [.ref sc, .int (nI k)] (fun U => va_X sc L xs U U.heap)) [.ref sc, .int (nI k)] :=
    ⟨fun a U g mk q => ⟨q.1, va_X.moved (u := U) (U := U.calling g mk a) (Vm.Alike.refl U.vm) q.2⟩, fun U hU hW => ⟨rfl, (show va_X sc L xs U U.heap by rw [hU]; exact va_X.moved hW.alike (hX.kept (hS.2.1 sc hbl hbA)))⟩⟩
  refine cell_ret (va_runS Sf (m_cell l hL hk) cw hp rfl rfl hsize hst (by show 2 * 0 + _ ≤ 8; omega) hdg hf) (fun r hr => ?_)
  obtain ⟨z, hz, e⟩ := hr
  rw [e]
  exact kk z hz
end CELL
