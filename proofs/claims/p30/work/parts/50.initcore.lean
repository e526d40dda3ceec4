/-! new objects -/
abbrev zV : Nat → Nat → Int32 := fun _ _ => 0
/-- a constructor's contract: the new object's cell is at q with the fields fs; behind it stand the cells mk a -/
abbrev fz_NW {S : Type} (l : Launch) (y : MethodName) (ws : List Cond) (fr k n lo : Nat) (D : va_G) (cy : Nat → ClassId) (q ci : Nat) (fs : List Value) (sz : Nat) (E : (Nat → Prop) → State → Prop) (mk : S → va_W) (pa : S → Prop) : Prop :=
  Met l y ws ({ frames := fr, cells := k, slots := n, locals := lo }) (va_Pc [.ref q] (fun U => U.heap.size = sz ∧ va_P D vwCl [(q, .inr (ci, fs))] U.heap ∧ va_K D vwCl (fz_TY cy) U ∧ va_D (fun _ => True) [(q, .inr (ci, fs))] ∧ E (va_A [(q, .inr (ci, fs))] sz) U))
    (va_Qv (fun a : S => pa a) (fun a t => va_P D vwCl (mk a) t.heap ∧ va_D (va_A [(q, .inr (ci, fs))] sz) (mk a)) (va_A [(q, .inr (ci, fs))] sz)) k n (va_A [(q, .inr (ci, fs))] sz)
theorem fz_cyE {D : va_G} {cy : Nat → ClassId} {s : State} {cA : ClassId} (h : va_K D vwCl (fz_TY cy ++ [(cA, .int)]) s) : cA = cy 0 := Option.some.inj (((h.2 4 _ rfl).2 : s.vm.findClass _ = some cA).symm.trans ((h.2 0 _ rfl).2 : s.vm.findClass _ = some (cy 0)))
theorem fz_cyZ {D : va_G} {cy : Nat → ClassId} {s : State} {cA : ClassId} (h : va_K D vwCl (fz_TY cy ++ [(cA, .boolean)]) s) : cA = cy 1 := Option.some.inj (((h.2 4 _ rfl).2 : s.vm.findClass _ = some cA).symm.trans ((h.2 1 _ rfl).2 : s.vm.findClass _ = some (cy 1)))
theorem fz_cyB {D : va_G} {cy : Nat → ClassId} {s : State} {cA : ClassId} (h : va_K D vwCl (fz_TY cy ++ [(cA, .byte)]) s) : cA = cy 2 := Option.some.inj (((h.2 4 _ rfl).2 : s.vm.findClass _ = some cA).symm.trans ((h.2 2 _ rfl).2 : s.vm.findClass _ = some (cy 2)))
theorem fz_cyQ {D : va_G} {cy : Nat → ClassId} {s : State} {cA : ClassId} (h : va_K D vwCl (fz_TY cy ++ [(cA, .object "FreezeCredits$Calendar")]) s) : cA = cy 3 := by
  obtain ⟨k1, c1, -, -, -, e1⟩ := (h.2 4 _ rfl).2
  obtain ⟨k2, c2, -, -, -, e2⟩ := (h.2 3 _ rfl).2
  exact Option.some.inj (e1.symm.trans e2)
/-- an object just made, and what its constructor made beside it -/
theorem fz_born {D : va_G} {A : Nat → Prop} {pre W' : va_W} {q : Nat} {e : va_E} {H0 H H1 : Heap} {locs : List Loc} (hP : va_P D vwCl (pre ++ [(q, e)]) H) (hD : va_D A (pre ++ [(q, e)])) (hS : va_S A H0 H locs) (hA : ∀ x, H0.size ≤ x → A x) (hk : ∀ x : Nat, x < H.size → ¬ va_A [(q, e)] H.size x → H1[x]? = H[x]?) (hP1 : va_P D vwCl W' H1) (hD1 : va_D (va_A [(q, e)] H.size) W') : va_P D vwCl (pre ++ W') H1 ∧ va_D A (pre ++ W') := by
  have hl : (pre ++ [(q, e)])[pre.length]? = some (q, e) := by
    rw [List.getElem?_append_right (Nat.le_refl _), Nat.sub_self]
    rfl
  have hpre : ∀ (k : Nat) (x : Nat × va_E), pre[k]? = some x → (pre ++ [(q, e)])[k]? = some x := fun k x hx => by
    rw [List.getElem?_append_left (List.getElem?_eq_some_iff.mp hx).1]
    exact hx
  have hne : ∀ (k : Nat) (x : Nat × va_E), pre[k]? = some x → ¬ va_A [(q, e)] H.size x.1 := fun k x hx z => by
    have hlt := (hP k x (hpre k x hx)).lt
    rcases z with ⟨j, e', hj⟩ | z
    · have h1 : j < 1 := (List.getElem?_eq_some_iff.mp hj).1
      rw [show j = 0 by omega] at hj
      have h2 : x.1 = q := (congrArg Prod.fst (Option.some.inj hj)).symm
      have h3 := hD.1 k pre.length x (q, e) (hpre k x hx) hl h2
      have h4 := (List.getElem?_eq_some_iff.mp hx).1
      omega
    · omega
  have hAll : ∀ x, va_A [(q, e)] H.size x → A x := fun x z => by
    rcases z with ⟨j, e', hj⟩ | z
    · have h1 : j < 1 := (List.getElem?_eq_some_iff.mp hj).1
      rw [show j = 0 by omega] at hj
      have h2 : q = x := congrArg Prod.fst (Option.some.inj hj)
      rw [← h2]
      exact hD.2 _ _ hl
    · exact hA x (Nat.le_trans hS.1 z)
  refine ⟨va_P.app (fun k x hx => (hP k x (hpre k x hx)).kept (hk x.1 (hP k x (hpre k x hx)).lt (hne k x hx))) hP1, va_D.app ⟨fun i j x y hi hj => hD.1 i j x y (hpre i x hi) (hpre j y hj), fun k x hx => hD.2 k x (hpre k x hx)⟩ (hD1.weaken (fun _ _ _ => hAll _)) (fun i j x y hi hj h => hne i x hi (by rw [h]; exact hD1.2 j y hj))⟩
/-- the settings at first -/
def fz_sx (A : Nat → Prop) (U : State) : Prop := ∃ (t : Nat) (cell : Cell), va_Z "FreezeCredits" "SETTINGS_AT_FIRST" "[I" (.ref t) A U U.heap ∧ U.heap[t]? = some cell ∧ U.vm.findClass "[I" = some cell.cls ∧ (∀ k, cell.vm = .statics k → False) ∧ cell.vm ≠ .unknown ∧ cell.slots = (vp_cell cell.cls (4, .inl fz_first)).slots ∧ ¬ A t
def fz_En (A : Nat → Prop) (U : State) : Prop := fz_Nw U ∧ va_Nw (.castable "[I" "java/lang/Cloneable") U ∧ fz_sx A U ∧ va_AO "FreezeCredits$Calendar" U
theorem fz_sx.to {A B : Nat → Prop} {s U : State} {locs : List Loc} (h : fz_sx A s) (hS : va_S A s.heap U.heap locs) (hvm : s.vm.Alike U.vm) (hAB : ∀ q, B q → A q) : fz_sx B U := by
  obtain ⟨t, cell, h1, h2, h3, h4, h5, h6, h7⟩ := h
  exact ⟨t, cell, ((h1.moved hvm).kept hS.2.1).narrow hAB, (hS.2.1 t (Array.getElem?_eq_some_iff.mp h2).1 h7).trans h2, by rw [hvm.findClass]; exact h3, h4, h5, h6, fun z => h7 (hAB t z)⟩
theorem fz_En.to {A B : Nat → Prop} {s U : State} {locs : List Loc} (h : fz_En A s) (hS : va_S A s.heap U.heap locs) (hW : s.WarmedH U.vm) (hAB : ∀ q, B q → A q) : fz_En B U := ⟨fz_Nw_warm hW h.1, va_Nw.warmC hW h.2.1, h.2.2.1.to hS hW.alike hAB, va_AO.moved hW.alike h.2.2.2⟩
theorem fz_En.up {A B : Nat → Prop} {s U : State} {H : Heap} {locs : List Loc} (h : fz_En A s) (hU : U.heap = H) (hS : va_S A s.heap H locs) (hW : s.WarmedH U.vm) (hAB : ∀ q, B q → A q) : fz_En B U := h.to (by rw [hU]; exact hS) hW hAB
theorem fz_En_bl {A : Nat → Prop} : fz_bl (fz_En A) := fun a U g mk h => ⟨fz_Nw_bl a U g mk h.1, va_Nw.same (u := U) (U := U.calling g mk a) rfl rfl h.2.1, by
  obtain ⟨t, cell, h1, h2⟩ := h.2.2.1
  exact ⟨t, cell, va_Z.moved (u := U) (U := U.calling g mk a) (Vm.Alike.refl U.vm) h1, h2⟩, va_AO.moved (u := U) (U := U.calling g mk a) (Vm.Alike.refl U.vm) h.2.2.2⟩
theorem fz_NW_blind {D : va_G} {cy : Nat → ClassId} {q ci sz : Nat} {fs : List Value} {E : State → Prop} (h : fz_bl E) : FrameBlind (va_Pc [.ref q] (fun U => U.heap.size = sz ∧ va_P D vwCl [(q, .inr (ci, fs))] U.heap ∧ va_K D vwCl (fz_TY cy) U ∧ va_D (fun _ => True) [(q, .inr (ci, fs))] ∧ E U)) :=
  fun a U g mk z => ⟨z.1, z.2.1, z.2.2.1, va_K.moved (u := U) (U := U.calling g mk a) (Vm.Alike.refl U.vm) z.2.2.2.1, z.2.2.2.2.1, h a U g mk z.2.2.2.2.2⟩
section FZN
variable {p : Program} {l : Launch} {e : Env} {R : Room} {s : State} {m : MethodId} {args : Array Value} {below : List Frame} {meth : Method} {c : Code} {H : Heap} {locs : List Loc} {cells slots : Nat} {Q : State → Prop}
variable {cc : ByteArray} {pc : Nat} {ls : Array Slot} {rest st0 : List Value} {D : va_G} {cy : Nat → ClassId} {A : Nat → Prop} {ws pre : va_W} {H0 : Heap} {k n q ci : Nat} {fs : List Value}
theorem fz_lastA {e : va_E} (hD : va_D A (pre ++ [(q, e)])) (hS : va_S A H0 H locs) (hA : ∀ x, H0.size ≤ x → A x) : ∀ x, va_A [(q, e)] H.size x → A x := fun x z => by
  rcases z with ⟨j, e', hj⟩ | z
  · have h1 : j < 1 := (List.getElem?_eq_some_iff.mp hj).1
    rw [show j = 0 by omega] at hj
    have h2 : q = x := congrArg Prod.fst (Option.some.inj hj)
    rw [← h2]
    refine hD.2 pre.length (q, e) ?_
    rw [List.getElem?_append_right (Nat.le_refl _), Nat.sub_self]
    rfl
  · exact hA x (Nat.le_trans hS.1 z)
theorem fz_preN {Ec : State → Prop} (hK : va_K D vwCl (fz_TY cy) s) (hP : va_P D vwCl (pre ++ [(q, .inr (ci, fs))]) H) (hD : va_D A (pre ++ [(q, .inr (ci, fs))])) (hbl : fz_bl Ec) (hE : ∀ U : State, U.heap = H → s.WarmedH U.vm → Ec U) : PreS s H (va_Pc [.ref q] (fun U => U.heap.size = H.size ∧ va_P D vwCl [(q, .inr (ci, fs))] U.heap ∧ va_K D vwCl (fz_TY cy) U ∧ va_D (fun _ => True) [(q, .inr (ci, fs))] ∧ Ec U)) (.ref q :: []) :=
  ⟨fz_NW_blind hbl, fun U hU hW => ⟨rfl, by rw [hU], by rw [hU]; exact fz_seg (P := pre) (S := []) (by rw [List.append_nil]; exact hP), va_K.moved hW.alike hK, (fz_segD (P := pre) (S := []) (by rw [List.append_nil]; exact hD)).weaken (fun _ _ _ _ => trivial), hE U hU hW⟩⟩
/-- behind a constructor of the object made last -/
theorem fz_retN {S : Type} {mk : S → va_W} {pa : S → Prop} {av : Array Value} (hr : va_Run p l e R s m args below meth c H locs cells slots k n (F0 m pc ls st0) rest (va_Qv (fun a : S => pa a) (fun a t => va_P D vwCl (mk a) t.heap ∧ va_D (va_A [(q, .inr (ci, fs))] H.size) (mk a)) (va_A [(q, .inr (ci, fs))] H.size) av) (va_A [(q, .inr (ci, fs))] H.size))
    (hP : va_P D vwCl (pre ++ [(q, .inr (ci, fs))]) H) (hD : va_D A (pre ++ [(q, .inr (ci, fs))])) (hS : va_S A H0 H locs) (hA : ∀ x, H0.size ≤ x → A x)
    (kk : ∀ (a : S) (H1 : Heap) (locs1 : List Loc), pa a → va_P D vwCl (pre ++ mk a) H1 → va_D A (pre ++ mk a) → va_S A H0 H1 locs1 → W p l e R s m args below meth c H1 locs1 (cells + k) (slots + n) Q (F0 m (pc + 3) ls rest)) : W p l e R s m args below meth c H locs cells slots Q (F0 m pc ls st0) := by
  have hall := fz_lastA hD hS hA
  refine va_callv hr hS (fun x _ h => hall x h) hall (fun a t H1 locs1 ht hvm hp hB hz hk hS1 => ?_)
  obtain ⟨b1, b2⟩ := hB
  rw [ht] at b1
  obtain ⟨g1, g2⟩ := fz_born hP hD hS hA (fun x h n => hk x h n) b1 b2
  exact kk a H1 locs1 hp g1 g2 hS1
/-- a table's copy -/
theorem fz_cloneT (hexec : p.tables.exec = Jvm.exec) (hb : c.code = cc) (hml : c.maxLocals = ls.size) {own ad : String} {index : Nat} (hown : s.vm.findClass own = some m.cls)
    (hlink : (Cond.methodLink own index ⟨ad, "clone", "()Ljava/lang/Object;"⟩).before args s = true) (hsame : (Cond.sameMethod ad "java/lang/Object" "clone" "()Ljava/lang/Object;").before args s = true)
    (hnat : (Cond.native ⟨"java/lang/Object", "clone", "()Ljava/lang/Object;"⟩).before args s = true) (hinst : (Cond.instanceMethod ⟨"java/lang/Object", "clone", "()Ljava/lang/Object;"⟩).before args s = true)
    (hsel : (Cond.selects ad ⟨ad, "clone", "()Ljava/lang/Object;"⟩ ⟨"java/lang/Object", "clone", "()Ljava/lang/Object;"⟩).before args s = true) (hcl : va_Nw (.castable ad "java/lang/Cloneable") s)
    (hK : va_K D vwCl (fz_TY cy) s) (hP : va_P D vwCl ws H) (hD : va_D A ws) (hS : va_S A H0 H locs) (hA : ∀ q, H0.size ≤ q → A q) {t N : Nat} {cell : Cell} {f : Nat → Int32} (hcell : H[t]? = some cell) (hnm : s.vm.findClass ad = some cell.cls) (had : cell.cls = cy 0) (hst : ∀ k, cell.vm = .statics k → False) (hun : cell.vm ≠ .unknown) (hsl : cell.slots = (vp_cell cell.cls (N, .inl f)).slots)
    (hframes : 1 ≤ R.frames) (hlocals : (rest.map fun v => v.category).sum + 14 ≤ R.locals) (hcells : cells + 1 ≤ R.cells) (hslots : slots + N ≤ R.slots) (hdg : decode cc pc = .ok (.invokevirtual index, 3))
    (kk : ∀ (q : Nat) (H1 : Heap), va_P D vwCl (ws ++ [(q, .inl (cy 0, N, .inl f))]) H1 → va_D A (ws ++ [(q, .inl (cy 0, N, .inl f))]) → va_S A H0 H1 locs →
      W p l e R s m args below meth c H1 locs (cells + 1) (slots + N) Q (F0 m (pc + 3) ls (.ref q :: rest))) : W p l e R s m args below meth c H locs cells slots Q (F0 m pc ls (.ref t :: rest)) := by
  have hsz : cell.slots.size = N := by rw [hsl]; exact arrV_size _ _ _
  have hcellE : ({ cls := cell.cls, slots := cell.slots } : Cell) = vp_cell (cy 0) (N, .inl f) := by
    rw [hsl, had]
    rfl
  obtain ⟨c0, t0', f1, f2, f3⟩ := Cond.castable_spec (va_Nw.use (A := args) rfl hcl)
  cases hnm.symm.trans f1
  intro T hT X
  have hcellT : T.heap[t]? = some cell := by rw [hT]; exact hcell
  obtain ⟨-, kA, hkA, comp, hkind⟩ := State.isArrayOf_alike X.warmed.alike ((hK.2 0 _ rfl).1 0 (fun _ => .null))
  obtain ⟨-, kS, hkS, compS, hkindS⟩ := (hK.2 0 _ rfl).1 0 (fun _ => .null)
  obtain ⟨vm', X', st⟩ := X.cloneArray hexec hown hlink hsame hnat hinst hsel (a := t) (cell := cell) hcellT hst hun hnm f2 f3
    (fun i v hv => by
      rw [had]
      have hk' : T.vm.classes[cy 0]? = some kA := hkA
      have hv2 : fits .int v = true := by
        rw [hsl] at hv
        have hi : i < N := by
          have := (Array.getElem?_eq_some_iff.mp hv).1
          rwa [show (vp_cell cell.cls (N, .inl f)).slots.size = N from arrV_size _ _ _] at this
        have h9 : (arrV cell.cls N (fun j => .int (f j))).slots[i]? = some (.int (f i)) := by rw [arrV_read _ _ hi]
        cases Option.some.inj (hv.symm.trans h9)
        rfl
      simpa [State.fitsSlot, State.slotType?, hk', hkind] using hv2)
    (g := F0 m pc ls (.ref t :: rest)) rfl (by rw [hml]) rfl (by rw [hb]; exact hdg) hframes (by show 2 * 0 + _ + 14 ≤ _; omega) hcells (by rw [hsz]; exact hslots) (hloader := by rw [had]; exact Vm.clonesLoader_of_array hkS hkindS)
  rw [hcellE, hsz] at X'
  generalize hH1 : H.push (vp_cell (cy 0) (N, .inl f)) = H1
  have z1 : H1.size = H.size + 1 := by rw [← hH1, Array.size_push]
  have e1 : H1[H.size]? = some (vp_cell (cy 0) (N, .inl f)) := by rw [← hH1, Array.getElem?_push_size]
  have o1 : ∀ q : Nat, q < H.size → H1[q]? = H[q]? := fun q hq => by rw [← hH1, Array.getElem?_push, if_neg (Nat.ne_of_lt hq)]
  have hk : ∀ (k : Nat) (y : Nat × va_E), ws[k]? = some y → H1[y.1]? = H[y.1]? := fun k y hy => o1 y.1 ((hP k y hy).lt)
  obtain ⟨t2, b1, b2⟩ := kk H.size H1 ((hP.kept hk).app (fun k y hy => by
      have hz : k < 1 := (List.getElem?_eq_some_iff.mp hy).1
      rw [show k = 0 by omega] at hy
      cases hy
      exact e1)) (hD.push hP rfl (hA _ hS.1)) ⟨Nat.le_trans hS.1 (by omega), fun y h1 h2 => (o1 y (Nat.lt_of_lt_of_le h1 hS.1)).trans (hS.2.1 y h1 h2), hS.2.2⟩
    ((T.setVm vm').pushCell (vp_cell (cy 0) (N, .inl f))) (by rw [← hH1, ← hT]; rfl) X'
  refine ⟨t2, st t2 ?_, b2⟩
  rw [hcellE, hT]
  exact b1
end FZN
