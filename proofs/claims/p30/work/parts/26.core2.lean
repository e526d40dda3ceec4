/-! copies, statics, new cells -/
theorem fz_cellE {n : Nat} {f g : Nat → Int32} (h : ∀ j, j < n → f j = g j) (cA : ClassId) : vp_cell cA (n, .inl f) = vp_cell cA (n, .inl g) := by
  show arrV cA n (fun j => .int (f j)) = arrV cA n (fun j => .int (g j))
  unfold arrV
  congr 2
  funext j
  show Value.int (f j.val) = Value.int (g j.val)
  rw [h j.val j.isLt]
theorem fz_atE {D : va_G} {cl : List vw_C} {a : Nat} {cA : ClassId} {x y : vp_A} {H : Heap} (e : vp_cell cA x = vp_cell cA y) (h : va_at D cl (a, .inl (cA, x)) H) : va_at D cl (a, .inl (cA, y)) H := by
  show H[a]? = some (vp_cell cA y)
  rw [← e]
  exact h
theorem fz_setE {D : va_G} {cl : List vw_C} {ws : va_W} {q a : Nat} {cA : ClassId} {x y : vp_A} {H : Heap} (e : vp_cell cA x = vp_cell cA y) (h : va_P D cl (ws.set q (a, .inl (cA, x))) H) : va_P D cl (ws.set q (a, .inl (cA, y))) H := by
  intro k z hz
  by_cases hk : k = q
  · subst hk
    have hl : k < ws.length := by
      have := (List.getElem?_eq_some_iff.mp hz).1
      rwa [List.length_set] at this
    rw [List.getElem?_set_self hl] at hz
    cases hz
    exact fz_atE e (h k _ (List.getElem?_set_self hl))
  · rw [List.getElem?_set_ne (Ne.symm hk)] at hz
    exact h k z (by rw [List.getElem?_set_ne (Ne.symm hk)]; exact hz)
section FZ2
variable {p : Program} {l : Launch} {e : Env} {R : Room} {s : State} {m : MethodId} {args : Array Value} {below : List Frame} {meth : Method} {c : Code} {H : Heap} {locs : List Loc} {cells slots : Nat} {Q : State → Prop}
variable {cc : ByteArray} {pc : Nat} {ls : Array Slot} {rest : List Value} {D : va_G} {cl : List vw_C} {A : Nat → Prop} {a : Nat} {tys : List (ClassId × FieldType)} {ws : va_W} {H0 : Heap}
/-- a whole array into another of its length: the other then holds the same row -/
theorem fz_copyi (hx : p.tables.exec = Jvm.exec) (hb : c.code = cc) (hml : c.maxLocals = ls.size) {own : String} {index : Nat} (hown : s.vm.findClass own = some m.cls) (hlink : (Cond.methodLink own index arraycopyName).before args s = true) (hnat : (Cond.native arraycopyName).before args s = true) (hstat : (Cond.static arraycopyName).before args s = true) (hini : (Cond.initialized "java/lang/System").before args s = true)
    (hK : va_K D cl tys s) (hP : va_P D cl ws H) (hD : va_D A ws) (hS : va_S A H0 H locs) (q0 q1 t0 : Nat) {a0 : Nat} {c0 : ClassId} {n : Nat} {f g : Nat → Int32} {ty : FieldType} (ha0 : ws[q0]? = some (a0, .inl (c0, n, .inl f))) (ha1 : ws[q1]? = some (a, .inl (c0, n, .inl g))) (ht0 : tys[t0]? = some (c0, ty)) (hprim : refKind ty = false) (hn : n < 2 ^ 31)
    (hfit : ∀ i, i < n → fits ty (.int (f i)) = true) (hframes : 1 ≤ R.frames) (hlocals : (rest.map fun v => v.category).sum + 18 ≤ R.locals) (hdg : decode cc pc = .ok (.invokestatic index, 3))
    (kk : ∀ (H : Heap) (locs : List Loc), va_P D cl (ws.set q1 (a, .inl (c0, n, .inl f))) H → va_D A (ws.set q1 (a, .inl (c0, n, .inl f))) → va_S A H0 H locs → W p l e R s m args below meth c H locs cells slots Q (F0 m (pc + 3) ls rest)) : W p l e R s m args below meth c H locs cells slots Q (F0 m pc ls (.int (nI n) :: .int 0 :: .ref a :: .int 0 :: .ref a0 :: rest)) := by
  have e0 : (0 : Int32).toNatClampNeg = 0 := rfl
  have en : (nI n).toNatClampNeg = n := nI_clamp hn
  refine va_copyi hx hb hml hown hlink hnat hstat hini hK hP hD hS q0 q1 t0 t0 ha0 ha1 ht0 ht0 hprim (by decide) (by decide) (nI_pos hn) (by rw [e0, en]; omega) (by rw [e0, en]; omega) (fun i hi => by rw [e0, Nat.zero_add]; exact hfit i (by rw [en] at hi; exact hi)) hframes hlocals hdg (fun H1 locs1 h1 h2 h3 => kk H1 locs1 (fz_setE (fz_cellE (fun j hj => ?_) c0) h1) (hD.set ha1) h3)
  rw [e0, en, pk_cpy_in (by omega) (by omega), Nat.zero_add, Nat.sub_zero]
end FZ2
/-- a row of zeros and ones -/
def fz_zo (f : Nat → Int32) (n : Nat) : Prop := ∀ i, i < n → f i = 0 ∨ f i = 1
theorem fz_zo_fit {f : Nat → Int32} {n : Nat} (h : fz_zo f n) : ∀ i, i < n → fits .boolean (.int (f i)) = true := by
  intro i hi
  rcases h i hi with e | e <;> rw [e] <;> rfl
theorem fz_int_fit {f : Nat → Int32} {n : Nat} : ∀ i, i < n → fits .int (.int (f i)) = true := fun _ _ => rfl
-- static tables
/-- the static array nm of FreezeCredits: n ints f -/
def fz_si (C nm : String) (n : Nat) (f : Nat → Int32) (A : Nat → Prop) (U : State) : Prop := ∃ t : Nat, va_Z C nm "[I" (.ref t) A U U.heap ∧ va_T .int t n (fun i => .int (f i)) A U U.heap
theorem fz_si.to {C nm : String} {n : Nat} {f : Nat → Int32} {A B : Nat → Prop} {s U : State} {locs : List Loc} (h : fz_si C nm n f A s) (hS : va_S A s.heap U.heap locs) (hvm : s.vm.Alike U.vm) (hAB : ∀ q, B q → A q) : fz_si C nm n f B U := by
  obtain ⟨t, h1, h2⟩ := h
  exact ⟨t, ((h1.moved hvm).kept hS.2.1).narrow hAB, ((h2.moved hvm).kept hS.2.1).narrow hAB⟩
theorem fz_si.bl {C nm : String} {n : Nat} {f : Nat → Int32} {A : Nat → Prop} {a : Array Value} {U : State} {g : JFrame} {mk : MethodId} (h : fz_si C nm n f A U) : fz_si C nm n f A (U.calling g mk a) := by
  obtain ⟨t, h1, h2⟩ := h
  exact ⟨t, va_Z.moved (u := U) (U := U.calling g mk a) (Vm.Alike.refl U.vm) h1, va_T.moved (u := U) (U := U.calling g mk a) (Vm.Alike.refl U.vm) h2⟩
def fz_from (i : Nat) : Int32 := [1, 0, 0, 1].getD i 0
def fz_upto (i : Nat) : Int32 := [20, 50, 50, 2000].getD i 0
def fz_first (i : Nat) : Int32 := [3, 4, 2, 100].getD i 0
/-- what a Calendar's methods may want: nest mates, the tables of settings -/
def fz_Sg (A : Nat → Prop) (U : State) : Prop := fz_Nw U ∧ fz_si "FreezeCredits" "SETTINGS_FROM" 4 fz_from A U ∧ fz_si "FreezeCredits" "SETTINGS_TO" 4 fz_upto A U
theorem fz_Sg.to {A B : Nat → Prop} {s U : State} {locs : List Loc} (h : fz_Sg A s) (hS : va_S A s.heap U.heap locs) (hW : s.WarmedH U.vm) (hAB : ∀ q, B q → A q) : fz_Sg B U := ⟨fz_Nw_warm hW h.1, h.2.1.to hS hW.alike hAB, h.2.2.to hS hW.alike hAB⟩
theorem fz_Sg_bl {A : Nat → Prop} : fz_bl (fz_Sg A) := fun a U g mk h => ⟨fz_Nw_bl a U g mk h.1, h.2.1.bl, h.2.2.bl⟩
