/-! verbs: constants of an enum, their words; what a method of texts may want of them -/
def vbN : List String := ["TEAM", "FREEZE", "THAW", "ASK", "EXEMPT", "DONE", "FAULT", "DROP", "LEND", "REPAY", "SET", "WEEK"]
def vbNum : List Int32 := [1, 2, 2, 2, 1, 1, 1, 1, 4, 2, 2, 0]
def vbOrd : List Int32 := [0, 1, 2, 3, 4, 5, 6, 7, 8, 9, 10, 11]
def vbF : List (String × String × String × List Int32) := [("FreezeCredits$Verb", "numbers", "I", vbNum), ("java/lang/Enum", "ordinal", "I", vbOrd)]
def vbL : List Nat := [4, 6, 4, 3, 6, 4, 5, 4, 4, 5, 3, 4]
def vbB : List (List Int32) := [[116, 101, 97, 109], [102, 114, 101, 101, 122, 101], [116, 104, 97, 119], [97, 115, 107], [101, 120, 101, 109, 112, 116], [100, 111, 110, 101], [102, 97, 117, 108, 116], [100, 114, 111, 112], [108, 101, 110, 100], [114, 101, 112, 97, 121], [115, 101, 116], [119, 101, 101, 107]]
/-- the word's length, its letter k -/
def vbl (i : Nat) : Nat := vbL.getD i 0
def vbc (i k : Nat) : Int32 := (vbB.getD i []).getD k 0
theorem vbl_le : ∀ i, i < 12 → vbl i ≤ 6 := by decide +kernel
theorem vbc_ch : ∀ i, i < 12 → ∀ k, k < vbl i → ((vbc i k &&& 255).toUInt32 % 65536).toInt32 = vbc i k := by decide +kernel
theorem vbc_nar : ∀ i, i < 12 → ∀ k, k < vbl i → narrow .char (.int (vbc i k)) = .int (vbc i k) := by decide +kernel
theorem vb_nums : ∀ i, i < 12 → vbNum.getD i 0 = nI (tx_many i) := by decide +kernel
theorem vb_ords : ∀ i, i < 12 → vbOrd.getD i 0 = nI i := by decide +kernel
/-- the words' texts -/
def fz_St (adK adV : Nat → Nat) (A : Nat → Prop) (U : State) : Prop := vk_S 12 vbL vbB adK adV A U U.heap ∧ va_Z "java/lang/String" "COMPACT_STRINGS" "Z" (.int 1) A U U.heap ∧ va_Zq "jdk/internal/util/Preconditions" "SIOOBE_FORMATTER" "Ljava/util/function/BiFunction;" A U U.heap
theorem fz_St.to {adK adV : Nat → Nat} {A B : Nat → Prop} {s U : State} {locs : List Loc} (h : fz_St adK adV A s) (hS : va_S A s.heap U.heap locs) (hvm : s.vm.Alike U.vm) (hAB : ∀ q, B q → A q) : fz_St adK adV B U :=
  ⟨((h.1.moved hvm).kept hS.2.1).narrow hAB, ((h.2.1.moved hvm).kept hS.2.1).narrow hAB, ((h.2.2.moved hvm).kept hS.2.1).narrow hAB⟩
theorem fz_St_bl {adK adV : Nat → Nat} {A : Nat → Prop} : fz_bl (fz_St adK adV A) := fun a U g mk h => ⟨vk_S.moved (u := U) (U := U.calling g mk a) (Vm.Alike.refl U.vm) h.1, va_Z.moved (u := U) (U := U.calling g mk a) (Vm.Alike.refl U.vm) h.2.1, va_Zq.moved (u := U) (U := U.calling g mk a) (Vm.Alike.refl U.vm) h.2.2⟩
/-- the verbs' objects -/
def fz_vE (ad : Nat → Nat) (A : Nat → Prop) (U : State) (H : Heap) : Prop := ∀ i, i < 12 → va_O "FreezeCredits$Verb" (ad i) A U H ∧ ∀ q ∈ vbF, va_OF q.1 q.2.1 q.2.2.1 (.int (q.2.2.2.getD i 0)) (ad i) A U H
theorem fz_vE.moved {ad : Nat → Nat} {A : Nat → Prop} {u U : State} {H : Heap} (hvm : u.vm.Alike U.vm) (h : fz_vE ad A u H) : fz_vE ad A U H := fun i hi => ⟨va_O.moved hvm (h i hi).1, fun q hq => va_OF.moved hvm ((h i hi).2 q hq)⟩
theorem fz_vE.kept {ad : Nat → Nat} {A : Nat → Prop} {U : State} {H H1 : Heap} (h : fz_vE ad A U H) (hq : ∀ a : Nat, a < H.size → ¬ A a → H1[a]? = H[a]?) : fz_vE ad A U H1 := fun i hi => ⟨(h i hi).1.kept hq, fun q hq2 => ((h i hi).2 q hq2).kept hq⟩
theorem fz_vE.narrow {ad : Nat → Nat} {A B : Nat → Prop} {U : State} {H : Heap} (h : fz_vE ad A U H) (hAB : ∀ q, B q → A q) : fz_vE ad B U H := fun i hi => ⟨(h i hi).1.narrow hAB, fun q hq => ((h i hi).2 q hq).narrow hAB⟩
/-- the verbs: their objects, the table of them, the switch's table -/
def fz_Vb (ad adK adV : Nat → Nat) (A : Nat → Prop) (U : State) : Prop := fz_St adK adV A U ∧ fz_vE ad A U U.heap ∧ va_Ef 12 "FreezeCredits$Verb" "word" "Ljava/lang/String;" (fun k => .ref (adK k)) ad A U U.heap ∧ (∃ t, va_Z "FreezeCredits$CommandText" "VERBS" "[LFreezeCredits$Verb;" (.ref t) A U U.heap ∧ va_T (.object "FreezeCredits$Verb") t 12 (fun i => .ref (ad i)) A U U.heap) ∧ fz_si "FreezeCredits$1" "$SwitchMap$FreezeCredits$Verb" 12 (fun i => if i < 11 then nI (i + 1) else 0) A U
theorem fz_Vb.to {ad adK adV : Nat → Nat} {A B : Nat → Prop} {s U : State} {locs : List Loc} (h : fz_Vb ad adK adV A s) (hS : va_S A s.heap U.heap locs) (hvm : s.vm.Alike U.vm) (hAB : ∀ q, B q → A q) : fz_Vb ad adK adV B U := by
  obtain ⟨h1, h2, h3, ⟨t, h4, h5⟩, h6⟩ := h
  exact ⟨h1.to hS hvm hAB, ((h2.moved hvm).kept hS.2.1).narrow hAB, ((h3.moved hvm).kept hS.2.1).narrow hAB, ⟨t, ((h4.moved hvm).kept hS.2.1).narrow hAB, ((h5.moved hvm).kept hS.2.1).narrow hAB⟩, h6.to hS hvm hAB⟩
theorem fz_Vb_bl {ad adK adV : Nat → Nat} {A : Nat → Prop} : fz_bl (fz_Vb ad adK adV A) := fun a U g mk h => by
  obtain ⟨h1, h2, h3, ⟨t, h4, h5⟩, h6⟩ := h
  exact ⟨fz_St_bl a U g mk h1, fz_vE.moved (u := U) (U := U.calling g mk a) (Vm.Alike.refl U.vm) h2, va_Ef.moved (u := U) (U := U.calling g mk a) (Vm.Alike.refl U.vm) h3, ⟨t, va_Z.moved (u := U) (U := U.calling g mk a) (Vm.Alike.refl U.vm) h4, va_T.moved (u := U) (U := U.calling g mk a) (Vm.Alike.refl U.vm) h5⟩, h6.bl⟩
theorem fz_Vb.num {ad adK adV : Nat → Nat} {A : Nat → Prop} {U : State} (h : fz_Vb ad adK adV A U) {i : Nat} (hi : i < 12) : va_OF "FreezeCredits$Verb" "numbers" "I" (.int (nI (tx_many i))) (ad i) A U U.heap := by
  have h1 := (h.2.1 i hi).2 _ List.mem_cons_self
  rw [← vb_nums i hi]
  exact h1
theorem fz_Vb.ord {ad adK adV : Nat → Nat} {A : Nat → Prop} {U : State} (h : fz_Vb ad adK adV A U) {i : Nat} (hi : i < 12) : va_OF "java/lang/Enum" "ordinal" "I" (.int (nI i)) (ad i) A U U.heap := by
  have h1 := (h.2.1 i hi).2 _ (List.mem_cons_of_mem _ List.mem_cons_self)
  rw [← vb_ords i hi]
  exact h1
theorem fz_Vb.rcv {ad adK adV : Nat → Nat} {A : Nat → Prop} {s : State} {H : Heap} {locs : List Loc} (h : fz_Vb ad adK adV A s) {i : Nat} (hi : i < 12) (hS : va_S A s.heap H locs) : ∃ cell : Cell, H[ad i]? = some cell ∧ cell.vm.isStatics = false ∧ s.vm.findClass "FreezeCredits$Verb" = some cell.cls := by
  obtain ⟨cell, h1, h2, h3, -⟩ := (h.2.1 i hi).1.kept hS.2.1
  exact ⟨cell, h1, h2, h3⟩
section FZO
variable {p : Program} {l : Launch} {e : Env} {R : Room} {s : State} {m : MethodId} {args : Array Value} {below : List Frame} {meth : Method} {c : Code} {H : Heap} {locs : List Loc} {cells slots : Nat} {Q : State → Prop}
variable {cc : ByteArray} {pc : Nat} {ls : Array Slot} {rest : List Value} {A : Nat → Prop} {a : Nat}
/-- Enum.ordinal, walked inside its caller (the tables do not say that Enum is initialized) -/
theorem fz_ordinal (hexec : p.tables.exec = Jvm.exec) (hb : c.code = cc) (hml : c.maxLocals = ls.size) {own : String} {index : Nat} (hown : s.vm.findClass own = some m.cls) (hlink : (Cond.methodLink own index ⟨"FreezeCredits$Verb", "ordinal", "()I"⟩).before args s = true) (hsame : (Cond.sameMethod "FreezeCredits$Verb" "java/lang/Enum" "ordinal" "()I").before args s = true)
    (hsel : (Cond.selects "FreezeCredits$Verb" ⟨"FreezeCredits$Verb", "ordinal", "()I"⟩ yJx29ce0_ordinal_8abf5).before args s = true) (hinst : (Cond.instanceMethod yJx29ce0_ordinal_8abf5).before args s = true) (hcode : (Cond.code yJx29ce0_ordinal_8abf5 cJx29ce0_ordinal_8abf5 1 (some .int)).before args s = true) (hfl : (Cond.fieldLink "java/lang/Enum" 7 "java/lang/Enum" "ordinal" "I").before args s = true)
    (hrc : ∃ cell : Cell, H[a]? = some cell ∧ cell.vm.isStatics = false ∧ s.vm.findClass "FreezeCredits$Verb" = some cell.cls) {v : Int32} (hOF : va_OF "java/lang/Enum" "ordinal" "I" (.int v) a A s s.heap) (hS : va_S A s.heap H locs) (hframes : 1 ≤ R.frames) (hlocals : (rest.map fun v => v.category).sum + 12 ≤ R.locals) (hdg : decode cc pc = .ok (.invokevirtual index, 3))
    (kk : W p l e R s m args below meth c H locs cells slots Q (F0 m (pc + 3) ls (.int v :: rest))) : W p l e R s m args below meth c H locs cells slots Q (F0 m pc ls (.ref a :: rest)) := by
  intro T hT X
  obtain ⟨cellB, hcell, hobj, hcls⟩ := hrc
  have hd0 : va_Decl s ⟨"java/lang/Enum", "ordinal", "()I"⟩ := va_Decl.of (x := yJx29ce0_ordinal_8abf5) hinst hcode
  obtain ⟨r0, r, hn, hrm, hstR, hsigR⟩ := hd0
  obtain ⟨cn, ck, r1, hcn, hck, hni, hf, hn1⟩ := Cond.sameMethod_found hsame
  cases hn.symm.trans hn1
  obtain ⟨mk, methM, hnamed, hmethM, -, habM⟩ := Cond.instanceMethod_spec hinst
  obtain ⟨c2, r2, m2, q1, q2, q3, q4, kP, hkP, hkPi⟩ := Cond.selects_spec hsel
  cases hcls.symm.trans q1
  cases hf.symm.trans q2
  cases hnamed.symm.trans q3
  have hselP : selectMethod e.platform s.vm cellB.cls r0 = .method mk := by rw [Launch.admits_selectMethod X.admits]; exact q4
  have hlen : ([] : List Value).length = r.sig.parameters.length := by
    have h9 : (parseMethodDescriptor "()I").map (fun d => d.parameters.length) = some 0 := by decide +kernel
    rw [hsigR] at h9
    exact (Option.some.inj h9).symm
  obtain ⟨vm₁, X₁, hstep₁⟩ := X.invokevirtualUp hexec (x := ⟨"FreezeCredits$Verb", "ordinal", "()I"⟩) (owner := "java/lang/Enum") hown hlink hsame ⟨by decide, by decide⟩ hn hrm hstR (a := a) (cell := cellB) (by rw [hT]; exact hcell) (fun z h => by rw [h] at hobj; cases hobj) hselP hmethM habM hkP hkPi (g := F0 m pc ls (.ref a :: rest)) rfl (argsL := []) (rest := rest) hlen rfl (by rw [hb]; exact hdg)
  obtain ⟨methY, cY, hmY, hcY, hbY, hlY, hretY, hlockY, -, -⟩ := Cond.code_spec hnamed hcode
  have hownE : s.vm.findClass "java/lang/Enum" = some mk.cls := findClass_of_methodNamed hnamed
  have hpl : e.platform.magicAccessors = ({} : Platform).magicAccessors := by rw [X.admits.platform]
  obtain ⟨ci', cfl, k', i', f', hi', hlinks, hright⟩ := Cond.fieldLink_spec hownE hfl e.platform hpl
  obtain ⟨cf, k, fi, f, cell, g1, g2, g3, g4, g5, g6⟩ := hOF.kept hS.2.1
  cases g1.symm.trans hi'
  obtain ⟨hk, hf2⟩ := State.fieldFound?_spec g1
  obtain ⟨vm', hgives, hW', hready, hfi⟩ := State.fieldEntry (e := e) X₁.warmed hlinks hright hk hf2
  have X₂ := X₁.noted hW'
  have hm9 : (T.setVm vm₁).vm.method? mk = some methY := by rw [X₁.warmed.alike.method?]; exact hmY
  obtain ⟨t, a1, b1⟩ := kk ((T.setVm vm₁).setVm vm') hT X₂
  refine ⟨t, hstep₁ t fun acts => ?_, b1⟩
  exact Steps.intGetterInline (s := T.setVm vm₁) (g := F0 m pc ls rest) (c := c) (ig := .invokevirtual index) (len := 3) (index := 7) X₁.here hexec acts hm9 hcY hlockY
    (State.plainMethod.of_named (x := yJx29ce0_ordinal_8abf5) (by decide +kernel) (X₁.named hnamed) hm9) hretY hlY (by rw [hbY]; exact dJx29ce0_ordinal_8abf5_0) (by rw [hbY]; exact dJx29ce0_ordinal_8abf5_1) (by rw [hbY]; exact dJx29ce0_ordinal_8abf5_4)
    (X₁.notFull (g := F0 m pc ls rest) hml.symm hframes (by rw [hlY]; show 2 * 0 + (rest.map fun v => v.category).sum + (1 + 11) ≤ R.locals; omega)) (by rw [hb]; exact hdg) (X₁.warmed.alike.symm.trans hW'.alike) hgives hready hfi g2 (by show T.heap[a]? = some cell; rw [hT]; exact g3) g4 g5 a1
end FZO
