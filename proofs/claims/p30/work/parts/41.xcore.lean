/-! methods that throw -/
abbrev xIO : String := "java/lang/IndexOutOfBoundsException"
abbrev xIA : String := "java/lang/IllegalArgumentException"
abbrev xIS : String := "java/lang/IllegalStateException"
abbrev fz_xup : List String := ["java/lang/RuntimeException", "java/lang/Exception"]
/-- the words of a throw that warmer tables need not keep by themselves -/
def fz_xw : List Cond := [.declares (Bundle.initS "java/lang/RuntimeException"), .declares (Bundle.initS "java/lang/Exception"), .declares (Bundle.initS Bundle.tN), .castable xIO xIO, .castable xIA xIA, .castable xIS xIS]
/-- the texts that the class throws -/
def fz_xt : List (Nat × String) := [(111, "there is no such loan"), (119, "the index is negative"), (130, "the week is out of range"), (179, "the number of weeks is out of range"), (187, "the byte is out of range"), (194, "the command text is full"), (212, "the undo stack is empty"), (234, "there is no such team, change or loan"), (236, "a value is out of range"), (238, "the state does not allow this"), (241, "there is no such team"), (244, "there is no such change"), (249, "the risk is out of range"), (251, "there is no such value")]
def fz_Xc (A : Nat → Prop) (U : State) : Prop := vx_Zq Bundle.tN "UNASSIGNED_STACK" Bundle.steD A U U.heap ∧ vx_Zq Bundle.tN "SUPPRESSED_SENTINEL" Bundle.listD A U U.heap ∧ (∀ w ∈ fz_xw, va_Nw w U) ∧ ∀ q ∈ fz_xt, ∃ sa, vk_R RX8 q.1 q.2 sa U
theorem fz_xw_warm {s U : State} (hW : s.WarmedH U.vm) (h : ∀ w ∈ fz_xw, va_Nw w s) : ∀ w ∈ fz_xw, va_Nw w U := by
  intro w hw
  have h1 := h w hw
  simp only [fz_xw, List.mem_cons, List.not_mem_nil, or_false] at hw
  rcases hw with rfl | rfl | rfl | rfl | rfl | rfl
  · exact va_Nw.warmD hW h1
  · exact va_Nw.warmD hW h1
  · exact va_Nw.warmD hW h1
  · exact va_Nw.warmC hW h1
  · exact va_Nw.warmC hW h1
  · exact va_Nw.warmC hW h1
theorem fz_Xc.to {A B : Nat → Prop} {s U : State} {locs : List Loc} (h : fz_Xc A s) (hS : va_S A s.heap U.heap locs) (hW : s.WarmedH U.vm) (hAB : ∀ q, B q → A q) : fz_Xc B U :=
  ⟨((vx_Zq.moved hW.alike h.1).kept hS.2.1).narrow hAB, ((vx_Zq.moved hW.alike h.2.1).kept hS.2.1).narrow hAB, fz_xw_warm hW h.2.2.1, fun q hq => by
    obtain ⟨sa, h1⟩ := h.2.2.2 q hq
    exact ⟨sa, vk_R.warm hW h1⟩⟩
theorem fz_xw_tb : fz_xw.all (fun w => w.onTables) = true := by decide +kernel
theorem fz_Xc_bl {A : Nat → Prop} : fz_bl (fz_Xc A) := fun a U g mk h => ⟨vx_Zq.moved (u := U) (U := U.calling g mk a) (Vm.Alike.refl U.vm) h.1, vx_Zq.moved (u := U) (U := U.calling g mk a) (Vm.Alike.refl U.vm) h.2.1,
  fun w hw => va_Nw.same (u := U) (U := U.calling g mk a) (List.all_eq_true.mp fz_xw_tb w hw) rfl (h.2.2.1 w hw), fun q hq => by
    obtain ⟨sa, h1⟩ := h.2.2.2 q hq
    exact ⟨sa, vk_R.same (u := U) (U := U.calling g mk a) rfl h1⟩⟩
theorem fz_Xc.up {A B : Nat → Prop} {s U : State} {H : Heap} {locs : List Loc} (h : fz_Xc A s) (hU : U.heap = H) (hS : va_S A s.heap H locs) (hW : s.WarmedH U.vm) (hAB : ∀ q, B q → A q) : fz_Xc B U := h.to (by rw [hU]; exact hS) hW hAB
/-- contracts: the answer F and the new world W', where ok; else En is thrown and the world is WX -/
abbrev fz_Qx (D : va_G) (W : va_W) (F : Int32) (W' : va_W) (ok : Bool) : Array Value → State → Outcome → State → Prop := va_Qi (fun (r : Int32) (_ : Unit) => r = F ∧ ok = true) (fun _ t => va_P D vwCl W' t.heap) (fz_in W)
abbrev fz_Qxv (D : va_G) (W W' : va_W) (ok : Bool) : Array Value → State → Outcome → State → Prop := va_Qv (fun (_ : Unit) => ok = true) (fun _ t => va_P D vwCl W' t.heap) (fz_in W)
abbrev fz_Xx (D : va_G) (W WX : va_W) (ok : Bool) (En : String) : String → State → State → Prop := vx_X (fun (_ : Unit) => ok = false) (fun E9 _ t => E9 = En ∧ va_P D vwCl WX t.heap) (fz_in W)
abbrev fz_XI (l : Launch) (y : MethodName) (ws : List Cond) (fr lo k n : Nat) (D : va_G) (cy : Nat → ClassId) (av : List Value) (W : va_W) (E : State → Prop) (F : Int32) (W' : va_W) (ok : Bool) (En : String) (WX : va_W) : Prop := vx_Met l y ws ({ frames := fr, cells := k, slots := n, locals := lo }) (fz_M D cy av W E) (fz_Qx D W F W' ok) (fz_Xx D W WX ok En) k n (fz_in W)
abbrev fz_XV (l : Launch) (y : MethodName) (ws : List Cond) (fr lo k n : Nat) (D : va_G) (cy : Nat → ClassId) (av : List Value) (W : va_W) (E : State → Prop) (W' : va_W) (ok : Bool) (En : String) (WX : va_W) : Prop := vx_Met l y ws ({ frames := fr, cells := k, slots := n, locals := lo }) (fz_M D cy av W E) (fz_Qxv D W W' ok) (fz_Xx D W WX ok En) k n (fz_in W)
section FZX
variable {p : Program} {l : Launch} {e : Env} {R : Room} {s : State} {m : MethodId} {args : Array Value} {below : List Frame} {meth : Method} {c : Code} {H : Heap} {locs : List Loc} {cells slots : Nat} {Q : State → Prop}
variable {cc : ByteArray} {pc : Nat} {ls : Array Slot} {rest st0 : List Value} {D : va_G} {A : Nat → Prop} {a : Nat} {ws : va_W} {H0 : Heap} {k n : Nat}
/-- behind a call that may throw -/
theorem fz_xretI {F : Int32} {ok : Bool} {En : String} {av : Array Value} {P S Wc Wc' WX : va_W} (hr : vx_Run p l e R s m args below meth c H locs cells slots k n (F0 m pc ls st0) rest (fz_Qx D Wc F Wc' ok av) (fz_Xx D Wc WX ok En) (fz_in Wc))
    (hP : va_P D vwCl (P ++ (Wc ++ S)) H) (hD : va_D A (P ++ (Wc ++ S))) (hS : va_S A H0 H locs) (h2 : Wc'.map Prod.fst = Wc.map Prod.fst) (h3 : WX.map Prod.fst = Wc.map Prod.fst)
    (kx : ok = false → ∀ (H1 : Heap) (locs1 : List Loc) (q9 : Addr) (ce : Cell), va_P D vwCl (P ++ (WX ++ S)) H1 → va_D A (P ++ (WX ++ S)) → va_S A H0 H1 locs1 → H1[q9]? = some ce → ce.vm = .none → s.vm.findClass En = some ce.cls → vx_W p l e R s m args below meth c H1 locs1 (cells + k) (slots + n) Q (F0 m pc ls rest) q9)
    (kk : ok = true → ∀ (H1 : Heap) (locs1 : List Loc), va_P D vwCl (P ++ (Wc' ++ S)) H1 → va_D A (P ++ (Wc' ++ S)) → va_S A H0 H1 locs1 → W p l e R s m args below meth c H1 locs1 (cells + k) (slots + n) Q (F0 m (pc + 3) ls (.int F :: rest))) : W p l e R s m args below meth c H locs cells slots Q (F0 m pc ls st0) := by
  have hin : ∀ q, fz_in Wc q → A q := fun q hq => fz_inA hD hq
  refine vx_calli hr hS (fun q _ h => hin q h) hin (fun q _ h => hin q h) (fun E ce q9 u t H1 locs1 ht hvm hp hB hz hk hS1 hc hv hcl => ?_) (fun r u t H1 locs1 ht hvm hp hB hz hk hS1 => ?_)
  · rw [ht] at hB
    obtain ⟨g1, g2⟩ := fz_sg hP hD (fun q h n => hk q h n) hB.2 h3
    rw [hB.1] at hcl
    exact kx hp H1 locs1 q9 ce g1 g2 hS1 hc hv hcl
  · rw [hp.1]
    rw [ht] at hB
    obtain ⟨g1, g2⟩ := fz_sg hP hD (fun q h n => hk q h n) hB h2
    exact kk hp.2 H1 locs1 g1 g2 hS1
theorem fz_xretV {ok : Bool} {En : String} {av : Array Value} {P S Wc Wc' WX : va_W} (hr : vx_Run p l e R s m args below meth c H locs cells slots k n (F0 m pc ls st0) rest (fz_Qxv D Wc Wc' ok av) (fz_Xx D Wc WX ok En) (fz_in Wc))
    (hP : va_P D vwCl (P ++ (Wc ++ S)) H) (hD : va_D A (P ++ (Wc ++ S))) (hS : va_S A H0 H locs) (h2 : Wc'.map Prod.fst = Wc.map Prod.fst) (h3 : WX.map Prod.fst = Wc.map Prod.fst)
    (kx : ok = false → ∀ (H1 : Heap) (locs1 : List Loc) (q9 : Addr) (ce : Cell), va_P D vwCl (P ++ (WX ++ S)) H1 → va_D A (P ++ (WX ++ S)) → va_S A H0 H1 locs1 → H1[q9]? = some ce → ce.vm = .none → s.vm.findClass En = some ce.cls → vx_W p l e R s m args below meth c H1 locs1 (cells + k) (slots + n) Q (F0 m pc ls rest) q9)
    (kk : ok = true → ∀ (H1 : Heap) (locs1 : List Loc), va_P D vwCl (P ++ (Wc' ++ S)) H1 → va_D A (P ++ (Wc' ++ S)) → va_S A H0 H1 locs1 → W p l e R s m args below meth c H1 locs1 (cells + k) (slots + n) Q (F0 m (pc + 3) ls rest)) : W p l e R s m args below meth c H locs cells slots Q (F0 m pc ls st0) := by
  have hin : ∀ q, fz_in Wc q → A q := fun q hq => fz_inA hD hq
  refine vx_callv hr hS (fun q _ h => hin q h) hin (fun q _ h => hin q h) (fun E ce q9 u t H1 locs1 ht hvm hp hB hz hk hS1 hc hv hcl => ?_) (fun u t H1 locs1 ht hvm hp hB hz hk hS1 => ?_)
  · rw [ht] at hB
    obtain ⟨g1, g2⟩ := fz_sg hP hD (fun q h n => hk q h n) hB.2 h3
    rw [hB.1] at hcl
    exact kx hp H1 locs1 q9 ce g1 g2 hS1 hc hv hcl
  · rw [ht] at hB
    obtain ⟨g1, g2⟩ := fz_sg hP hD (fun q h n => hk q h n) hB h2
    exact kk hp H1 locs1 g1 g2 hS1
/-- what a callee threw goes on to the caller -/
theorem fz_xout {Qc : Array Value → State → Outcome → State → Prop} {Wa WX : va_W} {ok : Bool} {En Em : String} {ce : Cell} {q : Addr} {mc ms : Nat} (ht : ∀ x ∈ c.exceptionTable.toList, False) (hlocks : meth.locks = false) (hok : ok = false) (hE : En = Em) (hP : va_P D vwCl WX H) (hS : va_S (fz_in Wa) s.heap H locs) (hcell : H[q]? = some ce) (hv : ce.vm = .none) (hcl : s.vm.findClass En = some ce.cls) (hc : cells ≤ mc) (hs : slots ≤ ms) :
    vx_W p l e R s m args below meth c H locs cells slots (vx_MQ below Qc (fz_Xx D Wa WX ok Em) args s mc ms (fz_in Wa)) (F0 m pc ls rest) q :=
  vx_out (fun x hx => (ht x hx).elim) hlocks hcell hv hcl (fun t h9 _ => ⟨(), hok, ⟨hE, fz_to h9 hP⟩, hS.F h9⟩) hS.2.2 hc hs
theorem fz_pre {U : State} {H : Heap} (h : ∀ w ∈ fz_xw, va_Nw w s) : ∀ w ∈ fz_xw, w.before args s = true := fun w hw => va_Nw.use (List.all_eq_true.mp fz_xw_tb w hw) (h w hw)
/-- throw new cls(text) -/
theorem fz_throw {Qc : Array Value → State → Outcome → State → Prop} {Wa WX : va_W} {ok : Bool} {cls text : String} {ik is ic mc ms : Nat} {Ts : List Cond} (hexec : p.tables.exec = Jvm.exec) (hb : c.code = cc) (hl : l.stackTraces = false) (hml : ls.size = c.maxLocals) (ht : ∀ x ∈ c.exceptionTable.toList, False) (hlocks : meth.locks = false) (hown : s.vm.findClass RX8 = some m.cls) (hts : ∀ w ∈ Ts, w.before args s = true) (hX : fz_Xc (fz_in Wa) s)
    (hcls : Bundle.fit cls = true) (hk : (Cond.classLink RX8 ik cls) ∈ Ts) (hini : (Cond.initialized cls) ∈ Ts) (hat : ∀ w ∈ (vx_atS RX8 ic cls fz_xup).filter goodWord, w ∈ Ts) (hat2 : ((vx_atS RX8 ic cls fz_xup).filter (fun w => !goodWord w)).all (fun w => decide (w ∈ fz_xw)) = true) (hgood : (Cond.classLink RX8 ik cls :: Cond.initialized cls :: vx_atS RX8 ic cls fz_xup).all vx_ot = true) (htx : (is, text) ∈ fz_xt)
    (hok : ok = false) (hP : va_P D vwCl WX H) (hS : va_S (fz_in Wa) s.heap H locs)
    (d0 : decode cc pc = .ok (.new ik, 3)) (d3 : decode cc (pc + 3) = .ok (.dup, 1)) (d4 : decode cc (pc + 4) = .ok (.ldc is, 2)) (d6 : decode cc (pc + 6) = .ok (.invokespecial ic, 3)) (d9 : decode cc (pc + 9) = .ok (.athrow, 1))
    (hRframes : 6 ≤ R.frames) (hRlocals : (rest.map fun v => v.category).sum + 82 ≤ R.locals) (hRcells : cells + 1 ≤ R.cells) (hRslots : slots + 6 ≤ R.slots) (hc : cells + 1 ≤ mc) (hs : slots + 6 ≤ ms) :
    W p l e R s m args below meth c H locs cells slots (vx_MQ below Qc (fz_Xx D Wa WX ok cls) args s mc ms (fz_in Wa)) (F0 m pc ls rest) := by
  obtain ⟨sa, hstr⟩ := hX.2.2.2 _ htx
  refine vx_throwS (names := fz_xup) hexec hb hl hown hcls (by decide +kernel) (hts _ hk) (hts _ hini) hstr (vx_hat (B := fz_xw) (fun w hw => hts w (hat w hw)) (fun w hw => by simpa using List.all_eq_true.mp hat2 w hw) (fz_pre (U := s) (H := H) hX.2.2.1)) (List.all_eq_true.mp hgood) hX.1 hX.2.1 hS hml d0 d3 d4 d6 d9 (fun x hx => (ht x hx).elim) (by show 2 + 3 < R.frames; omega) (by show _ + (13 * (2 + 1) + 43) ≤ R.locals; omega) hRcells hRslots hlocks
    (fun t hvm hz hq => ⟨(), hok, ⟨rfl, hP.kept (fun k q hk => hq q.1 (hP k q hk).lt)⟩, Nat.le_trans hS.1 hz, fun q h1 h2 => (hq q (Nat.lt_of_lt_of_le h1 hS.1)).trans (hS.2.1 q h1 h2)⟩) hS.2.2 hc hs
end FZX
