/-! what is the same in the law's calls -/
theorem lg_same (x : Int64) : lg_cmp x x = 0 := by simp [lg_cmp]
section LWT
variable {p : Program} {l : Launch} {e : Env} {R : Room} {s : State} {m : MethodId} {args : Array Value} {below : List Frame} {meth : Method} {c : Code} {H : Heap} {locs : List Loc} {cells slots : Nat} {Q : State → Prop}
variable {cc : ByteArray} {pc : Nat} {ls : Array Slot} {rest st0 : List Value} {D : va_G} {cy : Nat → ClassId} {A : Nat → Prop} {H0 : Heap}
/-- v != 0 -/
theorem lw_bool (hx : p.tables.exec = Jvm.exec) (hb : c.code = cc) {v : Int32} (d0 : decode cc pc = .ok (.ifCond .eq 7, 3)) (d3 : decode cc (pc + 3) = .ok (.iconst 1, 1)) (d4 : decode cc (pc + 4) = .ok (.goto 4, 3)) (d7 : decode cc (pc + 7) = .ok (.iconst 0, 1))
    (kk : W p l e R s m args below meth c H locs cells slots Q (F0 m (pc + 8) ls (.int (fz_b (!(decide (v = 0)))) :: rest))) : W p l e R s m args below meth c H locs cells slots Q (F0 m pc ls (.int v :: rest)) := by
  refine lv_if_eq (tgt := pc + 7) hx hb d0 (by omega) (fun z => ?_) (fun z => ?_)
  · refine lv_iconst (v := 0) hx hb d7 (by decide) ?_
    rw [decide_eq_true z] at kk
    exact kk
  · refine lv_iconst (v := 1) hx hb d3 (by decide) ?_
    refine lv_goto (tgt := pc + 8) hx hb d4 (by omega) ?_
    rw [decide_eq_false z] at kk
    exact kk
/-- a method that reads is called -/
theorem lw_callR {y : MethodName} {ws : List Cond} {fr lo na nL index maxL rb ci : Nat} {As : List Value} {Wn Wc S : va_W} {fs : List Value} {E : State → Prop} {F : Int32} {Ts : List Cond} {own C : String} {q : vw_C} {bytes : ByteArray} {ret : Option FieldType} (hm : fz_RI l y ws fr lo D cy (.ref rb :: As) Wc E F) (h0 : Wc[0]? = some (rb, .inr (ci, fs))) (e1 : Wn.Perm (Wc ++ S))
    (Sf : CallFix p m c cc nL s args Ts own) (cw : CallW R s args own C index y bytes maxL ret ws { frames := fr, cells := 0, slots := 0, locals := lo } 0 0 na) (hc : vwCl[ci]? = some q) (hC : q.1 = C) (hK : va_K D vwCl (fz_TY cy) s) (hP : va_P D vwCl Wn H) (hbl : fz_bl E) (hE : ∀ U : State, U.heap = H → s.WarmedH U.vm → E U) (hn : As.length = na) (hsize : ls.size = nL) (hst : st0 = As.reverse ++ .ref rb :: rest) (hW : (rest.map fun v => v.category).sum ≤ 8) (hdg : decode cc pc = .ok (.invokevirtual index, 3)) (hf : cells + 0 ≤ R.cells ∧ slots + 0 ≤ R.slots)
    (kk : W p l e R s m args below meth c H locs cells slots Q (F0 m (pc + 3) ls (.int F :: rest))) : W p l e R s m args below meth c H locs cells slots Q (F0 m pc ls st0) := by
  have hP' : va_P D vwCl ([] ++ (Wc ++ S)) H := fz_permP (fun q hq => e1.mem_iff.mpr hq) hP
  exact fz_retR (va_runV Sf hm cw (fz_preV hK (fz_seg hP') hc hC h0 hbl hE) rfl hn hsize hst (by show 2 * 0 + _ ≤ 8; omega) hdg hf) kk
theorem lw_callRL {y : MethodName} {ws : List Cond} {fr lo na nL index maxL rb ci : Nat} {As : List Value} {Wn Wc S : va_W} {fs : List Value} {E : State → Prop} {F : Int64} {Ts : List Cond} {own C : String} {q : vw_C} {bytes : ByteArray} {ret : Option FieldType} (hm : fz_RL l y ws fr lo D cy (.ref rb :: As) Wc E F) (h0 : Wc[0]? = some (rb, .inr (ci, fs))) (e1 : Wn.Perm (Wc ++ S))
    (Sf : CallFix p m c cc nL s args Ts own) (cw : CallW R s args own C index y bytes maxL ret ws { frames := fr, cells := 0, slots := 0, locals := lo } 0 0 na) (hc : vwCl[ci]? = some q) (hC : q.1 = C) (hK : va_K D vwCl (fz_TY cy) s) (hP : va_P D vwCl Wn H) (hbl : fz_bl E) (hE : ∀ U : State, U.heap = H → s.WarmedH U.vm → E U) (hn : As.length = na) (hsize : ls.size = nL) (hst : st0 = As.reverse ++ .ref rb :: rest) (hW : (rest.map fun v => v.category).sum ≤ 8) (hdg : decode cc pc = .ok (.invokevirtual index, 3)) (hf : cells + 0 ≤ R.cells ∧ slots + 0 ≤ R.slots)
    (kk : W p l e R s m args below meth c H locs cells slots Q (F0 m (pc + 3) ls (.long F :: rest))) : W p l e R s m args below meth c H locs cells slots Q (F0 m pc ls st0) := by
  have hP' : va_P D vwCl ([] ++ (Wc ++ S)) H := fz_permP (fun q hq => e1.mem_iff.mpr hq) hP
  exact fz_retRL (va_runV Sf hm cw (fz_preV hK (fz_seg hP') hc hC h0 hbl hE) rfl hn hsize hst (by show 2 * 0 + _ ≤ 8; omega) hdg hf) kk
/-- a method that answers a long and writes -/
theorem lw_callML {y : MethodName} {ws : List Cond} {fr lo na nL index maxL rb ci : Nat} {As : List Value} {Wn Wn' Wc Wc' S : va_W} {fs : List Value} {E : State → Prop} {F : Int64} {Ts : List Cond} {own C : String} {q : vw_C} {bytes : ByteArray} {ret : Option FieldType} (hm : fz_ML l y ws fr lo D cy (.ref rb :: As) Wc E F Wc') (h0 : Wc[0]? = some (rb, .inr (ci, fs))) (e1 : Wn.Perm (Wc ++ S)) (e2 : (Wc' ++ S).Perm Wn') (e3 : Wc'.map Prod.fst = Wc.map Prod.fst)
    (Sf : CallFix p m c cc nL s args Ts own) (cw : CallW R s args own C index y bytes maxL ret ws { frames := fr, cells := 0, slots := 0, locals := lo } 0 0 na) (hc : vwCl[ci]? = some q) (hC : q.1 = C) (hK : va_K D vwCl (fz_TY cy) s) (hP : va_P D vwCl Wn H) (hD : va_D A Wn) (hS : va_S A s.heap H locs) (hbl : fz_bl E) (hE : ∀ U : State, U.heap = H → s.WarmedH U.vm → E U) (hn : As.length = na) (hsize : ls.size = nL) (hst : st0 = As.reverse ++ .ref rb :: rest) (hW : (rest.map fun v => v.category).sum ≤ 8) (hdg : decode cc pc = .ok (.invokevirtual index, 3)) (hf : cells + 0 ≤ R.cells ∧ slots + 0 ≤ R.slots)
    (kk : ∀ (H1 : Heap) (locs1 : List Loc), va_P D vwCl Wn' H1 → va_D A Wn' → va_S A s.heap H1 locs1 → W p l e R s m args below meth c H1 locs1 cells slots Q (F0 m (pc + 3) ls (.long F :: rest))) : W p l e R s m args below meth c H locs cells slots Q (F0 m pc ls st0) := by
  have hP' : va_P D vwCl ([] ++ (Wc ++ S)) H := fz_permP (fun q hq => e1.mem_iff.mpr hq) hP
  have hD' : va_D A ([] ++ (Wc ++ S)) := fz_permD e1 hD
  have hin : ∀ q, fz_in Wc q → A q := fun q hq => fz_inA hD' hq
  refine va_calll (va_runV Sf hm cw (fz_preMV hK (fz_seg hP') (fz_segD hD') hc hC h0 hbl hE) rfl hn hsize hst (by show 2 * 0 + _ ≤ 8; omega) hdg hf) hS (fun q _ h => hin q h) hin (fun r u t H1 locs1 ht hvm hp hB hz hk hS1 => ?_)
  rw [hp]
  rw [ht] at hB
  obtain ⟨g1, g2⟩ := fz_sg hP' hD' (fun q h n => hk q h n) hB e3
  exact kk H1 locs1 (fz_permP (fun q hq => e2.mem_iff.mpr hq) g1) (fz_permD e2 g2) hS1
/-- behind the model's call: thrown, the codes and the answers are compared -/
theorem lw_tail {o : Nat} {f a t h x b ad : Nat → Nat} {r : Nat → Int64} {sl : Nat → Nat → Nat} {g : Nat → Option Nat} {cn : Nat} {V T X : Nat → Nat → Int32} {vb : Option Nat} {S : Nat → Nat → Nat → Int32} {M : Nat → Nat → Int32} {hh : Int64} {sc : Nat} {iv F G : Int32} {Ts : List Cond} {bytes : ByteArray} {maxL : Nat} {ret : Option FieldType} {off : Int}
    (Sf : CallFix p m c cc 7 s args Ts RL) (cw : CallW R s args RL RX9 100 yX9_thrown bytes maxL ret wsX9_thrown { frames := 0, cells := 0, slots := 0, locals := 0 } 0 0 0) (hK : va_K D vwCl (fz_TY cy) s) (hP : va_P D vwCl (lwW cy o f a t h x b ad r sl g cn V T X vb S M hh) H) (hl : lv_has ls 7 [(5, .int F), (0, .ref sc), (1, .ref (f 0)), (2, .ref (b 0)), (3, .ref o), (4, .int iv)]) (hF : F = M 0 2) (hA : F = 0 → r 0 = G.toInt64)
    (d0 : decode cc pc = .ok (.istore 6, 2)) (d2 : decode cc (pc + 2) = .ok (.aload_n 2, 1)) (d3 : decode cc (pc + 3) = .ok (.invokevirtual 100, 3)) (d6 : decode cc (pc + 6) = .ok (.iload 5, 2)) (d8 : decode cc (pc + 8) = .ok (.if_icmp .eq 5, 3)) (d13 : decode cc (pc + 13) = .ok (.iload 5, 2)) (d15 : decode cc (pc + 15) = .ok (.ifCond .ne 15, 3)) (d18 : decode cc (pc + 18) = .ok (.aload_n 3, 1)) (d19 : decode cc (pc + 19) = .ok (.iconst 0, 1)) (d20 : decode cc (pc + 20) = .ok (.laload, 1)) (d21 : decode cc (pc + 21) = .ok (.iload 6, 2)) (d23 : decode cc (pc + 23) = .ok (.i2l, 1)) (d24 : decode cc (pc + 24) = .ok (.lcmp, 1)) (d25 : decode cc (pc + 25) = .ok (.ifCond .eq 5, 3)) (d30 : decode cc (pc + 30) = .ok (.goto off, 3)) (ht : ((pc + 30 : Nat) : Int) + off = ((1677 : Nat) : Int)) (hf : cells + 0 ≤ R.cells ∧ slots + 0 ≤ R.slots)
    (kk : ∀ ls' : Array Slot, lv_has ls' 7 [(0, .ref sc), (1, .ref (f 0)), (2, .ref (b 0)), (3, .ref o), (4, .int iv)] → W p l e R s m args below meth c H locs cells slots Q (F0 m 1677 ls' [])) : W p l e R s m args below meth c H locs cells slots Q (F0 m pc ls [.int G]) := by
  have hx := Sf.1
  have hb := Sf.2.1
  have hO : va_P D vwCl ([] ++ (OW cy o r ++ fz_cat (lwB cy o f a t h x b ad r sl g cn V T X vb S M hh) [1, 2, 3, 4, 5, 6, 7, 8, 9, 10, 11])) H := hP
  have hO := fz_seg hO
  refine lv_istore (lv' := [(6, .int G), (5, .int F), (0, .ref sc), (1, .ref (f 0)), (2, .ref (b 0)), (3, .ref o), (4, .int iv)]) hx hb d0 hl (by decide) rfl (fun ls hl => ?_)
  refine lv_aload_n hx hb d2 rfl (lv_at hl 4 rfl) ?_
  refine lw_callR (rest := []) (As := []) (c_X9_thrown l D cy b M hh) rfl (fz_cat_P (lwB cy o f a t h x b ad r sl g cn V T X vb S M hh) (L' := [6, 0, 1, 2, 3, 4, 5, 7, 8, 9, 10, 11]) (by decide)) Sf cw rfl rfl hK hP fz_T_bl (fun _ _ _ => trivial) rfl hl.1 rfl (by decide) d3 hf ?_
  refine lv_iload hx hb d6 (lv_at hl 1 rfl) ?_
  refine lv_icmp_eq (tgt := pc + 13) hx hb d8 (by omega) (fun _ => ?_) (fun z => absurd hF.symm z)
  refine lv_iload hx hb d13 (lv_at hl 1 rfl) ?_
  have hend : ∀ ls' : Array Slot, lv_has ls' 7 [(6, .int G), (5, .int F), (0, .ref sc), (1, .ref (f 0)), (2, .ref (b 0)), (3, .ref o), (4, .int iv)] → W p l e R s m args below meth c H locs cells slots Q (F0 m (pc + 30) ls' []) := fun ls' hl' =>
    lv_goto (tgt := 1677) hx hb d30 ht (kk ls' (lv_sub hl' [2, 3, 4, 5, 6] rfl))
  refine lv_if_ne (tgt := pc + 30) hx hb d15 (by omega) (fun _ => hend ls hl) (fun z => ?_)
  refine lv_aload_n hx hb d18 rfl (lv_at hl 5 rfl) ?_
  refine lv_iconst (v := 0) hx hb d19 (by decide) ?_
  refine va_lald (n := 1) (f := r) hx hb hK hO 0 4 rfl rfl (vp_in_nI (n := 0) (N := 1) (by decide) (by decide)) d20 ?_
  refine lv_iload hx hb d21 (lv_at hl 0 rfl) ?_
  refine lv_i2l (v := G.toInt64) hx hb d23 rfl ?_
  refine W.lcmp hx hb d24 ?_
  refine lv_if_eq (tgt := pc + 30) hx hb d25 (by omega) (fun _ => hend ls hl) (fun q => absurd ?_ q)
  show lg_cmp (r 0) G.toInt64 = 0
  rw [hA z]
  exact lg_same _
end LWT
