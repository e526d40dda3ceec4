/-! what the start gives -/
theorem len_small {args : Array Value} {s : State} {tm : Term} {v : Value} {t : Nat} {cell : Cell} (h : (Term.length tm).eval args s none [] s = some v) (ht : tm.eval args s none [] s = some (.ref t)) (hat : s.arrayAt? t = some cell) : cell.slots.size < 2 ^ 31 := by
  by_cases c : cell.slots.size < 2 ^ 31
  · exact c
  · exfalso
    simp only [Term.eval, ht, hat, Option.bind_eq_bind, Option.bind_some, if_neg c] at h
    exact absurd h (by simp)
theorem OF_fun {o n d : String} {v w : Value} {a : Nat} {A : Nat → Prop} {U : State} {H : Heap} (h : va_OF o n d v a A U H) (k : va_OF o n d w a A U H) : v = w := by
  obtain ⟨cf, kf, i, f, cell, e1, e2, e3, e4, e5, e6⟩ := h
  obtain ⟨cf2, kf2, i2, f2, cell2, g1, g2, g3, g4, g5, g6⟩ := k
  cases e1.symm.trans g1
  cases e3.symm.trans g3
  exact Option.some.inj (e5.symm.trans g5)
theorem T_fun {ty : FieldType} {t n n' : Nat} {f f' : Nat → Value} {A : Nat → Prop} {U : State} {H : Heap} (hn : n < 2 ^ 31) (hn' : n' < 2 ^ 31) (h : va_T ty t n f A U H) (k : va_T ty t n' f' A U H) : n = n' ∧ ∀ j, j < n → f j = f' j := by
  obtain ⟨cell, e1, -, -, -, e5, e6, -⟩ := h
  obtain ⟨cell2, g1, -, -, -, g5, g6, -⟩ := k
  cases e1.symm.trans g1
  have e : n = n' := (nI_eq hn hn').mp (e5.symm.trans g5)
  subst e
  exact ⟨rfl, fun j hj => Option.some.inj ((e6 j hj).symm.trans (g6 j hj))⟩
def lw_fl : List Cond := flatC (Jvm.Cond.and given_1 narrow_1)
def vbK : List Nat := [68, 74, 77, 80, 83, 86, 89, 92, 95, 98, 101, 104]
abbrev sV (i : Nat) : Term := .static "FreezeCredits$Verb" (vbN.getD i "") "LFreezeCredits$Verb;"
abbrev sT (i : Nat) : Term := .string "FreezeCredits$Verb" (vbK.getD i 0)
abbrev sB (i : Nat) : Term := .field (sT i) "java/lang/String" "value" "[B"
theorem fl_ex : ∀ i, i < 12 → Cond.exactly (sV i) "FreezeCredits$Verb" ∈ lw_fl := by decide +kernel
theorem fl_num : ∀ i, i < 12 → Cond.eq (.field (sV i) "FreezeCredits$Verb" "numbers" "I") (.int (vbNum.getD i 0)) ∈ lw_fl := by decide +kernel
theorem fl_ord : ∀ i, i < 12 → Cond.eq (.field (sV i) "java/lang/Enum" "ordinal" "I") (.int (vbOrd.getD i 0)) ∈ lw_fl := by decide +kernel
theorem fl_wrd : ∀ i, i < 12 → Cond.eq (.field (sV i) "FreezeCredits$Verb" "word" "Ljava/lang/String;") (sT i) ∈ lw_fl := by decide +kernel
theorem fl_s1 : ∀ i, i < 12 → Cond.exactly (sT i) "java/lang/String" ∈ lw_fl := by decide +kernel
theorem fl_s2 : ∀ i, i < 12 → Cond.eq (.field (sT i) "java/lang/String" "coder" "B") (.int 0) ∈ lw_fl := by decide +kernel
theorem fl_s3 : ∀ i, i < 12 → Cond.arrayOf (sB i) .byte ∈ lw_fl := by decide +kernel
theorem fl_s4 : ∀ i, i < 12 → Cond.eq (.length (sB i)) (.int (Int32.ofNat (vbL.getD i 0))) ∈ lw_fl := by decide +kernel
def vbX : List Nat := [619, 627, 637, 645, 652, 662, 670, 679, 687, 695, 704, 711]
theorem fl_s5x : ∀ i, i < 12 → ∀ j, j < vbL.getD i 0 → lw_fl[vbX.getD i 0 + j]? = some (Cond.eq (.elem (sB i) (.int (Int32.ofNat j))) (.int ((vbB.getD i []).getD j 0))) := by decide +kernel
theorem fl_s5 : ∀ i, i < 12 → ∀ j, j < vbL.getD i 0 → Cond.eq (.elem (sB i) (.int (Int32.ofNat j))) (.int ((vbB.getD i []).getD j 0)) ∈ lw_fl := fun i hi j hj => List.mem_of_getElem? (fl_s5x i hi j hj)
theorem fl_vt : ∀ i, i < 12 → Cond.eq (.elem (.static "FreezeCredits$CommandText" "VERBS" "[LFreezeCredits$Verb;") (.int (Int32.ofNat i))) (sV i) ∈ lw_fl := by decide +kernel
theorem fl_sm : ∀ i, i < 12 → Cond.eq (.elem (.static "FreezeCredits$1" "$SwitchMap$FreezeCredits$Verb" "[I") (.int (Int32.ofNat i))) (.int (if i < 11 then nI (i + 1) else 0)) ∈ lw_fl := by decide +kernel
theorem fl_sf : ∀ i, i < 4 → Cond.eq (.elem (.static "FreezeCredits" "SETTINGS_FROM" "[I") (.int (Int32.ofNat i))) (.int (fz_from i)) ∈ lw_fl := by decide +kernel
theorem fl_su : ∀ i, i < 4 → Cond.eq (.elem (.static "FreezeCredits" "SETTINGS_TO" "[I") (.int (Int32.ofNat i))) (.int (fz_upto i)) ∈ lw_fl := by decide +kernel
theorem fl_s0 : ∀ i, i < 4 → Cond.eq (.elem (.static "FreezeCredits" "SETTINGS_AT_FIRST" "[I") (.int (Int32.ofNat i))) (.int (fz_first i)) ∈ lw_fl := by decide +kernel
theorem fl_tx : ∀ q ∈ fz_xt, Cond.exactly (.string RX8 q.1) "java/lang/String" ∈ lw_fl := by decide +kernel
theorem vb_ne : ∀ i, i < 12 → ∀ j, j < 12 → vbL.getD i 0 = vbL.getD j 0 → (∀ k, k < vbL.getD i 0 → (vbB.getD i []).getD k 0 = (vbB.getD j []).getD k 0) → i = j := by decide +kernel
theorem vbL_lt : ∀ i, i < 12 → vbL.getD i 0 < 2 ^ 31 := by decide +kernel
theorem tb_nw : ∀ w ∈ fz_nests, w ∈ lw_tbl := by decide +kernel
theorem tb_xw : ∀ w ∈ fz_xw, w ∈ lw_tbl := by decide +kernel
theorem tb_xt : ∀ q ∈ fz_xt, Cond.stringRef RX8 q.1 q.2 ∈ lw_tbl := by decide +kernel
section ENV
variable {args : Array Value} {s : State}
abbrev sA (s : State) : Nat → Prop := fun q => s.heap.size ≤ q
theorem sA_no : ∀ a : Nat, a < s.heap.size → ¬ sA s a := fun _ h z => absurd h (Nat.not_lt.mpr z)
theorem env_si {C nm : String} {n : Nat} {f : Nat → Int32} (hn : n < 2 ^ 31) (hl : (Cond.laysStatic C nm "[I").before args s = true) (hi : (Cond.initialized C).before args s = true) (ha : (Cond.arrayOf (.static C nm "[I") .int).before args s = true) (hlen : (Cond.eq (.length (.static C nm "[I")) (.int (Int32.ofNat n))).before args s = true) (he : ∀ j, j < n → (Cond.eq (.elem (.static C nm "[I") (.int (Int32.ofNat j))) (.int (f j))).before args s = true) : fz_si C nm n f (sA s) s := by
  obtain ⟨t, ht, hT⟩ := va_Tof (f := fun j => .int (f j)) hn ha (va_eqt hlen) (fun j hj => va_eqt (he j hj)) sA_no
  exact ⟨t, va_Zof hl hi ht sA_no, hT⟩
theorem env_sx (hl : (Cond.laysStatic "FreezeCredits" "SETTINGS_AT_FIRST" "[I").before args s = true) (hi : (Cond.initialized "FreezeCredits").before args s = true) (ha : (Cond.arrayOf (.static "FreezeCredits" "SETTINGS_AT_FIRST" "[I") .int).before args s = true) (hlen : (Cond.eq (.length (.static "FreezeCredits" "SETTINGS_AT_FIRST" "[I")) (.int 4)).before args s = true) (he : ∀ j, j < 4 → (Cond.eq (.elem (.static "FreezeCredits" "SETTINGS_AT_FIRST" "[I") (.int (Int32.ofNat j))) (.int (fz_first j))).before args s = true) (hx : (Cond.exactly (.static "FreezeCredits" "SETTINGS_AT_FIRST" "[I") "[I").before args s = true) : fz_sx (sA s) s := by
  obtain ⟨t, ht, cell, h1, h2, h3, h4, h5, h6, h7⟩ := va_Tof (N := 4) (f := fun j => .int (fz_first j)) (by decide) ha (va_eqt hlen) (fun j hj => va_eqt (he j hj)) (A := sA s) sA_no
  obtain ⟨a, c, cell2, k, q1, q2, q3, q4, q5, q6, -⟩ := Cond.exactly_spec hx
  cases ht.symm.trans q1
  cases h1.symm.trans q3
  obtain ⟨t2, cell3, g1, g2, -⟩ := Term.length_spec (va_eqt hlen)
  cases ht.symm.trans g1
  obtain ⟨g3, -, -, -⟩ := State.arrayAt?_spec g2
  cases h1.symm.trans g3
  have hs31 := len_small (va_eqt hlen) g1 g2
  have hsz : cell.slots.size = 4 := (nI_eq hs31 (by decide)).mp h5
  refine ⟨t, cell, va_Zof hl hi ht sA_no, h1, (by rw [q6]; exact q2), (fun k9 e9 => by rw [e9] at q5; cases q5), h3, ?_, h7⟩
  apply Array.ext_getElem?
  intro j
  by_cases hj : j < 4
  · rw [h6 j hj]
    show some (Value.int (fz_first j)) = (arrV cell.cls 4 (fun j => Value.int (fz_first j))).slots[j]?
    rw [arrV_read _ _ hj]
  · rw [Array.getElem?_eq_none (by omega), Array.getElem?_eq_none]
    show (arrV _ 4 _).slots.size ≤ j
    rw [arrV_size]
    omega
theorem env_St (hs : ∀ w ∈ lw_fl, w.before args s = true) : ∃ adK adV : Nat → Nat, vk_S 12 vbL vbB adK adV (sA s) s s.heap ∧ ∀ i, i < 12 → (sT i).eval args s none [] s = some (.ref (adK i)) := by
  have h0 : ∀ i : Nat, ∃ q : Nat × Nat, i < 12 → (sT i).eval args s none [] s = some (.ref q.1) ∧ (va_O "java/lang/String" q.1 (sA s) s s.heap ∧ va_OF "java/lang/String" "coder" "B" (.int 0) q.1 (sA s) s s.heap ∧ va_OF "java/lang/String" "value" "[B" (.ref q.2) q.1 (sA s) s s.heap ∧ va_T .byte q.2 (vbL.getD i 0) (fun j => .int ((vbB.getD i []).getD j 0)) (sA s) s s.heap) := by
    intro i
    by_cases hi : i < 12
    · obtain ⟨adK, adV, h1, h2⟩ := vk_Sof (args := args) (s := s) (N := 1) (tm := fun _ => sT i) (len := [vbL.getD i 0]) (byt := [vbB.getD i []]) (A := sA s) (fun j hj => by
          obtain rfl : j = 0 := by omega
          exact vbL_lt i hi) (fun _ _ => hs _ (fl_s1 i hi)) (fun _ _ => hs _ (fl_s2 i hi)) (fun _ _ => hs _ (fl_s3 i hi))
        (fun j hj => by
          obtain rfl : j = 0 := by omega
          exact hs _ (fl_s4 i hi))
        (fun j hj k hk => by
          obtain rfl : j = 0 := by omega
          exact hs _ (fl_s5 i hi k hk)) (fun j k hj hk hn => absurd (show j = k by omega) hn) sA_no
      exact ⟨(adK 0, adV 0), fun _ => ⟨h2 0 (by decide), h1.1 0 (by decide)⟩⟩
    · exact ⟨(0, 0), fun z => absurd z hi⟩
  obtain ⟨ad, had⟩ := Classical.axiomOfChoice h0
  refine ⟨fun i => (ad i).1, fun i => (ad i).2, ⟨fun i hi => (had i hi).2, fun i j hi hj e => ?_⟩, fun i hi => (had i hi).1⟩
  obtain ⟨-, -, a3, a4⟩ := (had i hi).2
  obtain ⟨-, -, b3, b4⟩ := (had j hj).2
  have e2 : (ad i).1 = (ad j).1 := e
  rw [← e2] at b3
  have e3 : (ad i).2 = (ad j).2 := Value.ref.inj (OF_fun a3 b3)
  rw [← e3] at b4
  obtain ⟨n1, n2⟩ := T_fun (vbL_lt i hi) (vbL_lt j hj) a4 b4
  exact vb_ne i hi j hj n1 (fun k hk => Value.int.inj (n2 k hk))
theorem env_fld {o n d : String} {tm : Term} {z : Int32} {t : Nat} (ht : tm.eval args s none [] s = some (.ref t)) (h : (Cond.eq (.field tm o n d) (.int z)).before args s = true) : va_OF o n d (.int z) t (sA s) s s.heap := by
  have hv := va_eqt h
  cases hfo : s.fieldFound? o n d with
  | none =>
    rw [va_fe ht] at hv
    simp [State.fieldOf?, State.fieldNamed?, hfo] at hv
  | some x =>
    obtain ⟨cf, k, fi, f⟩ := x
    obtain ⟨g1, cell, g2, g3, -, -, g6⟩ := Term.field_spec hfo ht hv
    exact ⟨cf, k, fi, f, cell, hfo, g1, g2, g3, g6, sA_no _ (Array.getElem?_eq_some_iff.mp g2).1⟩
theorem env_Vb (hs : ∀ w ∈ lw_fl, w.before args s = true) (hts : ∀ w ∈ lw_tbl, w.before args s = true) : ∃ ad adK adV : Nat → Nat, fz_Vb ad adK adV (sA s) s := by
  obtain ⟨adK, adV, hS, hK⟩ := env_St hs
  have h0 : ∀ i : Nat, ∃ t : Nat, i < 12 → (sV i).eval args s none [] s = some (.ref t) ∧ va_O "FreezeCredits$Verb" t (sA s) s s.heap := by
    intro i
    by_cases hi : i < 12
    · obtain ⟨a, c, cell, k, q1, q2, q3, q4, q5, q6, -⟩ := Cond.exactly_spec (hs _ (fl_ex i hi))
      exact ⟨a, fun _ => ⟨q1, cell, q3, q5, by rw [q6]; exact q2, sA_no a (Array.getElem?_eq_some_iff.mp q3).1⟩⟩
    · exact ⟨0, fun h => absurd h hi⟩
  obtain ⟨ad, had⟩ := Classical.axiomOfChoice h0
  refine ⟨ad, adK, adV, ⟨hS, va_Zof (hts _ (by decide +kernel)) (hts _ (by decide +kernel)) (va_eqt (hs _ (by decide +kernel))) sA_no, va_Zqof (hts _ (by decide +kernel)) (hts _ (by decide +kernel)) (hs _ (by decide +kernel)) sA_no⟩, fun i hi => ⟨(had i hi).2, fun q hq => ?_⟩, va_Efof (d0 := "LFreezeCredits$Verb;") (nm := vbN) (tm := sT) (fun i hi => (had i hi).1) (fun i hi => hs _ (fl_wrd i hi)) hK sA_no, ?_, env_si (by decide) (hts _ (by decide +kernel)) (hts _ (by decide +kernel)) (hs _ (by decide +kernel)) (hs _ (by decide +kernel)) (fun j hj => hs _ (fl_sm j hj))⟩
  · simp only [vbF, List.mem_cons, List.not_mem_nil, or_false] at hq
    rcases hq with rfl | rfl
    · exact env_fld (had i hi).1 (hs _ (fl_num i hi))
    · exact env_fld (had i hi).1 (hs _ (fl_ord i hi))
  · obtain ⟨t, ht, hT⟩ := va_Tof (args := args) (s := s) (tm := .static "FreezeCredits$CommandText" "VERBS" "[LFreezeCredits$Verb;") (ty := .object "FreezeCredits$Verb") (N := 12) (f := fun i => .ref (ad i)) (A := sA s) (by decide) (hs _ (by decide +kernel)) (va_eqt (z := 12) (hs _ (by decide +kernel))) (fun j hj => va_eqv (hs _ (fl_vt j hj)) (had j hj).1) sA_no
    exact ⟨t, va_Zof (hts _ (by decide +kernel)) (hts _ (by decide +kernel)) ht sA_no, hT⟩
theorem env_Nw (hts : ∀ w ∈ lw_tbl, w.before args s = true) : fz_Nw s := fun w hw => va_Nw.of (List.all_eq_true.mp fz_nests_tb w hw) (hts w (tb_nw w hw))
theorem env_Xc (hs : ∀ w ∈ lw_fl, w.before args s = true) (hts : ∀ w ∈ lw_tbl, w.before args s = true) : fz_Xc (sA s) s := by
  refine ⟨vx_Zqof (hts _ (by decide +kernel)) (hts _ (by decide +kernel)) (hs _ (by decide +kernel)) sA_no, vx_Zqof (hts _ (by decide +kernel)) (hts _ (by decide +kernel)) (hs _ (by decide +kernel)) sA_no, fun w hw => va_Nw.of (List.all_eq_true.mp fz_xw_tb w hw) (hts w (tb_xw w hw)), fun q hq => ?_⟩
  obtain ⟨a, c, cell, k, q1, -⟩ := Cond.exactly_spec (hs _ (fl_tx q hq))
  exact ⟨a, vk_R.of (hts _ (tb_xt q hq)) q1⟩
theorem env_Sg (hs : ∀ w ∈ lw_fl, w.before args s = true) (hts : ∀ w ∈ lw_tbl, w.before args s = true) : fz_Sg (sA s) s :=
  ⟨env_Nw hts, env_si (by decide) (hts _ (by decide +kernel)) (hts _ (by decide +kernel)) (hs _ (by decide +kernel)) (hs _ (by decide +kernel)) (fun j hj => hs _ (fl_sf j hj)), env_si (by decide) (hts _ (by decide +kernel)) (hts _ (by decide +kernel)) (hs _ (by decide +kernel)) (hs _ (by decide +kernel)) (fun j hj => hs _ (fl_su j hj))⟩
theorem env_Ew (hs : ∀ w ∈ lw_fl, w.before args s = true) (hts : ∀ w ∈ lw_tbl, w.before args s = true) : fz_Ew (sA s) s :=
  ⟨⟨env_Xc hs hts, env_Sg hs hts⟩, va_Nc.of (hs _ (by decide +kernel)), va_Nc.of (hs _ (by decide +kernel)), va_Nc.of (hs _ (by decide +kernel))⟩
theorem env_En (hs : ∀ w ∈ lw_fl, w.before args s = true) (hts : ∀ w ∈ lw_tbl, w.before args s = true) : fz_En (sA s) s :=
  ⟨env_Nw hts, va_Nw.of rfl (hts (.castable "[I" "java/lang/Cloneable") (by decide +kernel)), env_sx (hts _ (by decide +kernel)) (hts _ (by decide +kernel)) (hs _ (by decide +kernel)) (hs _ (by decide +kernel)) (fun j hj => hs _ (fl_s0 j hj)) (hs _ (by decide +kernel)), hts (.arrayOver (.object "FreezeCredits$Calendar")) (by decide +kernel)⟩
theorem K_prim {ty : FieldType} (h : (Cond.arrayClass ty).before args s = true) : ∃ cA : ClassId, ArrOfT s cA ty ∧ s.vm.findClass ("[" ++ ty.toString) = some cA := by
  obtain ⟨c, k, comp, h1, h2, h3⟩ := Cond.arrayClass_spec h
  exact ⟨c, fun n z => ⟨fun k h => (by cases h), k, h2, comp, h3⟩, h1⟩
theorem K_obj {C : String} (h : (Cond.arrayOver (.object C)).before args s = true) : ∃ cA : ClassId, ArrOfT s cA (.object C) ∧ va_RA s cA (.object C) := by
  obtain ⟨comp, c, k, h1, h2, h3, h4, h5⟩ := Cond.arrayOver_spec h
  exact ⟨c, fun n z => ⟨fun k h => (by cases h), k, h3, comp, h4⟩, k, comp, h3, h4, h1, h5⟩
theorem env_K (hts : ∀ w ∈ lw_tbl, w.before args s = true) : ∃ (D : va_G) (cy : Nat → ClassId), va_K D vwCl (fz_TY cy) s := by
  obtain ⟨c0, i0, k0⟩ := u_known (C := RX1) (T := TX1) (N := 6) (n := 6) hts (by decide +kernel) (hts (.instantiable RX1 6) (by decide +kernel))
  obtain ⟨c1, i1, k1⟩ := u_known (C := RX2) (T := TX2) (N := 10) (n := 10) hts (by decide +kernel) (hts (.instantiable RX2 10) (by decide +kernel))
  obtain ⟨c2, i2, k2⟩ := u_known (C := RX3) (T := TX3) (N := 5) (n := 5) hts (by decide +kernel) (hts (.instantiable RX3 5) (by decide +kernel))
  obtain ⟨c3, i3, k3⟩ := u_known (C := RX4) (T := TX4) (N := 2) (n := 2) hts (by decide +kernel) (hts (.instantiable RX4 2) (by decide +kernel))
  obtain ⟨c4, i4, k4⟩ := u_known (C := RX5) (T := TX5) (N := 7) (n := 7) hts (by decide +kernel) (hts (.instantiable RX5 7) (by decide +kernel))
  obtain ⟨c5, i5, k5⟩ := u_known (C := RX6) (T := TX6) (N := 5) (n := 5) hts (by decide +kernel) (hts (.instantiable RX6 5) (by decide +kernel))
  obtain ⟨c6, i6, k6⟩ := u_known (C := RX8) (T := TX8) (N := 4) (n := 4) hts (by decide +kernel) (hts (.instantiable RX8 4) (by decide +kernel))
  obtain ⟨a0, x0, y0⟩ := K_prim (hts (.arrayClass .int) (by decide +kernel))
  obtain ⟨a1, x1, y1⟩ := K_prim (hts (.arrayClass .boolean) (by decide +kernel))
  obtain ⟨a2, x2, y2⟩ := K_prim (hts (.arrayClass .byte) (by decide +kernel))
  obtain ⟨a3, x3, y3⟩ := K_obj (hts (.arrayOver (.object "FreezeCredits$Calendar")) (by decide +kernel))
  refine ⟨(fun k => [c0, c1, c2, c3, c4, c5, c6].getD k 0, fun k => [i0, i1, i2, i3, i4, i5, i6].getD k (fun _ => 0)), fun k => [a0, a1, a2, a3].getD k 0, fun k q hq => ?_, fun k q hq => ?_⟩
  · match k, hq with
    | 0, hq => cases hq; exact k0
    | 1, hq => cases hq; exact k1
    | 2, hq => cases hq; exact k2
    | 3, hq => cases hq; exact k3
    | 4, hq => cases hq; exact k4
    | 5, hq => cases hq; exact k5
    | 6, hq => cases hq; exact k6
    | k + 7, hq => exact absurd hq (by simp [vwCl])
  · match k, hq with
    | 0, hq => cases hq; exact ⟨x0, y0⟩
    | 1, hq => cases hq; exact ⟨x1, y1⟩
    | 2, hq => cases hq; exact ⟨x2, y2⟩
    | 3, hq => cases hq; exact ⟨x3, y3⟩
    | k + 4, hq => exact absurd hq (by simp [fz_TY])
end ENV
