/-! Changes -/
def fz_open (x : Int32) : Bool := decide (x = 0) || decide (x = 1)
/-- change z goes into the queue Z of k changes, behind all of its risk or a lower one -/
def fz_enq (rk : Nat → Int32) (z : Nat) : Nat → (Nat → Int32) → (Nat → Int32)
  | 0, Z => upd Z 0 (nI z)
  | k + 1, Z => if rk (Z k).toNatClampNeg ≤ rk z then upd Z (k + 1) (nI z) else fz_enq rk z k (upd Z (k + 1) (Z k))
theorem fz_enq_0 {rk : Nat → Int32} {z k : Nat} {Z : Nat → Int32} (h0 : k = 0) : fz_enq rk z k Z = upd Z k (nI z) := by
  subst h0
  rfl
theorem fz_enq_t {rk : Nat → Int32} {z k : Nat} {Z : Nat → Int32} (h0 : 0 < k) (h : rk (Z (k - 1)).toNatClampNeg ≤ rk z) : fz_enq rk z k Z = upd Z k (nI z) := by
  obtain ⟨j, rfl⟩ : ∃ j, k = j + 1 := ⟨k - 1, by omega⟩
  rw [fz_enq, if_pos (by simpa using h)]
theorem fz_enq_f {rk : Nat → Int32} {z k : Nat} {Z : Nat → Int32} (h0 : 0 < k) (h : ¬ rk (Z (k - 1)).toNatClampNeg ≤ rk z) : fz_enq rk z k Z = fz_enq rk z (k - 1) (upd Z k (Z (k - 1))) := by
  obtain ⟨j, rfl⟩ : ∃ j, k = j + 1 := ⟨k - 1, by omega⟩
  rw [fz_enq, if_neg (by simpa using h)]
  rfl
/-- the queue without z, the first k of it looked at -/
def fz_deq (z : Int32) (Q : Nat → Int32) : Nat → Nat × (Nat → Int32)
  | 0 => (0, Q)
  | k + 1 => if (fz_deq z Q k).2 k = z then fz_deq z Q k else ((fz_deq z Q k).1 + 1, upd (fz_deq z Q k).2 (fz_deq z Q k).1 ((fz_deq z Q k).2 k))
def fz_app (V : Nat → Nat → Int32) (x0 x1 x4 : Int32) (n q : Nat) : Nat → Nat → Int32 := fz_up (fz_up (fz_up (fz_up (fz_up (fz_up (fz_up (fz_up (fz_up V 8 (upd (upd (V 8) 0 (nI (n + 1))) 1 (nI (q + 1)))) 9 (upd (V 9) n x0)) 10 (upd (V 10) n x1)) 11 (upd (V 11) n 0)) 12 (upd (V 12) n 0)) 13 (upd (V 13) n x4)) 14 (upd (V 14) n (-1))) 15 (upd (V 15) n 0)) 16 (fz_enq (upd (V 10) n x1) n q (V 16))
def fz_cls (V : Nat → Nat → Int32) (z : Nat) (en : Int32) (q : Nat) : Nat → Nat → Int32 := fz_up (fz_up (fz_up (fz_up V 8 (upd (V 8) 1 (nI (fz_deq (nI z) (V 16) q).1))) 11 (upd (V 11) z en)) 12 (upd (V 12) z 0)) 16 (fz_deq (nI z) (V 16) q).2
set_option maxHeartbeats 4000000 in
set_option maxRecDepth 100000 in
/-- Changes.has -/
theorem c_X2_has (l : Launch) (D : va_G) (cy : Nat → ClassId) (a : Nat → Nat) (V : Nat → Nat → Int32) (t : Int32) : fz_RI l yX2_has wsX2_has 0 0 D cy [.ref (a 8), .int t] (GW cy a V) fz_T (fz_b (fz_ix t (V 8 0))) := by
  refine Met.ofW (cc := cX2_has) (maxL := 2) (ret := (some .boolean)) (by decide) rfl ?_
  intro p e s m args below meth c s₁ B hml hv
  obtain ⟨rfl, hP, hK, hE⟩ := hv
  have hx := B.exec
  have hb := B.bytes
  have hr := B.returns
  have hts := atoms_spec (ws := wsX2_has) B.pre
  have hown : s.vm.findClass RX2 = some m.cls := findClass_of_methodNamed B.named
  have hlocks := B.notSynchronized
  have hl := lv_entry ([.ref (a 8), .int t]) (n := 2) (Nat.le_of_ble_eq_true rfl)
  rw [lg_entry_eq]
  generalize (lg_sl ([.ref (a 8), .int t]) ++ List.replicate (2 - (lg_sl ([.ref (a 8), .int t])).length) Slot.unset).toArray = ls at hl ⊢
  have hl : lv_has ls 2 [(0, .ref (a 8)), (1, .int t)] := hl
  have k_36 := hts (.fieldLink RX2 36 "FreezeCredits$Changes" "count" "I") (by decide +kernel)
  have inX2 : ∀ w ∈ u_ws RX2 TX2 10, w ∈ wsX2_has := by decide +kernel
  refine lv_iload_n hx hb dX2_has_0 rfl (lv_at hl 1 rfl) ?_
  refine lv_if_lt (tgt := 16) hx hb dX2_has_1 (by decide) (fun c_1 => ?_) (fun c_1 => ?_)
  · skip
    refine lv_iconst (v := 0) hx hb dX2_has_16 (by decide) ?_
    exact W.zret (v := 0) hx hb hr (by decide) (fun t9 ht9 hW9 => ⟨_, rfl, (by simp [fz_ix, fz_b, c_1]), ht9⟩) (fun _ h => nomatch h) dX2_has_17
  · skip
    refine lv_iload_n hx hb dX2_has_4 rfl (lv_at hl 1 rfl) ?_
    refine lv_aload_n hx hb dX2_has_5 rfl (lv_at hl 0 rfl) ?_
    refine va_get (D := D) (ci := 1) (v := .int (V 8 0)) (C := RX2) (T := TX2) (N := 10) hx hb hts inX2 hown hK hP 0 rfl rfl 0 (by decide) k_36 (fun _ h9 => h9) rfl dX2_has_6 ?_
    refine lv_icmp_ge (tgt := 16) hx hb dX2_has_9 (by decide) (fun c_2 => ?_) (fun c_2 => ?_)
    · skip
      refine lv_iconst (v := 0) hx hb dX2_has_16 (by decide) ?_
      exact W.zret (v := 0) hx hb hr (by decide) (fun t9 ht9 hW9 => ⟨_, rfl, (by simp [fz_ix, fz_b, c_1, c_2]), ht9⟩) (fun _ h => nomatch h) dX2_has_17
    · skip
      refine lv_iconst (v := 1) hx hb dX2_has_12 (by decide) ?_
      refine lv_goto (tgt := 17) hx hb dX2_has_13 (by decide) ?_
      exact W.zret (v := 1) hx hb hr (by decide) (fun t9 ht9 hW9 => ⟨_, rfl, (by simp [fz_ix, fz_b, c_1, c_2]), ht9⟩) (fun _ h => nomatch h) dX2_has_17
set_option maxHeartbeats 4000000 in
set_option maxRecDepth 100000 in
/-- Changes.isOpen -/
theorem c_X2_isOpen (l : Launch) (D : va_G) (cy : Nat → ClassId) (a : Nat → Nat) (V : Nat → Nat → Int32) (q : Nat) (hq : q < 30) : fz_RI l yX2_isOpen wsX2_isOpen 0 0 D cy [.ref (a 8), .int (nI q)] (GW cy a V) fz_T (fz_b (fz_open (V 11 q))) := by
  refine Met.ofW (cc := cX2_isOpen) (maxL := 2) (ret := (some .boolean)) (by decide) rfl ?_
  intro p e s m args below meth c s₁ B hml hv
  obtain ⟨rfl, hP, hK, hE⟩ := hv
  have hx := B.exec
  have hb := B.bytes
  have hr := B.returns
  have hts := atoms_spec (ws := wsX2_isOpen) B.pre
  have hown : s.vm.findClass RX2 = some m.cls := findClass_of_methodNamed B.named
  have hlocks := B.notSynchronized
  have hl := lv_entry ([.ref (a 8), .int (nI q)]) (n := 2) (Nat.le_of_ble_eq_true rfl)
  rw [lg_entry_eq]
  generalize (lg_sl ([.ref (a 8), .int (nI q)]) ++ List.replicate (2 - (lg_sl ([.ref (a 8), .int (nI q)])).length) Slot.unset).toArray = ls at hl ⊢
  have hl : lv_has ls 2 [(0, .ref (a 8)), (1, .int (nI q))] := hl
  have k_18 := hts (.fieldLink RX2 18 "FreezeCredits$Changes" "state" "[I") (by decide +kernel)
  have inX2 : ∀ w ∈ u_ws RX2 TX2 10, w ∈ wsX2_isOpen := by decide +kernel
  refine lv_aload_n hx hb dX2_isOpen_0 rfl (lv_at hl 0 rfl) ?_
  refine va_get (D := D) (ci := 1) (v := .ref (a 11)) (C := RX2) (T := TX2) (N := 10) hx hb hts inX2 hown hK hP 0 rfl rfl 3 (by decide) k_18 (fun _ h9 => h9) rfl dX2_isOpen_1 ?_
  refine lv_iload_n hx hb dX2_isOpen_4 rfl (lv_at hl 1 rfl) ?_
  refine fz_iald (f := V 11) hx hb hK hP 3 0 rfl rfl q rfl (by omega) (by decide) dX2_isOpen_5 ?_
  refine lv_if_eq (tgt := 19) hx hb dX2_isOpen_6 (by decide) (fun c_1 => ?_) (fun c_1 => ?_)
  · skip
    refine lv_iconst (v := 1) hx hb dX2_isOpen_19 (by decide) ?_
    refine lv_goto (tgt := 24) hx hb dX2_isOpen_20 (by decide) ?_
    exact W.zret (v := 1) hx hb hr (by decide) (fun t9 ht9 hW9 => ⟨_, rfl, (by simp [fz_open, fz_b, c_1]), ht9⟩) (fun _ h => nomatch h) dX2_isOpen_24
  · skip
    refine lv_aload_n hx hb dX2_isOpen_9 rfl (lv_at hl 0 rfl) ?_
    refine va_get (D := D) (ci := 1) (v := .ref (a 11)) (C := RX2) (T := TX2) (N := 10) hx hb hts inX2 hown hK hP 0 rfl rfl 3 (by decide) k_18 (fun _ h9 => h9) rfl dX2_isOpen_10 ?_
    refine lv_iload_n hx hb dX2_isOpen_13 rfl (lv_at hl 1 rfl) ?_
    refine fz_iald (f := V 11) hx hb hK hP 3 0 rfl rfl q rfl (by omega) (by decide) dX2_isOpen_14 ?_
    refine lv_iconst (v := 1) hx hb dX2_isOpen_15 (by decide) ?_
    refine lv_icmp_ne (tgt := 23) hx hb dX2_isOpen_16 (by decide) (fun c_2 => ?_) (fun c_2 => ?_)
    · skip
      refine lv_iconst (v := 0) hx hb dX2_isOpen_23 (by decide) ?_
      exact W.zret (v := 0) hx hb hr (by decide) (fun t9 ht9 hW9 => ⟨_, rfl, (by simp [fz_open, fz_b, c_1, c_2]), ht9⟩) (fun _ h => nomatch h) dX2_isOpen_24
    · skip
      refine lv_iconst (v := 1) hx hb dX2_isOpen_19 (by decide) ?_
      refine lv_goto (tgt := 24) hx hb dX2_isOpen_20 (by decide) ?_
      exact W.zret (v := 1) hx hb hr (by decide) (fun t9 ht9 hW9 => ⟨_, rfl, (by simp [fz_open, fz_b, c_1, c_2]), ht9⟩) (fun _ h => nomatch h) dX2_isOpen_24
set_option maxHeartbeats 4000000 in
set_option maxRecDepth 100000 in
/-- Changes.enqueue -/
theorem c_X2_enqueue (l : Launch) (D : va_G) (cy : Nat → ClassId) (a : Nat → Nat) (V : Nat → Nat → Int32) (z : Nat) (hz : z < 30) (q : Nat) (hq : V 8 1 = nI q) (hq30 : q < 30) (hQ : ∀ i, i < q → ∃ j, j < 30 ∧ V 16 i = nI j) : fz_MV l yX2_enqueue wsX2_enqueue 0 0 D cy [.ref (a 8), .int (nI z)] (GW cy a V) fz_T (GW cy a (fz_up (fz_up V 8 (upd (V 8) 1 (nI (q + 1)))) 16 (fz_enq (V 10) z q (V 16)))) := by
  refine Met.ofW (cc := cX2_enqueue) (maxL := 3) (ret := none) (by decide) rfl ?_
  intro p e s m args below meth c s₁ B hml hv
  obtain ⟨rfl, hP, hK, hD0, hE⟩ := hv
  have hx := B.exec
  have hb := B.bytes
  have hr := B.returns
  have hts := atoms_spec (ws := wsX2_enqueue) B.pre
  have hown : s.vm.findClass RX2 = some m.cls := findClass_of_methodNamed B.named
  have hlocks := B.notSynchronized
  have hD := fz_self hD0
  generalize hAe : fz_in (GW cy a V) = A at hD ⊢
  have hS : va_S A s.heap s.heap [] := va_S.rf
  have hl := lv_entry ([.ref (a 8), .int (nI z)]) (n := 3) (Nat.le_of_ble_eq_true rfl)
  rw [lg_entry_eq]
  generalize (lg_sl ([.ref (a 8), .int (nI z)]) ++ List.replicate (3 - (lg_sl ([.ref (a 8), .int (nI z)])).length) Slot.unset).toArray = ls at hl ⊢
  have hl : lv_has ls 3 [(0, .ref (a 8)), (1, .int (nI z))] := hl
  have k_40 := hts (.fieldLink RX2 40 "FreezeCredits$Changes" "queued" "I") (by decide +kernel)
  have inX2 : ∀ w ∈ u_ws RX2 TX2 10, w ∈ wsX2_enqueue := by decide +kernel
  have k_15 := hts (.fieldLink RX2 15 "FreezeCredits$Changes" "risk" "[I") (by decide +kernel)
  have k_33 := hts (.fieldLink RX2 33 "FreezeCredits$Changes" "queue" "[I") (by decide +kernel)
  refine lv_aload_n hx hb dX2_enqueue_0 rfl (lv_at hl 0 rfl) ?_
  refine va_get (D := D) (ci := 1) (v := .int (V 8 1)) (C := RX2) (T := TX2) (N := 10) hx hb hts inX2 hown hK hP 0 rfl rfl 8 (by decide) k_40 (fun _ h9 => h9) rfl dX2_enqueue_1 ?_
  refine lv_istore_n (lv' := [(2, .int (V 8 1)), (0, .ref (a 8)), (1, .int (nI z))]) hx hb dX2_enqueue_4 rfl hl (by decide) rfl (fun ls hl => ?_)
  rw [show V 8 1 = nI q from hq] at hl
  refine fz_loopM (σ := Nat × (Nat → Int32)) (pc := 5) (nL := 3) (fun x => match x with | (k, Z) => [(0, .ref (a 8)), (1, .int (nI z)), (2, .int (nI k))]) (fun x => match x with | (k, Z) => GE cy a (V 8 0) (V 8 1) (V 9) (V 10) (V 11) (V 12) (V 13) (V 14) (V 15) Z) (fun x => match x with | (k, Z) => (k ≤ q) ∧ (∀ i, i < k → Z i = V 16 i) ∧ (fz_enq (V 10) z k Z = fz_enq (V 10) z q (V 16))) (fun x => match x with | (k, Z) => k) ?_ (q, V 16) (show (q ≤ q) ∧ (∀ i, i < q → (V 16) i = V 16 i) ∧ (fz_enq (V 10) z q (V 16) = fz_enq (V 10) z q (V 16)) from ⟨(by omega), (fun _ _ => rfl), rfl⟩) _ _ ls hP hD hS (lv_sub hl [1, 2, 0] rfl)
  rintro ⟨k, Z⟩ ⟨hk, hZ, eZ⟩ ih5 H locs ls hP hD hS hl
  have hP : va_P D vwCl (GE cy a (V 8 0) (V 8 1) (V 9) (V 10) (V 11) (V 12) (V 13) (V 14) (V 15) Z) H := hP
  have hD : va_D A (GE cy a (V 8 0) (V 8 1) (V 9) (V 10) (V 11) (V 12) (V 13) (V 14) (V 15) Z) := hD
  have hk : k ≤ q := hk
  have hZ : ∀ i, i < k → Z i = V 16 i := hZ
  have eZ : fz_enq (V 10) z k Z = fz_enq (V 10) z q (V 16) := eZ
  have hl : lv_has ls 3 [(0, .ref (a 8)), (1, .int (nI z)), (2, .int (nI k))] := hl
  refine lv_iload_n hx hb dX2_enqueue_5 rfl (lv_at hl 2 rfl) ?_
  refine fz_ifleN (tgt := 51) hx hb k rfl dX2_enqueue_6 (by decide) (by omega) (fun c_1 => ?_) (fun c_1 => ?_)
  · skip
    refine lv_aload_n hx hb dX2_enqueue_51 rfl (lv_at hl 0 rfl) ?_
    refine va_get (D := D) (ci := 1) (v := .ref (a 16)) (C := RX2) (T := TX2) (N := 10) hx hb hts inX2 hown hK hP 0 rfl rfl 9 (by decide) k_33 (fun _ h9 => h9) rfl dX2_enqueue_52 ?_
    refine lv_iload_n hx hb dX2_enqueue_55 rfl (lv_at hl 2 rfl) ?_
    refine lv_iload_n hx hb dX2_enqueue_56 rfl (lv_at hl 1 rfl) ?_
    refine fz_iast (f := Z) hx hb hK hP hD hS 8 0 rfl rfl k rfl (by omega) (by decide) dX2_enqueue_57 (fun H locs hP hD hS => ?_)
    have hP : va_P D vwCl (GE cy a (V 8 0) (V 8 1) (V 9) (V 10) (V 11) (V 12) (V 13) (V 14) (V 15) (upd Z k (nI z))) H := hP
    have hD : va_D A (GE cy a (V 8 0) (V 8 1) (V 9) (V 10) (V 11) (V 12) (V 13) (V 14) (V 15) (upd Z k (nI z))) := hD
    refine lv_aload_n hx hb dX2_enqueue_58 rfl (lv_at hl 0 rfl) ?_
    refine lv_dup hx hb dX2_enqueue_59 rfl ?_
    refine va_get (D := D) (ci := 1) (v := .int (V 8 1)) (C := RX2) (T := TX2) (N := 10) hx hb hts inX2 hown hK hP 0 rfl rfl 8 (by decide) k_40 (fun _ h9 => h9) rfl dX2_enqueue_60 ?_
    refine lv_iconst (v := 1) hx hb dX2_enqueue_63 (by decide) ?_
    refine fz_iaddN hx hb q 1 hq rfl dX2_enqueue_64 ?_
    refine va_put (D := D) (ci := 1) (v := .int (nI (q + 1))) (ty := tyX2 8) (C := RX2) (T := TX2) (N := 10) hx hb hts inX2 tyX2 tyX2_ok nmX2 hown hK hP hD hS 0 rfl rfl 8 (by decide) k_40 (fun _ h9 => h9) rfl (by decide +kernel) rfl rfl (Nat.le_of_ble_eq_true rfl) dX2_enqueue_65 (fun H locs hP hD hS => ?_)
    have hP : va_P D vwCl (GE cy a (V 8 0) (nI (q + 1)) (V 9) (V 10) (V 11) (V 12) (V 13) (V 14) (V 15) (upd Z k (nI z))) H := hP
    have hD : va_D A (GE cy a (V 8 0) (nI (q + 1)) (V 9) (V 10) (V 11) (V 12) (V 13) (V 14) (V 15) (upd Z k (nI z))) := hD
    exact W.vret hx hb hr (fun t9 ht9 hW9 => ⟨⟨(), rfl, trivial, fz_to ht9 (by rw [← eZ, fz_enq_0 c_1]; exact hP)⟩, hS.F ht9⟩) hS.2.2 dX2_enqueue_68
  · skip
    refine lv_aload_n hx hb dX2_enqueue_9 rfl (lv_at hl 0 rfl) ?_
    refine va_get (D := D) (ci := 1) (v := .ref (a 10)) (C := RX2) (T := TX2) (N := 10) hx hb hts inX2 hown hK hP 0 rfl rfl 2 (by decide) k_15 (fun _ h9 => h9) rfl dX2_enqueue_10 ?_
    refine lv_aload_n hx hb dX2_enqueue_13 rfl (lv_at hl 0 rfl) ?_
    refine va_get (D := D) (ci := 1) (v := .ref (a 16)) (C := RX2) (T := TX2) (N := 10) hx hb hts inX2 hown hK hP 0 rfl rfl 9 (by decide) k_33 (fun _ h9 => h9) rfl dX2_enqueue_14 ?_
    refine lv_iload_n hx hb dX2_enqueue_17 rfl (lv_at hl 2 rfl) ?_
    refine lv_iconst (v := 1) hx hb dX2_enqueue_18 (by decide) ?_
    refine fz_isubN hx hb k 1 rfl rfl (by omega) dX2_enqueue_19 ?_
    refine fz_iald (f := Z) hx hb hK hP 8 0 rfl rfl (k - 1) rfl (by omega) (by decide) dX2_enqueue_20 ?_
    obtain ⟨j, hj, ej⟩ := hQ (k - 1) (by omega)
    have ej : Z (k - 1) = nI j := (hZ _ (by omega)).trans ej
    refine fz_iald (f := V 10) hx hb hK hP 2 0 rfl rfl j ej (by omega) (by decide) dX2_enqueue_21 ?_
    refine lv_aload_n hx hb dX2_enqueue_22 rfl (lv_at hl 0 rfl) ?_
    refine va_get (D := D) (ci := 1) (v := .ref (a 10)) (C := RX2) (T := TX2) (N := 10) hx hb hts inX2 hown hK hP 0 rfl rfl 2 (by decide) k_15 (fun _ h9 => h9) rfl dX2_enqueue_23 ?_
    refine lv_iload_n hx hb dX2_enqueue_26 rfl (lv_at hl 1 rfl) ?_
    refine fz_iald (f := V 10) hx hb hK hP 2 0 rfl rfl z rfl (by omega) (by decide) dX2_enqueue_27 ?_
    refine lv_icmp_le (tgt := 51) hx hb dX2_enqueue_28 (by decide) (fun c_2 => ?_) (fun c_2 => ?_)
    · skip
      refine lv_aload_n hx hb dX2_enqueue_51 rfl (lv_at hl 0 rfl) ?_
      refine va_get (D := D) (ci := 1) (v := .ref (a 16)) (C := RX2) (T := TX2) (N := 10) hx hb hts inX2 hown hK hP 0 rfl rfl 9 (by decide) k_33 (fun _ h9 => h9) rfl dX2_enqueue_52 ?_
      refine lv_iload_n hx hb dX2_enqueue_55 rfl (lv_at hl 2 rfl) ?_
      refine lv_iload_n hx hb dX2_enqueue_56 rfl (lv_at hl 1 rfl) ?_
      refine fz_iast (f := Z) hx hb hK hP hD hS 8 0 rfl rfl k rfl (by omega) (by decide) dX2_enqueue_57 (fun H locs hP hD hS => ?_)
      have hP : va_P D vwCl (GE cy a (V 8 0) (V 8 1) (V 9) (V 10) (V 11) (V 12) (V 13) (V 14) (V 15) (upd Z k (nI z))) H := hP
      have hD : va_D A (GE cy a (V 8 0) (V 8 1) (V 9) (V 10) (V 11) (V 12) (V 13) (V 14) (V 15) (upd Z k (nI z))) := hD
      refine lv_aload_n hx hb dX2_enqueue_58 rfl (lv_at hl 0 rfl) ?_
      refine lv_dup hx hb dX2_enqueue_59 rfl ?_
      refine va_get (D := D) (ci := 1) (v := .int (V 8 1)) (C := RX2) (T := TX2) (N := 10) hx hb hts inX2 hown hK hP 0 rfl rfl 8 (by decide) k_40 (fun _ h9 => h9) rfl dX2_enqueue_60 ?_
      refine lv_iconst (v := 1) hx hb dX2_enqueue_63 (by decide) ?_
      refine fz_iaddN hx hb q 1 hq rfl dX2_enqueue_64 ?_
      refine va_put (D := D) (ci := 1) (v := .int (nI (q + 1))) (ty := tyX2 8) (C := RX2) (T := TX2) (N := 10) hx hb hts inX2 tyX2 tyX2_ok nmX2 hown hK hP hD hS 0 rfl rfl 8 (by decide) k_40 (fun _ h9 => h9) rfl (by decide +kernel) rfl rfl (Nat.le_of_ble_eq_true rfl) dX2_enqueue_65 (fun H locs hP hD hS => ?_)
      have hP : va_P D vwCl (GE cy a (V 8 0) (nI (q + 1)) (V 9) (V 10) (V 11) (V 12) (V 13) (V 14) (V 15) (upd Z k (nI z))) H := hP
      have hD : va_D A (GE cy a (V 8 0) (nI (q + 1)) (V 9) (V 10) (V 11) (V 12) (V 13) (V 14) (V 15) (upd Z k (nI z))) := hD
      exact W.vret hx hb hr (fun t9 ht9 hW9 => ⟨⟨(), rfl, trivial, fz_to ht9 (by rw [← eZ, fz_enq_t (by omega) (by rw [ej, nI_clamp (by omega)]; exact c_2)]; exact hP)⟩, hS.F ht9⟩) hS.2.2 dX2_enqueue_68
    · skip
      refine lv_aload_n hx hb dX2_enqueue_31 rfl (lv_at hl 0 rfl) ?_
      refine va_get (D := D) (ci := 1) (v := .ref (a 16)) (C := RX2) (T := TX2) (N := 10) hx hb hts inX2 hown hK hP 0 rfl rfl 9 (by decide) k_33 (fun _ h9 => h9) rfl dX2_enqueue_32 ?_
      refine lv_iload_n hx hb dX2_enqueue_35 rfl (lv_at hl 2 rfl) ?_
      refine lv_aload_n hx hb dX2_enqueue_36 rfl (lv_at hl 0 rfl) ?_
      refine va_get (D := D) (ci := 1) (v := .ref (a 16)) (C := RX2) (T := TX2) (N := 10) hx hb hts inX2 hown hK hP 0 rfl rfl 9 (by decide) k_33 (fun _ h9 => h9) rfl dX2_enqueue_37 ?_
      refine lv_iload_n hx hb dX2_enqueue_40 rfl (lv_at hl 2 rfl) ?_
      refine lv_iconst (v := 1) hx hb dX2_enqueue_41 (by decide) ?_
      refine fz_isubN hx hb k 1 rfl rfl (by omega) dX2_enqueue_42 ?_
      refine fz_iald (f := Z) hx hb hK hP 8 0 rfl rfl (k - 1) rfl (by omega) (by decide) dX2_enqueue_43 ?_
      refine fz_iast (f := Z) hx hb hK hP hD hS 8 0 rfl rfl k rfl (by omega) (by decide) dX2_enqueue_44 (fun H locs hP hD hS => ?_)
      have hP : va_P D vwCl (GE cy a (V 8 0) (V 8 1) (V 9) (V 10) (V 11) (V 12) (V 13) (V 14) (V 15) (upd Z k (Z (k - 1)))) H := hP
      have hD : va_D A (GE cy a (V 8 0) (V 8 1) (V 9) (V 10) (V 11) (V 12) (V 13) (V 14) (V 15) (upd Z k (Z (k - 1)))) := hD
      refine lv_iinc (v := nI (k - 1)) (lv' := [(2, .int (nI (k - 1))), (0, .ref (a 8)), (1, .int (nI z))]) hx hb dX2_enqueue_45 hl (k := 2) rfl (fz_dec rfl (by omega)) (by decide) rfl (fun ls hl => ?_)
      refine lv_goto (tgt := 5) hx hb dX2_enqueue_48 (by decide) ?_
      exact ih5 (k - 1, upd Z k (Z (k - 1))) (show ((k - 1) ≤ q) ∧ (∀ i, i < (k - 1) → (upd Z k (Z (k - 1))) i = V 16 i) ∧ (fz_enq (V 10) z (k - 1) (upd Z k (Z (k - 1))) = fz_enq (V 10) z q (V 16)) from ⟨(by omega), (fun i hi => by rw [pk_un (by omega)]; exact hZ i (by omega)), ((fz_enq_f c_1 (by rw [ej, nI_clamp (by omega)]; exact c_2)).symm.trans eZ)⟩) (by show (k - 1) < k; omega) _ _ ls hP hD hS (lv_sub hl [1, 2, 0] rfl)
set_option maxHeartbeats 4000000 in
set_option maxRecDepth 100000 in
/-- Changes.dequeue -/
theorem c_X2_dequeue (l : Launch) (D : va_G) (cy : Nat → ClassId) (a : Nat → Nat) (V : Nat → Nat → Int32) (z : Nat) (hz : z < 30) (q : Nat) (hq : V 8 1 = nI q) (hq30 : q ≤ 30) : fz_MV l yX2_dequeue wsX2_dequeue 0 0 D cy [.ref (a 8), .int (nI z)] (GW cy a V) fz_T (GW cy a (fz_up (fz_up V 8 (upd (V 8) 1 (nI (fz_deq (nI z) (V 16) q).1))) 16 (fz_deq (nI z) (V 16) q).2)) := by
  refine Met.ofW (cc := cX2_dequeue) (maxL := 4) (ret := none) (by decide) rfl ?_
  intro p e s m args below meth c s₁ B hml hv
  obtain ⟨rfl, hP, hK, hD0, hE⟩ := hv
  have hx := B.exec
  have hb := B.bytes
  have hr := B.returns
  have hts := atoms_spec (ws := wsX2_dequeue) B.pre
  have hown : s.vm.findClass RX2 = some m.cls := findClass_of_methodNamed B.named
  have hlocks := B.notSynchronized
  have hD := fz_self hD0
  generalize hAe : fz_in (GW cy a V) = A at hD ⊢
  have hS : va_S A s.heap s.heap [] := va_S.rf
  have hl := lv_entry ([.ref (a 8), .int (nI z)]) (n := 4) (Nat.le_of_ble_eq_true rfl)
  rw [lg_entry_eq]
  generalize (lg_sl ([.ref (a 8), .int (nI z)]) ++ List.replicate (4 - (lg_sl ([.ref (a 8), .int (nI z)])).length) Slot.unset).toArray = ls at hl ⊢
  have hl : lv_has ls 4 [(0, .ref (a 8)), (1, .int (nI z))] := hl
  have k_40 := hts (.fieldLink RX2 40 "FreezeCredits$Changes" "queued" "I") (by decide +kernel)
  have inX2 : ∀ w ∈ u_ws RX2 TX2 10, w ∈ wsX2_dequeue := by decide +kernel
  have k_33 := hts (.fieldLink RX2 33 "FreezeCredits$Changes" "queue" "[I") (by decide +kernel)
  refine lv_iconst (v := 0) hx hb dX2_dequeue_0 (by decide) ?_
  refine lv_istore_n (lv' := [(2, .int 0), (0, .ref (a 8)), (1, .int (nI z))]) hx hb dX2_dequeue_1 rfl hl (by decide) rfl (fun ls hl => ?_)
  refine lv_iconst (v := 0) hx hb dX2_dequeue_2 (by decide) ?_
  refine lv_istore_n (lv' := [(3, .int 0), (2, .int 0), (0, .ref (a 8)), (1, .int (nI z))]) hx hb dX2_dequeue_3 rfl hl (by decide) rfl (fun ls hl => ?_)
  refine fz_loopM (σ := Nat × Nat × (Nat → Int32)) (pc := 4) (nL := 4) (fun x => match x with | (k, u, Z) => [(0, .ref (a 8)), (1, .int (nI z)), (2, .int (nI u)), (3, .int (nI k))]) (fun x => match x with | (k, u, Z) => GE cy a (V 8 0) (V 8 1) (V 9) (V 10) (V 11) (V 12) (V 13) (V 14) (V 15) Z) (fun x => match x with | (k, u, Z) => (k ≤ q) ∧ (u ≤ k) ∧ (fz_deq (nI z) (V 16) k = (u, Z))) (fun x => match x with | (k, u, Z) => q - k) ?_ (0, 0, V 16) (show (0 ≤ q) ∧ (0 ≤ 0) ∧ (fz_deq (nI z) (V 16) 0 = (0, (V 16))) from ⟨(by omega), (by omega), rfl⟩) _ _ ls hP hD hS (lv_sub hl [2, 3, 1, 0] rfl)
  rintro ⟨k, u, Z⟩ ⟨hk, hu, eZ⟩ ih4 H locs ls hP hD hS hl
  have hP : va_P D vwCl (GE cy a (V 8 0) (V 8 1) (V 9) (V 10) (V 11) (V 12) (V 13) (V 14) (V 15) Z) H := hP
  have hD : va_D A (GE cy a (V 8 0) (V 8 1) (V 9) (V 10) (V 11) (V 12) (V 13) (V 14) (V 15) Z) := hD
  have hk : k ≤ q := hk
  have hu : u ≤ k := hu
  have eZ : fz_deq (nI z) (V 16) k = (u, Z) := eZ
  have hl : lv_has ls 4 [(0, .ref (a 8)), (1, .int (nI z)), (2, .int (nI u)), (3, .int (nI k))] := hl
  refine lv_iload_n hx hb dX2_dequeue_4 rfl (lv_at hl 3 rfl) ?_
  refine lv_aload_n hx hb dX2_dequeue_5 rfl (lv_at hl 0 rfl) ?_
  refine va_get (D := D) (ci := 1) (v := .int (V 8 1)) (C := RX2) (T := TX2) (N := 10) hx hb hts inX2 hown hK hP 0 rfl rfl 8 (by decide) k_40 (fun _ h9 => h9) rfl dX2_dequeue_6 ?_
  refine fz_geN (tgt := 43) hx hb k q rfl hq dX2_dequeue_9 (by decide) (by omega) (by omega) (fun c_1 => ?_) (fun c_1 => ?_)
  · skip
    refine lv_aload_n hx hb dX2_dequeue_43 rfl (lv_at hl 0 rfl) ?_
    refine lv_iload_n hx hb dX2_dequeue_44 rfl (lv_at hl 2 rfl) ?_
    refine va_put (D := D) (ci := 1) (v := .int (nI u)) (ty := tyX2 8) (C := RX2) (T := TX2) (N := 10) hx hb hts inX2 tyX2 tyX2_ok nmX2 hown hK hP hD hS 0 rfl rfl 8 (by decide) k_40 (fun _ h9 => h9) rfl (by decide +kernel) rfl rfl (Nat.le_of_ble_eq_true rfl) dX2_dequeue_45 (fun H locs hP hD hS => ?_)
    have hP : va_P D vwCl (GE cy a (V 8 0) (nI u) (V 9) (V 10) (V 11) (V 12) (V 13) (V 14) (V 15) Z) H := hP
    have hD : va_D A (GE cy a (V 8 0) (nI u) (V 9) (V 10) (V 11) (V 12) (V 13) (V 14) (V 15) Z) := hD
    exact W.vret hx hb hr (fun t9 ht9 hW9 => ⟨⟨(), rfl, trivial, fz_to ht9 (by rw [show q = k by omega, eZ]; exact hP)⟩, hS.F ht9⟩) hS.2.2 dX2_dequeue_48
  · skip
    refine lv_aload_n hx hb dX2_dequeue_12 rfl (lv_at hl 0 rfl) ?_
    refine va_get (D := D) (ci := 1) (v := .ref (a 16)) (C := RX2) (T := TX2) (N := 10) hx hb hts inX2 hown hK hP 0 rfl rfl 9 (by decide) k_33 (fun _ h9 => h9) rfl dX2_dequeue_13 ?_
    refine lv_iload_n hx hb dX2_dequeue_16 rfl (lv_at hl 3 rfl) ?_
    refine fz_iald (f := Z) hx hb hK hP 8 0 rfl rfl k rfl (by omega) (by decide) dX2_dequeue_17 ?_
    refine lv_iload_n hx hb dX2_dequeue_18 rfl (lv_at hl 1 rfl) ?_
    refine lv_icmp_eq (tgt := 37) hx hb dX2_dequeue_19 (by decide) (fun c_2 => ?_) (fun c_2 => ?_)
    · skip
      refine lv_iinc (v := nI (k + 1)) (lv' := [(3, .int (nI (k + 1))), (0, .ref (a 8)), (1, .int (nI z)), (2, .int (nI u))]) hx hb dX2_dequeue_37 hl (k := 3) rfl (fz_inc rfl) (by decide) rfl (fun ls hl => ?_)
      refine lv_goto (tgt := 4) hx hb dX2_dequeue_40 (by decide) ?_
      exact ih4 (k + 1, u, Z) (show ((k + 1) ≤ q) ∧ (u ≤ (k + 1)) ∧ (fz_deq (nI z) (V 16) (k + 1) = (u, Z)) from ⟨(by omega), (by omega), (by simp [fz_deq, eZ, c_1, c_2])⟩) (by show q - (k + 1) < q - k; omega) _ _ ls hP hD hS (lv_sub hl [1, 2, 3, 0] rfl)
    · skip
      refine lv_aload_n hx hb dX2_dequeue_22 rfl (lv_at hl 0 rfl) ?_
      refine va_get (D := D) (ci := 1) (v := .ref (a 16)) (C := RX2) (T := TX2) (N := 10) hx hb hts inX2 hown hK hP 0 rfl rfl 9 (by decide) k_33 (fun _ h9 => h9) rfl dX2_dequeue_23 ?_
      refine lv_iload_n hx hb dX2_dequeue_26 rfl (lv_at hl 2 rfl) ?_
      refine lv_aload_n hx hb dX2_dequeue_27 rfl (lv_at hl 0 rfl) ?_
      refine va_get (D := D) (ci := 1) (v := .ref (a 16)) (C := RX2) (T := TX2) (N := 10) hx hb hts inX2 hown hK hP 0 rfl rfl 9 (by decide) k_33 (fun _ h9 => h9) rfl dX2_dequeue_28 ?_
      refine lv_iload_n hx hb dX2_dequeue_31 rfl (lv_at hl 3 rfl) ?_
      refine fz_iald (f := Z) hx hb hK hP 8 0 rfl rfl k rfl (by omega) (by decide) dX2_dequeue_32 ?_
      refine fz_iast (f := Z) hx hb hK hP hD hS 8 0 rfl rfl u rfl (by omega) (by decide) dX2_dequeue_33 (fun H locs hP hD hS => ?_)
      have hP : va_P D vwCl (GE cy a (V 8 0) (V 8 1) (V 9) (V 10) (V 11) (V 12) (V 13) (V 14) (V 15) (upd Z u (Z k))) H := hP
      have hD : va_D A (GE cy a (V 8 0) (V 8 1) (V 9) (V 10) (V 11) (V 12) (V 13) (V 14) (V 15) (upd Z u (Z k))) := hD
      refine lv_iinc (v := nI (u + 1)) (lv' := [(2, .int (nI (u + 1))), (0, .ref (a 8)), (1, .int (nI z)), (3, .int (nI k))]) hx hb dX2_dequeue_34 hl (k := 2) rfl (fz_inc rfl) (by decide) rfl (fun ls hl => ?_)
      refine lv_iinc (v := nI (k + 1)) (lv' := [(3, .int (nI (k + 1))), (2, .int (nI (u + 1))), (0, .ref (a 8)), (1, .int (nI z))]) hx hb dX2_dequeue_37 hl (k := 3) rfl (fz_inc rfl) (by decide) rfl (fun ls hl => ?_)
      refine lv_goto (tgt := 4) hx hb dX2_dequeue_40 (by decide) ?_
      exact ih4 (k + 1, u + 1, upd Z u (Z k)) (show ((k + 1) ≤ q) ∧ ((u + 1) ≤ (k + 1)) ∧ (fz_deq (nI z) (V 16) (k + 1) = ((u + 1), (upd Z u (Z k)))) from ⟨(by omega), (by omega), (by simp [fz_deq, eZ, c_1, c_2])⟩) (by show q - (k + 1) < q - k; omega) _ _ ls hP hD hS (lv_sub hl [2, 3, 1, 0] rfl)
set_option maxHeartbeats 4000000 in
set_option maxRecDepth 100000 in
/-- Changes.append -/
theorem c_X2_append (l : Launch) (D : va_G) (cy : Nat → ClassId) (a : Nat → Nat) (V : Nat → Nat → Int32) (x0 x1 x4 : Int32) (n : Nat) (hn : V 8 0 = nI n) (hn30 : n < 30) (q : Nat) (hq : V 8 1 = nI q) (hqn : q ≤ n) (hQ : ∀ i, i < q → ∃ j, j < 30 ∧ V 16 i = nI j) : fz_MI l yX2_append wsX2_append 1 22 D cy [.ref (a 8), .int x0, .int x1, .int x4] (GW cy a V) fz_T (nI n) (GW cy a (fz_up (fz_up (fz_up (fz_up (fz_up (fz_up (fz_up (fz_up (fz_up V 8 (upd (upd (V 8) 0 (nI (n + 1))) 1 (nI (q + 1)))) 9 (upd (V 9) n x0)) 10 (upd (V 10) n x1)) 11 (upd (V 11) n 0)) 12 (upd (V 12) n 0)) 13 (upd (V 13) n x4)) 14 (upd (V 14) n (-1))) 15 (upd (V 15) n 0)) 16 (fz_enq (upd (V 10) n x1) n q (V 16)))) := by
  refine Met.ofW (cc := cX2_append) (maxL := 5) (ret := (some .int)) (by decide) rfl ?_
  intro p e s m args below meth c s₁ B hml hv
  obtain ⟨rfl, hP, hK, hD0, hE⟩ := hv
  have hx := B.exec
  have hb := B.bytes
  have hr := B.returns
  have hts := atoms_spec (ws := wsX2_append) B.pre
  have hown : s.vm.findClass RX2 = some m.cls := findClass_of_methodNamed B.named
  have hlocks := B.notSynchronized
  have hD := fz_self hD0
  generalize hAe : fz_in (GW cy a V) = A at hD ⊢
  have hS : va_S A s.heap s.heap [] := va_S.rf
  have hl := lv_entry ([.ref (a 8), .int x0, .int x1, .int x4]) (n := 5) (Nat.le_of_ble_eq_true rfl)
  rw [lg_entry_eq]
  generalize (lg_sl ([.ref (a 8), .int x0, .int x1, .int x4]) ++ List.replicate (5 - (lg_sl ([.ref (a 8), .int x0, .int x1, .int x4])).length) Slot.unset).toArray = ls at hl ⊢
  have hl : lv_has ls 5 [(0, .ref (a 8)), (1, .int x0), (2, .int x1), (3, .int x4)] := hl
  have k_36 := hts (.fieldLink RX2 36 "FreezeCredits$Changes" "count" "I") (by decide +kernel)
  have inX2 : ∀ w ∈ u_ws RX2 TX2 10, w ∈ wsX2_append := by decide +kernel
  have k_9 := hts (.fieldLink RX2 9 "FreezeCredits$Changes" "team" "[I") (by decide +kernel)
  have k_15 := hts (.fieldLink RX2 15 "FreezeCredits$Changes" "risk" "[I") (by decide +kernel)
  have k_18 := hts (.fieldLink RX2 18 "FreezeCredits$Changes" "state" "[I") (by decide +kernel)
  have k_21 := hts (.fieldLink RX2 21 "FreezeCredits$Changes" "held" "[I") (by decide +kernel)
  have k_24 := hts (.fieldLink RX2 24 "FreezeCredits$Changes" "askedIn" "[I") (by decide +kernel)
  have k_27 := hts (.fieldLink RX2 27 "FreezeCredits$Changes" "madeIn" "[I") (by decide +kernel)
  have k_30 := hts (.fieldLink RX2 30 "FreezeCredits$Changes" "madeExempt" "[I") (by decide +kernel)
  refine lv_aload_n hx hb dX2_append_0 rfl (lv_at hl 0 rfl) ?_
  refine va_get (D := D) (ci := 1) (v := .int (V 8 0)) (C := RX2) (T := TX2) (N := 10) hx hb hts inX2 hown hK hP 0 rfl rfl 0 (by decide) k_36 (fun _ h9 => h9) rfl dX2_append_1 ?_
  refine lv_istore (lv' := [(4, .int (V 8 0)), (0, .ref (a 8)), (1, .int x0), (2, .int x1), (3, .int x4)]) hx hb dX2_append_4 hl (by decide) rfl (fun ls hl => ?_)
  refine lv_aload_n hx hb dX2_append_6 rfl (lv_at hl 1 rfl) ?_
  refine va_get (D := D) (ci := 1) (v := .ref (a 9)) (C := RX2) (T := TX2) (N := 10) hx hb hts inX2 hown hK hP 0 rfl rfl 1 (by decide) k_9 (fun _ h9 => h9) rfl dX2_append_7 ?_
  refine lv_iload hx hb dX2_append_10 (lv_at hl 0 rfl) ?_
  refine lv_iload_n hx hb dX2_append_12 rfl (lv_at hl 2 rfl) ?_
  refine fz_iast (f := V 9) hx hb hK hP hD hS 1 0 rfl rfl n hn (by omega) (by decide) dX2_append_13 (fun H locs hP hD hS => ?_)
  have hP : va_P D vwCl (GE cy a (V 8 0) (V 8 1) (upd (V 9) n x0) (V 10) (V 11) (V 12) (V 13) (V 14) (V 15) (V 16)) H := hP
  have hD : va_D A (GE cy a (V 8 0) (V 8 1) (upd (V 9) n x0) (V 10) (V 11) (V 12) (V 13) (V 14) (V 15) (V 16)) := hD
  refine lv_aload_n hx hb dX2_append_14 rfl (lv_at hl 1 rfl) ?_
  refine va_get (D := D) (ci := 1) (v := .ref (a 10)) (C := RX2) (T := TX2) (N := 10) hx hb hts inX2 hown hK hP 0 rfl rfl 2 (by decide) k_15 (fun _ h9 => h9) rfl dX2_append_15 ?_
  refine lv_iload hx hb dX2_append_18 (lv_at hl 0 rfl) ?_
  refine lv_iload_n hx hb dX2_append_20 rfl (lv_at hl 3 rfl) ?_
  refine fz_iast (f := V 10) hx hb hK hP hD hS 2 0 rfl rfl n hn (by omega) (by decide) dX2_append_21 (fun H locs hP hD hS => ?_)
  have hP : va_P D vwCl (GE cy a (V 8 0) (V 8 1) (upd (V 9) n x0) (upd (V 10) n x1) (V 11) (V 12) (V 13) (V 14) (V 15) (V 16)) H := hP
  have hD : va_D A (GE cy a (V 8 0) (V 8 1) (upd (V 9) n x0) (upd (V 10) n x1) (V 11) (V 12) (V 13) (V 14) (V 15) (V 16)) := hD
  refine lv_aload_n hx hb dX2_append_22 rfl (lv_at hl 1 rfl) ?_
  refine va_get (D := D) (ci := 1) (v := .ref (a 11)) (C := RX2) (T := TX2) (N := 10) hx hb hts inX2 hown hK hP 0 rfl rfl 3 (by decide) k_18 (fun _ h9 => h9) rfl dX2_append_23 ?_
  refine lv_iload hx hb dX2_append_26 (lv_at hl 0 rfl) ?_
  refine lv_iconst (v := 0) hx hb dX2_append_28 (by decide) ?_
  refine fz_iast (f := V 11) hx hb hK hP hD hS 3 0 rfl rfl n hn (by omega) (by decide) dX2_append_29 (fun H locs hP hD hS => ?_)
  have hP : va_P D vwCl (GE cy a (V 8 0) (V 8 1) (upd (V 9) n x0) (upd (V 10) n x1) (upd (V 11) n 0) (V 12) (V 13) (V 14) (V 15) (V 16)) H := hP
  have hD : va_D A (GE cy a (V 8 0) (V 8 1) (upd (V 9) n x0) (upd (V 10) n x1) (upd (V 11) n 0) (V 12) (V 13) (V 14) (V 15) (V 16)) := hD
  refine lv_aload_n hx hb dX2_append_30 rfl (lv_at hl 1 rfl) ?_
  refine va_get (D := D) (ci := 1) (v := .ref (a 12)) (C := RX2) (T := TX2) (N := 10) hx hb hts inX2 hown hK hP 0 rfl rfl 4 (by decide) k_21 (fun _ h9 => h9) rfl dX2_append_31 ?_
  refine lv_iload hx hb dX2_append_34 (lv_at hl 0 rfl) ?_
  refine lv_iconst (v := 0) hx hb dX2_append_36 (by decide) ?_
  refine fz_iast (f := V 12) hx hb hK hP hD hS 4 0 rfl rfl n hn (by omega) (by decide) dX2_append_37 (fun H locs hP hD hS => ?_)
  have hP : va_P D vwCl (GE cy a (V 8 0) (V 8 1) (upd (V 9) n x0) (upd (V 10) n x1) (upd (V 11) n 0) (upd (V 12) n 0) (V 13) (V 14) (V 15) (V 16)) H := hP
  have hD : va_D A (GE cy a (V 8 0) (V 8 1) (upd (V 9) n x0) (upd (V 10) n x1) (upd (V 11) n 0) (upd (V 12) n 0) (V 13) (V 14) (V 15) (V 16)) := hD
  refine lv_aload_n hx hb dX2_append_38 rfl (lv_at hl 1 rfl) ?_
  refine va_get (D := D) (ci := 1) (v := .ref (a 13)) (C := RX2) (T := TX2) (N := 10) hx hb hts inX2 hown hK hP 0 rfl rfl 5 (by decide) k_24 (fun _ h9 => h9) rfl dX2_append_39 ?_
  refine lv_iload hx hb dX2_append_42 (lv_at hl 0 rfl) ?_
  refine lv_iload_n hx hb dX2_append_44 rfl (lv_at hl 4 rfl) ?_
  refine fz_iast (f := V 13) hx hb hK hP hD hS 5 0 rfl rfl n hn (by omega) (by decide) dX2_append_45 (fun H locs hP hD hS => ?_)
  have hP : va_P D vwCl (GE cy a (V 8 0) (V 8 1) (upd (V 9) n x0) (upd (V 10) n x1) (upd (V 11) n 0) (upd (V 12) n 0) (upd (V 13) n x4) (V 14) (V 15) (V 16)) H := hP
  have hD : va_D A (GE cy a (V 8 0) (V 8 1) (upd (V 9) n x0) (upd (V 10) n x1) (upd (V 11) n 0) (upd (V 12) n 0) (upd (V 13) n x4) (V 14) (V 15) (V 16)) := hD
  refine lv_aload_n hx hb dX2_append_46 rfl (lv_at hl 1 rfl) ?_
  refine va_get (D := D) (ci := 1) (v := .ref (a 14)) (C := RX2) (T := TX2) (N := 10) hx hb hts inX2 hown hK hP 0 rfl rfl 6 (by decide) k_27 (fun _ h9 => h9) rfl dX2_append_47 ?_
  refine lv_iload hx hb dX2_append_50 (lv_at hl 0 rfl) ?_
  refine lv_iconst (v := (-1)) hx hb dX2_append_52 (by decide) ?_
  refine fz_iast (f := V 14) hx hb hK hP hD hS 6 0 rfl rfl n hn (by omega) (by decide) dX2_append_53 (fun H locs hP hD hS => ?_)
  have hP : va_P D vwCl (GE cy a (V 8 0) (V 8 1) (upd (V 9) n x0) (upd (V 10) n x1) (upd (V 11) n 0) (upd (V 12) n 0) (upd (V 13) n x4) (upd (V 14) n (-1)) (V 15) (V 16)) H := hP
  have hD : va_D A (GE cy a (V 8 0) (V 8 1) (upd (V 9) n x0) (upd (V 10) n x1) (upd (V 11) n 0) (upd (V 12) n 0) (upd (V 13) n x4) (upd (V 14) n (-1)) (V 15) (V 16)) := hD
  refine lv_aload_n hx hb dX2_append_54 rfl (lv_at hl 1 rfl) ?_
  refine va_get (D := D) (ci := 1) (v := .ref (a 15)) (C := RX2) (T := TX2) (N := 10) hx hb hts inX2 hown hK hP 0 rfl rfl 7 (by decide) k_30 (fun _ h9 => h9) rfl dX2_append_55 ?_
  refine lv_iload hx hb dX2_append_58 (lv_at hl 0 rfl) ?_
  refine lv_iconst (v := 0) hx hb dX2_append_60 (by decide) ?_
  refine fz_iast (f := V 15) hx hb hK hP hD hS 7 0 rfl rfl n hn (by omega) (by decide) dX2_append_61 (fun H locs hP hD hS => ?_)
  have hP : va_P D vwCl (GE cy a (V 8 0) (V 8 1) (upd (V 9) n x0) (upd (V 10) n x1) (upd (V 11) n 0) (upd (V 12) n 0) (upd (V 13) n x4) (upd (V 14) n (-1)) (upd (V 15) n 0) (V 16)) H := hP
  have hD : va_D A (GE cy a (V 8 0) (V 8 1) (upd (V 9) n x0) (upd (V 10) n x1) (upd (V 11) n 0) (upd (V 12) n 0) (upd (V 13) n x4) (upd (V 14) n (-1)) (upd (V 15) n 0) (V 16)) := hD
  refine lv_aload_n hx hb dX2_append_62 rfl (lv_at hl 1 rfl) ?_
  refine lv_dup hx hb dX2_append_63 rfl ?_
  refine va_get (D := D) (ci := 1) (v := .int (V 8 0)) (C := RX2) (T := TX2) (N := 10) hx hb hts inX2 hown hK hP 0 rfl rfl 0 (by decide) k_36 (fun _ h9 => h9) rfl dX2_append_64 ?_
  refine lv_iconst (v := 1) hx hb dX2_append_67 (by decide) ?_
  refine fz_iaddN hx hb n 1 hn rfl dX2_append_68 ?_
  refine va_put (D := D) (ci := 1) (v := .int (nI (n + 1))) (ty := tyX2 0) (C := RX2) (T := TX2) (N := 10) hx hb hts inX2 tyX2 tyX2_ok nmX2 hown hK hP hD hS 0 rfl rfl 0 (by decide) k_36 (fun _ h9 => h9) rfl (by decide +kernel) rfl rfl (Nat.le_of_ble_eq_true rfl) dX2_append_69 (fun H locs hP hD hS => ?_)
  have hP : va_P D vwCl (GE cy a (nI (n + 1)) (V 8 1) (upd (V 9) n x0) (upd (V 10) n x1) (upd (V 11) n 0) (upd (V 12) n 0) (upd (V 13) n x4) (upd (V 14) n (-1)) (upd (V 15) n 0) (V 16)) H := hP
  have hD : va_D A (GE cy a (nI (n + 1)) (V 8 1) (upd (V 9) n x0) (upd (V 10) n x1) (upd (V 11) n 0) (upd (V 12) n 0) (upd (V 13) n x4) (upd (V 14) n (-1)) (upd (V 15) n 0) (V 16)) := hD
  refine lv_aload_n hx hb dX2_append_72 rfl (lv_at hl 1 rfl) ?_
  refine lv_iload hx hb dX2_append_73 (lv_at hl 0 rfl) ?_
  refine fz_at0 (show V 8 0 = nI n from hn) ?_
  refine fz_retMV (ws' := GE cy a (nI (n + 1)) (nI (q + 1)) (upd (V 9) n x0) (upd (V 10) n x1) (upd (V 11) n 0) (upd (V 12) n 0) (upd (V 13) n x4) (upd (V 14) n (-1)) (upd (V 15) n 0) (fz_enq ((upd (V 10) n x1)) n q ((V 16)))) (va_runV (As := [.int (nI n)]) (rest := []) ⟨hx, hb, hml, hown, hts⟩ (c_X2_enqueue l D cy a (fz_up (fz_up (fz_up (fz_up (fz_up (fz_up (fz_up (fz_up V 8 (upd (V 8) 0 (nI (n + 1)))) 9 (upd (V 9) n x0)) 10 (upd (V 10) n x1)) 11 (upd (V 11) n 0)) 12 (upd (V 12) n 0)) 13 (upd (V 13) n x4)) 14 (upd (V 14) n (-1))) 15 (upd (V 15) n 0)) n hn30 q hq (by omega) hQ) (cwV 1 hts gX2_append_X2_enqueue rfl rfl rfl (by decide +kernel) ⟨Nat.le_of_ble_eq_true rfl, Nat.le_of_ble_eq_true rfl⟩) (fz_preMV (ci := 1) (q0 := 0) hK hP hD rfl rfl rfl fz_T_bl (fun _ _ _ => trivial)) rfl rfl hl.1 rfl (lv_room (Nat.le_of_ble_eq_true rfl)) dX2_append_75 ⟨Nat.zero_le _, Nat.zero_le _⟩) hP hD hS [0, 1, 2, 3, 4, 5, 6, 7, 8] [] rfl rfl [true, true, true, true, true, true, true, true, true] (And.intro rfl (And.intro rfl (And.intro rfl (And.intro rfl (And.intro rfl (And.intro rfl (And.intro rfl (And.intro rfl (And.intro rfl trivial))))))))) rfl rfl (fun H locs hP hD hS => ?_)
  have hP : va_P D vwCl (GE cy a (nI (n + 1)) (nI (q + 1)) (upd (V 9) n x0) (upd (V 10) n x1) (upd (V 11) n 0) (upd (V 12) n 0) (upd (V 13) n x4) (upd (V 14) n (-1)) (upd (V 15) n 0) (fz_enq ((upd (V 10) n x1)) n q ((V 16)))) H := hP
  have hD : va_D A (GE cy a (nI (n + 1)) (nI (q + 1)) (upd (V 9) n x0) (upd (V 10) n x1) (upd (V 11) n 0) (upd (V 12) n 0) (upd (V 13) n x4) (upd (V 14) n (-1)) (upd (V 15) n 0) (fz_enq ((upd (V 10) n x1)) n q ((V 16)))) := hD
  refine lv_iload hx hb dX2_append_78 (lv_at hl 0 rfl) ?_
  exact W.iret (v := (V 8 0)) hx hb hr (fun t9 ht9 hW9 => ⟨⟨_, (), rfl, hn, fz_to ht9 hP⟩, hS.F ht9⟩) hS.2.2 dX2_append_80
set_option maxHeartbeats 4000000 in
set_option maxRecDepth 100000 in
/-- Changes.close -/
theorem c_X2_close (l : Launch) (D : va_G) (cy : Nat → ClassId) (a : Nat → Nat) (V : Nat → Nat → Int32) (z : Nat) (hz : z < 30) (en : Int32) (q : Nat) (hq : V 8 1 = nI q) (hq30 : q ≤ 30) : fz_MI l yX2_close wsX2_close 1 23 D cy [.ref (a 8), .int (nI z), .int en] (GW cy a V) fz_T (V 12 z) (GW cy a (fz_up (fz_up (fz_up (fz_up V 8 (upd (V 8) 1 (nI (fz_deq (nI z) (V 16) q).1))) 11 (upd (V 11) z en)) 12 (upd (V 12) z 0)) 16 (fz_deq (nI z) (V 16) q).2)) := by
  refine Met.ofW (cc := cX2_close) (maxL := 4) (ret := (some .int)) (by decide) rfl ?_
  intro p e s m args below meth c s₁ B hml hv
  obtain ⟨rfl, hP, hK, hD0, hE⟩ := hv
  have hx := B.exec
  have hb := B.bytes
  have hr := B.returns
  have hts := atoms_spec (ws := wsX2_close) B.pre
  have hown : s.vm.findClass RX2 = some m.cls := findClass_of_methodNamed B.named
  have hlocks := B.notSynchronized
  have hD := fz_self hD0
  generalize hAe : fz_in (GW cy a V) = A at hD ⊢
  have hS : va_S A s.heap s.heap [] := va_S.rf
  have hl := lv_entry ([.ref (a 8), .int (nI z), .int en]) (n := 4) (Nat.le_of_ble_eq_true rfl)
  rw [lg_entry_eq]
  generalize (lg_sl ([.ref (a 8), .int (nI z), .int en]) ++ List.replicate (4 - (lg_sl ([.ref (a 8), .int (nI z), .int en])).length) Slot.unset).toArray = ls at hl ⊢
  have hl : lv_has ls 4 [(0, .ref (a 8)), (1, .int (nI z)), (2, .int en)] := hl
  have k_21 := hts (.fieldLink RX2 21 "FreezeCredits$Changes" "held" "[I") (by decide +kernel)
  have inX2 : ∀ w ∈ u_ws RX2 TX2 10, w ∈ wsX2_close := by decide +kernel
  have k_18 := hts (.fieldLink RX2 18 "FreezeCredits$Changes" "state" "[I") (by decide +kernel)
  refine lv_aload_n hx hb dX2_close_0 rfl (lv_at hl 0 rfl) ?_
  refine va_get (D := D) (ci := 1) (v := .ref (a 12)) (C := RX2) (T := TX2) (N := 10) hx hb hts inX2 hown hK hP 0 rfl rfl 4 (by decide) k_21 (fun _ h9 => h9) rfl dX2_close_1 ?_
  refine lv_iload_n hx hb dX2_close_4 rfl (lv_at hl 1 rfl) ?_
  refine fz_iald (f := V 12) hx hb hK hP 4 0 rfl rfl z rfl (by omega) (by decide) dX2_close_5 ?_
  refine lv_istore_n (lv' := [(3, .int (V 12 z)), (0, .ref (a 8)), (1, .int (nI z)), (2, .int en)]) hx hb dX2_close_6 rfl hl (by decide) rfl (fun ls hl => ?_)
  refine lv_aload_n hx hb dX2_close_7 rfl (lv_at hl 1 rfl) ?_
  refine va_get (D := D) (ci := 1) (v := .ref (a 12)) (C := RX2) (T := TX2) (N := 10) hx hb hts inX2 hown hK hP 0 rfl rfl 4 (by decide) k_21 (fun _ h9 => h9) rfl dX2_close_8 ?_
  refine lv_iload_n hx hb dX2_close_11 rfl (lv_at hl 2 rfl) ?_
  refine lv_iconst (v := 0) hx hb dX2_close_12 (by decide) ?_
  refine fz_iast (f := V 12) hx hb hK hP hD hS 4 0 rfl rfl z rfl (by omega) (by decide) dX2_close_13 (fun H locs hP hD hS => ?_)
  have hP : va_P D vwCl (GE cy a (V 8 0) (V 8 1) (V 9) (V 10) (V 11) (upd (V 12) z 0) (V 13) (V 14) (V 15) (V 16)) H := hP
  have hD : va_D A (GE cy a (V 8 0) (V 8 1) (V 9) (V 10) (V 11) (upd (V 12) z 0) (V 13) (V 14) (V 15) (V 16)) := hD
  refine lv_aload_n hx hb dX2_close_14 rfl (lv_at hl 1 rfl) ?_
  refine va_get (D := D) (ci := 1) (v := .ref (a 11)) (C := RX2) (T := TX2) (N := 10) hx hb hts inX2 hown hK hP 0 rfl rfl 3 (by decide) k_18 (fun _ h9 => h9) rfl dX2_close_15 ?_
  refine lv_iload_n hx hb dX2_close_18 rfl (lv_at hl 2 rfl) ?_
  refine lv_iload_n hx hb dX2_close_19 rfl (lv_at hl 3 rfl) ?_
  refine fz_iast (f := V 11) hx hb hK hP hD hS 3 0 rfl rfl z rfl (by omega) (by decide) dX2_close_20 (fun H locs hP hD hS => ?_)
  have hP : va_P D vwCl (GE cy a (V 8 0) (V 8 1) (V 9) (V 10) (upd (V 11) z en) (upd (V 12) z 0) (V 13) (V 14) (V 15) (V 16)) H := hP
  have hD : va_D A (GE cy a (V 8 0) (V 8 1) (V 9) (V 10) (upd (V 11) z en) (upd (V 12) z 0) (V 13) (V 14) (V 15) (V 16)) := hD
  refine lv_aload_n hx hb dX2_close_21 rfl (lv_at hl 1 rfl) ?_
  refine lv_iload_n hx hb dX2_close_22 rfl (lv_at hl 2 rfl) ?_
  refine fz_retMV (ws' := GE cy a (V 8 0) (nI (fz_deq (nI z) ((V 16)) q).1) (V 9) (V 10) (upd (V 11) z en) (upd (V 12) z 0) (V 13) (V 14) (V 15) ((fz_deq (nI z) ((V 16)) q).2)) (va_runV (As := [.int (nI z)]) (rest := []) ⟨hx, hb, hml, hown, hts⟩ (c_X2_dequeue l D cy a (fz_up (fz_up V 11 (upd (V 11) z en)) 12 (upd (V 12) z 0)) z hz q hq hq30) (cwV 1 hts gX2_close_X2_dequeue rfl rfl rfl (by decide +kernel) ⟨Nat.le_of_ble_eq_true rfl, Nat.le_of_ble_eq_true rfl⟩) (fz_preMV (ci := 1) (q0 := 0) hK hP hD rfl rfl rfl fz_T_bl (fun _ _ _ => trivial)) rfl rfl hl.1 rfl (lv_room (Nat.le_of_ble_eq_true rfl)) dX2_close_23 ⟨Nat.zero_le _, Nat.zero_le _⟩) hP hD hS [0, 1, 2, 3, 4, 5, 6, 7, 8] [] rfl rfl [true, true, true, true, true, true, true, true, true] (And.intro rfl (And.intro rfl (And.intro rfl (And.intro rfl (And.intro rfl (And.intro rfl (And.intro rfl (And.intro rfl (And.intro rfl trivial))))))))) rfl rfl (fun H locs hP hD hS => ?_)
  have hP : va_P D vwCl (GE cy a (V 8 0) (nI (fz_deq (nI z) ((V 16)) q).1) (V 9) (V 10) (upd (V 11) z en) (upd (V 12) z 0) (V 13) (V 14) (V 15) ((fz_deq (nI z) ((V 16)) q).2)) H := hP
  have hD : va_D A (GE cy a (V 8 0) (nI (fz_deq (nI z) ((V 16)) q).1) (V 9) (V 10) (upd (V 11) z en) (upd (V 12) z 0) (V 13) (V 14) (V 15) ((fz_deq (nI z) ((V 16)) q).2)) := hD
  refine lv_iload_n hx hb dX2_close_26 rfl (lv_at hl 0 rfl) ?_
  exact W.iret (v := (V 12 z)) hx hb hr (fun t9 ht9 hW9 => ⟨⟨_, (), rfl, rfl, fz_to ht9 hP⟩, hS.F ht9⟩) hS.2.2 dX2_close_27
set_option maxHeartbeats 4000000 in
set_option maxRecDepth 100000 in
/-- Changes.countOf -/
theorem c_X2_countOf (l : Launch) (D : va_G) (cy : Nat → ClassId) (a : Nat → Nat) (V : Nat → Nat → Int32) (t w : Int32) (n : Nat) (hn : V 8 0 = nI n) (hn30 : n ≤ 30) : fz_RI l yX2_countOf wsX2_countOf 0 0 D cy [.ref (a 8), .int t, .int w] (GW cy a V) fz_T (nI (fz_ct (fun i => decide (V 9 i = t) && decide (V 11 i = w)) n)) := by
  refine Met.ofW (cc := cX2_countOf) (maxL := 5) (ret := (some .int)) (by decide) rfl ?_
  intro p e s m args below meth c s₁ B hml hv
  obtain ⟨rfl, hP, hK, hE⟩ := hv
  have hx := B.exec
  have hb := B.bytes
  have hr := B.returns
  have hts := atoms_spec (ws := wsX2_countOf) B.pre
  have hown : s.vm.findClass RX2 = some m.cls := findClass_of_methodNamed B.named
  have hlocks := B.notSynchronized
  have hl := lv_entry ([.ref (a 8), .int t, .int w]) (n := 5) (Nat.le_of_ble_eq_true rfl)
  rw [lg_entry_eq]
  generalize (lg_sl ([.ref (a 8), .int t, .int w]) ++ List.replicate (5 - (lg_sl ([.ref (a 8), .int t, .int w])).length) Slot.unset).toArray = ls at hl ⊢
  have hl : lv_has ls 5 [(0, .ref (a 8)), (1, .int t), (2, .int w)] := hl
  have k_36 := hts (.fieldLink RX2 36 "FreezeCredits$Changes" "count" "I") (by decide +kernel)
  have inX2 : ∀ w ∈ u_ws RX2 TX2 10, w ∈ wsX2_countOf := by decide +kernel
  have k_9 := hts (.fieldLink RX2 9 "FreezeCredits$Changes" "team" "[I") (by decide +kernel)
  have k_18 := hts (.fieldLink RX2 18 "FreezeCredits$Changes" "state" "[I") (by decide +kernel)
  refine lv_iconst (v := 0) hx hb dX2_countOf_0 (by decide) ?_
  refine lv_istore_n (lv' := [(3, .int 0), (0, .ref (a 8)), (1, .int t), (2, .int w)]) hx hb dX2_countOf_1 rfl hl (by decide) rfl (fun ls hl => ?_)
  refine lv_iconst (v := 0) hx hb dX2_countOf_2 (by decide) ?_
  refine lv_istore (lv' := [(4, .int 0), (3, .int 0), (0, .ref (a 8)), (1, .int t), (2, .int w)]) hx hb dX2_countOf_3 hl (by decide) rfl (fun ls hl => ?_)
  refine fz_loop (σ := Nat × Nat) (pc := 5) (nL := 5) (fun x => match x with | (k, u) => [(0, .ref (a 8)), (1, .int t), (2, .int w), (3, .int (nI u)), (4, .int (nI k))]) (fun x => match x with | (k, u) => (k ≤ n) ∧ (u = fz_ct (fun i => decide (V 9 i = t) && decide (V 11 i = w)) k)) (fun x => match x with | (k, u) => n - k) ?_ (0, 0) (show (0 ≤ n) ∧ (0 = fz_ct (fun i => decide (V 9 i = t) && decide (V 11 i = w)) 0) from ⟨(by omega), rfl⟩) ls (lv_sub hl [2, 3, 4, 1, 0] rfl)
  rintro ⟨k, u⟩ ⟨hk, eu⟩ ih5 ls hl
  have hk : k ≤ n := hk
  have eu : u = fz_ct (fun i => decide (V 9 i = t) && decide (V 11 i = w)) k := eu
  have hl : lv_has ls 5 [(0, .ref (a 8)), (1, .int t), (2, .int w), (3, .int (nI u)), (4, .int (nI k))] := hl
  refine lv_iload hx hb dX2_countOf_5 (lv_at hl 4 rfl) ?_
  refine lv_aload_n hx hb dX2_countOf_7 rfl (lv_at hl 0 rfl) ?_
  refine va_get (D := D) (ci := 1) (v := .int (V 8 0)) (C := RX2) (T := TX2) (N := 10) hx hb hts inX2 hown hK hP 0 rfl rfl 0 (by decide) k_36 (fun _ h9 => h9) rfl dX2_countOf_8 ?_
  refine fz_geN (tgt := 45) hx hb k n rfl hn dX2_countOf_11 (by decide) (by omega) (by omega) (fun c_1 => ?_) (fun c_1 => ?_)
  · skip
    refine lv_iload_n hx hb dX2_countOf_45 rfl (lv_at hl 3 rfl) ?_
    exact W.iret (v := (nI u)) hx hb hr (fun t9 ht9 hW9 => ⟨_, rfl, (by rw [eu, show k = n by omega]), ht9⟩) (fun _ h => nomatch h) dX2_countOf_46
  · skip
    refine lv_aload_n hx hb dX2_countOf_14 rfl (lv_at hl 0 rfl) ?_
    refine va_get (D := D) (ci := 1) (v := .ref (a 9)) (C := RX2) (T := TX2) (N := 10) hx hb hts inX2 hown hK hP 0 rfl rfl 1 (by decide) k_9 (fun _ h9 => h9) rfl dX2_countOf_15 ?_
    refine lv_iload hx hb dX2_countOf_18 (lv_at hl 4 rfl) ?_
    refine fz_iald (f := V 9) hx hb hK hP 1 0 rfl rfl k rfl (by omega) (by decide) dX2_countOf_20 ?_
    refine lv_iload_n hx hb dX2_countOf_21 rfl (lv_at hl 1 rfl) ?_
    refine lv_icmp_ne (tgt := 39) hx hb dX2_countOf_22 (by decide) (fun c_2 => ?_) (fun c_2 => ?_)
    · skip
      refine lv_iinc (v := nI (k + 1)) (lv' := [(4, .int (nI (k + 1))), (0, .ref (a 8)), (1, .int t), (2, .int w), (3, .int (nI u))]) hx hb dX2_countOf_39 hl (k := 4) rfl (fz_inc rfl) (by decide) rfl (fun ls hl => ?_)
      refine lv_goto (tgt := 5) hx hb dX2_countOf_42 (by decide) ?_
      exact ih5 (k + 1, u) (show ((k + 1) ≤ n) ∧ (u = fz_ct (fun i => decide (V 9 i = t) && decide (V 11 i = w)) (k + 1)) from ⟨(by omega), (by simp [fz_ct, eu, c_1, c_2])⟩) (by show n - (k + 1) < n - k; omega) ls (lv_sub hl [1, 2, 3, 4, 0] rfl)
    · skip
      refine lv_aload_n hx hb dX2_countOf_25 rfl (lv_at hl 0 rfl) ?_
      refine va_get (D := D) (ci := 1) (v := .ref (a 11)) (C := RX2) (T := TX2) (N := 10) hx hb hts inX2 hown hK hP 0 rfl rfl 3 (by decide) k_18 (fun _ h9 => h9) rfl dX2_countOf_26 ?_
      refine lv_iload hx hb dX2_countOf_29 (lv_at hl 4 rfl) ?_
      refine fz_iald (f := V 11) hx hb hK hP 3 0 rfl rfl k rfl (by omega) (by decide) dX2_countOf_31 ?_
      refine lv_iload_n hx hb dX2_countOf_32 rfl (lv_at hl 2 rfl) ?_
      refine lv_icmp_ne (tgt := 39) hx hb dX2_countOf_33 (by decide) (fun c_3 => ?_) (fun c_3 => ?_)
      · skip
        refine lv_iinc (v := nI (k + 1)) (lv' := [(4, .int (nI (k + 1))), (0, .ref (a 8)), (1, .int t), (2, .int w), (3, .int (nI u))]) hx hb dX2_countOf_39 hl (k := 4) rfl (fz_inc rfl) (by decide) rfl (fun ls hl => ?_)
        refine lv_goto (tgt := 5) hx hb dX2_countOf_42 (by decide) ?_
        exact ih5 (k + 1, u) (show ((k + 1) ≤ n) ∧ (u = fz_ct (fun i => decide (V 9 i = t) && decide (V 11 i = w)) (k + 1)) from ⟨(by omega), (by simp [fz_ct, eu, c_1, c_2, c_3])⟩) (by show n - (k + 1) < n - k; omega) ls (lv_sub hl [1, 2, 3, 4, 0] rfl)
      · skip
        refine lv_iinc (v := nI (u + 1)) (lv' := [(3, .int (nI (u + 1))), (0, .ref (a 8)), (1, .int t), (2, .int w), (4, .int (nI k))]) hx hb dX2_countOf_36 hl (k := 3) rfl (fz_inc rfl) (by decide) rfl (fun ls hl => ?_)
        refine lv_iinc (v := nI (k + 1)) (lv' := [(4, .int (nI (k + 1))), (3, .int (nI (u + 1))), (0, .ref (a 8)), (1, .int t), (2, .int w)]) hx hb dX2_countOf_39 hl (k := 4) rfl (fz_inc rfl) (by decide) rfl (fun ls hl => ?_)
        refine lv_goto (tgt := 5) hx hb dX2_countOf_42 (by decide) ?_
        exact ih5 (k + 1, u + 1) (show ((k + 1) ≤ n) ∧ ((u + 1) = fz_ct (fun i => decide (V 9 i = t) && decide (V 11 i = w)) (k + 1)) from ⟨(by omega), (by simp [fz_ct, eu, c_1, c_2, c_3])⟩) (by show n - (k + 1) < n - k; omega) ls (lv_sub hl [2, 3, 4, 1, 0] rfl)
set_option maxHeartbeats 4000000 in
set_option maxRecDepth 100000 in
/-- Changes.countIn -/
theorem c_X2_countIn (l : Launch) (D : va_G) (cy : Nat → ClassId) (a : Nat → Nat) (V : Nat → Nat → Int32) (w : Int32) (n : Nat) (hn : V 8 0 = nI n) (hn30 : n ≤ 30) : fz_RI l yX2_countIn wsX2_countIn 0 0 D cy [.ref (a 8), .int w] (GW cy a V) fz_T (nI (fz_ct (fun i => decide (V 11 i = w)) n)) := by
  refine Met.ofW (cc := cX2_countIn) (maxL := 4) (ret := (some .int)) (by decide) rfl ?_
  intro p e s m args below meth c s₁ B hml hv
  obtain ⟨rfl, hP, hK, hE⟩ := hv
  have hx := B.exec
  have hb := B.bytes
  have hr := B.returns
  have hts := atoms_spec (ws := wsX2_countIn) B.pre
  have hown : s.vm.findClass RX2 = some m.cls := findClass_of_methodNamed B.named
  have hlocks := B.notSynchronized
  have hl := lv_entry ([.ref (a 8), .int w]) (n := 4) (Nat.le_of_ble_eq_true rfl)
  rw [lg_entry_eq]
  generalize (lg_sl ([.ref (a 8), .int w]) ++ List.replicate (4 - (lg_sl ([.ref (a 8), .int w])).length) Slot.unset).toArray = ls at hl ⊢
  have hl : lv_has ls 4 [(0, .ref (a 8)), (1, .int w)] := hl
  have k_36 := hts (.fieldLink RX2 36 "FreezeCredits$Changes" "count" "I") (by decide +kernel)
  have inX2 : ∀ w ∈ u_ws RX2 TX2 10, w ∈ wsX2_countIn := by decide +kernel
  have k_18 := hts (.fieldLink RX2 18 "FreezeCredits$Changes" "state" "[I") (by decide +kernel)
  refine lv_iconst (v := 0) hx hb dX2_countIn_0 (by decide) ?_
  refine lv_istore_n (lv' := [(2, .int 0), (0, .ref (a 8)), (1, .int w)]) hx hb dX2_countIn_1 rfl hl (by decide) rfl (fun ls hl => ?_)
  refine lv_iconst (v := 0) hx hb dX2_countIn_2 (by decide) ?_
  refine lv_istore_n (lv' := [(3, .int 0), (2, .int 0), (0, .ref (a 8)), (1, .int w)]) hx hb dX2_countIn_3 rfl hl (by decide) rfl (fun ls hl => ?_)
  refine fz_loop (σ := Nat × Nat) (pc := 4) (nL := 4) (fun x => match x with | (k, u) => [(0, .ref (a 8)), (1, .int w), (2, .int (nI u)), (3, .int (nI k))]) (fun x => match x with | (k, u) => (k ≤ n) ∧ (u = fz_ct (fun i => decide (V 11 i = w)) k)) (fun x => match x with | (k, u) => n - k) ?_ (0, 0) (show (0 ≤ n) ∧ (0 = fz_ct (fun i => decide (V 11 i = w)) 0) from ⟨(by omega), rfl⟩) ls (lv_sub hl [2, 3, 1, 0] rfl)
  rintro ⟨k, u⟩ ⟨hk, eu⟩ ih4 ls hl
  have hk : k ≤ n := hk
  have eu : u = fz_ct (fun i => decide (V 11 i = w)) k := eu
  have hl : lv_has ls 4 [(0, .ref (a 8)), (1, .int w), (2, .int (nI u)), (3, .int (nI k))] := hl
  refine lv_iload_n hx hb dX2_countIn_4 rfl (lv_at hl 3 rfl) ?_
  refine lv_aload_n hx hb dX2_countIn_5 rfl (lv_at hl 0 rfl) ?_
  refine va_get (D := D) (ci := 1) (v := .int (V 8 0)) (C := RX2) (T := TX2) (N := 10) hx hb hts inX2 hown hK hP 0 rfl rfl 0 (by decide) k_36 (fun _ h9 => h9) rfl dX2_countIn_6 ?_
  refine fz_geN (tgt := 31) hx hb k n rfl hn dX2_countIn_9 (by decide) (by omega) (by omega) (fun c_1 => ?_) (fun c_1 => ?_)
  · skip
    refine lv_iload_n hx hb dX2_countIn_31 rfl (lv_at hl 2 rfl) ?_
    exact W.iret (v := (nI u)) hx hb hr (fun t9 ht9 hW9 => ⟨_, rfl, (by rw [eu, show k = n by omega]), ht9⟩) (fun _ h => nomatch h) dX2_countIn_32
  · skip
    refine lv_aload_n hx hb dX2_countIn_12 rfl (lv_at hl 0 rfl) ?_
    refine va_get (D := D) (ci := 1) (v := .ref (a 11)) (C := RX2) (T := TX2) (N := 10) hx hb hts inX2 hown hK hP 0 rfl rfl 3 (by decide) k_18 (fun _ h9 => h9) rfl dX2_countIn_13 ?_
    refine lv_iload_n hx hb dX2_countIn_16 rfl (lv_at hl 3 rfl) ?_
    refine fz_iald (f := V 11) hx hb hK hP 3 0 rfl rfl k rfl (by omega) (by decide) dX2_countIn_17 ?_
    refine lv_iload_n hx hb dX2_countIn_18 rfl (lv_at hl 1 rfl) ?_
    refine lv_icmp_ne (tgt := 25) hx hb dX2_countIn_19 (by decide) (fun c_2 => ?_) (fun c_2 => ?_)
    · skip
      refine lv_iinc (v := nI (k + 1)) (lv' := [(3, .int (nI (k + 1))), (0, .ref (a 8)), (1, .int w), (2, .int (nI u))]) hx hb dX2_countIn_25 hl (k := 3) rfl (fz_inc rfl) (by decide) rfl (fun ls hl => ?_)
      refine lv_goto (tgt := 4) hx hb dX2_countIn_28 (by decide) ?_
      exact ih4 (k + 1, u) (show ((k + 1) ≤ n) ∧ (u = fz_ct (fun i => decide (V 11 i = w)) (k + 1)) from ⟨(by omega), (by simp [fz_ct, eu, c_1, c_2])⟩) (by show n - (k + 1) < n - k; omega) ls (lv_sub hl [1, 2, 3, 0] rfl)
    · skip
      refine lv_iinc (v := nI (u + 1)) (lv' := [(2, .int (nI (u + 1))), (0, .ref (a 8)), (1, .int w), (3, .int (nI k))]) hx hb dX2_countIn_22 hl (k := 2) rfl (fz_inc rfl) (by decide) rfl (fun ls hl => ?_)
      refine lv_iinc (v := nI (k + 1)) (lv' := [(3, .int (nI (k + 1))), (2, .int (nI (u + 1))), (0, .ref (a 8)), (1, .int w)]) hx hb dX2_countIn_25 hl (k := 3) rfl (fz_inc rfl) (by decide) rfl (fun ls hl => ?_)
      refine lv_goto (tgt := 4) hx hb dX2_countIn_28 (by decide) ?_
      exact ih4 (k + 1, u + 1) (show ((k + 1) ≤ n) ∧ ((u + 1) = fz_ct (fun i => decide (V 11 i = w)) (k + 1)) from ⟨(by omega), (by simp [fz_ct, eu, c_1, c_2])⟩) (by show n - (k + 1) < n - k; omega) ls (lv_sub hl [2, 3, 1, 0] rfl)
set_option maxHeartbeats 4000000 in
set_option maxRecDepth 100000 in
/-- Changes.heldOf -/
theorem c_X2_heldOf (l : Launch) (D : va_G) (cy : Nat → ClassId) (a : Nat → Nat) (V : Nat → Nat → Int32) (t : Int32) (n : Nat) (hn : V 8 0 = nI n) (hn30 : n ≤ 30) : fz_RI l yX2_heldOf wsX2_heldOf 0 0 D cy [.ref (a 8), .int t] (GW cy a V) fz_T (fz_sum (fun i => if V 9 i = t then V 12 i else 0) n) := by
  refine Met.ofW (cc := cX2_heldOf) (maxL := 4) (ret := (some .int)) (by decide) rfl ?_
  intro p e s m args below meth c s₁ B hml hv
  obtain ⟨rfl, hP, hK, hE⟩ := hv
  have hx := B.exec
  have hb := B.bytes
  have hr := B.returns
  have hts := atoms_spec (ws := wsX2_heldOf) B.pre
  have hown : s.vm.findClass RX2 = some m.cls := findClass_of_methodNamed B.named
  have hlocks := B.notSynchronized
  have hl := lv_entry ([.ref (a 8), .int t]) (n := 4) (Nat.le_of_ble_eq_true rfl)
  rw [lg_entry_eq]
  generalize (lg_sl ([.ref (a 8), .int t]) ++ List.replicate (4 - (lg_sl ([.ref (a 8), .int t])).length) Slot.unset).toArray = ls at hl ⊢
  have hl : lv_has ls 4 [(0, .ref (a 8)), (1, .int t)] := hl
  have k_36 := hts (.fieldLink RX2 36 "FreezeCredits$Changes" "count" "I") (by decide +kernel)
  have inX2 : ∀ w ∈ u_ws RX2 TX2 10, w ∈ wsX2_heldOf := by decide +kernel
  have k_9 := hts (.fieldLink RX2 9 "FreezeCredits$Changes" "team" "[I") (by decide +kernel)
  have k_21 := hts (.fieldLink RX2 21 "FreezeCredits$Changes" "held" "[I") (by decide +kernel)
  refine lv_iconst (v := 0) hx hb dX2_heldOf_0 (by decide) ?_
  refine lv_istore_n (lv' := [(2, .int 0), (0, .ref (a 8)), (1, .int t)]) hx hb dX2_heldOf_1 rfl hl (by decide) rfl (fun ls hl => ?_)
  refine lv_iconst (v := 0) hx hb dX2_heldOf_2 (by decide) ?_
  refine lv_istore_n (lv' := [(3, .int 0), (2, .int 0), (0, .ref (a 8)), (1, .int t)]) hx hb dX2_heldOf_3 rfl hl (by decide) rfl (fun ls hl => ?_)
  refine fz_loop (σ := Nat × Int32) (pc := 4) (nL := 4) (fun x => match x with | (k, r) => [(0, .ref (a 8)), (1, .int t), (2, .int r), (3, .int (nI k))]) (fun x => match x with | (k, r) => (k ≤ n) ∧ (r = fz_sum (fun i => if V 9 i = t then V 12 i else 0) k)) (fun x => match x with | (k, r) => n - k) ?_ (0, 0) (show (0 ≤ n) ∧ (0 = fz_sum (fun i => if V 9 i = t then V 12 i else 0) 0) from ⟨(by omega), rfl⟩) ls (lv_sub hl [2, 3, 1, 0] rfl)
  rintro ⟨k, r⟩ ⟨hk, er⟩ ih4 ls hl
  have hk : k ≤ n := hk
  have er : r = fz_sum (fun i => if V 9 i = t then V 12 i else 0) k := er
  have hl : lv_has ls 4 [(0, .ref (a 8)), (1, .int t), (2, .int r), (3, .int (nI k))] := hl
  refine lv_iload_n hx hb dX2_heldOf_4 rfl (lv_at hl 3 rfl) ?_
  refine lv_aload_n hx hb dX2_heldOf_5 rfl (lv_at hl 0 rfl) ?_
  refine va_get (D := D) (ci := 1) (v := .int (V 8 0)) (C := RX2) (T := TX2) (N := 10) hx hb hts inX2 hown hK hP 0 rfl rfl 0 (by decide) k_36 (fun _ h9 => h9) rfl dX2_heldOf_6 ?_
  refine fz_geN (tgt := 37) hx hb k n rfl hn dX2_heldOf_9 (by decide) (by omega) (by omega) (fun c_1 => ?_) (fun c_1 => ?_)
  · skip
    refine lv_iload_n hx hb dX2_heldOf_37 rfl (lv_at hl 2 rfl) ?_
    exact W.iret (v := r) hx hb hr (fun t9 ht9 hW9 => ⟨_, rfl, (by rw [er, show k = n by omega]), ht9⟩) (fun _ h => nomatch h) dX2_heldOf_38
  · skip
    refine lv_aload_n hx hb dX2_heldOf_12 rfl (lv_at hl 0 rfl) ?_
    refine va_get (D := D) (ci := 1) (v := .ref (a 9)) (C := RX2) (T := TX2) (N := 10) hx hb hts inX2 hown hK hP 0 rfl rfl 1 (by decide) k_9 (fun _ h9 => h9) rfl dX2_heldOf_13 ?_
    refine lv_iload_n hx hb dX2_heldOf_16 rfl (lv_at hl 3 rfl) ?_
    refine fz_iald (f := V 9) hx hb hK hP 1 0 rfl rfl k rfl (by omega) (by decide) dX2_heldOf_17 ?_
    refine lv_iload_n hx hb dX2_heldOf_18 rfl (lv_at hl 1 rfl) ?_
    refine lv_icmp_ne (tgt := 31) hx hb dX2_heldOf_19 (by decide) (fun c_2 => ?_) (fun c_2 => ?_)
    · skip
      refine lv_iinc (v := nI (k + 1)) (lv' := [(3, .int (nI (k + 1))), (0, .ref (a 8)), (1, .int t), (2, .int r)]) hx hb dX2_heldOf_31 hl (k := 3) rfl (fz_inc rfl) (by decide) rfl (fun ls hl => ?_)
      refine lv_goto (tgt := 4) hx hb dX2_heldOf_34 (by decide) ?_
      exact ih4 (k + 1, r) (show ((k + 1) ≤ n) ∧ (r = fz_sum (fun i => if V 9 i = t then V 12 i else 0) (k + 1)) from ⟨(by omega), (by simp [fz_sum, er, c_1, c_2])⟩) (by show n - (k + 1) < n - k; omega) ls (lv_sub hl [1, 2, 3, 0] rfl)
    · skip
      refine lv_iload_n hx hb dX2_heldOf_22 rfl (lv_at hl 2 rfl) ?_
      refine lv_aload_n hx hb dX2_heldOf_23 rfl (lv_at hl 0 rfl) ?_
      refine va_get (D := D) (ci := 1) (v := .ref (a 12)) (C := RX2) (T := TX2) (N := 10) hx hb hts inX2 hown hK hP 0 rfl rfl 4 (by decide) k_21 (fun _ h9 => h9) rfl dX2_heldOf_24 ?_
      refine lv_iload_n hx hb dX2_heldOf_27 rfl (lv_at hl 3 rfl) ?_
      refine fz_iald (f := V 12) hx hb hK hP 4 0 rfl rfl k rfl (by omega) (by decide) dX2_heldOf_28 ?_
      refine lv_iadd hx hb dX2_heldOf_29 ?_
      refine lv_istore_n (lv' := [(2, .int (r + (V 12 k))), (0, .ref (a 8)), (1, .int t), (3, .int (nI k))]) hx hb dX2_heldOf_30 rfl hl (by decide) rfl (fun ls hl => ?_)
      refine lv_iinc (v := nI (k + 1)) (lv' := [(3, .int (nI (k + 1))), (2, .int (r + (V 12 k))), (0, .ref (a 8)), (1, .int t)]) hx hb dX2_heldOf_31 hl (k := 3) rfl (fz_inc rfl) (by decide) rfl (fun ls hl => ?_)
      refine lv_goto (tgt := 4) hx hb dX2_heldOf_34 (by decide) ?_
      exact ih4 (k + 1, r + (V 12 k)) (show ((k + 1) ≤ n) ∧ ((r + (V 12 k)) = fz_sum (fun i => if V 9 i = t then V 12 i else 0) (k + 1)) from ⟨(by omega), (by simp [fz_sum, er, c_1, c_2])⟩) (by show n - (k + 1) < n - k; omega) ls (lv_sub hl [2, 3, 1, 0] rfl)
set_option maxHeartbeats 4000000 in
set_option maxRecDepth 100000 in
/-- Changes.hasFault -/
theorem c_X2_hasFault (l : Launch) (D : va_G) (cy : Nat → ClassId) (a : Nat → Nat) (V : Nat → Nat → Int32) (t w : Int32) (n : Nat) (hn : V 8 0 = nI n) (hn30 : n ≤ 30) : fz_RI l yX2_hasFault wsX2_hasFault 0 0 D cy [.ref (a 8), .int t, .int w] (GW cy a V) fz_T (fz_b (fz_any (fun i => decide (V 9 i = t) && decide (V 11 i = 3) && decide (V 14 i = w)) n)) := by
  refine Met.ofW (cc := cX2_hasFault) (maxL := 4) (ret := (some .boolean)) (by decide) rfl ?_
  intro p e s m args below meth c s₁ B hml hv
  obtain ⟨rfl, hP, hK, hE⟩ := hv
  have hx := B.exec
  have hb := B.bytes
  have hr := B.returns
  have hts := atoms_spec (ws := wsX2_hasFault) B.pre
  have hown : s.vm.findClass RX2 = some m.cls := findClass_of_methodNamed B.named
  have hlocks := B.notSynchronized
  have hl := lv_entry ([.ref (a 8), .int t, .int w]) (n := 4) (Nat.le_of_ble_eq_true rfl)
  rw [lg_entry_eq]
  generalize (lg_sl ([.ref (a 8), .int t, .int w]) ++ List.replicate (4 - (lg_sl ([.ref (a 8), .int t, .int w])).length) Slot.unset).toArray = ls at hl ⊢
  have hl : lv_has ls 4 [(0, .ref (a 8)), (1, .int t), (2, .int w)] := hl
  have k_36 := hts (.fieldLink RX2 36 "FreezeCredits$Changes" "count" "I") (by decide +kernel)
  have inX2 : ∀ w ∈ u_ws RX2 TX2 10, w ∈ wsX2_hasFault := by decide +kernel
  have k_9 := hts (.fieldLink RX2 9 "FreezeCredits$Changes" "team" "[I") (by decide +kernel)
  have k_18 := hts (.fieldLink RX2 18 "FreezeCredits$Changes" "state" "[I") (by decide +kernel)
  have k_27 := hts (.fieldLink RX2 27 "FreezeCredits$Changes" "madeIn" "[I") (by decide +kernel)
  refine lv_iconst (v := 0) hx hb dX2_hasFault_0 (by decide) ?_
  refine lv_istore_n (lv' := [(3, .int 0), (0, .ref (a 8)), (1, .int t), (2, .int w)]) hx hb dX2_hasFault_1 rfl hl (by decide) rfl (fun ls hl => ?_)
  refine fz_loop (σ := Nat) (pc := 2) (nL := 4) (fun k => [(0, .ref (a 8)), (1, .int t), (2, .int w), (3, .int (nI k))]) (fun k => (k ≤ n) ∧ (fz_any (fun i => decide (V 9 i = t) && decide (V 11 i = 3) && decide (V 14 i = w)) k = false)) (fun k => n - k) ?_ 0 (show (0 ≤ n) ∧ (fz_any (fun i => decide (V 9 i = t) && decide (V 11 i = 3) && decide (V 14 i = w)) 0 = false) from ⟨(by omega), rfl⟩) ls (lv_sub hl [1, 2, 3, 0] rfl)
  rintro k ⟨hk, ha⟩ ih2 ls hl
  have hk : k ≤ n := hk
  have ha : fz_any (fun i => decide (V 9 i = t) && decide (V 11 i = 3) && decide (V 14 i = w)) k = false := ha
  have hl : lv_has ls 4 [(0, .ref (a 8)), (1, .int t), (2, .int w), (3, .int (nI k))] := hl
  refine lv_iload_n hx hb dX2_hasFault_2 rfl (lv_at hl 3 rfl) ?_
  refine lv_aload_n hx hb dX2_hasFault_3 rfl (lv_at hl 0 rfl) ?_
  refine va_get (D := D) (ci := 1) (v := .int (V 8 0)) (C := RX2) (T := TX2) (N := 10) hx hb hts inX2 hown hK hP 0 rfl rfl 0 (by decide) k_36 (fun _ h9 => h9) rfl dX2_hasFault_4 ?_
  refine fz_geN (tgt := 48) hx hb k n rfl hn dX2_hasFault_7 (by decide) (by omega) (by omega) (fun c_1 => ?_) (fun c_1 => ?_)
  · skip
    refine lv_iconst (v := 0) hx hb dX2_hasFault_48 (by decide) ?_
    exact W.zret (v := 0) hx hb hr (by decide) (fun t9 ht9 hW9 => ⟨_, rfl, (by rw [show n = k by omega, ha]; rfl), ht9⟩) (fun _ h => nomatch h) dX2_hasFault_49
  · skip
    refine lv_aload_n hx hb dX2_hasFault_10 rfl (lv_at hl 0 rfl) ?_
    refine va_get (D := D) (ci := 1) (v := .ref (a 9)) (C := RX2) (T := TX2) (N := 10) hx hb hts inX2 hown hK hP 0 rfl rfl 1 (by decide) k_9 (fun _ h9 => h9) rfl dX2_hasFault_11 ?_
    refine lv_iload_n hx hb dX2_hasFault_14 rfl (lv_at hl 3 rfl) ?_
    refine fz_iald (f := V 9) hx hb hK hP 1 0 rfl rfl k rfl (by omega) (by decide) dX2_hasFault_15 ?_
    refine lv_iload_n hx hb dX2_hasFault_16 rfl (lv_at hl 1 rfl) ?_
    refine lv_icmp_ne (tgt := 42) hx hb dX2_hasFault_17 (by decide) (fun c_2 => ?_) (fun c_2 => ?_)
    · skip
      refine lv_iinc (v := nI (k + 1)) (lv' := [(3, .int (nI (k + 1))), (0, .ref (a 8)), (1, .int t), (2, .int w)]) hx hb dX2_hasFault_42 hl (k := 3) rfl (fz_inc rfl) (by decide) rfl (fun ls hl => ?_)
      refine lv_goto (tgt := 2) hx hb dX2_hasFault_45 (by decide) ?_
      exact ih2 (k + 1) (show ((k + 1) ≤ n) ∧ (fz_any (fun i => decide (V 9 i = t) && decide (V 11 i = 3) && decide (V 14 i = w)) (k + 1) = false) from ⟨(by omega), (fz_any_step ha (by simp [c_1, c_2]))⟩) (by show n - (k + 1) < n - k; omega) ls (lv_sub hl [1, 2, 3, 0] rfl)
    · skip
      refine lv_aload_n hx hb dX2_hasFault_20 rfl (lv_at hl 0 rfl) ?_
      refine va_get (D := D) (ci := 1) (v := .ref (a 11)) (C := RX2) (T := TX2) (N := 10) hx hb hts inX2 hown hK hP 0 rfl rfl 3 (by decide) k_18 (fun _ h9 => h9) rfl dX2_hasFault_21 ?_
      refine lv_iload_n hx hb dX2_hasFault_24 rfl (lv_at hl 3 rfl) ?_
      refine fz_iald (f := V 11) hx hb hK hP 3 0 rfl rfl k rfl (by omega) (by decide) dX2_hasFault_25 ?_
      refine lv_iconst (v := 3) hx hb dX2_hasFault_26 (by decide) ?_
      refine lv_icmp_ne (tgt := 42) hx hb dX2_hasFault_27 (by decide) (fun c_3 => ?_) (fun c_3 => ?_)
      · skip
        refine lv_iinc (v := nI (k + 1)) (lv' := [(3, .int (nI (k + 1))), (0, .ref (a 8)), (1, .int t), (2, .int w)]) hx hb dX2_hasFault_42 hl (k := 3) rfl (fz_inc rfl) (by decide) rfl (fun ls hl => ?_)
        refine lv_goto (tgt := 2) hx hb dX2_hasFault_45 (by decide) ?_
        exact ih2 (k + 1) (show ((k + 1) ≤ n) ∧ (fz_any (fun i => decide (V 9 i = t) && decide (V 11 i = 3) && decide (V 14 i = w)) (k + 1) = false) from ⟨(by omega), (fz_any_step ha (by simp [c_1, c_2, c_3]))⟩) (by show n - (k + 1) < n - k; omega) ls (lv_sub hl [1, 2, 3, 0] rfl)
      · skip
        refine lv_aload_n hx hb dX2_hasFault_30 rfl (lv_at hl 0 rfl) ?_
        refine va_get (D := D) (ci := 1) (v := .ref (a 14)) (C := RX2) (T := TX2) (N := 10) hx hb hts inX2 hown hK hP 0 rfl rfl 6 (by decide) k_27 (fun _ h9 => h9) rfl dX2_hasFault_31 ?_
        refine lv_iload_n hx hb dX2_hasFault_34 rfl (lv_at hl 3 rfl) ?_
        refine fz_iald (f := V 14) hx hb hK hP 6 0 rfl rfl k rfl (by omega) (by decide) dX2_hasFault_35 ?_
        refine lv_iload_n hx hb dX2_hasFault_36 rfl (lv_at hl 2 rfl) ?_
        refine lv_icmp_ne (tgt := 42) hx hb dX2_hasFault_37 (by decide) (fun c_4 => ?_) (fun c_4 => ?_)
        · skip
          refine lv_iinc (v := nI (k + 1)) (lv' := [(3, .int (nI (k + 1))), (0, .ref (a 8)), (1, .int t), (2, .int w)]) hx hb dX2_hasFault_42 hl (k := 3) rfl (fz_inc rfl) (by decide) rfl (fun ls hl => ?_)
          refine lv_goto (tgt := 2) hx hb dX2_hasFault_45 (by decide) ?_
          exact ih2 (k + 1) (show ((k + 1) ≤ n) ∧ (fz_any (fun i => decide (V 9 i = t) && decide (V 11 i = 3) && decide (V 14 i = w)) (k + 1) = false) from ⟨(by omega), (fz_any_step ha (by simp [c_1, c_2, c_3, c_4]))⟩) (by show n - (k + 1) < n - k; omega) ls (lv_sub hl [1, 2, 3, 0] rfl)
        · skip
          refine lv_iconst (v := 1) hx hb dX2_hasFault_40 (by decide) ?_
          exact W.zret (v := 1) hx hb hr (by decide) (fun t9 ht9 hW9 => ⟨_, rfl, (by rw [fz_any_hit (k := k) (by simp [c_1, c_2, c_3, c_4]) (by omega)]; rfl), ht9⟩) (fun _ h => nomatch h) dX2_hasFault_41
set_option maxHeartbeats 4000000 in
set_option maxRecDepth 100000 in
/-- Changes.value -/
theorem c_X2_value (l : Launch) (D : va_G) (cy : Nat → ClassId) (a : Nat → Nat) (V : Nat → Nat → Int32) (q w : Nat) (hq : q < 30) (hw : w < 7) : fz_RI l yX2_value wsX2_value 0 0 D cy [.ref (a 8), .int (nI q), .int (nI w)] (GW cy a V) fz_T (V (9 + w) q) := by
  refine Met.ofW (cc := cX2_value) (maxL := 3) (ret := (some .int)) (by decide) rfl ?_
  intro p e s m args below meth c s₁ B hml hv
  obtain ⟨rfl, hP, hK, hE⟩ := hv
  have hx := B.exec
  have hb := B.bytes
  have hr := B.returns
  have hts := atoms_spec (ws := wsX2_value) B.pre
  have hown : s.vm.findClass RX2 = some m.cls := findClass_of_methodNamed B.named
  have hlocks := B.notSynchronized
  have hl := lv_entry ([.ref (a 8), .int (nI q), .int (nI w)]) (n := 3) (Nat.le_of_ble_eq_true rfl)
  rw [lg_entry_eq]
  generalize (lg_sl ([.ref (a 8), .int (nI q), .int (nI w)]) ++ List.replicate (3 - (lg_sl ([.ref (a 8), .int (nI q), .int (nI w)])).length) Slot.unset).toArray = ls at hl ⊢
  have hl : lv_has ls 3 [(0, .ref (a 8)), (1, .int (nI q)), (2, .int (nI w))] := hl
  have k_9 := hts (.fieldLink RX2 9 "FreezeCredits$Changes" "team" "[I") (by decide +kernel)
  have inX2 : ∀ w ∈ u_ws RX2 TX2 10, w ∈ wsX2_value := by decide +kernel
  have k_15 := hts (.fieldLink RX2 15 "FreezeCredits$Changes" "risk" "[I") (by decide +kernel)
  have k_18 := hts (.fieldLink RX2 18 "FreezeCredits$Changes" "state" "[I") (by decide +kernel)
  have k_21 := hts (.fieldLink RX2 21 "FreezeCredits$Changes" "held" "[I") (by decide +kernel)
  have k_24 := hts (.fieldLink RX2 24 "FreezeCredits$Changes" "askedIn" "[I") (by decide +kernel)
  have k_27 := hts (.fieldLink RX2 27 "FreezeCredits$Changes" "madeIn" "[I") (by decide +kernel)
  have k_30 := hts (.fieldLink RX2 30 "FreezeCredits$Changes" "madeExempt" "[I") (by decide +kernel)
  refine lv_iload_n hx hb dX2_value_0 rfl (lv_at hl 2 rfl) ?_
  rcases (show w = 0 ∨ w = 1 ∨ w = 2 ∨ w = 3 ∨ w = 4 ∨ w = 5 ∨ w = 6 from by omega) with rfl | rfl | rfl | rfl | rfl | rfl | rfl
  · skip
    refine lv_tableIn (tgt := 40) hx hb dX2_value_1 (by decide) (by decide) rfl (by decide) ?_
    refine lv_aload_n hx hb dX2_value_40 rfl (lv_at hl 0 rfl) ?_
    refine va_get (D := D) (ci := 1) (v := .ref (a 9)) (C := RX2) (T := TX2) (N := 10) hx hb hts inX2 hown hK hP 0 rfl rfl 1 (by decide) k_9 (fun _ h9 => h9) rfl dX2_value_41 ?_
    refine lv_iload_n hx hb dX2_value_44 rfl (lv_at hl 1 rfl) ?_
    refine fz_iald (f := V 9) hx hb hK hP 1 0 rfl rfl q rfl (by omega) (by decide) dX2_value_45 ?_
    exact W.iret (v := (V 9 q)) hx hb hr (fun t9 ht9 hW9 => ⟨_, rfl, rfl, ht9⟩) (fun _ h => nomatch h) dX2_value_46
  · skip
    refine lv_tableIn (tgt := 47) hx hb dX2_value_1 (by decide) (by decide) rfl (by decide) ?_
    refine lv_aload_n hx hb dX2_value_47 rfl (lv_at hl 0 rfl) ?_
    refine va_get (D := D) (ci := 1) (v := .ref (a 10)) (C := RX2) (T := TX2) (N := 10) hx hb hts inX2 hown hK hP 0 rfl rfl 2 (by decide) k_15 (fun _ h9 => h9) rfl dX2_value_48 ?_
    refine lv_iload_n hx hb dX2_value_51 rfl (lv_at hl 1 rfl) ?_
    refine fz_iald (f := V 10) hx hb hK hP 2 0 rfl rfl q rfl (by omega) (by decide) dX2_value_52 ?_
    exact W.iret (v := (V 10 q)) hx hb hr (fun t9 ht9 hW9 => ⟨_, rfl, rfl, ht9⟩) (fun _ h => nomatch h) dX2_value_53
  · skip
    refine lv_tableIn (tgt := 54) hx hb dX2_value_1 (by decide) (by decide) rfl (by decide) ?_
    refine lv_aload_n hx hb dX2_value_54 rfl (lv_at hl 0 rfl) ?_
    refine va_get (D := D) (ci := 1) (v := .ref (a 11)) (C := RX2) (T := TX2) (N := 10) hx hb hts inX2 hown hK hP 0 rfl rfl 3 (by decide) k_18 (fun _ h9 => h9) rfl dX2_value_55 ?_
    refine lv_iload_n hx hb dX2_value_58 rfl (lv_at hl 1 rfl) ?_
    refine fz_iald (f := V 11) hx hb hK hP 3 0 rfl rfl q rfl (by omega) (by decide) dX2_value_59 ?_
    exact W.iret (v := (V 11 q)) hx hb hr (fun t9 ht9 hW9 => ⟨_, rfl, rfl, ht9⟩) (fun _ h => nomatch h) dX2_value_60
  · skip
    refine lv_tableIn (tgt := 61) hx hb dX2_value_1 (by decide) (by decide) rfl (by decide) ?_
    refine lv_aload_n hx hb dX2_value_61 rfl (lv_at hl 0 rfl) ?_
    refine va_get (D := D) (ci := 1) (v := .ref (a 12)) (C := RX2) (T := TX2) (N := 10) hx hb hts inX2 hown hK hP 0 rfl rfl 4 (by decide) k_21 (fun _ h9 => h9) rfl dX2_value_62 ?_
    refine lv_iload_n hx hb dX2_value_65 rfl (lv_at hl 1 rfl) ?_
    refine fz_iald (f := V 12) hx hb hK hP 4 0 rfl rfl q rfl (by omega) (by decide) dX2_value_66 ?_
    exact W.iret (v := (V 12 q)) hx hb hr (fun t9 ht9 hW9 => ⟨_, rfl, rfl, ht9⟩) (fun _ h => nomatch h) dX2_value_67
  · skip
    refine lv_tableIn (tgt := 68) hx hb dX2_value_1 (by decide) (by decide) rfl (by decide) ?_
    refine lv_aload_n hx hb dX2_value_68 rfl (lv_at hl 0 rfl) ?_
    refine va_get (D := D) (ci := 1) (v := .ref (a 13)) (C := RX2) (T := TX2) (N := 10) hx hb hts inX2 hown hK hP 0 rfl rfl 5 (by decide) k_24 (fun _ h9 => h9) rfl dX2_value_69 ?_
    refine lv_iload_n hx hb dX2_value_72 rfl (lv_at hl 1 rfl) ?_
    refine fz_iald (f := V 13) hx hb hK hP 5 0 rfl rfl q rfl (by omega) (by decide) dX2_value_73 ?_
    exact W.iret (v := (V 13 q)) hx hb hr (fun t9 ht9 hW9 => ⟨_, rfl, rfl, ht9⟩) (fun _ h => nomatch h) dX2_value_74
  · skip
    refine lv_tableIn (tgt := 75) hx hb dX2_value_1 (by decide) (by decide) rfl (by decide) ?_
    refine lv_aload_n hx hb dX2_value_75 rfl (lv_at hl 0 rfl) ?_
    refine va_get (D := D) (ci := 1) (v := .ref (a 14)) (C := RX2) (T := TX2) (N := 10) hx hb hts inX2 hown hK hP 0 rfl rfl 6 (by decide) k_27 (fun _ h9 => h9) rfl dX2_value_76 ?_
    refine lv_iload_n hx hb dX2_value_79 rfl (lv_at hl 1 rfl) ?_
    refine fz_iald (f := V 14) hx hb hK hP 6 0 rfl rfl q rfl (by omega) (by decide) dX2_value_80 ?_
    exact W.iret (v := (V 14 q)) hx hb hr (fun t9 ht9 hW9 => ⟨_, rfl, rfl, ht9⟩) (fun _ h => nomatch h) dX2_value_81
  · skip
    refine lv_tableOut (tgt := 82) hx hb dX2_value_1 (by decide) (by decide) ?_
    refine lv_aload_n hx hb dX2_value_82 rfl (lv_at hl 0 rfl) ?_
    refine va_get (D := D) (ci := 1) (v := .ref (a 15)) (C := RX2) (T := TX2) (N := 10) hx hb hts inX2 hown hK hP 0 rfl rfl 7 (by decide) k_30 (fun _ h9 => h9) rfl dX2_value_83 ?_
    refine lv_iload_n hx hb dX2_value_86 rfl (lv_at hl 1 rfl) ?_
    refine fz_iald (f := V 15) hx hb hK hP 7 0 rfl rfl q rfl (by omega) (by decide) dX2_value_87 ?_
    exact W.iret (v := (V 15 q)) hx hb hr (fun t9 ht9 hW9 => ⟨_, rfl, rfl, ht9⟩) (fun _ h => nomatch h) dX2_value_88
