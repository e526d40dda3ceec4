/-! a command is read: the class's way and the model's -/
theorem nI_m1 {a : Nat} (h : a < 2 ^ 31) : ¬ nI a = -1 := fun z => absurd (nI_pos h) (by rw [z]; decide)
theorem flt_n {a : Nat} (h : a < 2 ^ 31) (x : Int32) : tx_flt (nI a) x = nI a := by rw [tx_flt, if_neg (nI_m1 h)]
theorem flt_1 (x : Int32) : tx_flt (-1) x = x := by rw [tx_flt, if_pos rfl]
/-- the fault at a command's end -/
def endC (T : Nat → Int32) (n : Nat) (r : Bool × Nat × (Nat → Int32)) : Int32 := bif r.1 then (if tx_at T n (tx_sp T n r.2.1) = 59 then -1 else nI (tx_sp T n r.2.1)) else nI r.2.1
def endM (T : Nat → Int32) (n : Nat) (s : Nat × Int32 × (Nat → Int32)) : Int32 := if tx_at T n (tx_sp T n s.1) = 59 then s.2.1 else tx_flt s.2.1 (nI (tx_sp T n s.1))
theorem endM_n {T : Nat → Int32} {n q a : Nat} {Z : Nat → Int32} (h : a < 2 ^ 31) : endM T n (q, nI a, Z) = nI a := by
  show (if _ then nI a else tx_flt (nI a) _) = nI a
  rw [flt_n h]
  split <;> rfl
theorem ne_le (T : Nat → Int32) (n p : Nat) (hp : p < 2000) (hn : n ≤ 150) : (tx_ne T n p).1 < 2000 := by
  have := tx_R_ne T n p
  unfold tx_R at this
  omega
theorem sp_lt (T : Nat → Int32) (n p : Nat) (hp : p < 2000) (hn : n ≤ 150) : tx_sp T n p < 2000 := by
  have := tx_R_sp T n p
  unfold tx_R at this
  omega
theorem ns_rel {T : Nat → Int32} {n : Nat} (hn : n ≤ 150) : ∀ (k i p : Nat) (Z Y : Nat → Int32), p < 2000 →
    endC T n (cx_ns T n k i p Z) = endM T n (tx_ns T n k i p (-1) Y) ∧ (endM T n (tx_ns T n k i p (-1) Y) = -1 → (cx_ns T n k i p Z).1 = true ∧ (cx_ns T n k i p Z).2.1 = (tx_ns T n k i p (-1) Y).1 ∧ ((∀ j, j < i → Z j = Y j) → ∀ j, j < i + k → (cx_ns T n k i p Z).2.2 j = (tx_ns T n k i p (-1) Y).2.2 j))
  | 0, i, p, Z, Y, _ => by
    refine ⟨?_, fun _ => ⟨rfl, rfl, fun h j hj => h j hj⟩⟩
    show (if _ then (-1 : Int32) else _) = if _ then (-1 : Int32) else tx_flt (-1) _
    rw [flt_1]
    rfl
  | k + 1, i, p, Z, Y, hp => by
    have hsp := sp_lt T n p hp hn
    have hne := ne_le T n p hp hn
    by_cases c1 : tx_at T n p = 32
    · cases c2 : fm_in (tx_at T n (tx_sp T n p)) 48 57 with
      | false =>
        have ok : cx_ok T n p = false := by rw [cx_ok, c2, Bool.and_false]
        have f3 : tx_f3 T n p (-1) = nI (tx_sp T n p) := by
          have f2 : tx_f2 T n p (-1) = nI (tx_sp T n p) := by rw [tx_f2, c2, cond_false, tx_f1, if_pos c1, flt_1]
          rw [tx_f3, f2, flt_n (by omega)]
          cases fm_in (tx_at T n (tx_ne T n p).1) 48 57 <;> rfl
        have eC : endC T n (cx_ns T n (k + 1) i p Z) = nI (tx_sp T n p) := by
          rw [cx_ns_n (by omega) ok]
          show nI (cx_at T n p) = _
          rw [cx_at, if_pos c1, c2, cond_false]
        have eM : endM T n (tx_ns T n (k + 1) i p (-1) Y) = nI (tx_sp T n p) := by
          rw [tx_ns_s rfl (by omega), f3, tx_ns_f (nI_m1 (by omega)), endM_n (by omega)]
        rw [eC, eM]
        exact ⟨rfl, fun z => absurd z (nI_m1 (by omega))⟩
      | true =>
        have ok : cx_ok T n p = true := by rw [cx_ok, c2, decide_eq_true c1]; rfl
        have hat : cx_at T n p = (tx_ne T n p).1 := by rw [cx_at, if_pos c1, c2, cond_true]
        have hZ : cx_Z T n p i Z = upd Z i (tx_ne T n p).2 := by rw [cx_Z, ok, cond_true]
        have f2 : tx_f2 T n p (-1) = -1 := by rw [tx_f2, c2, cond_true, tx_f1, if_pos c1]
        have eS : cx_ns T n (k + 1) i p Z = cx_ns T n k (i + 1) (tx_ne T n p).1 (upd Z i (tx_ne T n p).2) := by
          rw [cx_ns_y (by omega) ok, hat, hZ]
          rfl
        cases c3 : fm_in (tx_at T n (tx_ne T n p).1) 48 57 with
        | true =>
          have f3 : tx_f3 T n p (-1) = nI (tx_ne T n p).1 := by rw [tx_f3, c3, cond_true, f2, flt_1]
          have eM : endM T n (tx_ns T n (k + 1) i p (-1) Y) = nI (tx_ne T n p).1 := by
            rw [tx_ns_s rfl (by omega), f3, tx_ns_f (nI_m1 (by omega)), endM_n (by omega)]
          have n32 : ¬ tx_at T n (tx_ne T n p).1 = 32 := fun z => by
            rw [z] at c3
            exact absurd c3 (by decide)
          have n59 : ¬ tx_at T n (tx_ne T n p).1 = 59 := fun z => by
            rw [z] at c3
            exact absurd c3 (by decide)
          have eC : endC T n (cx_ns T n (k + 1) i p Z) = nI (tx_ne T n p).1 := by
            rw [eS]
            cases k with
            | zero =>
              show (if tx_at T n (tx_sp T n (tx_ne T n p).1) = 59 then (-1 : Int32) else nI (tx_sp T n (tx_ne T n p).1)) = _
              rw [tx_sp_n n32, if_neg n59]
            | succ k =>
              have ok2 : cx_ok T n (tx_ne T n p).1 = false := by rw [cx_ok, decide_eq_false n32]; rfl
              rw [cx_ns_n (by omega) ok2]
              show nI (cx_at T n (tx_ne T n p).1) = _
              rw [cx_at, if_neg n32]
          rw [eC, eM]
          exact ⟨rfl, fun z => absurd z (nI_m1 (by omega))⟩
        | false =>
          have f3 : tx_f3 T n p (-1) = -1 := by rw [tx_f3, c3, cond_false, f2]
          have eT : tx_ns T n (k + 1) i p (-1) Y = tx_ns T n k (i + 1) (tx_ne T n p).1 (-1) (upd Y i (tx_ne T n p).2) := by
            rw [tx_ns_s rfl (by omega), f3]
            rfl
          obtain ⟨g1, g2⟩ := ns_rel hn k (i + 1) (tx_ne T n p).1 (upd Z i (tx_ne T n p).2) (upd Y i (tx_ne T n p).2) hne
          rw [eS, eT]
          refine ⟨g1, fun z => ?_⟩
          obtain ⟨g3, g4, g5⟩ := g2 z
          refine ⟨g3, g4, fun hz j hj => g5 (fun q hq => ?_) j (by omega)⟩
          by_cases c : q = i
          · rw [c, pk_us, pk_us]
          · rw [pk_un c, pk_un c]
            exact hz q (by omega)
    · have ok : cx_ok T n p = false := by rw [cx_ok, decide_eq_false c1]; rfl
      have f3 : tx_f3 T n p (-1) = nI p := by
        have f1 : tx_f1 T n p (-1) = nI p := by rw [tx_f1, if_neg c1, flt_1]
        have f2 : tx_f2 T n p (-1) = nI p := by
          rw [tx_f2, f1, flt_n (by omega)]
          cases fm_in (tx_at T n (tx_sp T n p)) 48 57 <;> rfl
        rw [tx_f3, f2, flt_n (by omega)]
        cases fm_in (tx_at T n (tx_ne T n p).1) 48 57 <;> rfl
      have eC : endC T n (cx_ns T n (k + 1) i p Z) = nI p := by
        rw [cx_ns_n (by omega) ok]
        show nI (cx_at T n p) = _
        rw [cx_at, if_neg c1]
      have eM : endM T n (tx_ns T n (k + 1) i p (-1) Y) = nI p := by
        rw [tx_ns_s rfl (by omega), f3, tx_ns_f (nI_m1 (by omega)), endM_n (by omega)]
      rw [eC, eM]
      exact ⟨rfl, fun z => absurd z (nI_m1 (by omega))⟩
