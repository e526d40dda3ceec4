/-! the search for a fault -/
theorem ff_rel {T : Nat → Int32} {n : Nat} (hn : n ≤ 150) : ∀ (k a : Nat) (v : Option Nat) (Z Y : Nat → Int32) (w0 : Int32) (k2 : Nat), a ≤ n + 1 → n + 2 - a ≤ 2 * k → n + 2 - a ≤ k2 → (cx_ff T n k a v Z).1 = (tx_fo T n k2 (tx_sp T n a, w0, -1, Y)).2.2.1
  | 0, a, v, Z, Y, w0, k2, h1, h2, _ => by omega
  | k + 1, a, v, Z, Y, w0, k2, h1, h2, h3 => by
    have hge := tx_sp_ge T n a
    rw [cx_ff]
    by_cases c1 : tx_sp T n a < n
    · rw [if_pos c1]
      obtain ⟨g1, g2⟩ := rd_rel hn c1 w0 Z Y
      have eS : tx_fo T n k2 (tx_sp T n a, w0, -1, Y) = tx_fo T n (k2 - 1) (tx_fs T n (tx_sp T n a, w0, -1, Y)) := tx_fo_s rfl c1 (by omega)
      rw [eS]
      by_cases c2 : (cx_rd T n (tx_sp T n a) Z).1 = -1
      · rw [if_pos c2]
        obtain ⟨w, hw, e1, e2, e3, e4⟩ := g2 c2
        have hadv := cx_rd_adv (T := T) (Z := Z) (n := n) (p := tx_sp T n a) (by omega) (by omega) c2
        have hle := cx_rd_le (T := T) (Z := Z) c1
        have eF : tx_fs T n (tx_sp T n a, w0, -1, Y) = (tx_sp T n (cx_rd T n (tx_sp T n a) Z).2.1, nI w, -1, (tx_rd T n (tx_sp T n a) w0 Y).2.2.2) := by
          show (tx_sp T n (tx_rd T n (tx_sp T n a) w0 Y).1, (tx_rd T n (tx_sp T n a) w0 Y).2) = _
          rw [← e3]
          refine congrArg (Prod.mk _) (Prod.ext e2 (Prod.ext (g1.symm.trans c2) rfl))
        rw [eF]
        exact ff_rel hn k _ _ _ _ _ (k2 - 1) hle (by omega) (by omega)
      · rw [if_neg c2, g1]
        have hf : ¬ (tx_fs T n (tx_sp T n a, w0, -1, Y)).2.2.1 = -1 := fun z => c2 (g1.trans z)
        rw [tx_fo_f hf]
        rfl
    · rw [if_neg c1, tx_fo_n (Nat.le_of_not_lt c1)]
theorem fault_eq {T : Nat → Int32} {n : Nat} (hn : n ≤ 150) (v : Option Nat) (Z Y : Nat → Int32) (w0 : Int32) : (cx_ff T n 150 0 v Z).1 = (tx_fa T n w0 Y).2.2.1 := ff_rel hn 150 0 v Z Y w0 200 (by omega) (by omega) (by omega)
