/-! the model: runs, digests -/
def tx_mug (go : Bool) (a : Nat) : Nat := bif go then 1000 - a else 0
theorem tx_mug_lt {g : Bool} {a b : Nat} (ha : a < 1000) (hb : g = true → a + 1 ≤ b) : tx_mug g b < tx_mug true a := by
  show tx_mug g b < 1000 - a
  cases g with
  | true => have h := hb rfl; show 1000 - b < 1000 - a; omega
  | false => show 0 < 1000 - a; omega
theorem fm_wtn_le (N : Nat → Int32) (nc : Nat) : fm_wtn N nc ≤ nc + nc := Nat.add_le_add (fz_ct_le _ _) (fz_ct_le _ _)
theorem fz_hs_0 (f : Nat → Int32) (h : Int64) : fz_hs f 0 h = h := rfl
theorem fz_ht_0 (f : Nat → Nat → Int32) (w : Nat) (x : Nat → Int64 → Int64) (h : Int64) : fz_ht f w x 0 h = h := rfl
