/-! what the law's other methods ask of the rows -/
section FACTS2
variable {V : Nat → Nat → Int32} {nt nc nq nl wk B : Nat}
theorem wf_uni {nt' nc' nq' nl' wk' : Nat} (h : fz_wf V nt nc nq nl wk) (h' : fz_wf V nt' nc' nq' nl' wk') : nt' = nt ∧ nc' = nc ∧ nq' = nq ∧ nl' = nl ∧ wk' = wk := by
  obtain ⟨a1, a2, a3, a4, a5, a6, a7, a8, a9, a10, -⟩ := h
  obtain ⟨b1, b2, b3, b4, b5, b6, b7, b8, b9, b10, -⟩ := h'
  exact ⟨n_uni b1 a1 (by omega) (by omega), n_uni b3 a3 (by omega) (by omega), n_uni b5 a5 (by omega) (by omega), n_uni b7 a7 (by omega) (by omega), n_uni b9 a9 (by omega) (by omega)⟩
/-- behind any command -/
theorem pO.next {P : Int32 × (Nat → Nat → Int32)} (J : pJ V nt nc nq nl wk B) (h : pO V nt nc nq nl wk B P) : ∃ nt' nc' nq' nl' wk', nt ≤ nt' ∧ pJ P.2 nt' nc' nq' nl' wk' (B + 6600) := by
  rcases h with ⟨-, nt', nc', nq', nl', wk', h1, h2⟩ | ⟨h1, -⟩
  · exact ⟨nt', nc', nq', nl', wk', h1, h2⟩
  · rw [h1]
    exact ⟨nt, nc, nq, nl, wk, Nat.le_refl nt, J.mono (by omega)⟩
-- exempt
theorem ex_ok (J : pJ V nt nc nq nl wk B) {t a : Nat} (ht : t < nt) (ha : a < nc) (e9 : V 9 a = nI t) (h : fz_reason V nl a = 0) : fz_ok (fz_exempt V nc nl (nI a)).1 = true := by
  rw [ex_eq J ht ha e9 h]
  obtain ⟨p, hp, ep⟩ := pr_of J ha
  rw [show (fz_exempt2 V a t).1 = nI p from ep]
  exact (ok_n (by omega)).1
theorem ex_no (J : pJ V nt nc nq nl wk B) {a : Nat} (ha : a < nc) (h : ¬ fz_reason V nl a = 0) : fz_exempt V nc nl (nI a) = (-3, V) := by
  have h30 := J.nc30
  rw [fz_exempt, J.e8, if_pos (fz_ix_n (by omega) ha), nI_clamp (by omega), if_neg h]
theorem ex_why2 {t a : Nat} : fz_reason (fz_exempt2 V a t).2 nl a = 1 := by
  rw [fz_reason, if_neg]
  show ¬ upd (V 11) a 1 a = 0
  rw [pk_us]
  decide
-- weeks
theorem its_J (J : pJ V nt nc nq nl wk B) (hB : B < 1000000000) : ∀ n, wk + n ≤ 39 → pJ (fz_its V nt nc nl wk n) nt nc nq nl (wk + n) (B + 6600 * n)
  | 0, _ => J
  | n + 1, h => by
    have ih := its_J J hB n (by omega)
    have := (pJ_close ih (by omega) (by omega)).2
    rw [show wk + (n + 1) = wk + n + 1 by omega]
    exact this.mono (by omega)
theorem wu_or {f : Nat → Int32} {c : Int32} : ∀ k n, (∃ u, n ≤ u ∧ u ≤ n + k ∧ fz_wu f c k n = nI u ∧ c ≤ f u ∧ ∀ j, n ≤ j → j < u → ¬ c ≤ f j) ∨ (fz_wu f c k n = -1 ∧ ∀ j, n ≤ j → j ≤ n + k → ¬ c ≤ f j)
  | 0, n => by
    rw [fz_wu]
    by_cases h : c ≤ f n
    · rw [if_pos h]
      exact Or.inl ⟨n, Nat.le_refl n, by omega, rfl, h, fun j h1 h2 => by omega⟩
    · rw [if_neg h]
      exact Or.inr ⟨rfl, fun j h1 h2 => by rw [show j = n by omega]; exact h⟩
  | k + 1, n => by
    rw [fz_wu]
    by_cases h : c ≤ f n
    · rw [if_pos h]
      exact Or.inl ⟨n, Nat.le_refl n, by omega, rfl, h, fun j h1 h2 => by omega⟩
    · rw [if_neg h]
      rcases wu_or (f := f) (c := c) k (n + 1) with ⟨u, h1, h2, h3, h4, h5⟩ | ⟨h1, h2⟩
      · refine Or.inl ⟨u, by omega, by omega, h3, h4, fun j g1 g2 => ?_⟩
        by_cases e : j = n
        · rw [e]
          exact h
        · exact h5 j (by omega) g2
      · refine Or.inr ⟨h1, fun j g1 g2 => ?_⟩
        by_cases e : j = n
        · rw [e]
          exact h
        · exact h2 j (by omega) (by omega)
theorem sum_n {f : Nat → Int32} {C : Nat} : ∀ n, (∀ i, i < n → ∃ j, j ≤ C ∧ f i = nI j) → ∃ m, m ≤ n * C ∧ fz_sum f n = nI m
  | 0, _ => ⟨0, by omega, rfl⟩
  | n + 1, h => by
    obtain ⟨m, h1, e1⟩ := sum_n (f := f) n (fun i hi => h i (by omega))
    obtain ⟨j, h2, e2⟩ := h n (by omega)
    exact ⟨m + j, by rw [Nat.add_mul, Nat.one_mul]; omega, by rw [fz_sum, e1, e2, nI_add]⟩
theorem being_n (J : pJ V nt nc nq nl wk B) (hB : B < 100000000) : ∃ m, m < 2000000000 ∧ fz_sum (V 4) nt + fz_sum (V 12) nc = nI m := by
  have h6 := J.nt6
  have h30 := J.nc30
  obtain ⟨m1, h1, e1⟩ := sum_n nt J.free
  obtain ⟨m2, h2, e2⟩ := sum_n nc J.held
  have g1 : nt * B ≤ 6 * B := Nat.mul_le_mul_right B h6
  exact ⟨m1 + m2, by omega, by rw [e1, e2, nI_add]⟩
theorem cl_ok (J : pJ V nt nc nq nl wk B) (hB : B < 2000000000) (hw : wk < 39) : fz_ok (fz_close V nt nc nl wk).1 = true ∧ 0 ≤ (fz_close V nt nc nl wk).1 := by
  obtain ⟨⟨s, hs, es⟩, -⟩ := pJ_close J hB hw
  rw [es]
  exact ok_n (by omega)
theorem cl_no {nt nc nl wk : Nat} (hw : ¬ wk < 39) : fz_close V nt nc nl wk = (-3, V) := by rw [fz_close, if_pos (by omega)]
theorem cl_earn (J : pJ V nt nc nq nl wk B) (hw : wk < 39) : fz_sum ((fz_close V nt nc nl wk).2 6) nt = fz_sum (V 6) nt + (fz_close V nt nc nl wk).1 := by
  rw [fz_close, if_neg (by omega)]
  exact (ea_sum V nc wk nt nt (Nat.le_refl nt)).2
-- asked
theorem rk_ok {r : Nat} (h1 : 1 ≤ r) (h9 : r ≤ 9) : fz_risk (nI r) = true := by
  have : r = 1 ∨ r = 2 ∨ r = 3 ∨ r = 4 ∨ r = 5 ∨ r = 6 ∨ r = 7 ∨ r = 8 ∨ r = 9 := by omega
  rcases this with rfl | rfl | rfl | rfl | rfl | rfl | rfl | rfl | rfl <;> decide
theorem en_eq (J : pJ V nt nc nq nl wk B) {t r : Nat} (ht : t < nt) (h1 : 1 ≤ r) (h9 : r ≤ 9) (hc : nc < 30) : fz_enter V nc nq (nI t) (nI r) = (nI nc, fz_app V (nI t) (nI r) (V 0 0) nc nq) := by
  have h6 := J.nt6
  rw [fz_enter, J.e3, if_pos (fz_ix_n (by omega) ht), if_pos (rk_ok h1 h9), if_neg (by omega)]
theorem en_no (J : pJ V nt nc nq nl wk B) {t r : Nat} (ht : t < nt) (h1 : 1 ≤ r) (h9 : r ≤ 9) (hc : ¬ nc < 30) : fz_enter V nc nq (nI t) (nI r) = (-3, V) := by
  have h6 := J.nt6
  rw [fz_enter, J.e3, if_pos (fz_ix_n (by omega) ht), if_pos (rk_ok h1 h9), if_pos (by omega)]
theorem en_J (J : pJ V nt nc nq nl wk B) {t r : Nat} (ht : t < nt) (h1 : 1 ≤ r) (h9 : r ≤ 9) (hc : nc < 30) : pJ (fz_app V (nI t) (nI r) (V 0 0) nc nq) nt (nc + 1) (nq + 1) nl wk (B + 6600) := by
  have h6 := J.nt6
  have h30 := J.nc30
  have hqc := J.nqc
  have e := en_eq J ht h1 h9 hc
  have q := pO_enter J (nI t) (nI r)
  rw [e] at q
  rcases q with ⟨-, nt', nc', nq', nl', wk', -, J'⟩ | ⟨-, q⟩
  · obtain ⟨a1, a2, a3, a4, a5, a6, a7, a8, a9, a10, -⟩ := J.wf
    obtain ⟨b1, b2, b3, b4, b5, b6, b7, b8, b9, b10, -⟩ := J'.wf
    have f1 := n_uni (show V 3 0 = nI nt' from b1) a1 (by omega) (by omega)
    have f2 := n_uni (show nI (nc + 1) = nI nc' from b3) rfl (by omega) (by omega)
    have f3 := n_uni (show nI (nq + 1) = nI nq' from b5) rfl (by omega) (by omega)
    have f4 := n_uni (show V 17 0 = nI nl' from b7) a7 (by omega) (by omega)
    have f5 := n_uni (show V 0 0 = nI wk' from b9) a9 (by omega) (by omega)
    rw [f1, f2, f3, f4, f5] at J'
    exact J'
  · rcases q with q | q | q <;> exact absurd (nI_pos (n := nc) (by omega)) (by rw [show nI nc = _ from q]; decide)
end FACTS2
theorem hs_pred (cn : Nat) : hs_n cn = hs_n cn - 1 + 1 := by
  unfold hs_n
  split <;> omega
theorem hs_small {cn : Nat} (h : cn < 5) : hs_n cn - 1 < 5 := by
  unfold hs_n
  split <;> omega
theorem pG.lt {D : va_G} {A : Nat → Prop} {cy : Nat → ClassId} {f a t h x ad : Nat → Nat} {cn : Nat} {V : Nat → Nat → Int32} {L : List Int32} {K : (Nat → Nat → Nat → Int32) → Prop} {H : Heap} (q : pG D A (pK cy f a t h x ad cn V L K) H) : cn < 5 := by
  obtain ⟨W, h1, -⟩ := q
  exact h1.lt
-- numbers
theorem dg1 : ∀ j, j < 10 → (48 : Int32) + nI j / 100 = 48 := by decide +kernel
theorem dg2 : ∀ j, j < 10 → (48 : Int32) + (nI j / 10 - nI j / 10 / 10 * 10) = 48 := by decide +kernel
theorem dg3 : ∀ j, j < 10 → (48 : Int32) + (nI j - nI j / 10 * 10) = nI (48 + j) := by decide +kernel
theorem dgv : ∀ j, j < 10 → fz_vo (nI (48 + j)) 128 = true := by decide +kernel
theorem nI_div {a b : Nat} (ha : a < 2 ^ 31) (hb : b < 2 ^ 31) (h0 : 0 < b) : nI a / nI b = nI (a / b) := by
  apply Int32.toInt_inj.mp
  have hab : a / b < 2 ^ 31 := Nat.lt_of_le_of_lt (Nat.div_le_self a b) ha
  rw [Int32.toInt_div_of_ne_right _ _ (sd_m1 (by omega)), nI_toInt ha, nI_toInt hb, nI_toInt hab]
  rfl
theorem nI_mul (a b : Nat) : nI a * nI b = nI (a * b) := (Int32.ofNat_mul a b).symm
theorem nI_sub {a b : Nat} (h : b ≤ a) : nI a - nI b = nI (a - b) := by
  have e1 : nI a = nI (a - b) + nI b := by rw [nI_add]; congr 1; omega
  rw [e1]
  exact Int32.add_sub_cancel _ _
theorem nI_rem {a b : Nat} (ha : a < 2 ^ 31) (hb : b < 2 ^ 31) (h0 : 0 < b) : nI a - nI a / nI b * nI b = nI (a % b) := by
  rw [nI_div ha hb h0, nI_mul, nI_sub (Nat.div_mul_le_self a b)]
  congr 1
  have := Nat.div_add_mod a b
  rw [Nat.mul_comm] at this
  omega
theorem nI_bv {a : Nat} (h : a < 2 ^ 32) : (nI a).toBitVec.toNat = a := by
  show (BitVec.ofNat 32 a).toNat = a
  rw [BitVec.toNat_ofNat, Nat.mod_eq_of_lt h]
theorem nI_and15 {a : Nat} (ha : a < 2 ^ 31) : nI a &&& 15 = nI (a % 16) := by
  apply Int32.toBitVec_inj.mp
  apply BitVec.eq_of_toNat_eq
  show ((nI a).toBitVec &&& (15 : Int32).toBitVec).toNat = (nI (a % 16)).toBitVec.toNat
  rw [BitVec.toNat_and, nI_bv (by omega), nI_bv (by omega)]
  exact Nat.and_two_pow_sub_one_eq_mod a 4
theorem nI_and3 {a : Nat} (ha : a < 2 ^ 31) : nI a &&& 3 = nI (a % 4) := by
  apply Int32.toBitVec_inj.mp
  apply BitVec.eq_of_toNat_eq
  show ((nI a).toBitVec &&& (3 : Int32).toBitVec).toNat = (nI (a % 4)).toBitVec.toNat
  rw [BitVec.toNat_and, nI_bv (by omega), nI_bv (by omega)]
  exact Nat.and_two_pow_sub_one_eq_mod a 2
theorem nI_and1 {a : Nat} (ha : a < 2 ^ 31) : nI a &&& 1 = nI (a % 2) := by
  apply Int32.toBitVec_inj.mp
  apply BitVec.eq_of_toNat_eq
  show ((nI a).toBitVec &&& (1 : Int32).toBitVec).toNat = (nI (a % 2)).toBitVec.toNat
  rw [BitVec.toNat_and, nI_bv (by omega), nI_bv (by omega)]
  exact Nat.and_two_pow_sub_one_eq_mod a 1
/-- what is left when the sign is taken away -/
theorem and_max (y : Int32) : ∃ z, z < 2 ^ 31 ∧ y &&& 2147483647 = nI z := by
  have hlt : y.toBitVec.toNat &&& 2147483647 < 2 ^ 31 := Nat.lt_of_le_of_lt Nat.and_le_right (by decide)
  refine ⟨y.toBitVec.toNat &&& 2147483647, hlt, ?_⟩
  apply Int32.toBitVec_inj.mp
  apply BitVec.eq_of_toNat_eq
  rw [nI_bv (by omega)]
  show (y.toBitVec &&& (2147483647 : Int32).toBitVec).toNat = _
  rw [BitVec.toNat_and]
  rfl
theorem nI_shr4 {a : Nat} (ha : a < 2 ^ 31) : nI a >>> (4 &&& 31) = nI (a / 16) := by
  have hm : (nI a).toBitVec.msb = false := by
    rw [BitVec.msb_eq_decide, nI_bv (by omega)]
    exact decide_eq_false (by omega)
  apply Int32.toBitVec_inj.mp
  apply BitVec.eq_of_toNat_eq
  rw [nI_bv (show a / 16 < 2 ^ 32 by omega)]
  show ((nI a).toBitVec.sshiftRight' ((4 &&& 31 : Int32).toBitVec.smod 32#32)).toNat = a / 16
  rw [show ((4 &&& 31 : Int32).toBitVec.smod 32#32) = 4#32 by decide, BitVec.sshiftRight', BitVec.sshiftRight_eq_of_msb_false hm, BitVec.toNat_ushiftRight, nI_bv (by omega)]
  exact Nat.shiftRight_eq_div_pow a 4
theorem lg_same (x : Int64) : lg_cmp x x = 0 := by simp [lg_cmp]
theorem ge_ne {x : Int32} (h : 0 ≤ x) : ¬ x = -11 := fun e => by
  rw [e] at h
  exact absurd h (by decide)
theorem ge_nlt {x y : Int32} (h : 0 ≤ x) (hy : y ≤ 0) : ¬ x < y := Int32.not_lt.mpr (Int32.le_trans hy h)
theorem run_top {D : va_G} {A : Nat → Prop} {cy : Nat → ClassId} {f a t h x ad : Nat → Nat} {cn : Nat} {V U : Nat → Nat → Int32} {L : List Int32} {H : Heap} (hG : pG D A (pK cy f a t h x ad (hs_n cn) V L (kU (hs_n cn - 1) U)) H) : ∃ c, c < 5 ∧ pG D A (pK cy f a t h x ad (c + 1) V L (kU c U)) H :=
  ⟨hs_n cn - 1, by have := hG.lt; omega, by rw [← hs_pred cn]; exact hG⟩
/-- what holds between two acts -/
def pI (cy : Nat → ClassId) (f a t h x ad : Nat → Nat) (B : Nat) : va_W → Prop := fun W => ∃ (cm : Nat) (U : Nat → Nat → Int32) (L : List Int32) (nt nc nq nl wk : Nat), 2 ≤ nt ∧ pJ U nt nc nq nl wk B ∧ pS cy f a t h x ad cm U L W
section TRI
variable {V : Nat → Nat → Int32} {nt nc nq nl wk B : Nat}
theorem pI_of {C : Nat} {cy : Nat → ClassId} {f a t h x ad : Nat → Nat} {cm : Nat} {L : List Int32} {W : va_W} (J : pJ V nt nc nq nl wk B) (h2 : 2 ≤ nt) (hC : B ≤ C) (q : pS cy f a t h x ad cm V L W) : pI cy f a t h x ad C W := ⟨cm, V, L, nt, nc, nq, nl, wk, h2, J.mono hC, q⟩
theorem pI_op {C : Nat} {P : Int32 × (Nat → Nat → Int32)} {cy : Nat → ClassId} {f a t h x ad : Nat → Nat} {cm : Nat} {L : List Int32} {W : va_W} (J : pJ V nt nc nq nl wk B) (h2 : 2 ≤ nt) (hp : pO V nt nc nq nl wk B P) (hC : B + 6600 ≤ C) (q : pS cy f a t h x ad cm P.2 L W) : pI cy f a t h x ad C W := by
  obtain ⟨nt', nc', nq', nl', wk', h1, J'⟩ := hp.next J
  exact ⟨cm, P.2, L, nt', nc', nq', nl', wk', by omega, J'.mono hC, q⟩
theorem pO_tri {P : Int32 × (Nat → Nat → Int32)} (hp : pO V nt nc nq nl wk B P) : okn P.1 ∨ P = (-1, V) ∨ P = (-2, V) ∨ P = (-3, V) := by
  rcases hp with ⟨h, -⟩ | ⟨h1, h2⟩
  · exact Or.inl h
  · right
    obtain ⟨x, U⟩ := P
    have h1 : U = V := h1
    subst h1
    rcases h2 with q | q | q
    · exact Or.inl (by rw [show x = -1 from q])
    · exact Or.inr (Or.inl (by rw [show x = -2 from q]))
    · exact Or.inr (Or.inr (by rw [show x = -3 from q]))
theorem tri_bring (J : pJ V nt nc nq nl wk B) {x : Nat} (hx : x ≤ 999) : okn (fz_bring V nt (nI x)).1 ∨ fz_bring V nt (nI x) = (-3, V) := by
  have h6 := J.nt6
  rw [fz_bring, if_neg (nI_pos (by omega)), if_pos (show nI x ≤ 999 from (nI_leI (b := 999) (by omega) (by omega)).mpr hx)]
  by_cases c : 6 ≤ nt
  · rw [if_pos c]
    exact Or.inr rfl
  · rw [if_neg c]
    exact Or.inl (ok_n (by omega))
theorem fz_frz_n {f : Nat → Int32} : ∀ n k, k + n = 40 → ∃ m, m ≤ n ∧ fz_frz f k = nI m
  | 0, k, h => ⟨0, Nat.le_refl 0, by rw [show k = 40 by omega, fz_frz_e]; exact nI_0.symm⟩
  | n + 1, k, h => by
    obtain ⟨m, h1, e⟩ := fz_frz_n (f := f) n (k + 1) (by omega)
    rw [fz_frz_s (by omega), e, fz_nz]
    split
    · exact ⟨m, by omega, Int32.zero_add _⟩
    · exact ⟨1 + m, by omega, nI_add 1 m⟩
theorem tri_markw (J : pJ V nt nc nq nl wk B) {i : Nat} (hi : i ≤ 39) (fr : Bool) : okn (fz_markw V wk (nI i) 39 fr).1 ∨ fz_markw V wk (nI i) 39 fr = (-3, V) := by
  rw [fz_markw, if_neg (nI_pos (by omega)), if_neg (show ¬ 39 < nI i from Int32.not_lt.mpr ((nI_leI (b := 39) (by omega) (by omega)).mpr hi)), if_pos (by decide)]
  by_cases c : V 0 0 ≤ nI i
  · rw [if_pos c]
    left
    obtain ⟨m, hm, e⟩ := fz_frz_n (f := fz_mark (V 2) (nI i).toNatClampNeg (fz_b fr) ((39 : Int32).toNatClampNeg + 1)) 40 0 (by omega)
    show okn (fz_frz (fz_mark (V 2) (nI i).toNatClampNeg (fz_b fr) ((39 : Int32).toNatClampNeg + 1)) 0)
    rw [e]
    exact ok_n (by omega)
  · rw [if_neg c]
    exact Or.inr rfl
theorem set_in : ∀ i, i < 4 → ∀ b, b < 21 → 1 ≤ b → ¬ nI b < fz_from i ∧ nI b ≤ fz_upto i := by decide +kernel
theorem set_okn (J : pJ V nt nc nq nl wk B) {i b : Nat} (hi : i < 4) (h1 : 1 ≤ b) (hb : b ≤ 20) : okn (fz_set V (nI i) (nI b)).1 := by
  obtain ⟨g1, g2⟩ := set_in i hi b (by omega) h1
  have e : fz_set V (nI i) (nI b) = (V 1 i, fz_up V 1 (upd (V 1) i (nI b))) := by
    rw [fz_set, if_neg (nI_pos (by omega)), if_pos (show nI i < 4 from nI_lt (b := 4) hi (by omega)), nI_clamp (by omega), if_neg g1, if_pos g2]
  rw [e]
  obtain ⟨⟨N, h⟩, -⟩ := J
  obtain ⟨s, hs, es⟩ := h.setn hi
  show okn (V 1 i)
  rw [es]
  exact ok_n (by omega)
theorem tri_enter (J : pJ V nt nc nq nl wk B) {t r : Nat} (ht : t < nt) (h1 : 1 ≤ r) (h9 : r ≤ 9) : okn (fz_enter V nc nq (nI t) (nI r)).1 ∨ fz_enter V nc nq (nI t) (nI r) = (-3, V) := by
  have h30 := J.nc30
  by_cases c : nc < 30
  · rw [en_eq J ht h1 h9 c]
    exact Or.inl (ok_n (by omega))
  · exact Or.inr (en_no J ht h1 h9 c)
theorem tri_make (J : pJ V nt nc nq nl wk B) (hB : B < 2000000000) (x : Int32) (fr : Bool) : okn (fz_make V nc nq wk x fr).1 ∨ fz_make V nc nq wk x fr = (-1, V) ∨ fz_make V nc nq wk x fr = (-3, V) := by
  rcases pO_tri (pO_make J hB x fr) with q | q | q | q
  · exact Or.inl q
  · exact Or.inr (Or.inl q)
  · rcases make_or J.wf x fr with e | e | ⟨z, j, ex, hz, hj, ej, ho, e⟩
    · exact Or.inr (Or.inl e)
    · exact Or.inr (Or.inr e)
    · left
      rcases pO_make J hB x fr with ⟨h, -⟩ | ⟨h, -⟩
      · exact h
      · exfalso
        rw [e] at h
        have h14 : upd (V 11) z (bif fr then 3 else 2) z = V 11 z := by
          have := congrFun (congrFun h 11) z
          cases fr
          · exact this
          · exact this
        rw [pk_us] at h14
        rw [← h14] at ho
        cases fr <;> exact absurd ho (by decide)
  · exact Or.inr (Or.inr q)
theorem tri_drop (J : pJ V nt nc nq nl wk B) (hB : B < 2000000000) (x : Int32) : okn (fz_drop V nc nq x).1 ∨ fz_drop V nc nq x = (-1, V) ∨ fz_drop V nc nq x = (-3, V) := by
  rcases drop_or J.wf x with e | e | ⟨z, j, hz, hj, ej, ho, e⟩
  · exact Or.inr (Or.inl e)
  · exact Or.inr (Or.inr e)
  · left
    rw [e]
    obtain ⟨k, hk, ek⟩ := J.held z hz
    show okn (V 12 z)
    rw [ek]
    exact ok_n (by omega)
theorem tri_close (J : pJ V nt nc nq nl wk B) (hB : B < 2000000000) : okn (fz_close V nt nc nl wk).1 ∨ fz_close V nt nc nl wk = (-3, V) := by
  by_cases c : wk < 39
  · exact Or.inl (cl_ok J hB c)
  · exact Or.inr (cl_no c)
-- runs
theorem run_C2 (J : pJ V nt nc nq nl wk B) (hB : B < 1000000000) {t r : Nat} (ht : t < nt) (h1 : 1 ≤ r) (h9 : r ≤ 9) (hc : nc < 30) (hw : wk < 39) : tCis (txA t r) V 2 (fz_close (fz_app V (nI t) (nI r) (V 0 0) nc nq) nt (nc + 1) nl wk).2 := by
  have h6 := J.nt6
  have e := en_eq J ht h1 h9 hc
  have J1 := en_J J ht h1 h9 hc
  have q := txA_C2 (t := t) (r := r) (nt1 := nt) (nc1 := nc + 1) (nq1 := nq + 1) (nl1 := nl) (wk1 := wk) (by omega) (by omega) J.wf (by rw [e]; exact nI_pos' (by omega)) (by rw [e]; exact J1.wf) (by rw [e]; exact (cl_ok J1 (by omega) hw).2)
  rw [e] at q
  exact q
theorem run_C1 (J : pJ V nt nc nq nl wk B) (hB : B < 1000000000) {t r : Nat} (ht : t < nt) (h1 : 1 ≤ r) (h9 : r ≤ 9) (hc : nc < 30) (hw : ¬ wk < 39) : tCis (txA t r) V 1 (fz_app V (nI t) (nI r) (V 0 0) nc nq) := by
  have h6 := J.nt6
  have e := en_eq J ht h1 h9 hc
  have J1 := en_J J ht h1 h9 hc
  have q := txA_C1 (t := t) (r := r) (nt1 := nt) (nc1 := nc + 1) (nq1 := nq + 1) (nl1 := nl) (wk1 := wk) (by omega) (by omega) J.wf (by rw [e]; exact nI_pos' (by omega)) (by rw [e]; exact J1.wf) (by rw [e]; exact cl_no hw)
  rw [e] at q
  exact q
theorem run_C0 (J : pJ V nt nc nq nl wk B) {t r : Nat} (ht : t < nt) (h1 : 1 ≤ r) (h9 : r ≤ 9) (hc : ¬ nc < 30) : tCis (txA t r) V 0 V := by
  have h6 := J.nt6
  exact txA_C0 (by omega) (by omega) J.wf (en_no J ht h1 h9 hc)
theorem run_earn {V1 : Nat → Nat → Int32} {nc1 nq1 : Nat} (J1 : pJ V1 nt nc1 nq1 nl wk B) (h : V1 6 = V 6) (hw : wk < 39) : (fz_close V1 nt nc1 nl wk).1 = fz_sum ((fz_close V1 nt nc1 nl wk).2 6) nt - fz_sum (V 6) nt := by
  rw [cl_earn J1 hw, h, Int32.add_comm]
  exact (Int32.add_sub_cancel _ _).symm
end TRI
section NEW
variable {V : Nat → Nat → Int32} {nt nc nq nl wk B : Nat}
theorem br_eq (J : pJ V nt nc nq nl wk B) {x : Nat} (h6 : nt < 6) (hx : x ≤ 999) : fz_bring V nt (nI x) = (nI nt, (fz_bring V nt (nI x)).2) := by
  have e : (fz_bring V nt (nI x)).1 = nI nt := by rw [fz_bring, if_neg (nI_pos (by omega)), if_pos (show nI x ≤ 999 from (nI_leI (b := 999) (by omega) (by omega)).mpr hx), if_neg (by omega)]
  rw [← e]
theorem br_J (J : pJ V nt nc nq nl wk B) {x : Nat} (h6 : nt < 6) (hx : x ≤ 999) : pJ (fz_bring V nt (nI x)).2 (nt + 1) nc nq nl wk (B + 6600) := by
  have h30 := J.nc30
  have hqc := J.nqc
  have e : fz_bring V nt (nI x) = (nI nt, fz_up (fz_up (fz_up (fz_up (fz_up V 3 (upd (V 3) 0 (nI (nt + 1)))) 4 (upd (V 4) nt (nI x))) 5 (upd (V 5) nt (nI x))) 6 (upd (V 6) nt 0)) 7 (upd (V 7) nt 0)) := by
    rw [fz_bring, if_neg (nI_pos (by omega)), if_pos (show nI x ≤ 999 from (nI_leI (b := 999) (by omega) (by omega)).mpr hx), if_neg (by omega)]
  have q := pO_bring J (nI x)
  rw [e] at q ⊢
  rcases q with ⟨-, nt', nc', nq', nl', wk', -, J'⟩ | ⟨-, q⟩
  · obtain ⟨a1, a2, a3, a4, a5, a6, a7, a8, a9, a10, -⟩ := J.wf
    obtain ⟨b1, b2, b3, b4, b5, b6, b7, b8, b9, b10, -⟩ := J'.wf
    have f1 := n_uni (show nI (nt + 1) = nI nt' from b1) rfl (by omega) (by omega)
    have f2 := n_uni (show V 8 0 = nI nc' from b3) a3 (by omega) (by omega)
    have f3 := n_uni (show V 8 1 = nI nq' from b5) a5 (by omega) (by omega)
    have f4 := n_uni (show V 17 0 = nI nl' from b7) a7 (by omega) (by omega)
    have f5 := n_uni (show V 0 0 = nI wk' from b9) a9 (by omega) (by omega)
    rw [f1, f2, f3, f4, f5] at J'
    exact J'
  · rcases q with q | q | q <;> exact absurd (nI_pos (n := nt) (by omega)) (by rw [show nI nt = _ from q]; decide)
theorem cR_new : cR v1 (mV 1) 0 0 0 0 0 ∧ cB v1 0 0 0 0 := by
  have h0 : ∀ i, 9 ≤ i → mV 1 i = 0 := fun i hi => by
    show upd (upd (upd (upd (fun _ => 0) 4 3) 5 4) 6 2) 7 100 i = 0
    rw [pk_un (by omega), pk_un (by omega), pk_un (by omega), pk_un (by omega)]
  refine ⟨cR_mk ⟨rfl, by omega, rfl, by omega, rfl, by omega, rfl, by omega, rfl, by omega, fun i hi => absurd hi (Nat.not_lt_zero i), fun i hi => absurd hi (Nat.not_lt_zero i), fun i hi => absurd hi (Nat.not_lt_zero i), fun i hi => absurd hi (Nat.not_lt_zero i)⟩ (fun i _ => Or.inl rfl)
    (ag_mk rfl rfl rfl rfl (fun i hi => by rcases (show i = 0 ∨ i = 1 ∨ i = 2 ∨ i = 3 by omega) with rfl | rfl | rfl | rfl <;> rfl) (fun i hi => (h0 (9 + i) (by omega)).symm) (fun i hi => absurd hi (Nat.not_lt_zero i)) (fun i hi => absurd hi (Nat.not_lt_zero i)) (fun i hi => absurd hi (Nat.not_lt_zero i)) (fun _ _ i hi => absurd hi (Nat.not_lt_zero i)) (fun _ _ i hi => absurd hi (Nat.not_lt_zero i)))
    rfl (fun i hi => by rcases (show i = 0 ∨ i = 1 ∨ i = 2 ∨ i = 3 by omega) with rfl | rfl | rfl | rfl <;> decide) (fun i hi => absurd hi (Nat.not_lt_zero i)) (fun i hi => absurd hi (Nat.not_lt_zero i)) ⟨by rw [cwl_0]; rfl, fun i hi => absurd hi (Nat.not_lt_zero i)⟩, fun i hi => absurd hi (Nat.not_lt_zero i), fun i hi => absurd hi (Nat.not_lt_zero i), fun i hi => absurd hi (Nat.not_lt_zero i)⟩
theorem pJ_new : pJ v1 0 0 0 0 0 0 := ⟨⟨_, cR_new.1⟩, cR_new.2, rfl, fun i hi => absurd hi (Nat.not_lt_zero i), fun i hi => absurd hi (Nat.not_lt_zero i)⟩
end NEW
