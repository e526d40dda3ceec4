/-! accounts of a class's rows  -/
theorem ia_swap (a b c : Int32) : a + b + c = a + c + b := by
  rw [Int32.add_assoc, Int32.add_comm b c, ← Int32.add_assoc]
theorem ia_can (a b : Int32) : a + (b - a) = b := by
  rw [Int32.add_comm, Int32.sub_add_cancel]
theorem sum_upd {f : Nat → Int32} {k : Nat} {x : Int32} : ∀ {n : Nat}, k < n → fz_sum (upd f k x) n = fz_sum f n + (x - f k)
  | 0, h => absurd h (Nat.not_lt_zero k)
  | n + 1, h => by
    rw [fz_sum, fz_sum]
    by_cases e : k = n
    · subst e
      rw [fz_sum_cong (f := upd f k x) (g := f) (fun i hi => pk_un (by omega)), pk_us, Int32.add_assoc, ia_can]
    · rw [sum_upd (f := f) (k := k) (x := x) (n := n) (by omega), pk_un (by omega), ia_swap]
theorem sum_out {f : Nat → Int32} {k n : Nat} {x : Int32} (h : n ≤ k) : fz_sum (upd f k x) n = fz_sum f n := fz_sum_cong (fun i hi => pk_un (by omega))
theorem sum_new {f : Nat → Int32} {n : Nat} {x : Int32} : fz_sum (upd f n x) (n + 1) = fz_sum f n + x := by
  rw [fz_sum, sum_out (Nat.le_refl n), pk_us]
/-- brought in and earned: burnt, free and held -/
def pA (V : Nat → Nat → Int32) (nt nc : Nat) : Prop := fz_sum (V 5) nt + fz_sum (V 6) nt = fz_sum (V 7) nt + fz_sum (V 4) nt + fz_sum (V 12) nc
def pL (V : Nat → Nat → Int32) (nl : Nat) : Prop := ∀ i, i < nl → ¬ V 18 i = V 19 i ∧ V 21 i ≤ V 20 i ∧ V 23 i ≤ V 22 i
def pC (V : Nat → Nat → Int32) (nc : Nat) : Prop := ∀ c, c < nc → (V 11 c = 1 ∨ V 12 c = 0) ∧ ((V 11 c = 2 ∨ V 11 c = 3) ↔ 0 ≤ V 14 c) ∧ V 13 c ≤ V 0 0
def pJ (V : Nat → Nat → Int32) (nt nc nq nl wk B : Nat) : Prop := (∃ N, cR V N nt nc nq nl wk) ∧ cB V nt nc nl B ∧ pA V nt nc ∧ pL V nl ∧ pC V nc
theorem pJ.mono {V : Nat → Nat → Int32} {nt nc nq nl wk B C : Nat} (J : pJ V nt nc nq nl wk B) (h : B ≤ C) : pJ V nt nc nq nl wk C := ⟨J.1, J.2.1.mono h, J.2.2⟩
/-- two counts that are told twice -/
theorem n_uni {x : Int32} {a b : Nat} (h1 : x = nI a) (h2 : x = nI b) (ha : a < 2 ^ 31) (hb : b < 2 ^ 31) : a = b := (nI_eq ha hb).mp (h1.symm.trans h2)
/-- done, or refused with nothing changed -/
def pO (V : Nat → Nat → Int32) (nt nc nq nl wk B : Nat) (P : Int32 × (Nat → Nat → Int32)) : Prop :=
  (okn P.1 ∧ ∃ nt' nc' nq' nl' wk', nt ≤ nt' ∧ pJ P.2 nt' nc' nq' nl' wk' (B + 6600)) ∨ (P.2 = V ∧ (P.1 = -1 ∨ P.1 = -2 ∨ P.1 = -3))
section PJ
variable {V : Nat → Nat → Int32} {nt nc nq nl wk B : Nat}
theorem sim.pO {M : Nat → Nat → Int32} {k1 k2 k3 : Int32} {P Q : Int32 × (Nat → Nat → Int32)} (h : sim V M B k1 k2 k3 P Q) (hd : okn P.1 → ∀ nt' nc' nq' nl' wk', cR P.2 (Q.2 1) nt' nc' nq' nl' wk' → cB P.2 nt' nc' nl' (B + 6600) → nt ≤ nt' ∧ pA P.2 nt' nc' ∧ pL P.2 nl' ∧ pC P.2 nc') : pO V nt nc nq nl wk B P := by
  rcases h with ⟨-, h1, -, nt', nc', nq', nl', wk', h2, h3⟩ | ⟨h1, -, h2⟩
  · obtain ⟨g0, g1, g2, g3⟩ := hd h1 nt' nc' nq' nl' wk' h2 h3
    exact Or.inl ⟨h1, nt', nc', nq', nl', wk', g0, ⟨_, h2⟩, h3, g1, g2, g3⟩
  · refine Or.inr ⟨h1, ?_⟩
    rcases h2 with ⟨q, -⟩ | ⟨q, -⟩ | ⟨q, -⟩
    · exact Or.inl q
    · exact Or.inr (Or.inl q)
    · exact Or.inr (Or.inr q)
end PJ
theorem wf_num {U : Nat → Nat → Int32} {nt nc nq nl wk a b d : Nat} (h : fz_wf U nt nc nq nl wk) (h1 : U 3 0 = nI a) (h2 : U 8 0 = nI b) (h3 : U 17 0 = nI d) (ha : a ≤ 100) (hb : b ≤ 100) (hd : d ≤ 100) : a = nt ∧ b = nc ∧ d = nl := by
  obtain ⟨hnt, hnt6, hnc, hnc30, hnq, hqc, hnl, hnl12, -⟩ := h
  exact ⟨(n_uni hnt h1 (by omega) (by omega)).symm, (n_uni hnc h2 (by omega) (by omega)).symm, (n_uni hnl h3 (by omega) (by omega)).symm⟩
theorem not_ok {x : Int32} (h : x = -1 ∨ x = -2 ∨ x = -3) : ¬ okn x := fun z => by
  have := z.2
  rcases h with rfl | rfl | rfl <;> exact absurd this (by decide)
section OPS
variable {V : Nat → Nat → Int32} {nt nc nq nl wk B : Nat}
-- settings
theorem set_or (V : Nat → Nat → Int32) (x y : Int32) : fz_set V x y = (-2, V) ∨ ∃ z, z < 4 ∧ x = nI z ∧ fz_set V x y = (V 1 z, fz_up V 1 (upd (V 1) z y)) := by
  rcases pk_ix x (n := 4) (by decide) with q | q | ⟨z, hz, rfl⟩
  · exact Or.inl (by rw [fz_set, if_pos q])
  · have h0 : ¬ x < 0 := fun z => absurd (Int32.lt_of_le_of_lt q z) (by decide)
    exact Or.inl (by rw [fz_set, if_neg h0, if_neg (Int32.not_lt.mpr (show (4 : Int32) ≤ x from q))])
  · have h0 : ¬ nI z < 0 := nI_pos (by omega)
    have h4 : nI z < 4 := nI_lt hz (by decide)
    rw [fz_set, if_neg h0, if_pos h4, nI_clamp (by omega)]
    by_cases c1 : y < fz_from z
    · exact Or.inl (by rw [if_pos c1])
    · by_cases c2 : y ≤ fz_upto z
      · exact Or.inr ⟨z, hz, rfl, by rw [if_neg c1, if_pos c2]⟩
      · exact Or.inl (by rw [if_neg c1, if_neg c2])
theorem pO_set (J : pJ V nt nc nq nl wk B) (x y : Int32) : pO V nt nc nq nl wk B (fz_set V x y) := by
  obtain ⟨⟨N, h⟩, hb, hA, hL, hC⟩ := J
  refine (sim_set (M := fun _ => N) h hb x y).pO (fun ok nt' nc' nq' nl' wk' h2 h3 => ?_)
  rcases set_or V x y with e | ⟨z, hz, -, e⟩
  · rw [e] at ok
    exact absurd ok (not_ok (Or.inr (Or.inl rfl)))
  · rw [e] at h2 ⊢
    obtain ⟨rfl, rfl, rfl⟩ := wf_num h2.wf (a := nt) (b := nc) (d := nl) h.wf.1 h.wf.2.2.1 h.wf.2.2.2.2.2.2.1 (by have := h.wf.2.1; omega) (by have := h.wf.2.2.2.1; omega) (by have := h.wf.2.2.2.2.2.2.2.1; omega)
    exact ⟨Nat.le_refl _, hA, hL, hC⟩
-- weeks
theorem markw_or (V : Nat → Nat → Int32) (wk : Nat) (f g : Int32) (fr : Bool) : fz_markw V wk f g fr = (-2, V) ∨ fz_markw V wk f g fr = (-3, V) ∨ ∃ F m, fz_markw V wk f g fr = (m, fz_up V 2 F) := by
  unfold fz_markw
  by_cases c1 : f < 0
  · exact Or.inl (by rw [if_pos c1])
  · by_cases c2 : g < f
    · exact Or.inl (by rw [if_neg c1, if_pos c2])
    · by_cases c3 : g ≤ 39
      · by_cases c4 : V 0 0 ≤ f
        · exact Or.inr (Or.inr ⟨_, _, by rw [if_neg c1, if_neg c2, if_pos c3, if_pos c4]⟩)
        · exact Or.inr (Or.inl (by rw [if_neg c1, if_neg c2, if_pos c3, if_neg c4]))
      · exact Or.inl (by rw [if_neg c1, if_neg c2, if_neg c3])
theorem pO_markw (J : pJ V nt nc nq nl wk B) (f g : Int32) (fr : Bool) : pO V nt nc nq nl wk B (fz_markw V wk f g fr) := by
  obtain ⟨⟨N, h⟩, hb, hA, hL, hC⟩ := J
  refine (sim_markw (M := fun _ => N) h hb f g fr).pO (fun ok nt' nc' nq' nl' wk' h2 h3 => ?_)
  rcases markw_or V wk f g fr with e | e | ⟨F, m, e⟩
  · rw [e] at ok
    exact absurd ok (not_ok (Or.inr (Or.inl rfl)))
  · rw [e] at ok
    exact absurd ok (not_ok (Or.inr (Or.inr rfl)))
  · rw [e] at h2 ⊢
    obtain ⟨rfl, rfl, rfl⟩ := wf_num h2.wf (a := nt) (b := nc) (d := nl) h.wf.1 h.wf.2.2.1 h.wf.2.2.2.2.2.2.1 (by have := h.wf.2.1; omega) (by have := h.wf.2.2.2.1; omega) (by have := h.wf.2.2.2.2.2.2.2.1; omega)
    exact ⟨Nat.le_refl _, hA, hL, hC⟩
-- a team
theorem bring_or (V : Nat → Nat → Int32) (nt : Nat) (x : Int32) : fz_bring V nt x = (-2, V) ∨ fz_bring V nt x = (-3, V) ∨ (nt < 6 ∧ fz_bring V nt x = (nI nt, fz_up (fz_up (fz_up (fz_up (fz_up V 3 (upd (V 3) 0 (nI (nt + 1)))) 4 (upd (V 4) nt x)) 5 (upd (V 5) nt x)) 6 (upd (V 6) nt 0)) 7 (upd (V 7) nt 0))) := by
  unfold fz_bring
  by_cases c1 : x < 0
  · exact Or.inl (by rw [if_pos c1])
  · by_cases c2 : x ≤ 999
    · by_cases c3 : 6 ≤ nt
      · exact Or.inr (Or.inl (by rw [if_neg c1, if_pos c2, if_pos c3]))
      · exact Or.inr (Or.inr ⟨by omega, by rw [if_neg c1, if_pos c2, if_neg c3]⟩)
    · exact Or.inl (by rw [if_neg c1, if_neg c2])
theorem ia_bring (a b c d e x : Int32) (h : a + b = c + d + e) : (a + x) + (b + 0) = (c + 0) + (d + x) + e := by
  rw [Int32.add_zero, Int32.add_zero, ia_swap a x b, h, ← Int32.add_assoc c d x, ia_swap (c + d) x e]
theorem pO_bring (J : pJ V nt nc nq nl wk B) (x : Int32) : pO V nt nc nq nl wk B (fz_bring V nt x) := by
  obtain ⟨⟨N, h⟩, hb, hA, hL, hC⟩ := J
  refine (sim_bring (M := fun _ => N) h hb x).pO (fun ok nt' nc' nq' nl' wk' h2 h3 => ?_)
  rcases bring_or V nt x with e | e | ⟨h6, e⟩
  · rw [e] at ok
    exact absurd ok (not_ok (Or.inr (Or.inl rfl)))
  · rw [e] at ok
    exact absurd ok (not_ok (Or.inr (Or.inr rfl)))
  · rw [e] at h2 ⊢
    obtain ⟨rfl, rfl, rfl⟩ := wf_num h2.wf (a := nt + 1) (b := nc) (d := nl) rfl h.wf.2.2.1 h.wf.2.2.2.2.2.2.1 (by omega) (by have := h.wf.2.2.2.1; omega) (by have := h.wf.2.2.2.2.2.2.2.1; omega)
    refine ⟨by omega, ?_, hL, hC⟩
    show fz_sum (upd (V 5) nt x) (nt + 1) + fz_sum (upd (V 6) nt 0) (nt + 1) = fz_sum (upd (V 7) nt 0) (nt + 1) + fz_sum (upd (V 4) nt x) (nt + 1) + fz_sum (V 12) nc
    rw [sum_new, sum_new, sum_new, sum_new]
    exact ia_bring _ _ _ _ _ _ hA
-- a change
theorem enter_or (V : Nat → Nat → Int32) (nc nq : Nat) (t x : Int32) : (fz_enter V nc nq t x = (-1, V) ∧ ¬ fz_ix t (V 3 0) = true) ∨ fz_enter V nc nq t x = (-2, V) ∨ fz_enter V nc nq t x = (-3, V) ∨ (nc < 30 ∧ fz_enter V nc nq t x = (nI nc, fz_app V t x (V 0 0) nc nq)) := by
  unfold fz_enter
  by_cases c1 : fz_ix t (V 3 0) = true
  · by_cases c2 : fz_risk x = true
    · by_cases c3 : 30 ≤ nc
      · exact Or.inr (Or.inr (Or.inl (by rw [if_pos c1, if_pos c2, if_pos c3])))
      · exact Or.inr (Or.inr (Or.inr ⟨by omega, by rw [if_pos c1, if_pos c2, if_neg c3]⟩))
    · exact Or.inr (Or.inl (by rw [if_pos c1, if_neg c2]))
  · exact Or.inl ⟨by rw [if_neg c1], c1⟩
theorem pO_enter (J : pJ V nt nc nq nl wk B) (t x : Int32) : pO V nt nc nq nl wk B (fz_enter V nc nq t x) := by
  obtain ⟨⟨N, h⟩, hb, hA, hL, hC⟩ := J
  refine (sim_enter (M := fun _ => N) h hb t x).pO (fun ok nt' nc' nq' nl' wk' h2 h3 => ?_)
  rcases enter_or V nc nq t x with ⟨e, -⟩ | e | e | ⟨h30, e⟩
  · rw [e] at ok
    exact absurd ok (not_ok (Or.inl rfl))
  · rw [e] at ok
    exact absurd ok (not_ok (Or.inr (Or.inl rfl)))
  · rw [e] at ok
    exact absurd ok (not_ok (Or.inr (Or.inr rfl)))
  · rw [e] at h2 ⊢
    obtain ⟨rfl, rfl, rfl⟩ := wf_num h2.wf (a := nt) (b := nc + 1) (d := nl) h.wf.1 rfl h.wf.2.2.2.2.2.2.1 (by have := h.wf.2.1; omega) (by omega) (by have := h.wf.2.2.2.2.2.2.2.1; omega)
    refine ⟨Nat.le_refl _, ?_, hL, fun c hc => ?_⟩
    · show fz_sum (V 5) nt + fz_sum (V 6) nt = fz_sum (V 7) nt + fz_sum (V 4) nt + fz_sum (upd (V 12) nc 0) (nc + 1)
      rw [sum_new, Int32.add_zero]
      exact hA
    · show (upd (V 11) nc 0 c = 1 ∨ upd (V 12) nc 0 c = 0) ∧ ((upd (V 11) nc 0 c = 2 ∨ upd (V 11) nc 0 c = 3) ↔ 0 ≤ upd (V 14) nc (-1) c) ∧ upd (V 13) nc (V 0 0) c ≤ V 0 0
      by_cases q : c = nc
      · rw [q, pk_us, pk_us, pk_us, pk_us]
        exact ⟨Or.inr rfl, by decide, Int32.le_refl _⟩
      · rw [pk_un q, pk_un q, pk_un q, pk_un q]
        exact hC c (by omega)
-- exempt
theorem exempt_or (h : fz_wf V nt nc nq nl wk) (x : Int32) : fz_exempt V nc nl x = (-1, V) ∨ fz_exempt V nc nl x = (-3, V) ∨ ∃ z j, z < nc ∧ j < nt ∧ x = nI z ∧ V 9 z = nI j ∧ fz_reason V nl z = 0 ∧ fz_exempt V nc nl x = fz_exempt2 V z j := by
  unfold fz_exempt
  by_cases c1 : fz_ix x (V 8 0) = true
  · obtain ⟨ex, hz⟩ := fz_ix_s c1 h.2.2.1 (by have := h.2.2.2.1; omega)
    by_cases c2 : fz_reason V nl x.toNatClampNeg = 0
    · obtain ⟨j, hj, ej⟩ := h.2.2.2.2.2.2.2.2.2.2.1 _ hz
      exact Or.inr (Or.inr ⟨_, j, hz, hj, ex, ej, c2, by rw [if_pos c1, if_pos c2, fz_tnat ej (by have := h.2.1; omega)]⟩)
    · exact Or.inr (Or.inl (by rw [if_pos c1, if_neg c2]))
  · exact Or.inl (by rw [if_neg c1])
theorem ia_exempt (a b c d v p : Int32) (h : a = b + c + d) : a = b + (c + (v - p - v)) + (d + (p - 0)) := by grind
theorem pO_exempt (J : pJ V nt nc nq nl wk B) (hB : B < 2000000000) (x : Int32) : pO V nt nc nq nl wk B (fz_exempt V nc nl x) := by
  obtain ⟨⟨N, h⟩, hb, hA, hL, hC⟩ := J
  refine (sim_exempt (M := fun _ => N) h hb hB x).pO (fun ok nt' nc' nq' nl' wk' h2 h3 => ?_)
  rcases exempt_or h.wf x with e | e | ⟨z, j, hz, hj, -, ej, hr, e⟩
  · rw [e] at ok
    exact absurd ok (not_ok (Or.inl rfl))
  · rw [e] at ok
    exact absurd ok (not_ok (Or.inr (Or.inr rfl)))
  · rw [e] at h2 ⊢
    obtain ⟨rfl, rfl, rfl⟩ := wf_num h2.wf (a := nt) (b := nc) (d := nl) h.wf.1 h.wf.2.2.1 h.wf.2.2.2.2.2.2.1 (by have := h.wf.2.1; omega) (by have := h.wf.2.2.2.1; omega) (by have := h.wf.2.2.2.2.2.2.2.1; omega)
    have s0 := (fz_reason_0 hr).1
    have k0 : V 12 z = 0 := (hC z hz).1.resolve_left (by rw [s0]; decide)
    refine ⟨Nat.le_refl _, ?_, hL, fun c hc => ?_⟩
    · show fz_sum (V 5) nt + fz_sum (V 6) nt = fz_sum (V 7) nt + fz_sum (upd (V 4) j (V 4 j - V 10 z * V 1 0)) nt + fz_sum (upd (V 12) z (V 10 z * V 1 0)) nc
      rw [sum_upd hj, sum_upd hz, k0]
      exact ia_exempt _ _ _ _ _ _ hA
    · show (upd (V 11) z 1 c = 1 ∨ upd (V 12) z (V 10 z * V 1 0) c = 0) ∧ ((upd (V 11) z 1 c = 2 ∨ upd (V 11) z 1 c = 3) ↔ 0 ≤ V 14 c) ∧ V 13 c ≤ V 0 0
      by_cases q : c = z
      · rw [q, pk_us, pk_us]
        have g := (hC z hz).2
        rw [s0] at g
        refine ⟨Or.inl rfl, ⟨fun z9 => absurd z9 (by decide), fun z9 => absurd (g.1.mpr z9) (by decide)⟩, g.2⟩
      · rw [pk_un q, pk_un q]
        exact hC c hc
-- made
theorem make_or (h : fz_wf V nt nc nq nl wk) (x : Int32) (fr : Bool) : fz_make V nc nq wk x fr = (-1, V) ∨ fz_make V nc nq wk x fr = (-3, V) ∨ ∃ z j ex, z < nc ∧ j < nt ∧ V 9 z = nI j ∧ fz_open (V 11 z) = true ∧ fz_make V nc nq wk x fr = fz_make2 V nq z j fr ex := by
  unfold fz_make
  by_cases c1 : fz_ix x (V 8 0) = true
  · obtain ⟨ex, hz⟩ := fz_ix_s c1 h.2.2.1 (by have := h.2.2.2.1; omega)
    obtain ⟨j, hj, ej⟩ := h.2.2.2.2.2.2.2.2.2.2.1 _ hz
    have ej' := fz_tnat ej (by have := h.2.1; omega)
    by_cases c2 : fz_open (V 11 x.toNatClampNeg) = true
    · by_cases c3 : V 11 x.toNatClampNeg = 1
      · exact Or.inr (Or.inr ⟨_, j, 1, hz, hj, ej, c2, by rw [if_pos c1, if_pos c2, if_pos c3, ej']⟩)
      · by_cases c4 : V 2 wk = 0
        · exact Or.inr (Or.inr ⟨_, j, 0, hz, hj, ej, c2, by rw [if_pos c1, if_pos c2, if_neg c3, if_pos c4, ej']⟩)
        · exact Or.inr (Or.inl (by rw [if_pos c1, if_pos c2, if_neg c3, if_neg c4]))
    · exact Or.inr (Or.inl (by rw [if_pos c1, if_neg c2]))
  · exact Or.inl (by rw [if_neg c1])
theorem ia_fault (a b c d v u k f : Int32) (h : a = b + c + d) : a = (b + (u + (k + f) - u)) + (c + (v - f - v)) + (d + (0 - k)) := by grind
theorem ia_back (a b c d v k : Int32) (h : a = b + c + d) : a = b + (c + (v + k - v)) + (d + (0 - k)) := by grind
theorem pO_make (J : pJ V nt nc nq nl wk B) (hB : B < 2000000000) (x : Int32) (fr : Bool) : pO V nt nc nq nl wk B (fz_make V nc nq wk x fr) := by
  obtain ⟨⟨N, h⟩, hb, hA, hL, hC⟩ := J
  refine (sim_make (M := fun _ => N) h hb hB x fr).pO (fun ok nt' nc' nq' nl' wk' h2 h3 => ?_)
  rcases make_or h.wf x fr with e | e | ⟨z, j, ex, hz, hj, ej, ho, e⟩
  · rw [e] at ok
    exact absurd ok (not_ok (Or.inl rfl))
  · rw [e] at ok
    exact absurd ok (not_ok (Or.inr (Or.inr rfl)))
  · rw [e] at h2 ⊢
    have hw : (0 : Int32) ≤ V 0 0 := by
      rw [h.wf.2.2.2.2.2.2.2.2.1]
      exact Int32.not_lt.mp (nI_pos (by have := h.wf.2.2.2.2.2.2.2.2.2.1; omega))
    cases fr with
    | true =>
      obtain ⟨rfl, rfl, rfl⟩ := wf_num h2.wf (a := nt) (b := nc) (d := nl) h.wf.1 h.wf.2.2.1 h.wf.2.2.2.2.2.2.1 (by have := h.wf.2.1; omega) (by have := h.wf.2.2.2.1; omega) (by have := h.wf.2.2.2.2.2.2.2.1; omega)
      refine ⟨Nat.le_refl _, ?_, hL, fun c hc => ?_⟩
      · show fz_sum (V 5) nt + fz_sum (V 6) nt = fz_sum (upd (V 7) j (V 7 j + (V 12 z + fz_fine V z j))) nt + fz_sum (upd (V 4) j (V 4 j - fz_fine V z j)) nt + fz_sum (upd (V 12) z 0) nc
        rw [sum_upd hj, sum_upd hj, sum_upd hz]
        exact ia_fault _ _ _ _ _ _ _ _ hA
      · show (upd (V 11) z 3 c = 1 ∨ upd (V 12) z 0 c = 0) ∧ ((upd (V 11) z 3 c = 2 ∨ upd (V 11) z 3 c = 3) ↔ 0 ≤ upd (V 14) z (V 0 0) c) ∧ V 13 c ≤ V 0 0
        by_cases q : c = z
        · rw [q, pk_us, pk_us, pk_us]
          exact ⟨Or.inr rfl, ⟨fun _ => hw, fun _ => Or.inr rfl⟩, (hC z hz).2.2⟩
        · rw [pk_un q, pk_un q, pk_un q]
          exact hC c hc
    | false =>
      obtain ⟨rfl, rfl, rfl⟩ := wf_num h2.wf (a := nt) (b := nc) (d := nl) h.wf.1 h.wf.2.2.1 h.wf.2.2.2.2.2.2.1 (by have := h.wf.2.1; omega) (by have := h.wf.2.2.2.1; omega) (by have := h.wf.2.2.2.2.2.2.2.1; omega)
      refine ⟨Nat.le_refl _, ?_, hL, fun c hc => ?_⟩
      · show fz_sum (V 5) nt + fz_sum (V 6) nt = fz_sum (V 7) nt + fz_sum (upd (V 4) j (V 4 j + V 12 z)) nt + fz_sum (upd (V 12) z 0) nc
        rw [sum_upd hj, sum_upd hz]
        exact ia_back _ _ _ _ _ _ hA
      · show (upd (V 11) z 2 c = 1 ∨ upd (V 12) z 0 c = 0) ∧ ((upd (V 11) z 2 c = 2 ∨ upd (V 11) z 2 c = 3) ↔ 0 ≤ upd (V 14) z (V 0 0) c) ∧ V 13 c ≤ V 0 0
        by_cases q : c = z
        · rw [q, pk_us, pk_us, pk_us]
          exact ⟨Or.inr rfl, ⟨fun _ => hw, fun _ => Or.inl rfl⟩, (hC z hz).2.2⟩
        · rw [pk_un q, pk_un q, pk_un q]
          exact hC c hc
-- given up
theorem drop_or (h : fz_wf V nt nc nq nl wk) (x : Int32) : fz_drop V nc nq x = (-1, V) ∨ fz_drop V nc nq x = (-3, V) ∨ ∃ z j, z < nc ∧ j < nt ∧ V 9 z = nI j ∧ fz_open (V 11 z) = true ∧ fz_drop V nc nq x = fz_drop2 V nq z j := by
  unfold fz_drop
  by_cases c1 : fz_ix x (V 8 0) = true
  · obtain ⟨ex, hz⟩ := fz_ix_s c1 h.2.2.1 (by have := h.2.2.2.1; omega)
    obtain ⟨j, hj, ej⟩ := h.2.2.2.2.2.2.2.2.2.2.1 _ hz
    have ej' := fz_tnat ej (by have := h.2.1; omega)
    by_cases c2 : fz_open (V 11 x.toNatClampNeg) = true
    · exact Or.inr (Or.inr ⟨_, j, hz, hj, ej, c2, by rw [if_pos c1, if_pos c2, ej']⟩)
    · exact Or.inr (Or.inl (by rw [if_pos c1, if_neg c2]))
  · exact Or.inl (by rw [if_neg c1])
theorem open_01 {x : Int32} (h : fz_open x = true) : x = 0 ∨ x = 1 := by
  unfold fz_open at h
  simpa using h
theorem pO_drop (J : pJ V nt nc nq nl wk B) (hB : B < 2000000000) (x : Int32) : pO V nt nc nq nl wk B (fz_drop V nc nq x) := by
  obtain ⟨⟨N, h⟩, hb, hA, hL, hC⟩ := J
  refine (sim_drop (M := fun _ => N) h hb hB x).pO (fun ok nt' nc' nq' nl' wk' h2 h3 => ?_)
  rcases drop_or h.wf x with e | e | ⟨z, j, hz, hj, ej, ho, e⟩
  · rw [e] at ok
    exact absurd ok (not_ok (Or.inl rfl))
  · rw [e] at ok
    exact absurd ok (not_ok (Or.inr (Or.inr rfl)))
  · rw [e] at h2 ⊢
    obtain ⟨rfl, rfl, rfl⟩ := wf_num h2.wf (a := nt) (b := nc) (d := nl) h.wf.1 h.wf.2.2.1 h.wf.2.2.2.2.2.2.1 (by have := h.wf.2.1; omega) (by have := h.wf.2.2.2.1; omega) (by have := h.wf.2.2.2.2.2.2.2.1; omega)
    refine ⟨Nat.le_refl _, ?_, hL, fun c hc => ?_⟩
    · show fz_sum (V 5) nt + fz_sum (V 6) nt = fz_sum (V 7) nt + fz_sum (upd (V 4) j (V 4 j + V 12 z)) nt + fz_sum (upd (V 12) z 0) nc
      rw [sum_upd hj, sum_upd hz]
      exact ia_back _ _ _ _ _ _ hA
    · show (upd (V 11) z 4 c = 1 ∨ upd (V 12) z 0 c = 0) ∧ ((upd (V 11) z 4 c = 2 ∨ upd (V 11) z 4 c = 3) ↔ 0 ≤ V 14 c) ∧ V 13 c ≤ V 0 0
      by_cases q : c = z
      · rw [q, pk_us, pk_us]
        have g := (hC z hz).2
        refine ⟨Or.inr rfl, ⟨fun z9 => absurd z9 (by decide), fun z9 => ?_⟩, g.2⟩
        have g1 := g.1.mpr z9
        rcases open_01 ho with o | o <;> rw [o] at g1 <;> exact absurd g1 (by decide)
      · rw [pk_un q, pk_un q]
        exact hC c hc
-- lent
theorem lend_or (h : fz_wf V nt nc nq nl wk) (f g y w : Int32) : fz_lend V nt nl f g y w = (-1, V) ∨ fz_lend V nt nl f g y w = (-2, V) ∨ fz_lend V nt nl f g y w = (-3, V) ∨ ∃ i j, i < nt ∧ j < nt ∧ f = nI i ∧ g = nI j ∧ ¬ f = g ∧ ¬ w < V 0 0 ∧ nl < 12 ∧ fz_lend V nt nl f g y w = (nI nl, fz_lent V nl f g i j y w) := by
  unfold fz_lend
  by_cases c1 : fz_ix f (V 3 0) = true
  · by_cases c2 : fz_ix g (V 3 0) = true
    · obtain ⟨ef, hf⟩ := fz_ix_s c1 h.1 (by have := h.2.1; omega)
      obtain ⟨eg, hg⟩ := fz_ix_s c2 h.1 (by have := h.2.1; omega)
      rw [if_pos c1, if_pos c2]
      by_cases c3 : f = g
      · exact Or.inr (Or.inl (by rw [if_pos c3]))
      rw [if_neg c3]
      by_cases c4 : y < 1
      · exact Or.inr (Or.inl (by rw [if_pos c4]))
      rw [if_neg c4]
      by_cases c5 : 500 < y
      · exact Or.inr (Or.inl (by rw [if_pos c5]))
      rw [if_neg c5]
      by_cases c6 : w < 0
      · exact Or.inr (Or.inl (by rw [if_pos c6]))
      rw [if_neg c6]
      by_cases c7 : w ≤ 39
      · rw [if_pos c7]
        by_cases c8 : w < V 0 0
        · exact Or.inr (Or.inr (Or.inl (by rw [if_pos c8])))
        rw [if_neg c8]
        by_cases c9 : 12 ≤ nl
        · exact Or.inr (Or.inr (Or.inl (by rw [if_pos c9])))
        rw [if_neg c9]
        by_cases c10 : V 4 f.toNatClampNeg < y
        · exact Or.inr (Or.inr (Or.inl (by rw [if_pos c10])))
        rw [if_neg c10]
        by_cases c11 : fz_owes (V 19) (V 21) (V 22) (V 0 0) nl g = true
        · exact Or.inr (Or.inr (Or.inl (by rw [if_pos c11])))
        exact Or.inr (Or.inr (Or.inr ⟨_, _, hf, hg, ef, eg, c3, c8, by omega, by rw [if_neg c11]⟩))
      · exact Or.inr (Or.inl (by rw [if_neg c7]))
    · exact Or.inl (by rw [if_pos c1, if_neg c2])
  · exact Or.inl (by rw [if_neg c1])
theorem ia_lend (a b c d v y u : Int32) (h : a = b + c + d) : a = b + (c + (v - y - v) + (u + y - u)) + d := by grind
theorem sum_pay {f : Nat → Int32} {i j n : Nat} {y : Int32} (hi : i < n) (hj : j < n) : fz_sum (upd (upd f i (f i - y)) j (upd f i (f i - y) j + y)) n = fz_sum f n := by
  rw [sum_upd hj, sum_upd hi]
  grind
theorem pO_lend (J : pJ V nt nc nq nl wk B) (hB : B < 2000000000) (f g y w : Int32) : pO V nt nc nq nl wk B (fz_lend V nt nl f g y w) := by
  obtain ⟨⟨N, h⟩, hb, hA, hL, hC⟩ := J
  refine (sim_lend (M := fun _ => N) h hb hB f g y w).pO (fun ok nt' nc' nq' nl' wk' h2 h3 => ?_)
  rcases lend_or h.wf f g y w with e | e | e | ⟨i, j, hi, hj, ef, eg, hfg, hw, h12, e⟩
  · rw [e] at ok
    exact absurd ok (not_ok (Or.inl rfl))
  · rw [e] at ok
    exact absurd ok (not_ok (Or.inr (Or.inl rfl)))
  · rw [e] at ok
    exact absurd ok (not_ok (Or.inr (Or.inr rfl)))
  · rw [e] at h2 ⊢
    obtain ⟨rfl, rfl, rfl⟩ := wf_num h2.wf (a := nt) (b := nc) (d := nl + 1) h.wf.1 h.wf.2.2.1 rfl (by have := h.wf.2.1; omega) (by have := h.wf.2.2.2.1; omega) (by omega)
    refine ⟨Nat.le_refl _, ?_, fun k hk => ?_, hC⟩
    · show fz_sum (V 5) nt + fz_sum (V 6) nt = fz_sum (V 7) nt + fz_sum (upd (upd (V 4) i (V 4 i - y)) j (upd (V 4) i (V 4 i - y) j + y)) nt + fz_sum (V 12) nc
      rw [sum_pay hi hj]
      exact hA
    · show ¬ upd (V 18) nl f k = upd (V 19) nl g k ∧ upd (V 21) nl y k ≤ upd (V 20) nl y k ∧ upd (V 23) nl (V 0 0) k ≤ upd (V 22) nl w k
      by_cases q : k = nl
      · rw [q, pk_us, pk_us, pk_us, pk_us, pk_us, pk_us]
        exact ⟨hfg, Int32.le_refl _, Int32.not_lt.mp hw⟩
      · rw [pk_un q, pk_un q, pk_un q, pk_un q, pk_un q, pk_un q]
        exact hL k (by omega)
-- paid back
theorem repay_or (h : fz_wf V nt nc nq nl wk) (x y : Int32) : fz_repay V nl x y = (-1, V) ∨ fz_repay V nl x y = (-2, V) ∨ fz_repay V nl x y = (-3, V) ∨ ∃ z j g, z < nl ∧ j < nt ∧ g < nt ∧ V 19 z = nI j ∧ V 18 z = nI g ∧ ¬ y < 1 ∧ y ≤ 500 ∧ ¬ V 21 z < y ∧ fz_repay V nl x y = (V 21 z - y, fz_up (fz_up V 4 (upd (upd (V 4) j (V 4 j - y)) g (upd (V 4) j (V 4 j - y) g + y))) 21 (upd (V 21) z (V 21 z - y))) := by
  unfold fz_repay
  by_cases c1 : fz_ix x (V 17 0) = true
  · obtain ⟨ex, hz⟩ := fz_ix_s c1 h.2.2.2.2.2.2.1 (by have := h.2.2.2.2.2.2.2.1; omega)
    rw [if_pos c1]
    by_cases c2 : y < 1
    · exact Or.inr (Or.inl (by rw [if_pos c2]))
    rw [if_neg c2]
    by_cases c3 : y ≤ 500
    · rw [if_pos c3]
      by_cases c4 : V 21 x.toNatClampNeg < y
      · exact Or.inr (Or.inr (Or.inl (by rw [if_pos c4])))
      rw [if_neg c4]
      by_cases c5 : y ≤ V 4 (V 19 x.toNatClampNeg).toNatClampNeg
      · obtain ⟨g, hg, eg⟩ := h.2.2.2.2.2.2.2.2.2.2.2.2.1 _ hz
        obtain ⟨j, hj, ej⟩ := h.2.2.2.2.2.2.2.2.2.2.2.2.2 _ hz
        refine Or.inr (Or.inr (Or.inr ⟨_, j, g, hz, hj, hg, ej, eg, c2, c3, c4, ?_⟩))
        rw [if_pos c5, fz_pb_eq ej eg (by have := h.2.1; omega) (by have := h.2.1; omega)]
        show (upd (V 21) x.toNatClampNeg _ x.toNatClampNeg, _) = _
        rw [pk_us]
      · exact Or.inr (Or.inr (Or.inl (by rw [if_neg c5])))
    · exact Or.inr (Or.inl (by rw [if_neg c3]))
  · exact Or.inl (by rw [if_neg c1])
theorem sub_le_n {a b : Nat} {x : Int32} (hb : b ≤ a) (ha : a < 2 ^ 31) (h : nI a ≤ x) : nI a - nI b ≤ x := by
  have e : nI a - nI b = nI (a - b) := by
    have e1 : nI a = nI (a - b) + nI b := by rw [nI_add]; congr 1; omega
    rw [e1]
    exact Int32.add_sub_cancel _ _
  rw [e]
  exact Int32.le_trans ((nI_leI (by omega) ha).mpr (by omega)) h
theorem pO_repay (J : pJ V nt nc nq nl wk B) (hB : B < 2000000000) (x y : Int32) : pO V nt nc nq nl wk B (fz_repay V nl x y) := by
  obtain ⟨⟨N, h⟩, hb, hA, hL, hC⟩ := J
  refine (sim_repay (M := fun _ => N) h hb hB x y).pO (fun ok nt' nc' nq' nl' wk' h2 h3 => ?_)
  rcases repay_or h.wf x y with e | e | e | ⟨z, j, g, hz, hj, hg, ej, eg, hy1, hy5, hy, e⟩
  · rw [e] at ok
    exact absurd ok (not_ok (Or.inl rfl))
  · rw [e] at ok
    exact absurd ok (not_ok (Or.inr (Or.inl rfl)))
  · rw [e] at ok
    exact absurd ok (not_ok (Or.inr (Or.inr rfl)))
  · rw [e] at h2 ⊢
    obtain ⟨rfl, rfl, rfl⟩ := wf_num h2.wf (a := nt) (b := nc) (d := nl) h.wf.1 h.wf.2.2.1 h.wf.2.2.2.2.2.2.1 (by have := h.wf.2.1; omega) (by have := h.wf.2.2.2.1; omega) (by have := h.wf.2.2.2.2.2.2.2.1; omega)
    refine ⟨Nat.le_refl _, ?_, fun k hk => ?_, hC⟩
    · show fz_sum (V 5) nt + fz_sum (V 6) nt = fz_sum (V 7) nt + fz_sum (upd (upd (V 4) j (V 4 j - y)) g (upd (V 4) j (V 4 j - y) g + y)) nt + fz_sum (V 12) nc
      rw [sum_pay hj hg]
      exact hA
    · show ¬ V 18 k = V 19 k ∧ upd (V 21) z (V 21 z - y) k ≤ V 20 k ∧ V 23 k ≤ V 22 k
      refine ⟨(hL k hk).1, ?_, (hL k hk).2.2⟩
      by_cases q : k = z
      · rw [q, pk_us]
        obtain ⟨a, ha1, ha⟩ := hb.2.2 z hz
        obtain ⟨b, hb1, hb2, eb⟩ := amount hy1 hy5
        have hl := (hL z hz).2.1
        rw [ha] at hy hl ⊢
        rw [eb] at hy ⊢
        exact sub_le_n (Nat.le_of_not_lt fun q9 => hy (nI_lt q9 (by omega))) (by omega) hl
      · rw [pk_un q]
        exact (hL k hk).2.1
-- a week ends
theorem ea_sum (V : Nat → Nat → Int32) (nc wk nt : Nat) : ∀ k, k ≤ nt → fz_sum (fz_ea V nc wk k).2.1 nt = fz_sum (V 4) nt + (fz_ea V nc wk k).1 ∧ fz_sum (fz_ea V nc wk k).2.2 nt = fz_sum (V 6) nt + (fz_ea V nc wk k).1
  | 0, _ => ⟨(Int32.add_zero _).symm, (Int32.add_zero _).symm⟩
  | k + 1, hk => by
    obtain ⟨i1, i2⟩ := ea_sum V nc wk nt k (by omega)
    rw [fz_ea]
    cases fz_flt (V 9) (V 11) (V 14) nc (nI k) (nI wk) with
    | true => exact ⟨i1, i2⟩
    | false =>
      simp only [cond_false]
      rw [sum_upd (by omega), sum_upd (by omega), i1, i2]
      constructor <;> grind
theorem pb_sum {g b : Nat → Int32} {z j k nt : Nat} {x : Int32} {q : (Nat → Int32) × (Nat → Int32)} (ej : b z = nI j) (eg : g z = nI k) (hj : j < nt) (hk : k < nt) (hnt : nt ≤ 6) : fz_sum (fz_pb g b z x q).1 nt = fz_sum q.1 nt := by
  rw [fz_pb_eq ej eg (by omega) (by omega)]
  exact sum_pay hj hk
theorem c1_sum (h : fz_wf V nt nc nq nl wk) (d : Nat) (q : (Nat → Int32) × (Nat → Int32)) : ∀ k, k ≤ nl → fz_sum (fz_c1 (V 18) (V 19) (V 22) d q k).1 nt = fz_sum q.1 nt
  | 0, _ => rfl
  | k + 1, hk => by
    have ih := c1_sum h d q k (by omega)
    rw [fz_c1]
    by_cases c : V 22 k = nI d
    · rw [if_pos c]
      obtain ⟨g, hg, eg⟩ := h.2.2.2.2.2.2.2.2.2.2.2.2.1 k (by omega)
      obtain ⟨j, hj, ej⟩ := h.2.2.2.2.2.2.2.2.2.2.2.2.2 k (by omega)
      rw [pb_sum ej eg hj hg h.2.1]
      exact ih
    · rw [if_neg c]
      exact ih
theorem c2_sum (h : fz_wf V nt nc nq nl wk) (q : (Nat → Int32) × (Nat → Int32)) : ∀ d, fz_sum (fz_c2 (V 18) (V 19) (V 22) nl q d).1 nt = fz_sum q.1 nt
  | 0 => rfl
  | d + 1 => by
    rw [fz_c2, c1_sum h d _ nl (Nat.le_refl nl)]
    exact c2_sum h q d
theorem c1_le {M : Nat → Nat → Int32} (h : cR V (M 1) nt nc nq nl wk) {Z F6 : Nat → Int32} {q : (Nat → Int32) × (Nat → Int32)} {C d : Nat} (hC : C < 2147000000) (hp : pst (M 1) Z q.1 F6 q.2 nt nl C) : ∀ k, k ≤ nl → ∀ i, i < nl → (fz_c1 (V 18) (V 19) (V 22) d q k).2 i ≤ q.2 i
  | 0, _, i, _ => Int32.le_refl _
  | k + 1, hk, i, hi => by
    have ih := c1_le h hC hp (d := d) k (by omega) i hi
    have hpk := h.c1 hC hp (d := d) k (by omega)
    rw [fz_c1]
    by_cases c : V 22 k = nI d
    · rw [if_pos c]
      obtain ⟨g, hg, eg⟩ := h.wf.2.2.2.2.2.2.2.2.2.2.2.2.1 k (by omega)
      obtain ⟨j, hj, ej⟩ := h.wf.2.2.2.2.2.2.2.2.2.2.2.2.2 k (by omega)
      have hnt := h.wf.2.1
      rw [fz_pb_eq ej eg (by omega) (by omega)]
      obtain ⟨a, b, ha, hbb, hs⟩ := hpk.2.2.2.2.2
      have hsj := hs j hj
      have hbk := hbb k (by omega)
      show upd (fz_c1 (V 18) (V 19) (V 22) d q k).2 k _ i ≤ q.2 i
      by_cases e : i = k
      · rw [e] at ih ⊢
        rw [pk_us, ej, nI_clamp (by omega), ha j hj]
        rw [hbk.1] at ih ⊢
        rw [min_n (by omega) (by omega)]
        exact sub_le_n (Nat.min_le_left _ _) (by omega) ih
      · rw [pk_un e]
        exact ih
    · rw [if_neg c]
      exact ih
theorem c2_le {M : Nat → Nat → Int32} (h : cR V (M 1) nt nc nq nl wk) {Z F6 : Nat → Int32} {q : (Nat → Int32) × (Nat → Int32)} {C : Nat} (hC : C < 2147000000) (hp : pst (M 1) Z q.1 F6 q.2 nt nl C) : ∀ d, ∀ i, i < nl → (fz_c2 (V 18) (V 19) (V 22) nl q d).2 i ≤ q.2 i
  | 0, i, _ => Int32.le_refl _
  | d + 1, i, hi => Int32.le_trans (c1_le h hC (h.c2 hC hp d) nl (Nat.le_refl nl) i hi) (c2_le h hC hp d i hi)
theorem ia_week (a b c d k s : Int32) (h : a + b = c + d + k) : a + (b + s) = c + (d + s) + k := by grind
theorem pJ_close (J : pJ V nt nc nq nl wk B) (hB : B < 2000000000) (hw : wk < 39) : (∃ s, s ≤ 300 ∧ (fz_close V nt nc nl wk).1 = nI s) ∧ pJ (fz_close V nt nc nl wk).2 nt nc nq nl (wk + 1) (B + 6600) := by
  obtain ⟨⟨N, h⟩, hb, hA, hL, hC⟩ := J
  obtain ⟨-, h2, h3, h4⟩ := close_rel (M := fun _ => N) h hb hB hw
  refine ⟨h2, ⟨_, h3⟩, h4, ?_, fun i hi => ?_, fun c hc => ?_⟩
  · rw [fz_close, if_neg (by omega)]
    show fz_sum (V 5) nt + fz_sum (fz_ea V nc wk nt).2.2 nt = fz_sum (V 7) nt + fz_sum (fz_c2 (V 18) (V 19) (V 22) nl ((fz_ea V nc wk nt).2.1, V 21) (wk + 1)).1 nt + fz_sum (V 12) nc
    obtain ⟨i1, i2⟩ := ea_sum V nc wk nt nt (Nat.le_refl nt)
    rw [c2_sum h.wf]
    show fz_sum (V 5) nt + fz_sum (fz_ea V nc wk nt).2.2 nt = fz_sum (V 7) nt + fz_sum (fz_ea V nc wk nt).2.1 nt + fz_sum (V 12) nc
    rw [i1, i2]
    exact ia_week _ _ _ _ _ _ hA
  · rw [fz_close, if_neg (by omega)]
    obtain ⟨-, -, i3⟩ := cR.ea (M := fun _ => N) h hb hB nt (Nat.le_refl nt)
    have hnt := h.wf.2.1
    have hle := c2_le (M := fun _ => N) h (q := ((fz_ea V nc wk nt).2.1, V 21)) (by omega) i3 (wk + 1) i hi
    exact ⟨(hL i hi).1, Int32.le_trans hle (hL i hi).2.1, (hL i hi).2.2⟩
  · rw [fz_close, if_neg (by omega)]
    refine ⟨(hC c hc).1, (hC c hc).2.1, ?_⟩
    show V 13 c ≤ upd (V 0) 0 (nI (wk + 1)) 0
    rw [pk_us]
    have h13 := (hC c hc).2.2
    rw [h.wf.2.2.2.2.2.2.2.2.1] at h13
    exact Int32.le_trans h13 ((nI_leI (by omega) (by omega)).mpr (by omega))
theorem pO_close (J : pJ V nt nc nq nl wk B) (hB : B < 2000000000) : pO V nt nc nq nl wk B (fz_close V nt nc nl wk) := by
  by_cases c : wk < 39
  · obtain ⟨⟨s, hs, es⟩, h⟩ := pJ_close J hB c
    exact Or.inl ⟨by rw [es]; exact ok_n (by omega), nt, nc, nq, nl, wk + 1, Nat.le_refl nt, h⟩
  · exact Or.inr (by rw [fz_close, if_pos (by omega)]; exact ⟨rfl, Or.inr (Or.inr rfl)⟩)
end OPS
