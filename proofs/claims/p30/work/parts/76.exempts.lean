/-! what becomes exempt, one after the other -/
theorem nI_sub_le {a b : Nat} (ha : a < 2 ^ 31) (hb : b < 2 ^ 31) : (0 : Int32) ≤ nI a - nI b ↔ b ≤ a := by
  rw [Int32.le_iff_toInt_le, Int32.toInt_sub, nI_toInt ha, nI_toInt hb]
  have h0 : (0 : Int32).toInt = 0 := rfl
  rw [h0, Int.bmod_eq_of_le (by omega) (by omega)]
  omega
theorem price_n : ∀ a, a < 10 → ∀ b, b < 21 → ∃ p, p ≤ 180 ∧ nI a * nI b = nI p := fun a ha b hb => by
  refine ⟨a * b, ?_, ?_⟩
  · exact Nat.le_trans (Nat.mul_le_mul (show a ≤ 9 by omega) (show b ≤ 20 by omega)) (by decide)
  · exact (Int32.ofNat_mul a b).symm
section EXS
variable {V : Nat → Nat → Int32} {nt nc nq nl wk B : Nat}
theorem pr_of (J : pJ V nt nc nq nl wk B) {c : Nat} (hc : c < nc) : ∃ p, p ≤ 180 ∧ V 10 c * V 1 0 = nI p := by
  obtain ⟨⟨N, h⟩, -⟩ := J
  obtain ⟨j, h1, h9, e⟩ := h.rk c hc
  obtain ⟨b, h2, h20, e2⟩ := h.price
  rw [e, e2]
  exact price_n j (by omega) b (by omega)
/-- no change stands twice in the queue -/
theorem q_apart (J : pJ V nt nc nq nl wk B) {i j : Nat} (hij : i < j) (hj : j < nq) : ¬ V 16 i = V 16 j := by
  have h30 := J.nc30
  obtain ⟨⟨N, h⟩, -⟩ := J
  obtain ⟨W, eW⟩ : ∃ W, W = cwl (V 10) (fun c => fz_open (V 11 c)) nc := ⟨_, rfl⟩
  have hl : nq = W.length := by rw [eW]; exact h.que.1
  have h1 : V 16 i = nI W[i] := by rw [h.que.2 i (by omega), ← eW, cw_get (by omega)]
  have h2 : V 16 j = nI W[j] := by rw [h.que.2 j (by omega), ← eW, cw_get (by omega)]
  have hpw := cwl_pw (rk := V 10) (op := fun c => fz_open (V 11 c)) (n := nc)
  rw [← eW] at hpw
  have hm : ∀ c ∈ W, c < nc := fun c hc => (cwl_mem (by rw [← eW]; exact hc : c ∈ cwl (V 10) (fun c => fz_open (V 11 c)) nc)).1
  obtain ⟨r, s, e1, e2, hs, hrs⟩ := List.pairwise_iff_getElem.mp hpw i j (by omega) (by omega) hij
  have m1 := hm _ (List.getElem_mem (show i < W.length by omega))
  have m2 := hm _ (List.getElem_mem (show j < W.length by omega))
  rw [h1, h2]
  intro z
  have e : W[i] = W[j] := (nI_eq (by omega) (by omega)).mp z
  rcases hrs with q | ⟨-, q⟩
  · rw [e] at e1
    have := (nI_eq (by omega) (by omega)).mp (e1.symm.trans e2)
    omega
  · omega
/-- how many could become exempt: n already, the k-th of the queue being next -/
def xg (V : Nat → Nat → Int32) (nl nq t k n : Nat) : Int32 := bif fz_owes (V 19) (V 21) (V 22) (V 0 0) nl (nI t) then nI n else fz_cx V (nI t) (nq - k) k (V 4 t) (nI n)
theorem xg_0 (t : Nat) : fz_xc V nl nq t = xg V nl nq t 0 0 := rfl
theorem xg_end {t k n : Nat} (hk : nq ≤ k) : xg V nl nq t k n = nI n := by
  rw [xg, show nq - k = 0 by omega, fz_cx]
  cases fz_owes (V 19) (V 21) (V 22) (V 0 0) nl (nI t) <;> rfl
theorem cx_step {t k n a : Nat} {fr : Int32} (hk : k < nq) (ea : V 16 k = nI a) (ha : a < 2 ^ 31) : fz_cx V (nI t) (nq - k) k fr (nI n) = if V 9 a = nI t then (if V 11 a = 0 then (if 0 ≤ fr - V 10 a * V 1 0 then fz_cx V (nI t) (nq - (k + 1)) (k + 1) (fr - V 10 a * V 1 0) (nI (n + 1)) else nI n) else fz_cx V (nI t) (nq - (k + 1)) (k + 1) fr (nI n)) else fz_cx V (nI t) (nq - (k + 1)) (k + 1) fr (nI n) := by
  obtain ⟨m, hm⟩ : ∃ m, nq - k = m + 1 := ⟨nq - k - 1, by omega⟩
  rw [hm, show nq - (k + 1) = m by omega, fz_cx, ea, nI_clamp ha, nI_1]
theorem xg_skip {t k n a : Nat} (hk : k < nq) (ea : V 16 k = nI a) (ha : a < 2 ^ 31) (h : ¬ V 9 a = nI t ∨ ¬ V 11 a = 0) : xg V nl nq t k n = xg V nl nq t (k + 1) n := by
  rw [xg, xg]
  cases fz_owes (V 19) (V 21) (V 22) (V 0 0) nl (nI t) with
  | true => rfl
  | false =>
    show fz_cx V (nI t) (nq - k) k (V 4 t) (nI n) = fz_cx V (nI t) (nq - (k + 1)) (k + 1) (V 4 t) (nI n)
    rw [cx_step hk ea ha]
    by_cases c1 : V 9 a = nI t
    · rw [if_pos c1]
      rcases h with q | q
      · exact absurd c1 q
      · rw [if_neg q]
    · rw [if_neg c1]
theorem why_0 {a t : Nat} (ht : t < 2 ^ 31) (e9 : V 9 a = nI t) (h : fz_reason V nl a = 0) : V 11 a = 0 ∧ fz_owes (V 19) (V 21) (V 22) (V 0 0) nl (nI t) = false ∧ V 10 a * V 1 0 ≤ V 4 t := by
  rw [fz_reason, e9, nI_clamp ht] at h
  by_cases c1 : V 11 a = 0
  · rw [if_pos c1] at h
    cases c2 : fz_owes (V 19) (V 21) (V 22) (V 0 0) nl (nI t) with
    | true =>
      rw [c2, if_pos rfl] at h
      exact absurd h (by decide)
    | false =>
      rw [c2, if_neg (by decide)] at h
      by_cases c3 : V 10 a * V 1 0 ≤ V 4 t
      · exact ⟨c1, rfl, c3⟩
      · rw [if_neg c3] at h
        exact absurd h (by decide)
  · rw [if_neg c1] at h
    exact absurd h (by decide)
theorem why_n {a t : Nat} (ht : t < 2 ^ 31) (e9 : V 9 a = nI t) (e11 : V 11 a = 0) (h : ¬ fz_reason V nl a = 0) : (fz_reason V nl a = 2 ∨ fz_reason V nl a = 3) ∧ (fz_owes (V 19) (V 21) (V 22) (V 0 0) nl (nI t) = true ∨ ¬ V 10 a * V 1 0 ≤ V 4 t) := by
  rw [fz_reason, e9, nI_clamp ht, if_pos e11] at h ⊢
  cases c2 : fz_owes (V 19) (V 21) (V 22) (V 0 0) nl (nI t) with
  | true =>
    rw [if_pos rfl]
    exact ⟨Or.inl rfl, Or.inl rfl⟩
  | false =>
    rw [c2, if_neg (by decide)] at h
    rw [if_neg (by decide)]
    by_cases c3 : V 10 a * V 1 0 ≤ V 4 t
    · rw [if_pos c3] at h
      exact absurd rfl h
    · rw [if_neg c3]
      exact ⟨Or.inr rfl, Or.inr c3⟩
/-- refused: none of the rest -/
theorem xg_stop (J : pJ V nt nc nq nl wk B) (hB : B < 2000000000) {t k n a : Nat} (ht : t < nt) (hk : k < nq) (ha : a < nc) (ea : V 16 k = nI a) (e9 : V 9 a = nI t) (e11 : V 11 a = 0) (h : ¬ fz_reason V nl a = 0) : xg V nl nq t k n = nI n := by
  have h6 := J.nt6
  have h30 := J.nc30
  rw [xg]
  rcases (why_n (by omega) e9 e11 h).2 with q | q
  · rw [q]
    rfl
  · cases fz_owes (V 19) (V 21) (V 22) (V 0 0) nl (nI t) with
    | true => rfl
    | false =>
      show fz_cx V (nI t) (nq - k) k (V 4 t) (nI n) = nI n
      obtain ⟨p, hp, ep⟩ := pr_of J ha
      obtain ⟨b, hb, eb⟩ := J.free t ht
      rw [ep, eb] at q
      rw [cx_step hk ea (by omega), if_pos e9, if_pos e11, ep, eb, if_neg]
      exact fun z => q ((nI_leI (by omega) (by omega)).mpr ((nI_sub_le (by omega) (by omega)).mp z))
theorem cx_cong {V' : Nat → Nat → Int32} {t : Int32} (h9 : V' 9 = V 9) (h10 : V' 10 = V 10) (h1 : V' 1 = V 1) (h16 : V' 16 = V 16) : ∀ m k fr u, (∀ i, k ≤ i → i < k + m → V' 11 (V 16 i).toNatClampNeg = V 11 (V 16 i).toNatClampNeg) → fz_cx V' t m k fr u = fz_cx V t m k fr u
  | 0, _, _, _, _ => rfl
  | m + 1, k, fr, u, h => by
    have ih := fun fr u => cx_cong (V' := V') (t := t) h9 h10 h1 h16 m (k + 1) fr u (fun i a b => h i (by omega) (by omega))
    rw [fz_cx, fz_cx, h16, h9, h10, h1, h k (Nat.le_refl k) (by omega), ih, ih]
theorem ex_eq (J : pJ V nt nc nq nl wk B) {t a : Nat} (ht : t < nt) (ha : a < nc) (e9 : V 9 a = nI t) (h : fz_reason V nl a = 0) : fz_exempt V nc nl (nI a) = fz_exempt2 V a t := by
  have h6 := J.nt6
  have h30 := J.nc30
  rw [fz_exempt, J.e8, if_pos (fz_ix_n (by omega) ha), nI_clamp (by omega), if_pos h, e9, nI_clamp (by omega)]
/-- done: one more -/
theorem xg_done (J : pJ V nt nc nq nl wk B) (hB : B < 2000000000) {t k n a : Nat} (ht : t < nt) (hk : k < nq) (ha : a < nc) (ea : V 16 k = nI a) (e9 : V 9 a = nI t) (h : fz_reason V nl a = 0) : xg V nl nq t k n = xg (fz_exempt2 V a t).2 nl nq t (k + 1) (n + 1) := by
  have h6 := J.nt6
  have h30 := J.nc30
  have hqc := J.nqc
  obtain ⟨w1, w2, w3⟩ := why_0 (by omega) e9 h
  have hov : fz_owes ((fz_exempt2 V a t).2 19) ((fz_exempt2 V a t).2 21) ((fz_exempt2 V a t).2 22) ((fz_exempt2 V a t).2 0 0) nl (nI t) = false := w2
  rw [xg, xg, hov, w2]
  show fz_cx V (nI t) (nq - k) k (V 4 t) (nI n) = fz_cx (fz_exempt2 V a t).2 (nI t) (nq - (k + 1)) (k + 1) (upd (V 4) t (V 4 t - V 10 a * V 1 0) t) (nI (n + 1))
  obtain ⟨p, hp, ep⟩ := pr_of J ha
  obtain ⟨b, hb, eb⟩ := J.free t ht
  have hge : 0 ≤ V 4 t - V 10 a * V 1 0 := by
    rw [ep, eb] at w3 ⊢
    exact (nI_sub_le (by omega) (by omega)).mpr ((nI_leI (by omega) (by omega)).mp w3)
  rw [cx_step hk ea (by omega), if_pos e9, if_pos w1, if_pos hge, pk_us]
  refine (cx_cong (V := V) (V' := (fz_exempt2 V a t).2) rfl rfl rfl rfl _ _ _ _ (fun i h1 h2 => ?_)).symm
  show upd (V 11) a 1 (V 16 i).toNatClampNeg = V 11 (V 16 i).toNatClampNeg
  refine pk_un (fun z => ?_)
  obtain ⟨c, hc, ec, -⟩ := sd_at J (k := i) (by omega)
  rw [ec, nI_clamp (by omega)] at z
  refine q_apart J (i := k) (j := i) (by omega) (by omega) ?_
  rw [ea, ec, z]
/-- the state behind -/
theorem ex_J (J : pJ V nt nc nq nl wk B) (hB : B < 2000000000) {t a : Nat} (ht : t < nt) (ha : a < nc) (e9 : V 9 a = nI t) (h : fz_reason V nl a = 0) : pJ (fz_exempt2 V a t).2 nt nc nq nl wk (B + 6600) := by
  have h30 := J.nc30
  have e := ex_eq J ht ha e9 h
  have q := pO_exempt J hB (nI a)
  rw [e] at q
  rcases q with ⟨-, nt', nc', nq', nl', wk', -, J'⟩ | ⟨-, q⟩
  · obtain ⟨a1, a2, a3, a4, a5, a6, a7, a8, a9, a10, -⟩ := J.wf
    obtain ⟨b1, b2, b3, b4, b5, b6, b7, b8, b9, b10, -⟩ := J'.wf
    have f1 := n_uni (show V 3 0 = nI nt' from b1) a1 (by omega) (by omega)
    have f2 := n_uni (show V 8 0 = nI nc' from b3) a3 (by omega) (by omega)
    have f3 := n_uni (show V 8 1 = nI nq' from b5) a5 (by omega) (by omega)
    have f4 := n_uni (show V 17 0 = nI nl' from b7) a7 (by omega) (by omega)
    have f5 := n_uni (show V 0 0 = nI wk' from b9) a9 (by omega) (by omega)
    rw [f1, f2, f3, f4, f5] at J'
    exact J'
  · obtain ⟨p, hp, ep⟩ := pr_of J ha
    rw [show (fz_exempt2 V a t).1 = nI p from ep] at q
    rcases q with q | q | q <;> exact absurd (nI_pos (n := p) (by omega)) (by rw [q]; decide)
end EXS
