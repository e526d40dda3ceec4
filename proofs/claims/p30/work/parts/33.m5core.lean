/-! the model: what holds of its state behind each change -/
def fm_wfx (N : Nat → Int32) : Prop := ∃ nt nc nl wk, fm_wf N nt nc nl wk
def fm_K (M : Nat → Nat → Int32) (Q : Int32 × (Nat → Nat → Int32)) : Prop := (∃ k : Nat, 1 ≤ k ∧ k ≤ 3 ∧ Q = (nI k, M)) ∨ ∃ (a : Int32) (N : Nat → Int32), Q = (0, fz_up (fz_up M 0 (upd (M 0) 3 a)) 1 N)
theorem fm_K1 {M : Nat → Nat → Int32} : fm_K M (1, M) := Or.inl ⟨1, by omega, by omega, rfl⟩
theorem fm_K2 {M : Nat → Nat → Int32} : fm_K M (2, M) := Or.inl ⟨2, by omega, by omega, rfl⟩
theorem fm_K3 {M : Nat → Nat → Int32} : fm_K M (3, M) := Or.inl ⟨3, by omega, by omega, rfl⟩
theorem fm_K0 {M : Nat → Nat → Int32} {a : Int32} {N : Nat → Int32} : fm_K M (0, fz_up (fz_up M 0 (upd (M 0) 3 a)) 1 N) := Or.inr ⟨a, N, rfl⟩
theorem fm_Kif {M : Nat → Nat → Int32} {c : Prop} [Decidable c] {x y : Int32 × (Nat → Nat → Int32)} (h1 : fm_K M x) (h2 : fm_K M y) : fm_K M (if c then x else y) := by
  split
  · exact h1
  · exact h2
theorem fm_K_team (M : Nat → Nat → Int32) (nt : Nat) (x : Int32) : fm_K M (fm_team M nt x) := fm_Kif (fm_Kif fm_K2 fm_K0) fm_K1
theorem fm_K_frees (M : Nat → Nat → Int32) (f g : Int32) (fr : Bool) : fm_K M (fm_frees M f g fr) := fm_Kif (fm_Kif (fm_Kif fm_K0 fm_K2) fm_K1) fm_K1
theorem fm_K_sets (M : Nat → Nat → Int32) (x y : Int32) : fm_K M (fm_sets M x y) := fm_Kif fm_K0 fm_K1
theorem fm_K_ends1 (M : Nat → Nat → Int32) (nt nc nl wk : Nat) : fm_K M (fm_ends1 M nt nc nl wk) := fm_Kif fm_K1 fm_K0
theorem fm_K_asks (M : Nat → Nat → Int32) (nc : Nat) (t x : Int32) : fm_K M (fm_asks M nc t x) := fm_Kif (fm_Kif (fm_Kif fm_K3 fm_K0) fm_K2) fm_K1
theorem fm_K_exm (M : Nat → Nat → Int32) (nl : Nat) (x : Int32) : fm_K M (fm_exm M nl x) := fm_Kif (fm_Kif fm_K0 fm_K2) fm_K1
theorem fm_K_give (M : Nat → Nat → Int32) (x : Int32) : fm_K M (fm_give M x) := fm_Kif (fm_Kif fm_K0 fm_K2) fm_K1
theorem fm_K_make2 (M : Nat → Nat → Int32) (z j : Nat) (fr : Bool) : fm_K M (fm_make2 M z j fr) := by
  cases fr
  · exact fm_K0
  · exact fm_K0
theorem fm_K_make (M : Nat → Nat → Int32) (wk : Nat) (x : Int32) (fr : Bool) : fm_K M (fm_make M wk x fr) := fm_Kif (fm_Kif fm_K2 (fm_Kif (fm_Kif fm_K2 (fm_K_make2 _ _ _ _)) (fm_K_make2 _ _ _ _))) fm_K1
theorem fm_K_lend (M : Nat → Nat → Int32) (nl : Nat) (f g y w : Int32) : fm_K M (fm_lend M nl f g y w) := fm_Kif (fm_Kif (fm_Kif fm_K2 (fm_Kif (fm_Kif (fm_Kif fm_K3 (fm_Kif fm_K3 (fm_Kif fm_K3 (fm_Kif fm_K3 fm_K0)))) fm_K2) fm_K2)) fm_K1) fm_K1
theorem fm_K_rep (M : Nat → Nat → Int32) (x y : Int32) : fm_K M (fm_rep M x y) := fm_Kif (fm_Kif (fm_Kif fm_K3 (fm_Kif fm_K0 fm_K3)) fm_K2) fm_K1
theorem fm_K.row {M : Nat → Nat → Int32} {Q : Int32 × (Nat → Nat → Int32)} (h : fm_K M Q) {r : Nat} (h0 : Nat.beq r 0 = false) (h1 : Nat.beq r 1 = false) : Q.2 r = M r := by
  rcases h with ⟨k, -, -, rfl⟩ | ⟨a, N, rfl⟩
  · rfl
  · show fz_up (fz_up M 0 _) 1 N r = M r
    rw [fz_up, h1, cond_false, fz_up, h0, cond_false]
theorem fm_K.sc {M : Nat → Nat → Int32} {Q : Int32 × (Nat → Nat → Int32)} (h : fm_K M Q) {i : Nat} (h3 : i ≠ 3) : Q.2 0 i = M 0 i := by
  rcases h with ⟨k, -, -, rfl⟩ | ⟨a, N, rfl⟩
  · rfl
  · show upd (M 0) 3 a i = M 0 i
    rw [pk_un h3]
/-- what the state's form stands on is the same -/
theorem fm_wf_of {N N' : Nat → Int32} {nt nc nl wk : Nat} (wf : fm_wf N nt nc nl wk) (h : ∀ p, (p < 4 ∨ (9 ≤ p ∧ p < 49) ∨ (67 ≤ p ∧ p < 277 ∧ (p - 67) % 7 = 0) ∨ (277 ≤ p ∧ (p - 277) % 6 < 2)) → N' p = N p) : fm_wf N' nt nc nl wk := by
  obtain ⟨hnt, hnt6, hnc, hnc30, hnl, hnl12, hwk, hwk39, hT, hG, hB, hZo⟩ := wf
  refine ⟨(h 1 (by omega)).trans hnt, hnt6, (h 2 (by omega)).trans hnc, hnc30, (h 3 (by omega)).trans hnl, hnl12, (h 0 (by omega)).trans hwk, hwk39, fun i hi => ?_, fun i hi => ?_, fun i hi => ?_, fun i hi => ?_⟩
  · obtain ⟨j, hj, e⟩ := hT i hi
    exact ⟨j, hj, (h _ (by omega)).trans e⟩
  · obtain ⟨j, hj, e⟩ := hG i hi
    exact ⟨j, hj, (h _ (by omega)).trans e⟩
  · obtain ⟨j, hj, e⟩ := hB i hi
    exact ⟨j, hj, (h _ (by omega)).trans e⟩
  · show N' (9 + i) = 0 ∨ N' (9 + i) = 1
    rw [h (9 + i) (by omega)]
    exact hZo i hi
theorem fm_wf_tm {N : Nat → Int32} {nt nc nl wk : Nat} {x : Int32} (wf : fm_wf N nt nc nl wk) (h6 : nt < 6) : fm_wf (fm_tm N nt x) (nt + 1) nc nl wk := by
  have h : ∀ p, p ≠ 1 → p ≠ 8 → p ≠ 49 + 3 * nt → p ≠ 49 + 3 * nt + 1 → p ≠ 49 + 3 * nt + 2 → fm_tm N nt x p = N p := fun p h1 h8 ha hb hc => by
    rw [fm_tm, pk_un h1, pk_un h8, pk_un hc, pk_un hb, pk_un ha]
  obtain ⟨hnt, hnt6, hnc, hnc30, hnl, hnl12, hwk, hwk39, hT, hG, hB, hZo⟩ := wf
  refine ⟨pk_us, by omega, (h 2 (by omega) (by omega) (by omega) (by omega) (by omega)).trans hnc, hnc30, (h 3 (by omega) (by omega) (by omega) (by omega) (by omega)).trans hnl, hnl12, (h 0 (by omega) (by omega) (by omega) (by omega) (by omega)).trans hwk, hwk39, fun i hi => ?_, fun i hi => ?_, fun i hi => ?_, fun i hi => ?_⟩
  · obtain ⟨j, hj, e⟩ := hT i hi
    exact ⟨j, by omega, (h _ (by omega) (by omega) (by omega) (by omega) (by omega)).trans e⟩
  · obtain ⟨j, hj, e⟩ := hG i hi
    exact ⟨j, by omega, (h _ (by omega) (by omega) (by omega) (by omega) (by omega)).trans e⟩
  · obtain ⟨j, hj, e⟩ := hB i hi
    exact ⟨j, by omega, (h _ (by omega) (by omega) (by omega) (by omega) (by omega)).trans e⟩
  · show fm_tm N nt x (9 + i) = 0 ∨ fm_tm N nt x (9 + i) = 1
    rw [h (9 + i) (by omega) (by omega) (by omega) (by omega) (by omega)]
    exact hZo i hi
theorem fm_wf_mkw {N : Nat → Int32} {nt nc nl wk i k : Nat} {fr : Bool} (wf : fm_wf N nt nc nl wk) (hk : k ≤ 40) : fm_wf (fm_mkw N i (fz_b fr) k) nt nc nl wk := by
  have h : ∀ p, p < 9 ∨ 49 ≤ p → fm_mkw N i (fz_b fr) k p = N p := fun p hp => by
    rw [fm_mkw, if_neg (by omega)]
  obtain ⟨hnt, hnt6, hnc, hnc30, hnl, hnl12, hwk, hwk39, hT, hG, hB, hZo⟩ := wf
  refine ⟨(h 1 (by omega)).trans hnt, hnt6, (h 2 (by omega)).trans hnc, hnc30, (h 3 (by omega)).trans hnl, hnl12, (h 0 (by omega)).trans hwk, hwk39, fun i hi => ?_, fun i hi => ?_, fun i hi => ?_, fm_mkw_zo hZo⟩
  · obtain ⟨j, hj, e⟩ := hT i hi
    exact ⟨j, hj, (h _ (by omega)).trans e⟩
  · obtain ⟨j, hj, e⟩ := hG i hi
    exact ⟨j, hj, (h _ (by omega)).trans e⟩
  · obtain ⟨j, hj, e⟩ := hB i hi
    exact ⟨j, hj, (h _ (by omega)).trans e⟩
theorem fm_ask_ne {N : Nat → Int32} {nc : Nat} {t x : Int32} {p : Nat} (h2 : p ≠ 2) (h : p < 67 + 7 * nc ∨ 74 + 7 * nc ≤ p) : fm_ask N nc t x p = N p := by
  rw [fm_ask, pk_un h2, fm_cs_ne (by omega), fm_cs_ne (by omega), fm_cs_ne (by omega), fm_cs_ne (by omega), fm_cs_ne (by omega), fm_cs_ne (by omega), fm_cs_ne (by omega)]
theorem fm_ask_t {N : Nat → Int32} {nc : Nat} {t x : Int32} : fm_c (fm_ask N nc t x) 0 nc = t := by
  show fm_ask N nc t x (67 + 7 * nc + 0) = t
  rw [fm_ask, pk_un (by omega), fm_cs_ne (by omega), fm_cs_ne (by omega), fm_cs_ne (by omega), fm_cs_ne (by omega), fm_cs_ne (by omega), fm_cs_ne (by omega)]
  exact pk_us
theorem fm_wf_ask {N : Nat → Int32} {nt nc nl wk j : Nat} {t x : Int32} (wf : fm_wf N nt nc nl wk) (h30 : nc < 30) (hj : j < nt) (ej : t = nI j) : fm_wf (fm_ask N nc t x) nt (nc + 1) nl wk := by
  have h : ∀ p, p ≠ 2 → (p < 67 + 7 * nc ∨ 74 + 7 * nc ≤ p) → fm_ask N nc t x p = N p := fun p h2 hp => fm_ask_ne h2 hp
  obtain ⟨hnt, hnt6, hnc, hnc30, hnl, hnl12, hwk, hwk39, hT, hG, hB, hZo⟩ := wf
  refine ⟨(h 1 (by omega) (by omega)).trans hnt, hnt6, pk_us, by omega, (h 3 (by omega) (by omega)).trans hnl, hnl12, (h 0 (by omega) (by omega)).trans hwk, hwk39, fun i hi => ?_, fun i hi => ?_, fun i hi => ?_, fun i hi => ?_⟩
  · by_cases hin : i = nc
    · subst hin
      exact ⟨j, hj, fm_ask_t.trans ej⟩
    · obtain ⟨q, hq, e⟩ := hT i (by omega)
      exact ⟨q, hq, (h _ (by omega) (by omega)).trans e⟩
  · obtain ⟨j, hj, e⟩ := hG i hi
    exact ⟨j, hj, (h _ (by omega) (by omega)).trans e⟩
  · obtain ⟨j, hj, e⟩ := hB i hi
    exact ⟨j, hj, (h _ (by omega) (by omega)).trans e⟩
  · show fm_ask N nc t x (9 + i) = 0 ∨ fm_ask N nc t x (9 + i) = 1
    rw [h (9 + i) (by omega) (by omega)]
    exact hZo i hi
theorem fm_lnt_ne {N : Nat → Int32} {nl i j : Nat} {f g y w : Int32} {p : Nat} (hi : i < 6) (hj : j < 6) (h3 : p ≠ 3) (h : p < 49 ∨ (67 ≤ p ∧ p < 277 + 6 * nl) ∨ 283 + 6 * nl ≤ p) : fm_lnt N nl f g i j y w p = N p := by
  rw [fm_lnt, pk_un h3, fm_ta_ne (by omega), fm_ta_ne (by omega), pk_un (by omega), pk_un (by omega), pk_un (by omega), pk_un (by omega), pk_un (by omega), pk_un (by omega)]
theorem fm_lnt_0 {N : Nat → Int32} {nl i j : Nat} {f g y w : Int32} (hi : i < 6) (hj : j < 6) : fm_l (fm_lnt N nl f g i j y w) 0 nl = f := by
  show fm_lnt N nl f g i j y w (277 + 6 * nl + 0) = f
  rw [fm_lnt, pk_un (by omega), fm_ta_ne (by omega), fm_ta_ne (by omega), pk_un (by omega), pk_un (by omega), pk_un (by omega), pk_un (by omega), pk_un (by omega)]
  exact pk_us
theorem fm_lnt_1 {N : Nat → Int32} {nl i j : Nat} {f g y w : Int32} (hi : i < 6) (hj : j < 6) : fm_l (fm_lnt N nl f g i j y w) 1 nl = g := by
  show fm_lnt N nl f g i j y w (277 + 6 * nl + 1) = g
  rw [fm_lnt, pk_un (by omega), fm_ta_ne (by omega), fm_ta_ne (by omega), pk_un (by omega), pk_un (by omega), pk_un (by omega), pk_un (by omega)]
  exact pk_us
theorem fm_wf_lnt {N : Nat → Int32} {nt nc nl wk i j : Nat} {f g y w : Int32} (wf : fm_wf N nt nc nl wk) (h12 : nl < 12) (hi : i < nt) (ei : f = nI i) (hj : j < nt) (ej : g = nI j) : fm_wf (fm_lnt N nl f g i j y w) nt nc (nl + 1) wk := by
  obtain ⟨hnt, hnt6, hnc, hnc30, hnl, hnl12, hwk, hwk39, hT, hG, hB, hZo⟩ := wf
  have h : ∀ p, p ≠ 3 → (p < 49 ∨ (67 ≤ p ∧ p < 277 + 6 * nl) ∨ 283 + 6 * nl ≤ p) → fm_lnt N nl f g i j y w p = N p := fun p h3 hp => fm_lnt_ne (by omega) (by omega) h3 hp
  refine ⟨(h 1 (by omega) (by omega)).trans hnt, hnt6, (h 2 (by omega) (by omega)).trans hnc, hnc30, pk_us, by omega, (h 0 (by omega) (by omega)).trans hwk, hwk39, fun k hk => ?_, fun k hk => ?_, fun k hk => ?_, fun k hk => ?_⟩
  · obtain ⟨q, hq, e⟩ := hT k hk
    exact ⟨q, hq, (h _ (by omega) (by omega)).trans e⟩
  · by_cases hin : k = nl
    · subst hin
      exact ⟨i, hi, (fm_lnt_0 (by omega) (by omega)).trans ei⟩
    · obtain ⟨q, hq, e⟩ := hG k (by omega)
      exact ⟨q, hq, (h _ (by omega) (by omega)).trans e⟩
  · by_cases hin : k = nl
    · subst hin
      exact ⟨j, hj, (fm_lnt_1 (by omega) (by omega)).trans ej⟩
    · obtain ⟨q, hq, e⟩ := hB k (by omega)
      exact ⟨q, hq, (h _ (by omega) (by omega)).trans e⟩
  · show fm_lnt N nl f g i j y w (9 + k) = 0 ∨ fm_lnt N nl f g i j y w (9 + k) = 1
    rw [h (9 + k) (by omega) (by omega)]
    exact hZo k hk
theorem fm_wf_exm {N : Nat → Int32} {nt nc nl wk z j : Nat} {a b e : Int32} (wf : fm_wf N nt nc nl wk) (hz : z < 30) (hj : j < 6) : fm_wf (fm_cs (fm_cs (fm_ta N 0 j a) 3 z b) 2 z e) nt nc nl wk :=
  fm_wf_of wf fun p hp => by rw [fm_cs_ne (by omega), fm_cs_ne (by omega), fm_ta_ne (by omega)]
theorem fm_wf_mk {N : Nat → Int32} {nt nc nl wk z : Nat} {en w s : Int32} (wf : fm_wf N nt nc nl wk) (hz : z < 30) : fm_wf (fm_mk N z en w s) nt nc nl wk :=
  fm_wf_of wf fun p hp => by rw [fm_mk, fm_cs_ne (by omega), fm_cs_ne (by omega), fm_cs_ne (by omega), fm_cs_ne (by omega)]
theorem fm_wf_ta {N : Nat → Int32} {nt nc nl wk w j : Nat} {x : Int32} (wf : fm_wf N nt nc nl wk) (hj : j < 6) (hw : w < 3) : fm_wf (fm_ta N w j x) nt nc nl wk :=
  fm_wf_of wf fun p hp => by rw [fm_ta_ne (by omega)]
theorem fm_wf_fr {N Z : Nat → Int32} {nt nc nl wk : Nat} (wf : fm_wf N nt nc nl wk) (h : fm_fr N Z) : fm_wf Z nt nc nl wk :=
  fm_wf_of wf fun p hp => h p (by omega)
-- the calls
theorem fm_W_team {M : Nat → Nat → Int32} {nt nc nl wk : Nat} (wf : fm_wf (M 1) nt nc nl wk) (x : Int32) : fm_wfx ((fm_team M nt x).2 1) := by
  rw [fm_team]
  split
  · split
    · exact ⟨_, _, _, _, wf⟩
    · exact ⟨_, _, _, _, fm_wf_tm wf (by have := wf.2.1; omega)⟩
  · exact ⟨_, _, _, _, wf⟩
theorem fm_W_frees {M : Nat → Nat → Int32} {nt nc nl wk : Nat} (wf : fm_wf (M 1) nt nc nl wk) (f g : Int32) (fr : Bool) : fm_wfx ((fm_frees M f g fr).2 1) := by
  rw [fm_frees]
  split
  · next h1 =>
    split
    · next h2 =>
      split
      · obtain ⟨i, j, hij, hj, ei, ej⟩ := fm_rng h1 h2
        have e := fz_tnat ej (by omega)
        exact ⟨_, _, _, _, fm_wf_mkw (i := f.toNatClampNeg) (k := g.toNatClampNeg + 1) wf (by omega)⟩
      · exact ⟨_, _, _, _, wf⟩
    · exact ⟨_, _, _, _, wf⟩
  · exact ⟨_, _, _, _, wf⟩
theorem fm_sok_4 {x y : Int32} (h : fm_sok x y = true) : ∃ j : Nat, j < 4 ∧ x = nI j := by
  rw [fm_sok] at h
  by_cases h0 : x = 0
  · exact ⟨0, by omega, h0⟩
  · rw [if_neg h0] at h
    by_cases h1 : x = 1
    · exact ⟨1, by omega, h1⟩
    · rw [if_neg h1] at h
      by_cases h2 : x = 2
      · exact ⟨2, by omega, h2⟩
      · rw [if_neg h2] at h
        by_cases h3 : x = 3
        · exact ⟨3, by omega, h3⟩
        · rw [if_neg h3] at h
          exact absurd h Bool.false_ne_true
theorem fm_W_sets {M : Nat → Nat → Int32} {nt nc nl wk : Nat} (wf : fm_wf (M 1) nt nc nl wk) (x y : Int32) : fm_wfx ((fm_sets M x y).2 1) := by
  rw [fm_sets]
  split
  · next h =>
    obtain ⟨j, hj, e⟩ := fm_sok_4 h
    have e := fz_tnat e (by omega)
    exact ⟨_, _, _, _, fm_wf_of (N' := upd (M 1) (4 + x.toNatClampNeg) y) wf fun p hp => pk_un (by omega)⟩
  · exact ⟨_, _, _, _, wf⟩
theorem fm_W_ends1 {M : Nat → Nat → Int32} {nt nc nl wk : Nat} (wf : fm_wf (M 1) nt nc nl wk) : fm_wfx ((fm_ends1 M nt nc nl wk).2 1) := by
  rw [fm_ends1]
  split
  · exact ⟨_, _, _, _, wf⟩
  · exact ⟨_, _, _, _, fm_week_wf wf (by have := wf.2.2.2.2.2.2.2.1; omega)⟩
theorem fm_W_asks {M : Nat → Nat → Int32} {nt nc nl wk : Nat} (wf : fm_wf (M 1) nt nc nl wk) (t x : Int32) : fm_wfx ((fm_asks M nc t x).2 1) := by
  rw [fm_asks]
  split
  · next h1 =>
    split
    · split
      · exact ⟨_, _, _, _, wf⟩
      · rw [wf.1] at h1
        have h6 := wf.2.1
        obtain ⟨j, hj, ej⟩ := fz_ix_t (by omega) h1
        exact ⟨_, _, _, _, fm_wf_ask wf (by have := wf.2.2.2.1; omega) hj ej⟩
    · exact ⟨_, _, _, _, wf⟩
  · exact ⟨_, _, _, _, wf⟩
theorem fm_zj {M : Nat → Nat → Int32} {nt nc nl wk : Nat} {x : Int32} (wf : fm_wf (M 1) nt nc nl wk) (h : fz_ix x (M 1 2) = true) : x.toNatClampNeg < 30 ∧ (fm_c (M 1) 0 x.toNatClampNeg).toNatClampNeg < 6 := by
  obtain ⟨hnt, hnt6, hnc, hnc30, hnl, hnl12, hwk, hwk39, hT, hG, hB, hZo⟩ := wf
  rw [hnc] at h
  obtain ⟨z, hz, ez⟩ := fz_ix_t (by omega) h
  rw [fz_tnat ez (by omega)]
  obtain ⟨j, hj, ej⟩ := hT z hz
  rw [fz_tnat ej (by omega)]
  omega
theorem fm_W_exm {M : Nat → Nat → Int32} {nt nc nl wk : Nat} (wf : fm_wf (M 1) nt nc nl wk) (x : Int32) : fm_wfx ((fm_exm M nl x).2 1) := by
  rw [fm_exm]
  split
  · next h1 =>
    obtain ⟨hz, hj⟩ := fm_zj wf h1
    split
    · exact ⟨_, _, _, _, fm_wf_exm wf hz hj⟩
    · exact ⟨_, _, _, _, wf⟩
  · exact ⟨_, _, _, _, wf⟩
theorem fm_W_give {M : Nat → Nat → Int32} {nt nc nl wk : Nat} (wf : fm_wf (M 1) nt nc nl wk) (x : Int32) : fm_wfx ((fm_give M x).2 1) := by
  rw [fm_give]
  split
  · next h1 =>
    obtain ⟨hz, hj⟩ := fm_zj wf h1
    split
    · exact ⟨_, _, _, _, fm_wf_exm wf hz hj⟩
    · exact ⟨_, _, _, _, wf⟩
  · exact ⟨_, _, _, _, wf⟩
theorem fm_W_make2 {M : Nat → Nat → Int32} {nt nc nl wk z j : Nat} (wf : fm_wf (M 1) nt nc nl wk) (hz : z < 30) (hj : j < 6) (fr : Bool) : fm_wfx ((fm_make2 M z j fr).2 1) := by
  cases fr
  · exact ⟨_, _, _, _, fm_wf_mk (fm_wf_ta wf hj (by omega)) hz⟩
  · exact ⟨_, _, _, _, fm_wf_mk (fm_wf_ta (fm_wf_ta wf hj (by omega)) hj (by omega)) hz⟩
theorem fm_W_make {M : Nat → Nat → Int32} {nt nc nl wk : Nat} (wf : fm_wf (M 1) nt nc nl wk) (x : Int32) (fr : Bool) : fm_wfx ((fm_make M wk x fr).2 1) := by
  rw [fm_make]
  split
  · next h1 =>
    obtain ⟨hz, hj⟩ := fm_zj wf h1
    split
    · exact ⟨_, _, _, _, wf⟩
    · split
      · split
        · exact ⟨_, _, _, _, wf⟩
        · exact fm_W_make2 wf hz hj fr
      · exact fm_W_make2 wf hz hj fr
  · exact ⟨_, _, _, _, wf⟩
theorem fm_W_lend {M : Nat → Nat → Int32} {nt nc nl wk : Nat} (wf : fm_wf (M 1) nt nc nl wk) (f g y w : Int32) : fm_wfx ((fm_lend M nl f g y w).2 1) := by
  have hz : fm_wfx (M 1) := ⟨_, _, _, _, wf⟩
  have h6 := wf.2.1
  have h12 := wf.2.2.2.2.2.1
  rw [fm_lend]
  by_cases h1 : fz_ix f (M 1 1) = true
  · rw [if_pos h1]
    by_cases h2 : fz_ix g (M 1 1) = true
    · rw [if_pos h2]
      rw [wf.1] at h1 h2
      obtain ⟨i, hi, ei⟩ := fz_ix_t (by omega) h1
      obtain ⟨j, hj, ej⟩ := fz_ix_t (by omega) h2
      split
      · exact hz
      split
      · split
        · split
          · exact hz
          split
          · exact hz
          split
          · exact hz
          split
          · exact hz
          · rw [fz_tnat ei (by omega), fz_tnat ej (by omega)]
            exact ⟨_, _, _, _, fm_wf_lnt wf (by omega) hi ei hj ej⟩
        · exact hz
      · exact hz
    · rw [if_neg h2]
      exact hz
  · rw [if_neg h1]
    exact hz
theorem fm_W_rep {M : Nat → Nat → Int32} {nt nc nl wk : Nat} (wf : fm_wf (M 1) nt nc nl wk) (x y : Int32) : fm_wfx ((fm_rep M x y).2 1) := by
  have hz : fm_wfx (M 1) := ⟨_, _, _, _, wf⟩
  have wf0 := wf
  obtain ⟨hnt, hnt6, hnc, hnc30, hnl, hnl12, hwk, hwk39, hT, hG, hB, hZo⟩ := wf
  rw [fm_rep]
  by_cases h1 : fz_ix x (M 1 3) = true
  · rw [if_pos h1]
    rw [hnl] at h1
    obtain ⟨z, h9, ez⟩ := fz_ix_t (by omega) h1
    obtain ⟨j, hj, ej⟩ := hB z h9
    obtain ⟨g, hg, eg⟩ := hG z h9
    rw [fz_tnat ez (by omega)]
    split
    · split
      · exact hz
      split
      · exact ⟨_, _, _, _, fm_wf_fr wf0 (fm_fr_pays ej eg (by omega) (by omega) (fm_fr_rfl _))⟩
      · exact hz
    · exact hz
  · rw [if_neg h1]
    exact hz
def fm_does (M : Nat → Nat → Int32) (nt nc nl wk : Nat) : Nat → Int32 × (Nat → Nat → Int32)
  | 0 => fm_team M nt (M 5 0)
  | 1 => fm_frees M (M 5 0) (M 5 1) true
  | 2 => fm_frees M (M 5 0) (M 5 1) false
  | 3 => fm_asks M nc (M 5 0) (M 5 1)
  | 4 => fm_exm M nl (M 5 0)
  | 5 => fm_make M wk (M 5 0) false
  | 6 => fm_make M wk (M 5 0) true
  | 7 => fm_give M (M 5 0)
  | 8 => fm_lend M nl (M 5 0) (M 5 1) (M 5 2) (M 5 3)
  | 9 => fm_rep M (M 5 0) (M 5 1)
  | 10 => fm_sets M (M 5 0) (M 5 1)
  | _ => fm_ends1 M nt nc nl wk
theorem fm_K_does (M : Nat → Nat → Int32) (nt nc nl wk : Nat) : ∀ w, fm_K M (fm_does M nt nc nl wk w)
  | 0 => fm_K_team _ _ _
  | 1 => fm_K_frees _ _ _ _
  | 2 => fm_K_frees _ _ _ _
  | 3 => fm_K_asks _ _ _ _
  | 4 => fm_K_exm _ _ _
  | 5 => fm_K_make _ _ _ _
  | 6 => fm_K_make _ _ _ _
  | 7 => fm_K_give _ _
  | 8 => fm_K_lend _ _ _ _ _ _
  | 9 => fm_K_rep _ _ _
  | 10 => fm_K_sets _ _ _
  | _ + 11 => fm_K_ends1 _ _ _ _ _
theorem fm_W_does {M : Nat → Nat → Int32} {nt nc nl wk : Nat} (wf : fm_wf (M 1) nt nc nl wk) : ∀ w, fm_wfx ((fm_does M nt nc nl wk w).2 1)
  | 0 => fm_W_team wf _
  | 1 => fm_W_frees wf _ _ _
  | 2 => fm_W_frees wf _ _ _
  | 3 => fm_W_asks wf _ _
  | 4 => fm_W_exm wf _
  | 5 => fm_W_make wf _ _
  | 6 => fm_W_make wf _ _
  | 7 => fm_W_give wf _
  | 8 => fm_W_lend wf _ _ _ _
  | 9 => fm_W_rep wf _ _
  | 10 => fm_W_sets wf _ _
  | _ + 11 => fm_W_ends1 wf
/-- the state is laid aside -/
def fm_as (M : Nat → Nat → Int32) : Nat → Nat → Int32 := fz_up M 3 (M 1)
