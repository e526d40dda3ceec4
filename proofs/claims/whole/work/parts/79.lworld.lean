/-! the law's world, block by block -/
def fz_cat (f : Nat → va_W) : List Nat → va_W
  | [] => []
  | i :: L => f i ++ fz_cat f L
theorem fz_cat_P (f : Nat → va_W) {L L' : List Nat} (h : L.Perm L') : (fz_cat f L).Perm (fz_cat f L') := by
  induction h with
  | nil => exact List.Perm.refl _
  | cons i _ ih => exact List.Perm.append_left _ ih
  | swap i j L => exact fz_swapP
  | trans _ _ h1 h2 => exact h1.trans h2
theorem fz_cat_in (f : Nat → va_W) {L : List Nat} {i : Nat} {q : Nat × va_E} (hi : i ∈ L) (hq : q ∈ f i) : q ∈ fz_cat f L := by
  induction L with
  | nil => exact absurd hi List.not_mem_nil
  | cons j L ih =>
    rcases List.mem_cons.mp hi with rfl | h
    · exact List.mem_append_left _ hq
    · exact List.mem_append_right _ (ih h)
abbrev lwB (cy : Nat → ClassId) (o : Nat) (f a t h x b ad : Nat → Nat) (r : Nat → Int64) (sl : Nat → Nat → Nat) (g : Nat → Option Nat) (cn : Nat) (V T X : Nat → Nat → Int32) (vb : Option Nat) (S : Nat → Nat → Nat → Int32) (M : Nat → Nat → Int32) (hh : Int64) : Nat → va_W
  | 0 => OW cy o r
  | 1 => FW f a t h x
  | 2 => HW cy h g (nI cn)
  | 3 => CW cy a V
  | 4 => CW cy t T
  | 5 => XW cy ad x X vb
  | 6 => MW cy b M hh
  | k + 7 => CW cy (sl k) (S k)
def lwW (cy : Nat → ClassId) (o : Nat) (f a t h x b ad : Nat → Nat) (r : Nat → Int64) (sl : Nat → Nat → Nat) (g : Nat → Option Nat) (cn : Nat) (V T X : Nat → Nat → Int32) (vb : Option Nat) (S : Nat → Nat → Nat → Int32) (M : Nat → Nat → Int32) (hh : Int64) : va_W := fz_cat (lwB cy o f a t h x b ad r sl g cn V T X vb S M hh) [0, 1, 2, 3, 4, 5, 6, 7, 8, 9, 10, 11]
def fz_rest : Nat → List Nat
  | 0 => [4, 5, 6, 8, 9, 10, 11]
  | 1 => [4, 5, 6, 7, 9, 10, 11]
  | 2 => [4, 5, 6, 7, 8, 10, 11]
  | 3 => [4, 5, 6, 7, 8, 9, 11]
  | _ => [4, 5, 6, 7, 8, 9, 10]
theorem fz_rest_P : ∀ cn, cn < 5 → ([0, 1, 2, 3, 4, 5, 6, 7, 8, 9, 10, 11] : List Nat).Perm (0 :: 1 :: 2 :: 3 :: (cn + 7) :: fz_rest cn) := by decide
theorem fz_rest_R : ∀ cn, cn < 5 → ([0, 1, 2, 3, 4, 5, 6, 7, 8, 9, 10, 11] : List Nat).Perm (1 :: 5 :: 2 :: 3 :: (cn + 7) :: 0 :: (fz_rest cn).filter (fun i => !(i == 5))) := by decide
theorem fz_rest_in : ∀ cn, cn < 5 → ∀ k, k < 5 → (k + 7) ∈ (cn + 7) :: fz_rest cn := by decide
/-- the slots' addresses behind keep -/
def hs_sl (sl : Nat → Nat → Nat) (cn : Nat) : Nat → Nat → Nat := if cn < 4 then sl else fun k => if k < 4 then sl (k + 1) else sl 0
/-- slot n holds V -/
def hs_p (S : Nat → Nat → Nat → Int32) (V : Nat → Nat → Int32) (n : Nat) : Nat → Nat → Nat → Int32 := fun k => if k = n then V else S k
section LWS
variable {cy : Nat → ClassId} {o : Nat} {f a t h x b ad : Nat → Nat} {r r' : Nat → Int64} {sl : Nat → Nat → Nat} {g : Nat → Option Nat} {cn : Nat} {V V' T X : Nat → Nat → Int32} {vb : Option Nat} {S : Nat → Nat → Nat → Int32} {M : Nat → Nat → Int32} {hh : Int64}
theorem lwW_old (hc : cn < 5) : (lwW cy o f a t h x b ad r sl g cn V T X vb S M hh).Perm (OW cy o r ++ (FW f a t h x ++ (HW cy h g (nI cn) ++ (CW cy a V ++ (CW cy (sl cn) (S cn) ++ fz_cat (lwB cy o f a t h x b ad r sl g cn V T X vb S M hh) (fz_rest cn)))))) :=
  fz_cat_P (lwB cy o f a t h x b ad r sl g cn V T X vb S M hh) (fz_rest_P cn hc)
/-- refused: slot cn holds the state -/
theorem lwW_no (hc : cn < 5) : (OW cy o r' ++ (FW f a t h x ++ (HW cy h g (nI cn) ++ (CW cy a V' ++ (CW cy (sl cn) V ++ fz_cat (lwB cy o f a t h x b ad r sl g cn V T X vb S M hh) (fz_rest cn)))))).Perm (lwW cy o f a t h x b ad r' sl g cn V' T X vb (hs_p S V cn) M hh) := by
  match cn, hc with
  | 0, _ => exact fz_cat_P (lwB cy o f a t h x b ad r' sl g 0 V' T X vb (hs_p S V 0) M hh) (L := [0, 1, 2, 3, 7, 4, 5, 6, 8, 9, 10, 11]) (by decide)
  | 1, _ => exact fz_cat_P (lwB cy o f a t h x b ad r' sl g 1 V' T X vb (hs_p S V 1) M hh) (L := [0, 1, 2, 3, 8, 4, 5, 6, 7, 9, 10, 11]) (by decide)
  | 2, _ => exact fz_cat_P (lwB cy o f a t h x b ad r' sl g 2 V' T X vb (hs_p S V 2) M hh) (L := [0, 1, 2, 3, 9, 4, 5, 6, 7, 8, 10, 11]) (by decide)
  | 3, _ => exact fz_cat_P (lwB cy o f a t h x b ad r' sl g 3 V' T X vb (hs_p S V 3) M hh) (L := [0, 1, 2, 3, 10, 4, 5, 6, 7, 8, 9, 11]) (by decide)
  | 4, _ => exact fz_cat_P (lwB cy o f a t h x b ad r' sl g 4 V' T X vb (hs_p S V 4) M hh) (L := [0, 1, 2, 3, 11, 4, 5, 6, 7, 8, 9, 10]) (by decide)
/-- done: the state that was is kept -/
theorem lwW_new (hc : cn < 5) : (OW cy o r' ++ (FW f a t h x ++ (HW cy h (hs_g g cn) (nI (hs_n cn)) ++ (CW cy a V' ++ (CW cy (sl cn) V ++ fz_cat (lwB cy o f a t h x b ad r sl g cn V T X vb S M hh) (fz_rest cn)))))).Perm (lwW cy o f a t h x b ad r' (hs_sl sl cn) (hs_g g cn) (hs_n cn) V' T X vb (hs_S S V cn) M hh) := by
  match cn, hc with
  | 0, _ => exact fz_cat_P (lwB cy o f a t h x b ad r' (hs_sl sl 0) (hs_g g 0) (hs_n 0) V' T X vb (hs_S S V 0) M hh) (L := [0, 1, 2, 3, 7, 4, 5, 6, 8, 9, 10, 11]) (by decide)
  | 1, _ => exact fz_cat_P (lwB cy o f a t h x b ad r' (hs_sl sl 1) (hs_g g 1) (hs_n 1) V' T X vb (hs_S S V 1) M hh) (L := [0, 1, 2, 3, 8, 4, 5, 6, 7, 9, 10, 11]) (by decide)
  | 2, _ => exact fz_cat_P (lwB cy o f a t h x b ad r' (hs_sl sl 2) (hs_g g 2) (hs_n 2) V' T X vb (hs_S S V 2) M hh) (L := [0, 1, 2, 3, 9, 4, 5, 6, 7, 8, 10, 11]) (by decide)
  | 3, _ => exact fz_cat_P (lwB cy o f a t h x b ad r' (hs_sl sl 3) (hs_g g 3) (hs_n 3) V' T X vb (hs_S S V 3) M hh) (L := [0, 1, 2, 3, 10, 4, 5, 6, 7, 8, 9, 11]) (by decide)
  | 4, _ => exact fz_cat_P (lwB cy o f a t h x b ad r' (hs_sl sl 4) (hs_g g 4) (hs_n 4) V' T X vb (hs_S S V 4) M hh) (L := [0, 1, 2, 3, 10, 4, 5, 6, 11, 7, 8, 9]) (by decide)
theorem lwW_hh (hc : cn < 5) (hg : ∀ k, k < 5 → g k = some (sl k 0)) : ∀ k, k < 5 → ∃ y, g k = some y ∧ fz_hd (CW cy (sl cn) (S cn) ++ fz_cat (lwB cy o f a t h x b ad r sl g cn V T X vb S M hh) (fz_rest cn)) y := fun k hk =>
  ⟨sl k 0, hg k hk, _, fz_cat_in (lwB cy o f a t h x b ad r sl g cn V T X vb S M hh) (L := (cn + 7) :: fz_rest cn) (i := k + 7) (fz_rest_in cn hc k hk) (show (sl k 0, _) ∈ CW cy (sl k) (S k) from List.mem_cons_self)⟩
theorem hs_gsl (hc : cn < 5) (hg : ∀ k, k < 5 → g k = some (sl k 0)) : ∀ k, k < 5 → hs_g g cn k = some (hs_sl sl cn k 0) := fun k hk => by
  unfold hs_g hs_sl
  by_cases c : cn < 4
  · rw [if_pos c, if_pos c]
    exact hg k hk
  · rw [if_neg c, if_neg c]
    by_cases d : k < 4
    · rw [if_pos d, if_pos d]
      exact hg (k + 1) (by omega)
    · rw [if_neg d, if_neg d]
      exact hg 0 (by omega)
end LWS
/-! what holds between two calls of the law -/
def lR (B : Nat) (V X M : Nat → Nat → Int32) (S : Nat → Nat → Nat → Int32) (g : Nat → Option Nat) (sl : Nat → Nat → Nat) (cn : Nat) : Prop := cRx V (M 1) B ∧ hR S (M 2) cn B ∧ M 0 0 = nI cn ∧ (∃ ln, ln ≤ 150 ∧ X 0 0 = nI ln ∧ M 0 1 = nI ln) ∧ X 2 = M 4 ∧ ∀ k, k < 5 → g k = some (sl k 0)
theorem hR.mono {S : Nat → Nat → Nat → Int32} {K : Nat → Int32} {n B C : Nat} (h : hR S K n B) (hC : B ≤ C) : hR S K n C := ⟨h.1, fun k hk => (h.2 k hk).mono hC⟩
theorem hR.congS {S S' : Nat → Nat → Nat → Int32} {K : Nat → Int32} {n B : Nat} (h : hR S K n B) (e : ∀ k, k < n → S' k = S k) : hR S' K n B := ⟨h.1, fun k hk => by rw [e k hk]; exact h.2 k hk⟩
theorem hs_p_lt {S : Nat → Nat → Nat → Int32} {V : Nat → Nat → Int32} {n : Nat} : ∀ k, k < n → hs_p S V n k = S k := fun k hk => by rw [hs_p, if_neg (by omega)]
theorem fz_okn {y : Int32} (h : y = -1 ∨ y = -2 ∨ y = -3) : fz_ok y = false := by
  rcases h with rfl | rfl | rfl <;> decide
section LRS
variable {B : Nat} {V X M : Nat → Nat → Int32} {S : Nat → Nat → Nat → Int32} {g : Nat → Option Nat} {sl : Nat → Nat → Nat} {cn : Nat}
/-- the model's code and answer alone differ -/
theorem lR.code (R : lR B V X M S g sl cn) {C : Nat} (hC : B ≤ C) {k : Int32} : lR C V X (fz_up M 0 (upd (M 0) 2 k)) S g sl cn := by
  obtain ⟨h1, h2, h3, ⟨ln, h4, h5, h6⟩, h7, h8⟩ := R
  exact ⟨h1.mono hC, h2.mono hC, h3, ⟨ln, h4, h5, h6⟩, h7, h8⟩
/-- an undoable call, on either side -/
theorem lR_und {k1 k2 k3 : Int32} {P Q : Int32 × (Nat → Nat → Int32)} (R : lR B V X M S g sl cn) (s : sim V (fm_as M) B k1 k2 k3 P Q) (K : fm_K (fm_as M) Q) (n1 : ¬ k1 = 0) (n2 : ¬ k2 = 0) (n3 : ¬ k3 = 0) :
    (fz_ok P.1 = true ∧ lR (B + 6600) P.2 X (fm_ends Q.2 cn Q.1).2 (hs_S S V cn) (hs_g g cn) (hs_sl sl cn) (hs_n cn) ∧ (fm_ends Q.2 cn Q.1).2 0 2 = 0 ∧ (fm_ends Q.2 cn Q.1).1 = P.1) ∨
    (P.2 = V ∧ fz_ok P.1 = false ∧ lR (B + 6600) V X (fm_ends Q.2 cn Q.1).2 (hs_p S V cn) g sl cn ∧ (fm_ends Q.2 cn Q.1).2 0 2 = Q.1 ∧ ¬ Q.1 = 0 ∧ ((fz_en P.1 = xIO ∧ Q.1 = k1 ∧ ¬ k1 = 9) ∨ (fz_en P.1 = xIA ∧ Q.1 = k2 ∧ ¬ k2 = 9) ∨ (fz_en P.1 = xIS ∧ Q.1 = k3 ∧ ¬ k3 = 9))) := by
  obtain ⟨h1, h2, h3, ⟨ln, h4, h5, h6⟩, h7, h8⟩ := R
  have hn : cn ≤ 4 := h2.1
  rcases s with ⟨q0, ok, q3, hr⟩ | ⟨pv, qm, hc⟩
  · left
    obtain ⟨nt, nc, nq, nl, wk, c, cb⟩ := hr
    have e : fm_ends Q.2 cn Q.1 = (Q.2 0 3, fz_up (fz_up Q.2 0 (upd (upd (Q.2 0) 0 (nI (fm_ns cn))) 2 0)) 2 (fm_sv (Q.2 2) (Q.2 3) cn)) := by rw [fm_ends, if_pos (by rw [q0]; decide)]
    have r2 : Q.2 2 = M 2 := K.row rfl rfl
    have r3 : Q.2 3 = M 1 := K.row rfl rfl
    have r4 : Q.2 4 = M 4 := K.row rfl rfl
    rw [e]
    refine ⟨ok.1, ⟨⟨nt, nc, nq, nl, wk, c, cb⟩, ?_, ?_, ⟨ln, h4, h5, ?_⟩, ?_, hs_gsl (by omega) h8⟩, rfl, q3⟩
    · show hR (hs_S S V cn) (fm_sv (Q.2 2) (Q.2 3) cn) (hs_n cn) (B + 6600)
      rw [r2, r3]
      exact (hR_keep h2 h1).mono (by omega)
    · show nI (fm_ns cn) = nI (hs_n cn)
      rw [hs_ns hn]
    · show Q.2 0 1 = nI ln
      exact (K.sc (by decide)).trans h6
    · exact h7.trans r4.symm
  · right
    have hq : ∃ k : Nat, 1 ≤ k ∧ k ≤ 3 ∧ Q.1 = nI k := by
      rcases K with ⟨k, a1, a2, e⟩ | ⟨y, N, e⟩
      · exact ⟨k, a1, a2, by rw [e]⟩
      · exfalso
        have q0 : Q.1 = 0 := by rw [e]
        rcases hc with ⟨_, z⟩ | ⟨_, z⟩ | ⟨_, z⟩
        · exact n1 (z.symm.trans q0)
        · exact n2 (z.symm.trans q0)
        · exact n3 (z.symm.trans q0)
    obtain ⟨k, a1, a2, ek⟩ := hq
    have e : fm_ends Q.2 cn Q.1 = (0, fz_up Q.2 0 (upd (Q.2 0) 2 Q.1)) := by
      rw [fm_ends, if_neg]
      rw [ek]
      have : k = 1 ∨ k = 2 ∨ k = 3 := by omega
      rcases this with rfl | rfl | rfl <;> decide
    have n9 : ¬ Q.1 = 9 := by
      rw [ek]
      have : k = 1 ∨ k = 2 ∨ k = 3 := by omega
      rcases this with rfl | rfl | rfl <;> decide
    have n0 : ¬ Q.1 = 0 := by
      rw [ek]
      have : k = 1 ∨ k = 2 ∨ k = 3 := by omega
      rcases this with rfl | rfl | rfl <;> decide
    rw [e, qm]
    refine ⟨pv, fz_okn ?_, ⟨h1.mono (by omega), (h2.congS hs_p_lt).mono (by omega), h3, ⟨ln, h4, h5, h6⟩, h7, h8⟩, rfl, n0, ?_⟩
    · rcases hc with ⟨z, _⟩ | ⟨z, _⟩ | ⟨z, _⟩
      · exact Or.inl z
      · exact Or.inr (Or.inl z)
      · exact Or.inr (Or.inr z)
    · rcases hc with ⟨z, y⟩ | ⟨z, y⟩ | ⟨z, y⟩
      · exact Or.inl ⟨by rw [z]; rfl, y, by rw [← y]; exact n9⟩
      · exact Or.inr (Or.inl ⟨by rw [z]; rfl, y, by rw [← y]; exact n9⟩)
      · exact Or.inr (Or.inr ⟨by rw [z]; rfl, y, by rw [← y]; exact n9⟩)
end LRS
