/-! p30: the class's whole world, block by block; what the law's methods know of it -/
def fz_cat (f : Nat → va_W) : List Nat → va_W
  | [] => []
  | i :: L => f i ++ fz_cat f L
theorem fz_cat_P (f : Nat → va_W) {L L' : List Nat} (h : L.Perm L') : (fz_cat f L).Perm (fz_cat f L') := by
  induction h with
  | nil => exact List.Perm.refl _
  | cons i _ ih => exact List.Perm.append_left _ ih
  | swap i j L => exact fz_swapP
  | trans _ _ h1 h2 => exact h1.trans h2
theorem fz_cat_in (f : Nat → va_W) {L : List Nat} {i : Nat} {q : Nat × va_E} (hi : i ∈ L) (hq : q ∈ f i) : q ∈ fz_cat f L := by
  induction L with
  | nil => exact absurd hi List.not_mem_nil
  | cons j L ih =>
    rcases List.mem_cons.mp hi with rfl | h
    · exact List.mem_append_left _ hq
    · exact List.mem_append_right _ (ih h)
abbrev pwB (cy : Nat → ClassId) (f a t h x ad : Nat → Nat) (sl : Nat → Nat → Nat) (g : Nat → Option Nat) (cn : Nat) (V T X : Nat → Nat → Int32) (vb : Option Nat) (S : Nat → Nat → Nat → Int32) : Nat → va_W
  | 0 => FW f a t h x
  | 1 => HW cy h g (nI cn)
  | 2 => CW cy a V
  | 3 => CW cy t T
  | 4 => XW cy ad x X vb
  | k + 5 => CW cy (sl k) (S k)
def pwW (cy : Nat → ClassId) (f a t h x ad : Nat → Nat) (sl : Nat → Nat → Nat) (g : Nat → Option Nat) (cn : Nat) (V T X : Nat → Nat → Int32) (vb : Option Nat) (S : Nat → Nat → Nat → Int32) : va_W := fz_cat (pwB cy f a t h x ad sl g cn V T X vb S) [0, 1, 2, 3, 4, 5, 6, 7, 8, 9]
def pw_rest : Nat → List Nat
  | 0 => [3, 4, 6, 7, 8, 9]
  | 1 => [3, 4, 5, 7, 8, 9]
  | 2 => [3, 4, 5, 6, 8, 9]
  | 3 => [3, 4, 5, 6, 7, 9]
  | _ => [3, 4, 5, 6, 7, 8]
theorem pw_rest_P : ∀ cn, cn < 5 → ([0, 1, 2, 3, 4, 5, 6, 7, 8, 9] : List Nat).Perm (0 :: 1 :: 2 :: (cn + 5) :: pw_rest cn) := by decide
theorem pw_rest_in : ∀ cn, cn < 5 → ∀ k, k < 5 → (k + 5) ∈ (cn + 5) :: pw_rest cn := by decide
def pw_rest2 : Nat → List Nat
  | 0 => [3, 6, 7, 8, 9]
  | 1 => [3, 5, 7, 8, 9]
  | 2 => [3, 5, 6, 8, 9]
  | 3 => [3, 5, 6, 7, 9]
  | _ => [3, 5, 6, 7, 8]
theorem pw_rest2_P : ∀ cn, cn < 5 → ([0, 1, 2, 3, 4, 5, 6, 7, 8, 9] : List Nat).Perm (0 :: 4 :: 1 :: 2 :: (cn + 5) :: pw_rest2 cn) := by decide
theorem pw_rest2_in : ∀ cn, cn < 5 → ∀ k, k < 5 → (k + 5) ∈ (cn + 5) :: pw_rest2 cn := by decide
/-- the slots' addresses behind keep -/
def hs_sl (sl : Nat → Nat → Nat) (cn : Nat) : Nat → Nat → Nat := if cn < 4 then sl else fun k => if k < 4 then sl (k + 1) else sl 0
/-- slot n holds V -/
def hs_p (S : Nat → Nat → Nat → Int32) (V : Nat → Nat → Int32) (n : Nat) : Nat → Nat → Nat → Int32 := fun k => if k = n then V else S k
section PWS
variable {cy : Nat → ClassId} {f a t h x ad : Nat → Nat} {sl : Nat → Nat → Nat} {g : Nat → Option Nat} {cn : Nat} {V V' T X X' : Nat → Nat → Int32} {vb vb' : Option Nat} {S : Nat → Nat → Nat → Int32}
theorem pwW_old (hc : cn < 5) : (pwW cy f a t h x ad sl g cn V T X vb S).Perm (FW f a t h x ++ (HW cy h g (nI cn) ++ (CW cy a V ++ (CW cy (sl cn) (S cn) ++ fz_cat (pwB cy f a t h x ad sl g cn V T X vb S) (pw_rest cn))))) :=
  fz_cat_P (pwB cy f a t h x ad sl g cn V T X vb S) (pw_rest_P cn hc)
/-- refused: slot cn holds the state -/
theorem pwW_no (hc : cn < 5) : (FW f a t h x ++ (HW cy h g (nI cn) ++ (CW cy a V' ++ (CW cy (sl cn) V ++ fz_cat (pwB cy f a t h x ad sl g cn V T X vb S) (pw_rest cn))))).Perm (pwW cy f a t h x ad sl g cn V' T X vb (hs_p S V cn)) := by
  match cn, hc with
  | 0, _ => exact fz_cat_P (pwB cy f a t h x ad sl g 0 V' T X vb (hs_p S V 0)) (L := [0, 1, 2, 5, 3, 4, 6, 7, 8, 9]) (by decide)
  | 1, _ => exact fz_cat_P (pwB cy f a t h x ad sl g 1 V' T X vb (hs_p S V 1)) (L := [0, 1, 2, 6, 3, 4, 5, 7, 8, 9]) (by decide)
  | 2, _ => exact fz_cat_P (pwB cy f a t h x ad sl g 2 V' T X vb (hs_p S V 2)) (L := [0, 1, 2, 7, 3, 4, 5, 6, 8, 9]) (by decide)
  | 3, _ => exact fz_cat_P (pwB cy f a t h x ad sl g 3 V' T X vb (hs_p S V 3)) (L := [0, 1, 2, 8, 3, 4, 5, 6, 7, 9]) (by decide)
  | 4, _ => exact fz_cat_P (pwB cy f a t h x ad sl g 4 V' T X vb (hs_p S V 4)) (L := [0, 1, 2, 9, 3, 4, 5, 6, 7, 8]) (by decide)
/-- done: the state that was is kept -/
theorem pwW_new (hc : cn < 5) : (FW f a t h x ++ (HW cy h (hs_g g cn) (nI (hs_n cn)) ++ (CW cy a V' ++ (CW cy (sl cn) V ++ fz_cat (pwB cy f a t h x ad sl g cn V T X vb S) (pw_rest cn))))).Perm (pwW cy f a t h x ad (hs_sl sl cn) (hs_g g cn) (hs_n cn) V' T X vb (hs_S S V cn)) := by
  match cn, hc with
  | 0, _ => exact fz_cat_P (pwB cy f a t h x ad (hs_sl sl 0) (hs_g g 0) (hs_n 0) V' T X vb (hs_S S V 0)) (L := [0, 1, 2, 5, 3, 4, 6, 7, 8, 9]) (by decide)
  | 1, _ => exact fz_cat_P (pwB cy f a t h x ad (hs_sl sl 1) (hs_g g 1) (hs_n 1) V' T X vb (hs_S S V 1)) (L := [0, 1, 2, 6, 3, 4, 5, 7, 8, 9]) (by decide)
  | 2, _ => exact fz_cat_P (pwB cy f a t h x ad (hs_sl sl 2) (hs_g g 2) (hs_n 2) V' T X vb (hs_S S V 2)) (L := [0, 1, 2, 7, 3, 4, 5, 6, 8, 9]) (by decide)
  | 3, _ => exact fz_cat_P (pwB cy f a t h x ad (hs_sl sl 3) (hs_g g 3) (hs_n 3) V' T X vb (hs_S S V 3)) (L := [0, 1, 2, 8, 3, 4, 5, 6, 7, 9]) (by decide)
  | 4, _ => exact fz_cat_P (pwB cy f a t h x ad (hs_sl sl 4) (hs_g g 4) (hs_n 4) V' T X vb (hs_S S V 4)) (L := [0, 1, 2, 8, 3, 4, 9, 5, 6, 7]) (by decide)
theorem pwW_hh (hc : cn < 5) (hg : ∀ k, k < 5 → g k = some (sl k 0)) : ∀ k, k < 5 → ∃ y, g k = some y ∧ fz_hd (CW cy (sl cn) (S cn) ++ fz_cat (pwB cy f a t h x ad sl g cn V T X vb S) (pw_rest cn)) y := fun k hk =>
  ⟨sl k 0, hg k hk, _, fz_cat_in (pwB cy f a t h x ad sl g cn V T X vb S) (L := (cn + 5) :: pw_rest cn) (i := k + 5) (pw_rest_in cn hc k hk) (show (sl k 0, _) ∈ CW cy (sl k) (S k) from List.mem_cons_self)⟩
theorem hs_gsl (hc : cn < 5) (hg : ∀ k, k < 5 → g k = some (sl k 0)) : ∀ k, k < 5 → hs_g g cn k = some (hs_sl sl cn k 0) := fun k hk => by
  unfold hs_g hs_sl
  by_cases c : cn < 4
  · rw [if_pos c, if_pos c]
    exact hg k hk
  · rw [if_neg c, if_neg c]
    by_cases d : k < 4
    · rw [if_pos d, if_pos d]
      exact hg (k + 1) (by omega)
    · rw [if_neg d, if_neg d]
      exact hg 0 (by omega)
/-- with the text ahead (a text is run) -/
theorem pwR_old (hc : cn < 5) : (pwW cy f a t h x ad sl g cn V T X vb S).Perm (FW f a t h x ++ (XW cy ad x X vb ++ (HW cy h g (nI cn) ++ (CW cy a V ++ (CW cy (sl cn) (S cn) ++ fz_cat (pwB cy f a t h x ad sl g cn V T X vb S) (pw_rest2 cn)))))) :=
  fz_cat_P (pwB cy f a t h x ad sl g cn V T X vb S) (pw_rest2_P cn hc)
theorem pwR_new (hc : cn < 5) : (FW f a t h x ++ (XW cy ad x X' vb' ++ (HW cy h (hs_g g cn) (nI (hs_n cn)) ++ (CW cy a V' ++ (CW cy (sl cn) V ++ fz_cat (pwB cy f a t h x ad sl g cn V T X vb S) (pw_rest2 cn)))))).Perm (pwW cy f a t h x ad (hs_sl sl cn) (hs_g g cn) (hs_n cn) V' T X' vb' (hs_S S V cn)) := by
  match cn, hc with
  | 0, _ => exact fz_cat_P (pwB cy f a t h x ad (hs_sl sl 0) (hs_g g 0) (hs_n 0) V' T X' vb' (hs_S S V 0)) (L := [0, 4, 1, 2, 5, 3, 6, 7, 8, 9]) (by decide)
  | 1, _ => exact fz_cat_P (pwB cy f a t h x ad (hs_sl sl 1) (hs_g g 1) (hs_n 1) V' T X' vb' (hs_S S V 1)) (L := [0, 4, 1, 2, 6, 3, 5, 7, 8, 9]) (by decide)
  | 2, _ => exact fz_cat_P (pwB cy f a t h x ad (hs_sl sl 2) (hs_g g 2) (hs_n 2) V' T X' vb' (hs_S S V 2)) (L := [0, 4, 1, 2, 7, 3, 5, 6, 8, 9]) (by decide)
  | 3, _ => exact fz_cat_P (pwB cy f a t h x ad (hs_sl sl 3) (hs_g g 3) (hs_n 3) V' T X' vb' (hs_S S V 3)) (L := [0, 4, 1, 2, 8, 3, 5, 6, 7, 9]) (by decide)
  | 4, _ => exact fz_cat_P (pwB cy f a t h x ad (hs_sl sl 4) (hs_g g 4) (hs_n 4) V' T X' vb' (hs_S S V 4)) (L := [0, 4, 1, 2, 8, 3, 9, 5, 6, 7]) (by decide)
theorem pwR_hh (hc : cn < 5) (hg : ∀ k, k < 5 → g k = some (sl k 0)) : ∀ k, k < 5 → ∃ y, g k = some y ∧ fz_hd (CW cy (sl cn) (S cn) ++ fz_cat (pwB cy f a t h x ad sl g cn V T X vb S) (pw_rest2 cn)) y := fun k hk =>
  ⟨sl k 0, hg k hk, _, fz_cat_in (pwB cy f a t h x ad sl g cn V T X vb S) (L := (cn + 5) :: pw_rest2 cn) (i := k + 5) (pw_rest2_in cn hc k hk) (show (sl k 0, _) ∈ CW cy (sl k) (S k) from List.mem_cons_self)⟩
/-- the latest kept state behind keep -/
theorem hs_top (hc : cn < 5) : 0 < hs_n cn ∧ hs_S S V cn (hs_n cn - 1) = V := by
  match cn, hc with
  | 0, _ => exact ⟨by decide, rfl⟩
  | 1, _ => exact ⟨by decide, rfl⟩
  | 2, _ => exact ⟨by decide, rfl⟩
  | 3, _ => exact ⟨by decide, rfl⟩
  | 4, _ => exact ⟨by decide, rfl⟩
theorem hs_n_lt (hc : cn < 5) : hs_n cn < 5 := by
  match cn, hc with
  | 0, _ => decide
  | 1, _ => decide
  | 2, _ => decide
  | 3, _ => decide
  | 4, _ => decide
end PWS
/-- the text is L -/
def tX (X : Nat → Nat → Int32) (L : List Int32) : Prop := X 0 0 = nI L.length ∧ L.length ≤ 150 ∧ ∀ i, i < L.length → X 2 i = L.getD i 0
/-- the world of a class with cn kept states, the rows V and the text L; K: what is known of the kept states -/
def pK (cy : Nat → ClassId) (f a t h x ad : Nat → Nat) (cn : Nat) (V : Nat → Nat → Int32) (L : List Int32) (K : (Nat → Nat → Nat → Int32) → Prop) : va_W → Prop := fun W => ∃ (X : Nat → Nat → Int32) (sl : Nat → Nat → Nat) (g : Nat → Option Nat) (T : Nat → Nat → Int32) (vb : Option Nat) (S : Nat → Nat → Nat → Int32), tX X L ∧ (∀ k, k < 5 → g k = some (sl k 0)) ∧ cn < 5 ∧ K S ∧ W = pwW cy f a t h x ad sl g cn V T X vb S
def kT : (Nat → Nat → Nat → Int32) → Prop := fun _ => True
def kU (cn : Nat) (U : Nat → Nat → Int32) : (Nat → Nat → Nat → Int32) → Prop := fun S => S cn = U
/-- the same, nothing known of the kept states -/
abbrev pS (cy : Nat → ClassId) (f a t h x ad : Nat → Nat) (cn : Nat) (V : Nat → Nat → Int32) (L : List Int32) : va_W → Prop := pK cy f a t h x ad cn V L kT
theorem pK.any {cy : Nat → ClassId} {f a t h x ad : Nat → Nat} {cn : Nat} {V : Nat → Nat → Int32} {L : List Int32} {K : (Nat → Nat → Nat → Int32) → Prop} {W : va_W} (q : pK cy f a t h x ad cn V L K W) : pS cy f a t h x ad cn V L W := by
  obtain ⟨X, sl, g, T, vb, S, h0, h1, h2, -, h3⟩ := q
  exact ⟨X, sl, g, T, vb, S, h0, h1, h2, trivial, h3⟩
theorem pK.lt {cy : Nat → ClassId} {f a t h x ad : Nat → Nat} {cn : Nat} {V : Nat → Nat → Int32} {L : List Int32} {K : (Nat → Nat → Nat → Int32) → Prop} {W : va_W} (q : pK cy f a t h x ad cn V L K W) : cn < 5 := by
  obtain ⟨X, sl, g, T, vb, S, h0, h1, h2, -, h3⟩ := q
  exact h2
theorem tX_push {X : Nat → Nat → Int32} {L : List Int32} {y : Int32} (q : tX X L) (hl : L.length < 150) : tX (fz_up (fz_up X 0 (upd (X 0) 0 (nI (L.length + 1)))) 2 (upd (X 2) L.length y)) (L ++ [y]) := by
  obtain ⟨h1, h2, h3⟩ := q
  have e : (L ++ [y]).length = L.length + 1 := by simp
  refine ⟨?_, by omega, fun i hi => ?_⟩
  · show nI (L.length + 1) = nI (L ++ [y]).length
    rw [e]
  · show upd (X 2) L.length y i = (L ++ [y]).getD i 0
    by_cases c : i = L.length
    · subst c
      rw [pk_us]
      simp [List.getD]
    · have hi' : i < L.length := by omega
      rw [pk_un c, h3 i hi']
      simp [List.getD, List.getElem?_append_left hi']
theorem tX_clear {X : Nat → Nat → Int32} : tX (fz_up X 0 (upd (X 0) 0 0)) [] := ⟨nI_0.symm, by decide, fun i hi => absurd hi (Nat.not_lt_zero i)⟩
theorem tX.to {X X' : Nat → Nat → Int32} {L : List Int32} (q : tX X L) (h0 : X' 0 0 = X 0 0) (h2 : X' 2 = X 2) : tX X' L := ⟨h0.trans q.1, q.2.1, fun i hi => by rw [h2]; exact q.2.2 i hi⟩
/-- a heap that holds a world of which P says what is known -/
def pG (D : va_G) (A : Nat → Prop) (P : va_W → Prop) (H : Heap) : Prop := ∃ Wn : va_W, P Wn ∧ va_P D vwCl Wn H ∧ va_D A Wn
theorem pG.mono {D : va_G} {A : Nat → Prop} {P P' : va_W → Prop} {H : Heap} (q : pG D A P H) (k : ∀ W, P W → P' W) : pG D A P' H := by
  obtain ⟨W, h1, h2, h3⟩ := q
  exact ⟨W, k W h1, h2, h3⟩
theorem pG.kept {D : va_G} {A : Nat → Prop} {P : va_W → Prop} {H H1 : Heap} (q : pG D A P H) (e : H1 = H) : pG D A P H1 := by
  rw [e]
  exact q
/-- what the law's methods want of the machine besides -/
def pE (ad adK adV : Nat → Nat) (A : Nat → Prop) (U : State) : Prop := fz_Ew A U ∧ fz_Er ad adK adV A U ∧ fz_Nw U
theorem pE.up {ad adK adV : Nat → Nat} {A : Nat → Prop} {s U : State} {H : Heap} {locs : List Loc} (h : pE ad adK adV A s) (hU : U.heap = H) (hS : va_S A s.heap H locs) (hW : s.WarmedH U.vm) : pE ad adK adV A U := ⟨h.1.up hU hS hW (fun _ z => z), h.2.1.up hU hS hW (fun _ z => z), fz_Nw_warm hW h.2.2⟩
theorem pE_bl {ad adK adV : Nat → Nat} {A : Nat → Prop} : fz_bl (pE ad adK adV A) := fun a U g mk h => ⟨fz_Ew_bl a U g mk h.1, fz_Er_bl a U g mk h.2.1, fz_Nw_bl a U g mk h.2.2⟩
/-- a wrapper's call, told over whatever world P knows -/
def pw_op (l : Launch) (y : MethodName) (ws : List Cond) (fr lo k n : Nat) (D : va_G) (cy : Nat → ClassId) (av : List Value) (P : va_W → Prop) (F : Int32) (P' : va_W → Prop) : Prop :=
  ∀ Wn, P Wn → ∃ S Wc Wc' Wn' : va_W, fz_XI l y ws fr lo k n D cy av Wc (fz_Ew (fz_in Wc)) F Wc' true xIS Wc' ∧ Wn.Perm (Wc ++ S) ∧ (Wc' ++ S).Perm Wn' ∧ Wc'.map Prod.fst = Wc.map Prod.fst ∧ P' Wn'
/-- a method's call -/
def pv_op (E : (Nat → Prop) → State → Prop) (l : Launch) (y : MethodName) (ws : List Cond) (fr lo : Nat) (D : va_G) (cy : Nat → ClassId) (rb ci : Nat) (As : List Value) (P : va_W → Prop) (F : Int32) (P' : va_W → Prop) : Prop :=
  ∀ Wn, P Wn → ∃ (S Wc Wc' Wn' : va_W) (fs : List Value), fz_MI l y ws fr lo D cy (.ref rb :: As) Wc (E (fz_in Wc)) F Wc' ∧ Wc[0]? = some (rb, .inr (ci, fs)) ∧ Wn.Perm (Wc ++ S) ∧ (Wc' ++ S).Perm Wn' ∧ Wc'.map Prod.fst = Wc.map Prod.fst ∧ P' Wn'
def pr_op (l : Launch) (y : MethodName) (ws : List Cond) (fr lo : Nat) (D : va_G) (cy : Nat → ClassId) (rb ci : Nat) (As : List Value) (P : va_W → Prop) (F : Int32) : Prop :=
  ∀ Wn, P Wn → ∃ (S Wc : va_W) (fs : List Value), fz_RI l y ws fr lo D cy (.ref rb :: As) Wc fz_T F ∧ Wc[0]? = some (rb, .inr (ci, fs)) ∧ Wn.Perm (Wc ++ S)
def pl_op (l : Launch) (y : MethodName) (ws : List Cond) (fr lo : Nat) (D : va_G) (cy : Nat → ClassId) (rb ci : Nat) (As : List Value) (P : va_W → Prop) (F : Int64) : Prop :=
  ∀ Wn, P Wn → ∃ (S Wc : va_W) (fs : List Value), fz_RL l y ws fr lo D cy (.ref rb :: As) Wc fz_Nw F ∧ Wc[0]? = some (rb, .inr (ci, fs)) ∧ Wn.Perm (Wc ++ S)
/-- a method of the law's own -/
def pm_M (l : Launch) (y : MethodName) (ws : List Cond) (fr lo k n : Nat) (D : va_G) (cy : Nat → ClassId) (A : Nat → Prop) (E : State → Prop) (av : List Value) (P : va_W → Prop) (Qp : Int32 → va_W → Prop) : Prop :=
  Met l y ws ({ frames := fr, cells := k, slots := n, locals := lo }) (va_Pc av (fun U => pG D A P U.heap ∧ va_K D vwCl (fz_TY cy) U ∧ E U)) (va_Qi (fun (r : Int32) (u : va_W) => Qp r u ∧ va_D A u) (fun u t => va_P D vwCl u t.heap) A) k n A
section PWC
variable {p : Program} {l : Launch} {e : Env} {R : Room} {s : State} {m : MethodId} {args : Array Value} {below : List Frame} {meth : Method} {c : Code} {H : Heap} {locs : List Loc} {cells slots : Nat} {Q : State → Prop}
variable {cc : ByteArray} {pc : Nat} {ls : Array Slot} {rest st0 : List Value} {D : va_G} {cy : Nat → ClassId} {A : Nat → Prop} {P P' : va_W → Prop}
/-- a wrapper is called -/
theorem pw_call {y : MethodName} {ws : List Cond} {fr lo k n na nL index maxL : Nat} {av : List Value} {F : Int32} {Ts : List Cond} {own : String} {bytes : ByteArray} {ret : Option FieldType} {hh : List (Nat × Nat × Nat × Nat)} (C : pw_op l y ws fr lo k n D cy av P F P')
    (Sf : CallFix p m c cc nL s args Ts own) (cw : vx_CSW R s args own index y bytes maxL ret hh ws { frames := fr, cells := k, slots := n, locals := lo } k n na) (hK : va_K D vwCl (fz_TY cy) s) (hG : pG D A P H) (hS : va_S A s.heap H locs) (hE : fz_Ew A s) (hn : av.length = na) (hsize : ls.size = nL) (hst : st0 = av.reverse ++ rest) (hW : (rest.map fun v => v.category).sum ≤ 8) (hdg : decode cc pc = .ok (.invokestatic index, 3)) (hf : cells + k ≤ R.cells ∧ slots + n ≤ R.slots)
    (kk : ∀ (H1 : Heap) (locs1 : List Loc), pG D A P' H1 → va_S A s.heap H1 locs1 → W p l e R s m args below meth c H1 locs1 (cells + k) (slots + n) Q (F0 m (pc + 3) ls (.int F :: rest))) : W p l e R s m args below meth c H locs cells slots Q (F0 m pc ls st0) := by
  obtain ⟨Wn, hp, hP, hD⟩ := hG
  obtain ⟨S, Wc, Wc', Wn', hc, e1, e2, e3, hp'⟩ := C Wn hp
  have hP' : va_P D vwCl ([] ++ (Wc ++ S)) H := fz_permP (fun q hq => e1.mem_iff.mpr hq) hP
  have hD' : va_D A ([] ++ (Wc ++ S)) := fz_permD e1 hD
  exact fz_xretI (P := []) (S := S) (Wc := Wc) (Wc' := Wc') (WX := Wc') (vx_runSX Sf hc cw (fz_preMS hK (fz_seg hP') (fz_segD hD') fz_Ew_bl (fun U hU hW => hE.up hU hS hW (fun q h9 => fz_inA hD' h9))) rfl hn hsize hst (by show 2 * 0 + _ ≤ 8; omega) hdg hf) hP' hD' hS e3 e3
    (fun z => absurd z (by decide)) (fun _ H1 locs1 p1 d1 s1 => kk H1 locs1 ⟨Wn', hp', fz_permP (fun q hq => e2.mem_iff.mpr hq) p1, fz_permD e2 d1⟩ s1)
/-- a method is called -/
theorem pv_call {E : (Nat → Prop) → State → Prop} {y : MethodName} {ws : List Cond} {fr lo na nL index maxL rb ci : Nat} {As : List Value} {F : Int32} {Ts : List Cond} {own C : String} {q : vw_C} {bytes : ByteArray} {ret : Option FieldType} (K : pv_op E l y ws fr lo D cy rb ci As P F P')
    (Sf : CallFix p m c cc nL s args Ts own) (cw : CallW R s args own C index y bytes maxL ret ws { frames := fr, cells := 0, slots := 0, locals := lo } 0 0 na) (hc : vwCl[ci]? = some q) (hC : q.1 = C) (hK : va_K D vwCl (fz_TY cy) s) (hG : pG D A P H) (hS : va_S A s.heap H locs) (hbl : ∀ B, fz_bl (E B)) (hE : ∀ B : Nat → Prop, (∀ q, B q → A q) → ∀ U : State, U.heap = H → s.WarmedH U.vm → E B U) (hn : As.length = na) (hsize : ls.size = nL) (hst : st0 = As.reverse ++ .ref rb :: rest) (hW : (rest.map fun v => v.category).sum ≤ 8) (hdg : decode cc pc = .ok (.invokevirtual index, 3)) (hf : cells + 0 ≤ R.cells ∧ slots + 0 ≤ R.slots)
    (kk : ∀ (H1 : Heap) (locs1 : List Loc), pG D A P' H1 → va_S A s.heap H1 locs1 → W p l e R s m args below meth c H1 locs1 cells slots Q (F0 m (pc + 3) ls (.int F :: rest))) : W p l e R s m args below meth c H locs cells slots Q (F0 m pc ls st0) := by
  obtain ⟨Wn, hp, hP, hD⟩ := hG
  obtain ⟨S, Wc, Wc', Wn', fs, hm, h0, e1, e2, e3, hp'⟩ := K Wn hp
  have hP' : va_P D vwCl ([] ++ (Wc ++ S)) H := fz_permP (fun q hq => e1.mem_iff.mpr hq) hP
  have hD' : va_D A ([] ++ (Wc ++ S)) := fz_permD e1 hD
  exact fz_sretM (P := []) (S := S) (Wc := Wc) (Wc' := Wc') (va_runV Sf hm cw (fz_preMV hK (fz_seg hP') (fz_segD hD') hc hC h0 (hbl _) (fun U hU hW => hE _ (fun q h9 => fz_inA hD' h9) U hU hW)) rfl hn hsize hst (by show 2 * 0 + _ ≤ 8; omega) hdg hf) hP' hD' hS e3
    (fun H1 locs1 p1 d1 s1 => kk H1 locs1 ⟨Wn', hp', fz_permP (fun q hq => e2.mem_iff.mpr hq) p1, fz_permD e2 d1⟩ s1)
/-- a method that reads is called -/
theorem pr_call {y : MethodName} {ws : List Cond} {fr lo na nL index maxL rb ci : Nat} {As : List Value} {F : Int32} {Ts : List Cond} {own C : String} {q : vw_C} {bytes : ByteArray} {ret : Option FieldType} (K : pr_op l y ws fr lo D cy rb ci As P F)
    (Sf : CallFix p m c cc nL s args Ts own) (cw : CallW R s args own C index y bytes maxL ret ws { frames := fr, cells := 0, slots := 0, locals := lo } 0 0 na) (hc : vwCl[ci]? = some q) (hC : q.1 = C) (hK : va_K D vwCl (fz_TY cy) s) (hG : pG D A P H) (hn : As.length = na) (hsize : ls.size = nL) (hst : st0 = As.reverse ++ .ref rb :: rest) (hW : (rest.map fun v => v.category).sum ≤ 8) (hdg : decode cc pc = .ok (.invokevirtual index, 3)) (hf : cells + 0 ≤ R.cells ∧ slots + 0 ≤ R.slots)
    (kk : W p l e R s m args below meth c H locs cells slots Q (F0 m (pc + 3) ls (.int F :: rest))) : W p l e R s m args below meth c H locs cells slots Q (F0 m pc ls st0) := by
  obtain ⟨Wn, hp, hP, hD⟩ := hG
  obtain ⟨S, Wc, fs, hm, h0, e1⟩ := K Wn hp
  have hP' : va_P D vwCl ([] ++ (Wc ++ S)) H := fz_permP (fun q hq => e1.mem_iff.mpr hq) hP
  exact fz_retR (va_runV Sf hm cw (fz_preV hK (fz_seg hP') hc hC h0 fz_T_bl (fun _ _ _ => trivial)) rfl hn hsize hst (by show 2 * 0 + _ ≤ 8; omega) hdg hf) kk
theorem pl_call {y : MethodName} {ws : List Cond} {fr lo na nL index maxL rb ci : Nat} {As : List Value} {F : Int64} {Ts : List Cond} {own C : String} {q : vw_C} {bytes : ByteArray} {ret : Option FieldType} (K : pl_op l y ws fr lo D cy rb ci As P F)
    (Sf : CallFix p m c cc nL s args Ts own) (cw : CallW R s args own C index y bytes maxL ret ws { frames := fr, cells := 0, slots := 0, locals := lo } 0 0 na) (hc : vwCl[ci]? = some q) (hC : q.1 = C) (hK : va_K D vwCl (fz_TY cy) s) (hG : pG D A P H) (hNw : fz_Nw s) (hn : As.length = na) (hsize : ls.size = nL) (hst : st0 = As.reverse ++ .ref rb :: rest) (hW : (rest.map fun v => v.category).sum ≤ 8) (hdg : decode cc pc = .ok (.invokevirtual index, 3)) (hf : cells + 0 ≤ R.cells ∧ slots + 0 ≤ R.slots)
    (kk : W p l e R s m args below meth c H locs cells slots Q (F0 m (pc + 3) ls (.long F :: rest))) : W p l e R s m args below meth c H locs cells slots Q (F0 m pc ls st0) := by
  obtain ⟨Wn, hp, hP, hD⟩ := hG
  obtain ⟨S, Wc, fs, hm, h0, e1⟩ := K Wn hp
  have hP' : va_P D vwCl ([] ++ (Wc ++ S)) H := fz_permP (fun q hq => e1.mem_iff.mpr hq) hP
  exact fz_retRL (va_runV Sf hm cw (fz_preV hK (fz_seg hP') hc hC h0 fz_Nw_bl (fun U hU hW => fz_Nw_warm hW hNw)) rfl hn hsize hst (by show 2 * 0 + _ ≤ 8; omega) hdg hf) kk
/-- a method of the law's own is called -/
theorem pm_call {y : MethodName} {ws : List Cond} {fr lo k n na nL index maxL : Nat} {av : List Value} {ad adK adV : Nat → Nat} {Qp : Int32 → va_W → Prop} {Ts : List Cond} {own : String} {bytes : ByteArray} {ret : Option FieldType} (C : pm_M l y ws fr lo k n D cy A (pE ad adK adV A) av P Qp)
    (Sf : CallFix p m c cc nL s args Ts own) (cw : CallB R s args own index y bytes maxL ret ws { frames := fr, cells := k, slots := n, locals := lo } k n na ∧ (Cond.static y).before args s = true) (hK : va_K D vwCl (fz_TY cy) s) (hG : pG D A P H) (hS : va_S A s.heap H locs) (hE : pE ad adK adV A s) (hn : av.length = na) (hsize : ls.size = nL) (hst : st0 = av.reverse ++ rest) (hW : (rest.map fun v => v.category).sum ≤ 8) (hdg : decode cc pc = .ok (.invokestatic index, 3)) (hf : cells + k ≤ R.cells ∧ slots + n ≤ R.slots)
    (kk : ∀ (r : Int32) (H1 : Heap) (locs1 : List Loc), pG D A (Qp r) H1 → va_S A s.heap H1 locs1 → W p l e R s m args below meth c H1 locs1 (cells + k) (slots + n) Q (F0 m (pc + 3) ls (.int r :: rest))) : W p l e R s m args below meth c H locs cells slots Q (F0 m pc ls st0) := by
  have hp : PreS s H (va_Pc av (fun U => pG D A P U.heap ∧ va_K D vwCl (fz_TY cy) U ∧ pE ad adK adV A U)) av :=
    ⟨fun a U g mk q => ⟨q.1, q.2.1, va_K.moved (u := U) (U := U.calling g mk a) (Vm.Alike.refl U.vm) q.2.2.1, pE_bl a U g mk q.2.2.2⟩, fun U hU hW => ⟨rfl, by rw [hU]; exact hG, va_K.moved hW.alike hK, hE.up hU hS hW⟩⟩
  refine va_calli (va_runS Sf C cw hp rfl hn hsize hst (by show 2 * 0 + _ ≤ 8; omega) hdg hf) hS (fun q _ z => z) (fun q z => z) (fun r u t H1 locs1 ht hvm hq hB hz hk hS1 => ?_)
  rw [ht] at hB
  exact kk r H1 locs1 ⟨u, hq.1, hB, hq.2⟩ hS1
/-- a loop: cells and slots by the round -/
theorem pw_loop {σ : Type} {nL : Nat} {H0 : Heap} (LV : σ → List (Nat × Value)) (PP : σ → va_W → Prop) (I : σ → Prop) (μ kc ks : σ → Nat) (hs : ∀ x : σ, I x → (∀ y : σ, I y → μ y < μ x → ∀ (H : Heap) (locs : List Loc) (ls : Array Slot), pG D A (PP y) H → va_S A H0 H locs → lv_has ls nL (LV y) → W p l e R s m args below meth c H locs (kc y) (ks y) Q (F0 m pc ls rest)) → ∀ (H : Heap) (locs : List Loc) (ls : Array Slot), pG D A (PP x) H → va_S A H0 H locs → lv_has ls nL (LV x) → W p l e R s m args below meth c H locs (kc x) (ks x) Q (F0 m pc ls rest))
    (x : σ) (h : I x) (H : Heap) (locs : List Loc) (ls : Array Slot) (hG : pG D A (PP x) H) (hS : va_S A H0 H locs) (hl : lv_has ls nL (LV x)) : W p l e R s m args below meth c H locs (kc x) (ks x) Q (F0 m pc ls rest) := by
  have key : ∀ (n : Nat) (x : σ), I x → μ x < n → ∀ (H : Heap) (locs : List Loc) (ls : Array Slot), pG D A (PP x) H → va_S A H0 H locs → lv_has ls nL (LV x) → W p l e R s m args below meth c H locs (kc x) (ks x) Q (F0 m pc ls rest) := by
    intro n
    induction n with
    | zero => intro x _ h; exact absurd h (Nat.not_lt_zero _)
    | succ n ih => intro x hx hn; exact hs x hx (fun y hy hlt => ih y hy (by omega))
  exact key (μ x + 1) x h (Nat.lt_succ_self _) H locs ls hG hS hl
end PWC
