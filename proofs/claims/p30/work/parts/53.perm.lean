/-! worlds told in another order -/
theorem fz_permP {D : va_G} {cl : List vw_C} {W W' : va_W} {H : Heap} (e : ∀ q, q ∈ W' → q ∈ W) (h : va_P D cl W H) : va_P D cl W' H := fun k q hq => by
  obtain ⟨i, hi⟩ := List.getElem?_of_mem (e q (List.mem_of_getElem? hq))
  exact h i q hi
theorem fz_D_iff {A : Nat → Prop} {W : va_W} : va_D A W ↔ (W.map Prod.fst).Nodup ∧ ∀ q ∈ W, A q.1 := by
  constructor
  · intro h
    refine ⟨?_, fun q hq => ?_⟩
    · rw [List.Nodup, List.pairwise_iff_getElem]
      intro i j hi hj hij z
      rw [List.length_map] at hi hj
      rw [List.getElem_map, List.getElem_map] at z
      have := h.1 i j W[i] W[j] (List.getElem?_eq_getElem hi) (List.getElem?_eq_getElem hj) z
      omega
    · obtain ⟨i, hi⟩ := List.getElem?_of_mem hq
      exact h.2 i q hi
  · intro h
    obtain ⟨h1, h2⟩ := h
    rw [List.Nodup, List.pairwise_iff_getElem] at h1
    refine ⟨fun i j p q hi hj e => ?_, fun k q hk => h2 q (List.mem_of_getElem? hk)⟩
    obtain ⟨li, ei⟩ := List.getElem?_eq_some_iff.mp hi
    obtain ⟨lj, ej⟩ := List.getElem?_eq_some_iff.mp hj
    rcases Nat.lt_trichotomy i j with c | c | c
    · exact absurd (by rw [List.getElem_map, List.getElem_map, ei, ej]; exact e) (h1 i j (by rw [List.length_map]; exact li) (by rw [List.length_map]; exact lj) c)
    · exact c
    · exact absurd (by rw [List.getElem_map, List.getElem_map, ei, ej]; exact e.symm) (h1 j i (by rw [List.length_map]; exact lj) (by rw [List.length_map]; exact li) c)
theorem fz_permD {A : Nat → Prop} {W W' : va_W} (e : W.Perm W') (h : va_D A W) : va_D A W' := by
  rw [fz_D_iff] at h ⊢
  exact ⟨((e.map Prod.fst).nodup_iff).mp h.1, fun q hq => h.2 q (e.mem_iff.mpr hq)⟩
theorem fz_swapP {A B C : va_W} : (A ++ (B ++ C)).Perm (B ++ (A ++ C)) := by
  rw [← List.append_assoc, ← List.append_assoc]
  exact List.Perm.append_right C List.perm_append_comm
