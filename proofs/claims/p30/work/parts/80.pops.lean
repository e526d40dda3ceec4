/-! each wrapper, each call, told over the whole world -/
section POP
variable {l : Launch} {D : va_G} {cy : Nat → ClassId} {f a t h x ad adK adV : Nat → Nat} {cn : Nat} {V : Nat → Nat → Int32} {L : List Int32} {K : (Nat → Nat → Nat → Int32) → Prop} {nt nc nq nl wk : Nat}
set_option maxHeartbeats 1000000 in
set_option maxRecDepth 20000 in
theorem pw_team_t (hst : l.stackTraces = false) (wf : fz_wf V nt nc nq nl wk) (y : Int32) (z : Int32) (hok : (fz_ix y (V 3 0) && fz_vo z 11) = true) : pw_op l yL_team wsL_team 8 126 2 12 D cy [.ref (f 0), .int y, .int z] (pK cy f a t h x ad cn V L K) (fz_tval V nc nl y.toNatClampNeg z.toNatClampNeg) (pK cy f a t h x ad cn V L K) := by
  rintro Wn ⟨X, sl, g, T, vb, S, hX, hg, hc, hk, rfl⟩
  exact ⟨fz_cat (pwB cy f a t h x ad sl g cn V T X vb S) [1, 3, 4, 5, 6, 7, 8, 9], _, _, pwW cy f a t h x ad sl g cn V (T) X vb S, c_L_team_t l hst D cy f t h x a V nt nc nq nl wk wf y z hok, (by rw [List.append_assoc]; exact fz_cat_P (pwB cy f a t h x ad sl g cn V T X vb S) (L' := [0, 2, 1, 3, 4, 5, 6, 7, 8, 9]) (by decide)), (by rw [List.append_assoc]; exact fz_cat_P (pwB cy f a t h x ad sl g cn V (T) X vb S) (L := [0, 2, 1, 3, 4, 5, 6, 7, 8, 9]) (by decide)), rfl, X, sl, g, T, vb, S, hX, hg, hc, hk, rfl⟩
set_option maxHeartbeats 1000000 in
set_option maxRecDepth 20000 in
theorem pw_team_IO (hst : l.stackTraces = false) (wf : fz_wf V nt nc nq nl wk) (y : Int32) (z : Int32) (hok : (fz_ix y (V 3 0) && fz_vo z 11) = false) (hen : (bif fz_ix y (V 3 0) then xIA else xIO) = xIO) : pw_op l yL_team wsL_team 8 126 2 12 D cy [.ref (f 0), .int y, .int z] (pK cy f a t h x ad cn V L K) (-11) (pK cy f a t h x ad cn V L K) := by
  rintro Wn ⟨X, sl, g, T, vb, S, hX, hg, hc, hk, rfl⟩
  exact ⟨fz_cat (pwB cy f a t h x ad sl g cn V T X vb S) [1, 3, 4, 5, 6, 7, 8, 9], _, _, pwW cy f a t h x ad sl g cn V (T) X vb S, c_L_team_IO l hst D cy f t h x a V nt nc nq nl wk wf y z hok hen, (by rw [List.append_assoc]; exact fz_cat_P (pwB cy f a t h x ad sl g cn V T X vb S) (L' := [0, 2, 1, 3, 4, 5, 6, 7, 8, 9]) (by decide)), (by rw [List.append_assoc]; exact fz_cat_P (pwB cy f a t h x ad sl g cn V (T) X vb S) (L := [0, 2, 1, 3, 4, 5, 6, 7, 8, 9]) (by decide)), rfl, X, sl, g, T, vb, S, hX, hg, hc, hk, rfl⟩
set_option maxHeartbeats 1000000 in
set_option maxRecDepth 20000 in
theorem pw_team_IA (hst : l.stackTraces = false) (wf : fz_wf V nt nc nq nl wk) (y : Int32) (z : Int32) (hok : (fz_ix y (V 3 0) && fz_vo z 11) = false) (hen : (bif fz_ix y (V 3 0) then xIA else xIO) = xIA) : pw_op l yL_team wsL_team 8 126 2 12 D cy [.ref (f 0), .int y, .int z] (pK cy f a t h x ad cn V L K) (-12) (pK cy f a t h x ad cn V L K) := by
  rintro Wn ⟨X, sl, g, T, vb, S, hX, hg, hc, hk, rfl⟩
  exact ⟨fz_cat (pwB cy f a t h x ad sl g cn V T X vb S) [1, 3, 4, 5, 6, 7, 8, 9], _, _, pwW cy f a t h x ad sl g cn V (T) X vb S, c_L_team_IA l hst D cy f t h x a V nt nc nq nl wk wf y z hok hen, (by rw [List.append_assoc]; exact fz_cat_P (pwB cy f a t h x ad sl g cn V T X vb S) (L' := [0, 2, 1, 3, 4, 5, 6, 7, 8, 9]) (by decide)), (by rw [List.append_assoc]; exact fz_cat_P (pwB cy f a t h x ad sl g cn V (T) X vb S) (L := [0, 2, 1, 3, 4, 5, 6, 7, 8, 9]) (by decide)), rfl, X, sl, g, T, vb, S, hX, hg, hc, hk, rfl⟩
set_option maxHeartbeats 1000000 in
set_option maxRecDepth 20000 in
theorem pw_change_t (hst : l.stackTraces = false) (wf : fz_wf V nt nc nq nl wk) (y : Int32) (z : Int32) (hok : (fz_ix y (V 8 0) && fz_vo z 7) = true) : pw_op l yL_change wsL_change 8 126 2 12 D cy [.ref (f 0), .int y, .int z] (pK cy f a t h x ad cn V L K) (V (9 + z.toNatClampNeg) y.toNatClampNeg) (pK cy f a t h x ad cn V L K) := by
  rintro Wn ⟨X, sl, g, T, vb, S, hX, hg, hc, hk, rfl⟩
  exact ⟨fz_cat (pwB cy f a t h x ad sl g cn V T X vb S) [1, 3, 4, 5, 6, 7, 8, 9], _, _, pwW cy f a t h x ad sl g cn V (T) X vb S, c_L_change_t l hst D cy f t h x a V nt nc nq nl wk wf y z hok, (by rw [List.append_assoc]; exact fz_cat_P (pwB cy f a t h x ad sl g cn V T X vb S) (L' := [0, 2, 1, 3, 4, 5, 6, 7, 8, 9]) (by decide)), (by rw [List.append_assoc]; exact fz_cat_P (pwB cy f a t h x ad sl g cn V (T) X vb S) (L := [0, 2, 1, 3, 4, 5, 6, 7, 8, 9]) (by decide)), rfl, X, sl, g, T, vb, S, hX, hg, hc, hk, rfl⟩
set_option maxHeartbeats 1000000 in
set_option maxRecDepth 20000 in
theorem pw_change_IO (hst : l.stackTraces = false) (wf : fz_wf V nt nc nq nl wk) (y : Int32) (z : Int32) (hok : (fz_ix y (V 8 0) && fz_vo z 7) = false) (hen : (bif fz_ix y (V 8 0) then xIA else xIO) = xIO) : pw_op l yL_change wsL_change 8 126 2 12 D cy [.ref (f 0), .int y, .int z] (pK cy f a t h x ad cn V L K) (-11) (pK cy f a t h x ad cn V L K) := by
  rintro Wn ⟨X, sl, g, T, vb, S, hX, hg, hc, hk, rfl⟩
  exact ⟨fz_cat (pwB cy f a t h x ad sl g cn V T X vb S) [1, 3, 4, 5, 6, 7, 8, 9], _, _, pwW cy f a t h x ad sl g cn V (T) X vb S, c_L_change_IO l hst D cy f t h x a V nt nc nq nl wk wf y z hok hen, (by rw [List.append_assoc]; exact fz_cat_P (pwB cy f a t h x ad sl g cn V T X vb S) (L' := [0, 2, 1, 3, 4, 5, 6, 7, 8, 9]) (by decide)), (by rw [List.append_assoc]; exact fz_cat_P (pwB cy f a t h x ad sl g cn V (T) X vb S) (L := [0, 2, 1, 3, 4, 5, 6, 7, 8, 9]) (by decide)), rfl, X, sl, g, T, vb, S, hX, hg, hc, hk, rfl⟩
set_option maxHeartbeats 1000000 in
set_option maxRecDepth 20000 in
theorem pw_change_IA (hst : l.stackTraces = false) (wf : fz_wf V nt nc nq nl wk) (y : Int32) (z : Int32) (hok : (fz_ix y (V 8 0) && fz_vo z 7) = false) (hen : (bif fz_ix y (V 8 0) then xIA else xIO) = xIA) : pw_op l yL_change wsL_change 8 126 2 12 D cy [.ref (f 0), .int y, .int z] (pK cy f a t h x ad cn V L K) (-12) (pK cy f a t h x ad cn V L K) := by
  rintro Wn ⟨X, sl, g, T, vb, S, hX, hg, hc, hk, rfl⟩
  exact ⟨fz_cat (pwB cy f a t h x ad sl g cn V T X vb S) [1, 3, 4, 5, 6, 7, 8, 9], _, _, pwW cy f a t h x ad sl g cn V (T) X vb S, c_L_change_IA l hst D cy f t h x a V nt nc nq nl wk wf y z hok hen, (by rw [List.append_assoc]; exact fz_cat_P (pwB cy f a t h x ad sl g cn V T X vb S) (L' := [0, 2, 1, 3, 4, 5, 6, 7, 8, 9]) (by decide)), (by rw [List.append_assoc]; exact fz_cat_P (pwB cy f a t h x ad sl g cn V (T) X vb S) (L := [0, 2, 1, 3, 4, 5, 6, 7, 8, 9]) (by decide)), rfl, X, sl, g, T, vb, S, hX, hg, hc, hk, rfl⟩
set_option maxHeartbeats 1000000 in
set_option maxRecDepth 20000 in
theorem pw_loan_t (hst : l.stackTraces = false) (wf : fz_wf V nt nc nq nl wk) (y : Int32) (z : Int32) (hok : (fz_ix y (V 17 0) && fz_vo z 6) = true) : pw_op l yL_loan wsL_loan 8 126 1 6 D cy [.ref (f 0), .int y, .int z] (pK cy f a t h x ad cn V L K) (V (18 + z.toNatClampNeg) y.toNatClampNeg) (pK cy f a t h x ad cn V L K) := by
  rintro Wn ⟨X, sl, g, T, vb, S, hX, hg, hc, hk, rfl⟩
  exact ⟨fz_cat (pwB cy f a t h x ad sl g cn V T X vb S) [1, 3, 4, 5, 6, 7, 8, 9], _, _, pwW cy f a t h x ad sl g cn V (T) X vb S, c_L_loan_t l hst D cy f t h x a V nt nc nq nl wk wf y z hok, (by rw [List.append_assoc]; exact fz_cat_P (pwB cy f a t h x ad sl g cn V T X vb S) (L' := [0, 2, 1, 3, 4, 5, 6, 7, 8, 9]) (by decide)), (by rw [List.append_assoc]; exact fz_cat_P (pwB cy f a t h x ad sl g cn V (T) X vb S) (L := [0, 2, 1, 3, 4, 5, 6, 7, 8, 9]) (by decide)), rfl, X, sl, g, T, vb, S, hX, hg, hc, hk, rfl⟩
set_option maxHeartbeats 1000000 in
set_option maxRecDepth 20000 in
theorem pw_loan_IO (hst : l.stackTraces = false) (wf : fz_wf V nt nc nq nl wk) (y : Int32) (z : Int32) (hok : (fz_ix y (V 17 0) && fz_vo z 6) = false) (hen : (bif fz_ix y (V 17 0) then xIA else xIO) = xIO) : pw_op l yL_loan wsL_loan 8 126 1 6 D cy [.ref (f 0), .int y, .int z] (pK cy f a t h x ad cn V L K) (-11) (pK cy f a t h x ad cn V L K) := by
  rintro Wn ⟨X, sl, g, T, vb, S, hX, hg, hc, hk, rfl⟩
  exact ⟨fz_cat (pwB cy f a t h x ad sl g cn V T X vb S) [1, 3, 4, 5, 6, 7, 8, 9], _, _, pwW cy f a t h x ad sl g cn V (T) X vb S, c_L_loan_IO l hst D cy f t h x a V nt nc nq nl wk wf y z hok hen, (by rw [List.append_assoc]; exact fz_cat_P (pwB cy f a t h x ad sl g cn V T X vb S) (L' := [0, 2, 1, 3, 4, 5, 6, 7, 8, 9]) (by decide)), (by rw [List.append_assoc]; exact fz_cat_P (pwB cy f a t h x ad sl g cn V (T) X vb S) (L := [0, 2, 1, 3, 4, 5, 6, 7, 8, 9]) (by decide)), rfl, X, sl, g, T, vb, S, hX, hg, hc, hk, rfl⟩
set_option maxHeartbeats 1000000 in
set_option maxRecDepth 20000 in
theorem pw_loan_IA (hst : l.stackTraces = false) (wf : fz_wf V nt nc nq nl wk) (y : Int32) (z : Int32) (hok : (fz_ix y (V 17 0) && fz_vo z 6) = false) (hen : (bif fz_ix y (V 17 0) then xIA else xIO) = xIA) : pw_op l yL_loan wsL_loan 8 126 1 6 D cy [.ref (f 0), .int y, .int z] (pK cy f a t h x ad cn V L K) (-12) (pK cy f a t h x ad cn V L K) := by
  rintro Wn ⟨X, sl, g, T, vb, S, hX, hg, hc, hk, rfl⟩
  exact ⟨fz_cat (pwB cy f a t h x ad sl g cn V T X vb S) [1, 3, 4, 5, 6, 7, 8, 9], _, _, pwW cy f a t h x ad sl g cn V (T) X vb S, c_L_loan_IA l hst D cy f t h x a V nt nc nq nl wk wf y z hok hen, (by rw [List.append_assoc]; exact fz_cat_P (pwB cy f a t h x ad sl g cn V T X vb S) (L' := [0, 2, 1, 3, 4, 5, 6, 7, 8, 9]) (by decide)), (by rw [List.append_assoc]; exact fz_cat_P (pwB cy f a t h x ad sl g cn V (T) X vb S) (L := [0, 2, 1, 3, 4, 5, 6, 7, 8, 9]) (by decide)), rfl, X, sl, g, T, vb, S, hX, hg, hc, hk, rfl⟩
set_option maxHeartbeats 1000000 in
set_option maxRecDepth 20000 in
theorem pw_waiting_t (hst : l.stackTraces = false) (wf : fz_wf V nt nc nq nl wk) (y : Int32) (hok : (!(decide (y < 0))) = true) : pw_op l yL_waiting wsL_waiting 7 103 1 6 D cy [.ref (f 0), .int y] (pK cy f a t h x ad cn V L K) (if y < V 8 1 then V 16 y.toNatClampNeg else -1) (pK cy f a t h x ad cn V L K) := by
  rintro Wn ⟨X, sl, g, T, vb, S, hX, hg, hc, hk, rfl⟩
  exact ⟨fz_cat (pwB cy f a t h x ad sl g cn V T X vb S) [1, 3, 4, 5, 6, 7, 8, 9], _, _, pwW cy f a t h x ad sl g cn V (T) X vb S, c_L_waiting_t l hst D cy f t h x a V nt nc nq nl wk wf y hok, (by rw [List.append_assoc]; exact fz_cat_P (pwB cy f a t h x ad sl g cn V T X vb S) (L' := [0, 2, 1, 3, 4, 5, 6, 7, 8, 9]) (by decide)), (by rw [List.append_assoc]; exact fz_cat_P (pwB cy f a t h x ad sl g cn V (T) X vb S) (L := [0, 2, 1, 3, 4, 5, 6, 7, 8, 9]) (by decide)), rfl, X, sl, g, T, vb, S, hX, hg, hc, hk, rfl⟩
set_option maxHeartbeats 1000000 in
set_option maxRecDepth 20000 in
theorem pw_waiting_IA (hst : l.stackTraces = false) (wf : fz_wf V nt nc nq nl wk) (y : Int32) (hok : (!(decide (y < 0))) = false) : pw_op l yL_waiting wsL_waiting 7 103 1 6 D cy [.ref (f 0), .int y] (pK cy f a t h x ad cn V L K) (-11) (pK cy f a t h x ad cn V L K) := by
  rintro Wn ⟨X, sl, g, T, vb, S, hX, hg, hc, hk, rfl⟩
  exact ⟨fz_cat (pwB cy f a t h x ad sl g cn V T X vb S) [1, 3, 4, 5, 6, 7, 8, 9], _, _, pwW cy f a t h x ad sl g cn V (T) X vb S, c_L_waiting_IA l hst D cy f t h x a V nt nc nq nl wk wf y hok rfl, (by rw [List.append_assoc]; exact fz_cat_P (pwB cy f a t h x ad sl g cn V T X vb S) (L' := [0, 2, 1, 3, 4, 5, 6, 7, 8, 9]) (by decide)), (by rw [List.append_assoc]; exact fz_cat_P (pwB cy f a t h x ad sl g cn V (T) X vb S) (L := [0, 2, 1, 3, 4, 5, 6, 7, 8, 9]) (by decide)), rfl, X, sl, g, T, vb, S, hX, hg, hc, hk, rfl⟩
set_option maxHeartbeats 1000000 in
set_option maxRecDepth 20000 in
theorem pw_frozen_t (hst : l.stackTraces = false) (y : Int32) (hok : (fz_vo y 40) = true) : pw_op l yL_frozen wsL_frozen 7 103 1 6 D cy [.ref (f 0), .int y] (pK cy f a t h x ad cn V L K) (fz_nz (V 2 y.toNatClampNeg)) (pK cy f a t h x ad cn V L K) := by
  rintro Wn ⟨X, sl, g, T, vb, S, hX, hg, hc, hk, rfl⟩
  exact ⟨fz_cat (pwB cy f a t h x ad sl g cn V T X vb S) [1, 3, 4, 5, 6, 7, 8, 9], _, _, pwW cy f a t h x ad sl g cn V (T) X vb S, c_L_frozen_t l hst D cy f t h x a V y hok, (by rw [List.append_assoc]; exact fz_cat_P (pwB cy f a t h x ad sl g cn V T X vb S) (L' := [0, 2, 1, 3, 4, 5, 6, 7, 8, 9]) (by decide)), (by rw [List.append_assoc]; exact fz_cat_P (pwB cy f a t h x ad sl g cn V (T) X vb S) (L := [0, 2, 1, 3, 4, 5, 6, 7, 8, 9]) (by decide)), rfl, X, sl, g, T, vb, S, hX, hg, hc, hk, rfl⟩
set_option maxHeartbeats 1000000 in
set_option maxRecDepth 20000 in
theorem pw_frozen_IA (hst : l.stackTraces = false) (y : Int32) (hok : (fz_vo y 40) = false) : pw_op l yL_frozen wsL_frozen 7 103 1 6 D cy [.ref (f 0), .int y] (pK cy f a t h x ad cn V L K) (-11) (pK cy f a t h x ad cn V L K) := by
  rintro Wn ⟨X, sl, g, T, vb, S, hX, hg, hc, hk, rfl⟩
  exact ⟨fz_cat (pwB cy f a t h x ad sl g cn V T X vb S) [1, 3, 4, 5, 6, 7, 8, 9], _, _, pwW cy f a t h x ad sl g cn V (T) X vb S, c_L_frozen_IA l hst D cy f t h x a V y hok rfl, (by rw [List.append_assoc]; exact fz_cat_P (pwB cy f a t h x ad sl g cn V T X vb S) (L' := [0, 2, 1, 3, 4, 5, 6, 7, 8, 9]) (by decide)), (by rw [List.append_assoc]; exact fz_cat_P (pwB cy f a t h x ad sl g cn V (T) X vb S) (L := [0, 2, 1, 3, 4, 5, 6, 7, 8, 9]) (by decide)), rfl, X, sl, g, T, vb, S, hX, hg, hc, hk, rfl⟩
set_option maxHeartbeats 1000000 in
set_option maxRecDepth 20000 in
theorem pw_reason_t (hst : l.stackTraces = false) (wf : fz_wf V nt nc nq nl wk) (y : Int32) (hok : (fz_ix y (V 8 0)) = true) : pw_op l yL_reason wsL_reason 8 124 1 6 D cy [.ref (f 0), .int y] (pK cy f a t h x ad cn V L K) (fz_reason V nl y.toNatClampNeg) (pK cy f a t h x ad cn V L K) := by
  rintro Wn ⟨X, sl, g, T, vb, S, hX, hg, hc, hk, rfl⟩
  exact ⟨fz_cat (pwB cy f a t h x ad sl g cn V T X vb S) [1, 3, 4, 5, 6, 7, 8, 9], _, _, pwW cy f a t h x ad sl g cn V (T) X vb S, c_L_reason_t l hst D cy f t h x a V nt nc nq nl wk wf y hok, (by rw [List.append_assoc]; exact fz_cat_P (pwB cy f a t h x ad sl g cn V T X vb S) (L' := [0, 2, 1, 3, 4, 5, 6, 7, 8, 9]) (by decide)), (by rw [List.append_assoc]; exact fz_cat_P (pwB cy f a t h x ad sl g cn V (T) X vb S) (L := [0, 2, 1, 3, 4, 5, 6, 7, 8, 9]) (by decide)), rfl, X, sl, g, T, vb, S, hX, hg, hc, hk, rfl⟩
set_option maxHeartbeats 1000000 in
set_option maxRecDepth 20000 in
theorem pw_reason_IO (hst : l.stackTraces = false) (wf : fz_wf V nt nc nq nl wk) (y : Int32) (hok : (fz_ix y (V 8 0)) = false) : pw_op l yL_reason wsL_reason 8 124 1 6 D cy [.ref (f 0), .int y] (pK cy f a t h x ad cn V L K) (-11) (pK cy f a t h x ad cn V L K) := by
  rintro Wn ⟨X, sl, g, T, vb, S, hX, hg, hc, hk, rfl⟩
  exact ⟨fz_cat (pwB cy f a t h x ad sl g cn V T X vb S) [1, 3, 4, 5, 6, 7, 8, 9], _, _, pwW cy f a t h x ad sl g cn V (T) X vb S, c_L_reason_IO l hst D cy f t h x a V nt nc nq nl wk wf y hok rfl, (by rw [List.append_assoc]; exact fz_cat_P (pwB cy f a t h x ad sl g cn V T X vb S) (L' := [0, 2, 1, 3, 4, 5, 6, 7, 8, 9]) (by decide)), (by rw [List.append_assoc]; exact fz_cat_P (pwB cy f a t h x ad sl g cn V (T) X vb S) (L := [0, 2, 1, 3, 4, 5, 6, 7, 8, 9]) (by decide)), rfl, X, sl, g, T, vb, S, hX, hg, hc, hk, rfl⟩
set_option maxHeartbeats 1000000 in
set_option maxRecDepth 20000 in
theorem pw_exemptible_t (hst : l.stackTraces = false) (wf : fz_wf V nt nc nq nl wk) (y : Int32) (hok : (fz_ix y (V 3 0)) = true) : pw_op l yL_exemptible wsL_exemptible 8 124 1 6 D cy [.ref (f 0), .int y] (pK cy f a t h x ad cn V L K) (fz_xc V nl nq y.toNatClampNeg) (pK cy f a t h x ad cn V L K) := by
  rintro Wn ⟨X, sl, g, T, vb, S, hX, hg, hc, hk, rfl⟩
  exact ⟨fz_cat (pwB cy f a t h x ad sl g cn V T X vb S) [1, 3, 4, 5, 6, 7, 8, 9], _, _, pwW cy f a t h x ad sl g cn V (T) X vb S, c_L_exemptible_t l hst D cy f t h x a V nt nc nq nl wk wf y hok, (by rw [List.append_assoc]; exact fz_cat_P (pwB cy f a t h x ad sl g cn V T X vb S) (L' := [0, 2, 1, 3, 4, 5, 6, 7, 8, 9]) (by decide)), (by rw [List.append_assoc]; exact fz_cat_P (pwB cy f a t h x ad sl g cn V (T) X vb S) (L := [0, 2, 1, 3, 4, 5, 6, 7, 8, 9]) (by decide)), rfl, X, sl, g, T, vb, S, hX, hg, hc, hk, rfl⟩
set_option maxHeartbeats 1000000 in
set_option maxRecDepth 20000 in
theorem pw_exemptible_IO (hst : l.stackTraces = false) (wf : fz_wf V nt nc nq nl wk) (y : Int32) (hok : (fz_ix y (V 3 0)) = false) : pw_op l yL_exemptible wsL_exemptible 8 124 1 6 D cy [.ref (f 0), .int y] (pK cy f a t h x ad cn V L K) (-11) (pK cy f a t h x ad cn V L K) := by
  rintro Wn ⟨X, sl, g, T, vb, S, hX, hg, hc, hk, rfl⟩
  exact ⟨fz_cat (pwB cy f a t h x ad sl g cn V T X vb S) [1, 3, 4, 5, 6, 7, 8, 9], _, _, pwW cy f a t h x ad sl g cn V (T) X vb S, c_L_exemptible_IO l hst D cy f t h x a V nt nc nq nl wk wf y hok rfl, (by rw [List.append_assoc]; exact fz_cat_P (pwB cy f a t h x ad sl g cn V T X vb S) (L' := [0, 2, 1, 3, 4, 5, 6, 7, 8, 9]) (by decide)), (by rw [List.append_assoc]; exact fz_cat_P (pwB cy f a t h x ad sl g cn V (T) X vb S) (L := [0, 2, 1, 3, 4, 5, 6, 7, 8, 9]) (by decide)), rfl, X, sl, g, T, vb, S, hX, hg, hc, hk, rfl⟩
set_option maxHeartbeats 1000000 in
set_option maxRecDepth 20000 in
theorem pw_lender_t (hst : l.stackTraces = false) (wf : fz_wf V nt nc nq nl wk) (y : Int32) (z : Int32) (hok : (fz_ix y (V 3 0) && fz_risk z) = true) : pw_op l yL_lender wsL_lender 8 126 2 12 D cy [.ref (f 0), .int y, .int z] (pK cy f a t h x ad cn V L K) (fz_ldr V nt nl y z) (pK cy f a t h x ad cn V L K) := by
  rintro Wn ⟨X, sl, g, T, vb, S, hX, hg, hc, hk, rfl⟩
  exact ⟨fz_cat (pwB cy f a t h x ad sl g cn V T X vb S) [1, 3, 4, 5, 6, 7, 8, 9], _, _, pwW cy f a t h x ad sl g cn V (T) X vb S, c_L_lender_t l hst D cy f t h x a V nt nc nq nl wk wf y z hok, (by rw [List.append_assoc]; exact fz_cat_P (pwB cy f a t h x ad sl g cn V T X vb S) (L' := [0, 2, 1, 3, 4, 5, 6, 7, 8, 9]) (by decide)), (by rw [List.append_assoc]; exact fz_cat_P (pwB cy f a t h x ad sl g cn V (T) X vb S) (L := [0, 2, 1, 3, 4, 5, 6, 7, 8, 9]) (by decide)), rfl, X, sl, g, T, vb, S, hX, hg, hc, hk, rfl⟩
set_option maxHeartbeats 1000000 in
set_option maxRecDepth 20000 in
theorem pw_lender_IO (hst : l.stackTraces = false) (wf : fz_wf V nt nc nq nl wk) (y : Int32) (z : Int32) (hok : (fz_ix y (V 3 0) && fz_risk z) = false) (hen : (bif fz_ix y (V 3 0) then xIA else xIO) = xIO) : pw_op l yL_lender wsL_lender 8 126 2 12 D cy [.ref (f 0), .int y, .int z] (pK cy f a t h x ad cn V L K) (-11) (pK cy f a t h x ad cn V L K) := by
  rintro Wn ⟨X, sl, g, T, vb, S, hX, hg, hc, hk, rfl⟩
  exact ⟨fz_cat (pwB cy f a t h x ad sl g cn V T X vb S) [1, 3, 4, 5, 6, 7, 8, 9], _, _, pwW cy f a t h x ad sl g cn V (T) X vb S, c_L_lender_IO l hst D cy f t h x a V nt nc nq nl wk wf y z hok hen, (by rw [List.append_assoc]; exact fz_cat_P (pwB cy f a t h x ad sl g cn V T X vb S) (L' := [0, 2, 1, 3, 4, 5, 6, 7, 8, 9]) (by decide)), (by rw [List.append_assoc]; exact fz_cat_P (pwB cy f a t h x ad sl g cn V (T) X vb S) (L := [0, 2, 1, 3, 4, 5, 6, 7, 8, 9]) (by decide)), rfl, X, sl, g, T, vb, S, hX, hg, hc, hk, rfl⟩
set_option maxHeartbeats 1000000 in
set_option maxRecDepth 20000 in
theorem pw_lender_IA (hst : l.stackTraces = false) (wf : fz_wf V nt nc nq nl wk) (y : Int32) (z : Int32) (hok : (fz_ix y (V 3 0) && fz_risk z) = false) (hen : (bif fz_ix y (V 3 0) then xIA else xIO) = xIA) : pw_op l yL_lender wsL_lender 8 126 2 12 D cy [.ref (f 0), .int y, .int z] (pK cy f a t h x ad cn V L K) (-12) (pK cy f a t h x ad cn V L K) := by
  rintro Wn ⟨X, sl, g, T, vb, S, hX, hg, hc, hk, rfl⟩
  exact ⟨fz_cat (pwB cy f a t h x ad sl g cn V T X vb S) [1, 3, 4, 5, 6, 7, 8, 9], _, _, pwW cy f a t h x ad sl g cn V (T) X vb S, c_L_lender_IA l hst D cy f t h x a V nt nc nq nl wk wf y z hok hen, (by rw [List.append_assoc]; exact fz_cat_P (pwB cy f a t h x ad sl g cn V T X vb S) (L' := [0, 2, 1, 3, 4, 5, 6, 7, 8, 9]) (by decide)), (by rw [List.append_assoc]; exact fz_cat_P (pwB cy f a t h x ad sl g cn V (T) X vb S) (L := [0, 2, 1, 3, 4, 5, 6, 7, 8, 9]) (by decide)), rfl, X, sl, g, T, vb, S, hX, hg, hc, hk, rfl⟩
set_option maxHeartbeats 1000000 in
set_option maxRecDepth 20000 in
theorem pw_whole_t (hst : l.stackTraces = false) (wf : fz_wf V nt nc nq nl wk) (y : Int32) (hok : (fz_vo y 18) = true) : pw_op l yL_whole wsL_whole 8 129 1 6 D cy [.ref (f 0), .int y] (pK cy f a t h x ad cn V L K) (if y.toNatClampNeg = 17 then nI L.length else fz_wval V nt nc nl wk y.toNatClampNeg) (pK cy f a t h x ad cn V L K) := by
  rintro Wn ⟨X, sl, g, T, vb, S, hX, hg, hc, hk, rfl⟩
  have C := c_L_whole_t l hst D cy f t h a V x ad X vb nt nc nq nl wk wf y hok
  rw [hX.1] at C
  exact ⟨fz_cat (pwB cy f a t h x ad sl g cn V T X vb S) [1, 3, 5, 6, 7, 8, 9], _, _, pwW cy f a t h x ad sl g cn V (T) X vb S, C, (by rw [List.append_assoc, List.append_assoc]; exact fz_cat_P (pwB cy f a t h x ad sl g cn V T X vb S) (L' := [0, 2, 4, 1, 3, 5, 6, 7, 8, 9]) (by decide)), (by rw [List.append_assoc, List.append_assoc]; exact fz_cat_P (pwB cy f a t h x ad sl g cn V (T) X vb S) (L := [0, 2, 4, 1, 3, 5, 6, 7, 8, 9]) (by decide)), rfl, X, sl, g, T, vb, S, hX, hg, hc, hk, rfl⟩
set_option maxHeartbeats 1000000 in
set_option maxRecDepth 20000 in
theorem pw_whole_IA (hst : l.stackTraces = false) (wf : fz_wf V nt nc nq nl wk) (y : Int32) (hok : (fz_vo y 18) = false) : pw_op l yL_whole wsL_whole 8 129 1 6 D cy [.ref (f 0), .int y] (pK cy f a t h x ad cn V L K) (-11) (pK cy f a t h x ad cn V L K) := by
  rintro Wn ⟨X, sl, g, T, vb, S, hX, hg, hc, hk, rfl⟩
  exact ⟨fz_cat (pwB cy f a t h x ad sl g cn V T X vb S) [1, 3, 5, 6, 7, 8, 9], _, _, pwW cy f a t h x ad sl g cn V (T) X vb S, c_L_whole_IA l hst D cy f t h a V x ad X vb nt nc nq nl wk wf y hok rfl, (by rw [List.append_assoc, List.append_assoc]; exact fz_cat_P (pwB cy f a t h x ad sl g cn V T X vb S) (L' := [0, 2, 4, 1, 3, 5, 6, 7, 8, 9]) (by decide)), (by rw [List.append_assoc, List.append_assoc]; exact fz_cat_P (pwB cy f a t h x ad sl g cn V (T) X vb S) (L := [0, 2, 4, 1, 3, 5, 6, 7, 8, 9]) (by decide)), rfl, X, sl, g, T, vb, S, hX, hg, hc, hk, rfl⟩
set_option maxHeartbeats 1000000 in
set_option maxRecDepth 20000 in
theorem pw_weeksUntil_t (hst : l.stackTraces = false) (wf : fz_wf V nt nc nq nl wk) (hz : fz_zo (V 2) 40) (y : Int32) (z : Int32) (hok : (fz_ix y (V 3 0) && fz_risk z) = true) : pw_op l yL_weeksUntil wsL_weeksUntil 8 128 2 12 D cy [.ref (f 0), .int y, .int z] (pK cy f a t h x ad cn V L K) (fz_wu (fun i => fz_its V nt nc nl wk i 4 y.toNatClampNeg) (z * V 1 0) (39 - wk) 0) (pK cy f a t h x ad cn V L K) := by
  rintro Wn ⟨X, sl, g, T, vb, S, hX, hg, hc, hk, rfl⟩
  exact ⟨fz_cat (pwB cy f a t h x ad sl g cn V T X vb S) [1, 4, 5, 6, 7, 8, 9], _, _, pwW cy f a t h x ad sl g cn V ((cx_wu V nt nc nl wk y z).2) X vb S, c_L_weeksUntil_t l hst D cy f h x a V t T nt nc nq nl wk wf y z hz hok, (by rw [List.append_assoc, List.append_assoc]; exact fz_cat_P (pwB cy f a t h x ad sl g cn V T X vb S) (L' := [0, 2, 3, 1, 4, 5, 6, 7, 8, 9]) (by decide)), (by rw [List.append_assoc, List.append_assoc]; exact fz_cat_P (pwB cy f a t h x ad sl g cn V ((cx_wu V nt nc nl wk y z).2) X vb S) (L := [0, 2, 3, 1, 4, 5, 6, 7, 8, 9]) (by decide)), rfl, X, sl, g, (cx_wu V nt nc nl wk y z).2, vb, S, hX, hg, hc, hk, rfl⟩
set_option maxHeartbeats 1000000 in
set_option maxRecDepth 20000 in
theorem pw_weeksUntil_IO (hst : l.stackTraces = false) (wf : fz_wf V nt nc nq nl wk) (hz : fz_zo (V 2) 40) (y : Int32) (z : Int32) (hok : (fz_ix y (V 3 0) && fz_risk z) = false) (hen : (bif fz_ix y (V 3 0) then xIA else xIO) = xIO) : pw_op l yL_weeksUntil wsL_weeksUntil 8 128 2 12 D cy [.ref (f 0), .int y, .int z] (pK cy f a t h x ad cn V L K) (-11) (pK cy f a t h x ad cn V L K) := by
  rintro Wn ⟨X, sl, g, T, vb, S, hX, hg, hc, hk, rfl⟩
  exact ⟨fz_cat (pwB cy f a t h x ad sl g cn V T X vb S) [1, 4, 5, 6, 7, 8, 9], _, _, pwW cy f a t h x ad sl g cn V (T) X vb S, c_L_weeksUntil_IO l hst D cy f h x a V t T nt nc nq nl wk wf y z hz hok hen, (by rw [List.append_assoc, List.append_assoc]; exact fz_cat_P (pwB cy f a t h x ad sl g cn V T X vb S) (L' := [0, 2, 3, 1, 4, 5, 6, 7, 8, 9]) (by decide)), (by rw [List.append_assoc, List.append_assoc]; exact fz_cat_P (pwB cy f a t h x ad sl g cn V (T) X vb S) (L := [0, 2, 3, 1, 4, 5, 6, 7, 8, 9]) (by decide)), rfl, X, sl, g, T, vb, S, hX, hg, hc, hk, rfl⟩
set_option maxHeartbeats 1000000 in
set_option maxRecDepth 20000 in
theorem pw_weeksUntil_IA (hst : l.stackTraces = false) (wf : fz_wf V nt nc nq nl wk) (hz : fz_zo (V 2) 40) (y : Int32) (z : Int32) (hok : (fz_ix y (V 3 0) && fz_risk z) = false) (hen : (bif fz_ix y (V 3 0) then xIA else xIO) = xIA) : pw_op l yL_weeksUntil wsL_weeksUntil 8 128 2 12 D cy [.ref (f 0), .int y, .int z] (pK cy f a t h x ad cn V L K) (-12) (pK cy f a t h x ad cn V L K) := by
  rintro Wn ⟨X, sl, g, T, vb, S, hX, hg, hc, hk, rfl⟩
  exact ⟨fz_cat (pwB cy f a t h x ad sl g cn V T X vb S) [1, 4, 5, 6, 7, 8, 9], _, _, pwW cy f a t h x ad sl g cn V (T) X vb S, c_L_weeksUntil_IA l hst D cy f h x a V t T nt nc nq nl wk wf y z hz hok hen, (by rw [List.append_assoc, List.append_assoc]; exact fz_cat_P (pwB cy f a t h x ad sl g cn V T X vb S) (L' := [0, 2, 3, 1, 4, 5, 6, 7, 8, 9]) (by decide)), (by rw [List.append_assoc, List.append_assoc]; exact fz_cat_P (pwB cy f a t h x ad sl g cn V (T) X vb S) (L := [0, 2, 3, 1, 4, 5, 6, 7, 8, 9]) (by decide)), rfl, X, sl, g, T, vb, S, hX, hg, hc, hk, rfl⟩
set_option maxHeartbeats 1000000 in
set_option maxRecDepth 20000 in
theorem pw_inBeing_t (hst : l.stackTraces = false) (wf : fz_wf V nt nc nq nl wk) (hz : fz_zo (V 2) 40) (y : Int32) (hok : (fz_vo y 40) = true) : pw_op l yL_inBeing wsL_inBeing 7 110 1 6 D cy [.ref (f 0), .int y] (pK cy f a t h x ad cn V L K) (if wk + y.toNatClampNeg ≤ 39 then fz_sum (fz_its V nt nc nl wk y.toNatClampNeg 4) nt + fz_sum (fz_its V nt nc nl wk y.toNatClampNeg 12) nc else -1) (pK cy f a t h x ad cn V L K) := by
  rintro Wn ⟨X, sl, g, T, vb, S, hX, hg, hc, hk, rfl⟩
  have C := c_L_inBeing_t l hst D cy f h x a V t T nt nc nq nl wk wf y hz hok
  have e9 : (cx_ib V T nt nc nl wk y).1 = (if wk + y.toNatClampNeg ≤ 39 then fz_sum (fz_its V nt nc nl wk y.toNatClampNeg 4) nt + fz_sum (fz_its V nt nc nl wk y.toNatClampNeg 12) nc else -1) := by
    unfold cx_ib; split <;> rfl
  rw [e9] at C
  exact ⟨fz_cat (pwB cy f a t h x ad sl g cn V T X vb S) [1, 4, 5, 6, 7, 8, 9], _, _, pwW cy f a t h x ad sl g cn V ((cx_ib V T nt nc nl wk y).2) X vb S, C, (by rw [List.append_assoc, List.append_assoc]; exact fz_cat_P (pwB cy f a t h x ad sl g cn V T X vb S) (L' := [0, 2, 3, 1, 4, 5, 6, 7, 8, 9]) (by decide)), (by rw [List.append_assoc, List.append_assoc]; exact fz_cat_P (pwB cy f a t h x ad sl g cn V ((cx_ib V T nt nc nl wk y).2) X vb S) (L := [0, 2, 3, 1, 4, 5, 6, 7, 8, 9]) (by decide)), rfl, X, sl, g, (cx_ib V T nt nc nl wk y).2, vb, S, hX, hg, hc, hk, rfl⟩
set_option maxHeartbeats 1000000 in
set_option maxRecDepth 20000 in
theorem pw_inBeing_IA (hst : l.stackTraces = false) (wf : fz_wf V nt nc nq nl wk) (hz : fz_zo (V 2) 40) (y : Int32) (hok : (fz_vo y 40) = false) : pw_op l yL_inBeing wsL_inBeing 7 110 1 6 D cy [.ref (f 0), .int y] (pK cy f a t h x ad cn V L K) (-11) (pK cy f a t h x ad cn V L K) := by
  rintro Wn ⟨X, sl, g, T, vb, S, hX, hg, hc, hk, rfl⟩
  exact ⟨fz_cat (pwB cy f a t h x ad sl g cn V T X vb S) [1, 4, 5, 6, 7, 8, 9], _, _, pwW cy f a t h x ad sl g cn V (T) X vb S, c_L_inBeing_IA l hst D cy f h x a V t T nt nc nq nl wk wf y hz hok rfl, (by rw [List.append_assoc, List.append_assoc]; exact fz_cat_P (pwB cy f a t h x ad sl g cn V T X vb S) (L' := [0, 2, 3, 1, 4, 5, 6, 7, 8, 9]) (by decide)), (by rw [List.append_assoc, List.append_assoc]; exact fz_cat_P (pwB cy f a t h x ad sl g cn V (T) X vb S) (L := [0, 2, 3, 1, 4, 5, 6, 7, 8, 9]) (by decide)), rfl, X, sl, g, T, vb, S, hX, hg, hc, hk, rfl⟩
set_option maxHeartbeats 1000000 in
set_option maxRecDepth 20000 in
theorem pw_addTeam_t (hst : l.stackTraces = false) (wf : fz_wf V nt nc nq nl wk) (hz : fz_zo (V 2) 40) (y : Int32) (hok : fz_ok (fz_bring V nt y).1 = true) : pw_op l yL_addTeam wsL_addTeam 8 124 1 6 D cy [.ref (f 0), .int y] (pK cy f a t h x ad cn V L K) (fz_bring V nt y).1 (pS cy f a t h x ad (hs_n cn) (fz_bring V nt y).2 L) := by
  rintro Wn ⟨X, sl, g, T, vb, S, hX, hg, hc, hk, rfl⟩
  exact ⟨[], _, _, pwW cy f a t h x ad (hs_sl sl cn) (hs_g g cn) (hs_n cn) (fz_bring V nt y).2 T X vb (hs_S S V cn), c_L_addTeam_t l hst D cy f a t h x g cn V (sl cn) (S cn) (fz_cat (pwB cy f a t h x ad sl g cn V T X vb S) (pw_rest cn)) nt nc nq nl wk wf hc (hg cn hc) hz (pwW_hh hc hg) y hok, (pwW_old hc).trans (by rw [List.append_nil]), (by rw [List.append_nil]; exact pwW_new hc), rfl, X, hs_sl sl cn, hs_g g cn, T, vb, hs_S S V cn, hX, hs_gsl hc hg, hs_n_lt hc, trivial, rfl⟩
set_option maxHeartbeats 1000000 in
set_option maxRecDepth 20000 in
theorem pw_addTeam_IA (hst : l.stackTraces = false) (wf : fz_wf V nt nc nq nl wk) (hz : fz_zo (V 2) 40) (y : Int32) (e : fz_bring V nt y = (-2, V)) : pw_op l yL_addTeam wsL_addTeam 8 124 1 6 D cy [.ref (f 0), .int y] (pK cy f a t h x ad cn V L K) (-11) (pS cy f a t h x ad cn V L) := by
  rintro Wn ⟨X, sl, g, T, vb, S, hX, hg, hc, hk, rfl⟩
  have hok : fz_ok (fz_bring V nt y).1 = false := by rw [e]; rfl
  have hen : fz_en (fz_bring V nt y).1 = xIA := by rw [e]; rfl
  have C := c_L_addTeam_IA l hst D cy f a t h x g cn V (sl cn) (S cn) (fz_cat (pwB cy f a t h x ad sl g cn V T X vb S) (pw_rest cn)) nt nc nq nl wk wf hc (hg cn hc) hz (pwW_hh hc hg) y hok hen
  rw [show (fz_bring V nt y).2 = V from by rw [e]] at C
  exact ⟨[], _, _, pwW cy f a t h x ad sl g cn V T X vb (hs_p S V cn), C, (pwW_old hc).trans (by rw [List.append_nil]), (by rw [List.append_nil]; exact pwW_no hc), rfl, X, sl, g, T, vb, hs_p S V cn, hX, hg, hc, trivial, rfl⟩
set_option maxHeartbeats 1000000 in
set_option maxRecDepth 20000 in
theorem pw_addTeam_IS (hst : l.stackTraces = false) (wf : fz_wf V nt nc nq nl wk) (hz : fz_zo (V 2) 40) (y : Int32) (e : fz_bring V nt y = (-3, V)) : pw_op l yL_addTeam wsL_addTeam 8 124 1 6 D cy [.ref (f 0), .int y] (pK cy f a t h x ad cn V L K) (-12) (pS cy f a t h x ad cn V L) := by
  rintro Wn ⟨X, sl, g, T, vb, S, hX, hg, hc, hk, rfl⟩
  have hok : fz_ok (fz_bring V nt y).1 = false := by rw [e]; rfl
  have hen : fz_en (fz_bring V nt y).1 = xIS := by rw [e]; rfl
  have C := c_L_addTeam_IS l hst D cy f a t h x g cn V (sl cn) (S cn) (fz_cat (pwB cy f a t h x ad sl g cn V T X vb S) (pw_rest cn)) nt nc nq nl wk wf hc (hg cn hc) hz (pwW_hh hc hg) y hok hen
  rw [show (fz_bring V nt y).2 = V from by rw [e]] at C
  exact ⟨[], _, _, pwW cy f a t h x ad sl g cn V T X vb (hs_p S V cn), C, (pwW_old hc).trans (by rw [List.append_nil]), (by rw [List.append_nil]; exact pwW_no hc), rfl, X, sl, g, T, vb, hs_p S V cn, hX, hg, hc, trivial, rfl⟩
set_option maxHeartbeats 1000000 in
set_option maxRecDepth 20000 in
theorem pw_freeze_t (hst : l.stackTraces = false) (wf : fz_wf V nt nc nq nl wk) (hz : fz_zo (V 2) 40) (y : Int32) (z : Int32) (fr : Bool) (hok : fz_ok (fz_markw V wk y z fr).1 = true) : pw_op l yL_freeze wsL_freeze 8 126 1 6 D cy [.ref (f 0), .int y, .int z, .int (fz_b fr)] (pK cy f a t h x ad cn V L K) (fz_markw V wk y z fr).1 (pS cy f a t h x ad (hs_n cn) (fz_markw V wk y z fr).2 L) := by
  rintro Wn ⟨X, sl, g, T, vb, S, hX, hg, hc, hk, rfl⟩
  exact ⟨[], _, _, pwW cy f a t h x ad (hs_sl sl cn) (hs_g g cn) (hs_n cn) (fz_markw V wk y z fr).2 T X vb (hs_S S V cn), c_L_freeze_t l hst D cy f a t h x g cn V (sl cn) (S cn) (fz_cat (pwB cy f a t h x ad sl g cn V T X vb S) (pw_rest cn)) nt nc nq nl wk wf hc (hg cn hc) hz (pwW_hh hc hg) y z fr hok, (pwW_old hc).trans (by rw [List.append_nil]), (by rw [List.append_nil]; exact pwW_new hc), rfl, X, hs_sl sl cn, hs_g g cn, T, vb, hs_S S V cn, hX, hs_gsl hc hg, hs_n_lt hc, trivial, rfl⟩
set_option maxHeartbeats 1000000 in
set_option maxRecDepth 20000 in
theorem pw_freeze_IA (hst : l.stackTraces = false) (wf : fz_wf V nt nc nq nl wk) (hz : fz_zo (V 2) 40) (y : Int32) (z : Int32) (fr : Bool) (e : fz_markw V wk y z fr = (-2, V)) : pw_op l yL_freeze wsL_freeze 8 126 1 6 D cy [.ref (f 0), .int y, .int z, .int (fz_b fr)] (pK cy f a t h x ad cn V L K) (-11) (pS cy f a t h x ad cn V L) := by
  rintro Wn ⟨X, sl, g, T, vb, S, hX, hg, hc, hk, rfl⟩
  have hok : fz_ok (fz_markw V wk y z fr).1 = false := by rw [e]; rfl
  have hen : fz_en (fz_markw V wk y z fr).1 = xIA := by rw [e]; rfl
  have C := c_L_freeze_IA l hst D cy f a t h x g cn V (sl cn) (S cn) (fz_cat (pwB cy f a t h x ad sl g cn V T X vb S) (pw_rest cn)) nt nc nq nl wk wf hc (hg cn hc) hz (pwW_hh hc hg) y z fr hok hen
  rw [show (fz_markw V wk y z fr).2 = V from by rw [e]] at C
  exact ⟨[], _, _, pwW cy f a t h x ad sl g cn V T X vb (hs_p S V cn), C, (pwW_old hc).trans (by rw [List.append_nil]), (by rw [List.append_nil]; exact pwW_no hc), rfl, X, sl, g, T, vb, hs_p S V cn, hX, hg, hc, trivial, rfl⟩
set_option maxHeartbeats 1000000 in
set_option maxRecDepth 20000 in
theorem pw_freeze_IS (hst : l.stackTraces = false) (wf : fz_wf V nt nc nq nl wk) (hz : fz_zo (V 2) 40) (y : Int32) (z : Int32) (fr : Bool) (e : fz_markw V wk y z fr = (-3, V)) : pw_op l yL_freeze wsL_freeze 8 126 1 6 D cy [.ref (f 0), .int y, .int z, .int (fz_b fr)] (pK cy f a t h x ad cn V L K) (-12) (pS cy f a t h x ad cn V L) := by
  rintro Wn ⟨X, sl, g, T, vb, S, hX, hg, hc, hk, rfl⟩
  have hok : fz_ok (fz_markw V wk y z fr).1 = false := by rw [e]; rfl
  have hen : fz_en (fz_markw V wk y z fr).1 = xIS := by rw [e]; rfl
  have C := c_L_freeze_IS l hst D cy f a t h x g cn V (sl cn) (S cn) (fz_cat (pwB cy f a t h x ad sl g cn V T X vb S) (pw_rest cn)) nt nc nq nl wk wf hc (hg cn hc) hz (pwW_hh hc hg) y z fr hok hen
  rw [show (fz_markw V wk y z fr).2 = V from by rw [e]] at C
  exact ⟨[], _, _, pwW cy f a t h x ad sl g cn V T X vb (hs_p S V cn), C, (pwW_old hc).trans (by rw [List.append_nil]), (by rw [List.append_nil]; exact pwW_no hc), rfl, X, sl, g, T, vb, hs_p S V cn, hX, hg, hc, trivial, rfl⟩
set_option maxHeartbeats 1000000 in
set_option maxRecDepth 20000 in
theorem pw_set_t (hst : l.stackTraces = false) (wf : fz_wf V nt nc nq nl wk) (hz : fz_zo (V 2) 40) (y : Int32) (z : Int32) (hok : fz_ok (fz_set V y z).1 = true) : pw_op l yL_set wsL_set 8 125 1 6 D cy [.ref (f 0), .int y, .int z] (pK cy f a t h x ad cn V L K) (fz_set V y z).1 (pS cy f a t h x ad (hs_n cn) (fz_set V y z).2 L) := by
  rintro Wn ⟨X, sl, g, T, vb, S, hX, hg, hc, hk, rfl⟩
  exact ⟨[], _, _, pwW cy f a t h x ad (hs_sl sl cn) (hs_g g cn) (hs_n cn) (fz_set V y z).2 T X vb (hs_S S V cn), c_L_set_t l hst D cy f a t h x g cn V (sl cn) (S cn) (fz_cat (pwB cy f a t h x ad sl g cn V T X vb S) (pw_rest cn)) nt nc nq nl wk wf hc (hg cn hc) hz (pwW_hh hc hg) y z hok, (pwW_old hc).trans (by rw [List.append_nil]), (by rw [List.append_nil]; exact pwW_new hc), rfl, X, hs_sl sl cn, hs_g g cn, T, vb, hs_S S V cn, hX, hs_gsl hc hg, hs_n_lt hc, trivial, rfl⟩
set_option maxHeartbeats 1000000 in
set_option maxRecDepth 20000 in
theorem pw_set_IA (hst : l.stackTraces = false) (wf : fz_wf V nt nc nq nl wk) (hz : fz_zo (V 2) 40) (y : Int32) (z : Int32) (e : fz_set V y z = (-2, V)) : pw_op l yL_set wsL_set 8 125 1 6 D cy [.ref (f 0), .int y, .int z] (pK cy f a t h x ad cn V L K) (-11) (pS cy f a t h x ad cn V L) := by
  rintro Wn ⟨X, sl, g, T, vb, S, hX, hg, hc, hk, rfl⟩
  have hok : fz_ok (fz_set V y z).1 = false := by rw [e]; rfl
  have hen : fz_en (fz_set V y z).1 = xIA := by rw [e]; rfl
  have C := c_L_set_IA l hst D cy f a t h x g cn V (sl cn) (S cn) (fz_cat (pwB cy f a t h x ad sl g cn V T X vb S) (pw_rest cn)) nt nc nq nl wk wf hc (hg cn hc) hz (pwW_hh hc hg) y z hok hen
  rw [show (fz_set V y z).2 = V from by rw [e]] at C
  exact ⟨[], _, _, pwW cy f a t h x ad sl g cn V T X vb (hs_p S V cn), C, (pwW_old hc).trans (by rw [List.append_nil]), (by rw [List.append_nil]; exact pwW_no hc), rfl, X, sl, g, T, vb, hs_p S V cn, hX, hg, hc, trivial, rfl⟩
set_option maxHeartbeats 1000000 in
set_option maxRecDepth 20000 in
theorem pw_endWeek_t (hst : l.stackTraces = false) (wf : fz_wf V nt nc nq nl wk) (hz : fz_zo (V 2) 40) (hok : fz_ok (fz_close V nt nc nl wk).1 = true) : pw_op l yL_endWeek wsL_endWeek 8 123 1 6 D cy [.ref (f 0)] (pK cy f a t h x ad cn V L K) (fz_close V nt nc nl wk).1 (pS cy f a t h x ad (hs_n cn) (fz_close V nt nc nl wk).2 L) := by
  rintro Wn ⟨X, sl, g, T, vb, S, hX, hg, hc, hk, rfl⟩
  exact ⟨[], _, _, pwW cy f a t h x ad (hs_sl sl cn) (hs_g g cn) (hs_n cn) (fz_close V nt nc nl wk).2 T X vb (hs_S S V cn), c_L_endWeek_t l hst D cy f a t h x g cn V (sl cn) (S cn) (fz_cat (pwB cy f a t h x ad sl g cn V T X vb S) (pw_rest cn)) nt nc nq nl wk wf hc (hg cn hc) hz (pwW_hh hc hg) hok, (pwW_old hc).trans (by rw [List.append_nil]), (by rw [List.append_nil]; exact pwW_new hc), rfl, X, hs_sl sl cn, hs_g g cn, T, vb, hs_S S V cn, hX, hs_gsl hc hg, hs_n_lt hc, trivial, rfl⟩
set_option maxHeartbeats 1000000 in
set_option maxRecDepth 20000 in
theorem pw_endWeek_IS (hst : l.stackTraces = false) (wf : fz_wf V nt nc nq nl wk) (hz : fz_zo (V 2) 40) (e : fz_close V nt nc nl wk = (-3, V)) : pw_op l yL_endWeek wsL_endWeek 8 123 1 6 D cy [.ref (f 0)] (pK cy f a t h x ad cn V L K) (-11) (pS cy f a t h x ad cn V L) := by
  rintro Wn ⟨X, sl, g, T, vb, S, hX, hg, hc, hk, rfl⟩
  have hok : fz_ok (fz_close V nt nc nl wk).1 = false := by rw [e]; rfl
  have hen : fz_en (fz_close V nt nc nl wk).1 = xIS := by rw [e]; rfl
  have C := c_L_endWeek_IS l hst D cy f a t h x g cn V (sl cn) (S cn) (fz_cat (pwB cy f a t h x ad sl g cn V T X vb S) (pw_rest cn)) nt nc nq nl wk wf hc (hg cn hc) hz (pwW_hh hc hg) hok hen
  rw [show (fz_close V nt nc nl wk).2 = V from by rw [e]] at C
  exact ⟨[], _, _, pwW cy f a t h x ad sl g cn V T X vb (hs_p S V cn), C, (pwW_old hc).trans (by rw [List.append_nil]), (by rw [List.append_nil]; exact pwW_no hc), rfl, X, sl, g, T, vb, hs_p S V cn, hX, hg, hc, trivial, rfl⟩
set_option maxHeartbeats 1000000 in
set_option maxRecDepth 20000 in
theorem pw_ask_t (hst : l.stackTraces = false) (wf : fz_wf V nt nc nq nl wk) (hz : fz_zo (V 2) 40) (y : Int32) (z : Int32) (hok : fz_ok (fz_enter V nc nq y z).1 = true) : pw_op l yL_ask wsL_ask 8 125 1 6 D cy [.ref (f 0), .int y, .int z] (pK cy f a t h x ad cn V L K) (fz_enter V nc nq y z).1 (pS cy f a t h x ad (hs_n cn) (fz_enter V nc nq y z).2 L) := by
  rintro Wn ⟨X, sl, g, T, vb, S, hX, hg, hc, hk, rfl⟩
  exact ⟨[], _, _, pwW cy f a t h x ad (hs_sl sl cn) (hs_g g cn) (hs_n cn) (fz_enter V nc nq y z).2 T X vb (hs_S S V cn), c_L_ask_t l hst D cy f a t h x g cn V (sl cn) (S cn) (fz_cat (pwB cy f a t h x ad sl g cn V T X vb S) (pw_rest cn)) nt nc nq nl wk wf hc (hg cn hc) hz (pwW_hh hc hg) y z hok, (pwW_old hc).trans (by rw [List.append_nil]), (by rw [List.append_nil]; exact pwW_new hc), rfl, X, hs_sl sl cn, hs_g g cn, T, vb, hs_S S V cn, hX, hs_gsl hc hg, hs_n_lt hc, trivial, rfl⟩
set_option maxHeartbeats 1000000 in
set_option maxRecDepth 20000 in
theorem pw_ask_IO (hst : l.stackTraces = false) (wf : fz_wf V nt nc nq nl wk) (hz : fz_zo (V 2) 40) (y : Int32) (z : Int32) (e : fz_enter V nc nq y z = (-1, V)) : pw_op l yL_ask wsL_ask 8 125 1 6 D cy [.ref (f 0), .int y, .int z] (pK cy f a t h x ad cn V L K) (-11) (pS cy f a t h x ad cn V L) := by
  rintro Wn ⟨X, sl, g, T, vb, S, hX, hg, hc, hk, rfl⟩
  have hok : fz_ok (fz_enter V nc nq y z).1 = false := by rw [e]; rfl
  have hen : fz_en (fz_enter V nc nq y z).1 = xIO := by rw [e]; rfl
  have C := c_L_ask_IO l hst D cy f a t h x g cn V (sl cn) (S cn) (fz_cat (pwB cy f a t h x ad sl g cn V T X vb S) (pw_rest cn)) nt nc nq nl wk wf hc (hg cn hc) hz (pwW_hh hc hg) y z hok hen
  rw [show (fz_enter V nc nq y z).2 = V from by rw [e]] at C
  exact ⟨[], _, _, pwW cy f a t h x ad sl g cn V T X vb (hs_p S V cn), C, (pwW_old hc).trans (by rw [List.append_nil]), (by rw [List.append_nil]; exact pwW_no hc), rfl, X, sl, g, T, vb, hs_p S V cn, hX, hg, hc, trivial, rfl⟩
set_option maxHeartbeats 1000000 in
set_option maxRecDepth 20000 in
theorem pw_ask_IA (hst : l.stackTraces = false) (wf : fz_wf V nt nc nq nl wk) (hz : fz_zo (V 2) 40) (y : Int32) (z : Int32) (e : fz_enter V nc nq y z = (-2, V)) : pw_op l yL_ask wsL_ask 8 125 1 6 D cy [.ref (f 0), .int y, .int z] (pK cy f a t h x ad cn V L K) (-12) (pS cy f a t h x ad cn V L) := by
  rintro Wn ⟨X, sl, g, T, vb, S, hX, hg, hc, hk, rfl⟩
  have hok : fz_ok (fz_enter V nc nq y z).1 = false := by rw [e]; rfl
  have hen : fz_en (fz_enter V nc nq y z).1 = xIA := by rw [e]; rfl
  have C := c_L_ask_IA l hst D cy f a t h x g cn V (sl cn) (S cn) (fz_cat (pwB cy f a t h x ad sl g cn V T X vb S) (pw_rest cn)) nt nc nq nl wk wf hc (hg cn hc) hz (pwW_hh hc hg) y z hok hen
  rw [show (fz_enter V nc nq y z).2 = V from by rw [e]] at C
  exact ⟨[], _, _, pwW cy f a t h x ad sl g cn V T X vb (hs_p S V cn), C, (pwW_old hc).trans (by rw [List.append_nil]), (by rw [List.append_nil]; exact pwW_no hc), rfl, X, sl, g, T, vb, hs_p S V cn, hX, hg, hc, trivial, rfl⟩
set_option maxHeartbeats 1000000 in
set_option maxRecDepth 20000 in
theorem pw_ask_IS (hst : l.stackTraces = false) (wf : fz_wf V nt nc nq nl wk) (hz : fz_zo (V 2) 40) (y : Int32) (z : Int32) (e : fz_enter V nc nq y z = (-3, V)) : pw_op l yL_ask wsL_ask 8 125 1 6 D cy [.ref (f 0), .int y, .int z] (pK cy f a t h x ad cn V L K) (-13) (pS cy f a t h x ad cn V L) := by
  rintro Wn ⟨X, sl, g, T, vb, S, hX, hg, hc, hk, rfl⟩
  have hok : fz_ok (fz_enter V nc nq y z).1 = false := by rw [e]; rfl
  have hen : fz_en (fz_enter V nc nq y z).1 = xIS := by rw [e]; rfl
  have C := c_L_ask_IS l hst D cy f a t h x g cn V (sl cn) (S cn) (fz_cat (pwB cy f a t h x ad sl g cn V T X vb S) (pw_rest cn)) nt nc nq nl wk wf hc (hg cn hc) hz (pwW_hh hc hg) y z hok hen
  rw [show (fz_enter V nc nq y z).2 = V from by rw [e]] at C
  exact ⟨[], _, _, pwW cy f a t h x ad sl g cn V T X vb (hs_p S V cn), C, (pwW_old hc).trans (by rw [List.append_nil]), (by rw [List.append_nil]; exact pwW_no hc), rfl, X, sl, g, T, vb, hs_p S V cn, hX, hg, hc, trivial, rfl⟩
set_option maxHeartbeats 1000000 in
set_option maxRecDepth 20000 in
theorem pw_exempt_t (hst : l.stackTraces = false) (wf : fz_wf V nt nc nq nl wk) (hz : fz_zo (V 2) 40) (y : Int32) (hok : fz_ok (fz_exempt V nc nl y).1 = true) : pw_op l yL_exempt wsL_exempt 8 124 1 6 D cy [.ref (f 0), .int y] (pK cy f a t h x ad cn V L K) (fz_exempt V nc nl y).1 (pS cy f a t h x ad (hs_n cn) (fz_exempt V nc nl y).2 L) := by
  rintro Wn ⟨X, sl, g, T, vb, S, hX, hg, hc, hk, rfl⟩
  exact ⟨[], _, _, pwW cy f a t h x ad (hs_sl sl cn) (hs_g g cn) (hs_n cn) (fz_exempt V nc nl y).2 T X vb (hs_S S V cn), c_L_exempt_t l hst D cy f a t h x g cn V (sl cn) (S cn) (fz_cat (pwB cy f a t h x ad sl g cn V T X vb S) (pw_rest cn)) nt nc nq nl wk wf hc (hg cn hc) hz (pwW_hh hc hg) y hok, (pwW_old hc).trans (by rw [List.append_nil]), (by rw [List.append_nil]; exact pwW_new hc), rfl, X, hs_sl sl cn, hs_g g cn, T, vb, hs_S S V cn, hX, hs_gsl hc hg, hs_n_lt hc, trivial, rfl⟩
set_option maxHeartbeats 1000000 in
set_option maxRecDepth 20000 in
theorem pw_exempt_IO (hst : l.stackTraces = false) (wf : fz_wf V nt nc nq nl wk) (hz : fz_zo (V 2) 40) (y : Int32) (e : fz_exempt V nc nl y = (-1, V)) : pw_op l yL_exempt wsL_exempt 8 124 1 6 D cy [.ref (f 0), .int y] (pK cy f a t h x ad cn V L K) (-11) (pS cy f a t h x ad cn V L) := by
  rintro Wn ⟨X, sl, g, T, vb, S, hX, hg, hc, hk, rfl⟩
  have hok : fz_ok (fz_exempt V nc nl y).1 = false := by rw [e]; rfl
  have hen : fz_en (fz_exempt V nc nl y).1 = xIO := by rw [e]; rfl
  have C := c_L_exempt_IO l hst D cy f a t h x g cn V (sl cn) (S cn) (fz_cat (pwB cy f a t h x ad sl g cn V T X vb S) (pw_rest cn)) nt nc nq nl wk wf hc (hg cn hc) hz (pwW_hh hc hg) y hok hen
  rw [show (fz_exempt V nc nl y).2 = V from by rw [e]] at C
  exact ⟨[], _, _, pwW cy f a t h x ad sl g cn V T X vb (hs_p S V cn), C, (pwW_old hc).trans (by rw [List.append_nil]), (by rw [List.append_nil]; exact pwW_no hc), rfl, X, sl, g, T, vb, hs_p S V cn, hX, hg, hc, trivial, rfl⟩
set_option maxHeartbeats 1000000 in
set_option maxRecDepth 20000 in
theorem pw_exempt_IS (hst : l.stackTraces = false) (wf : fz_wf V nt nc nq nl wk) (hz : fz_zo (V 2) 40) (y : Int32) (e : fz_exempt V nc nl y = (-3, V)) : pw_op l yL_exempt wsL_exempt 8 124 1 6 D cy [.ref (f 0), .int y] (pK cy f a t h x ad cn V L K) (-12) (pS cy f a t h x ad cn V L) := by
  rintro Wn ⟨X, sl, g, T, vb, S, hX, hg, hc, hk, rfl⟩
  have hok : fz_ok (fz_exempt V nc nl y).1 = false := by rw [e]; rfl
  have hen : fz_en (fz_exempt V nc nl y).1 = xIS := by rw [e]; rfl
  have C := c_L_exempt_IS l hst D cy f a t h x g cn V (sl cn) (S cn) (fz_cat (pwB cy f a t h x ad sl g cn V T X vb S) (pw_rest cn)) nt nc nq nl wk wf hc (hg cn hc) hz (pwW_hh hc hg) y hok hen
  rw [show (fz_exempt V nc nl y).2 = V from by rw [e]] at C
  exact ⟨[], _, _, pwW cy f a t h x ad sl g cn V T X vb (hs_p S V cn), C, (pwW_old hc).trans (by rw [List.append_nil]), (by rw [List.append_nil]; exact pwW_no hc), rfl, X, sl, g, T, vb, hs_p S V cn, hX, hg, hc, trivial, rfl⟩
set_option maxHeartbeats 1000000 in
set_option maxRecDepth 20000 in
theorem pw_make_t (hst : l.stackTraces = false) (wf : fz_wf V nt nc nq nl wk) (hz : fz_zo (V 2) 40) (y : Int32) (fr : Bool) (hok : fz_ok (fz_make V nc nq wk y fr).1 = true) : pw_op l yL_make wsL_make 8 125 1 6 D cy [.ref (f 0), .int y, .int (fz_b fr)] (pK cy f a t h x ad cn V L K) (fz_make V nc nq wk y fr).1 (pS cy f a t h x ad (hs_n cn) (fz_make V nc nq wk y fr).2 L) := by
  rintro Wn ⟨X, sl, g, T, vb, S, hX, hg, hc, hk, rfl⟩
  exact ⟨[], _, _, pwW cy f a t h x ad (hs_sl sl cn) (hs_g g cn) (hs_n cn) (fz_make V nc nq wk y fr).2 T X vb (hs_S S V cn), c_L_make_t l hst D cy f a t h x g cn V (sl cn) (S cn) (fz_cat (pwB cy f a t h x ad sl g cn V T X vb S) (pw_rest cn)) nt nc nq nl wk wf hc (hg cn hc) hz (pwW_hh hc hg) y fr hok, (pwW_old hc).trans (by rw [List.append_nil]), (by rw [List.append_nil]; exact pwW_new hc), rfl, X, hs_sl sl cn, hs_g g cn, T, vb, hs_S S V cn, hX, hs_gsl hc hg, hs_n_lt hc, trivial, rfl⟩
set_option maxHeartbeats 1000000 in
set_option maxRecDepth 20000 in
theorem pw_make_IO (hst : l.stackTraces = false) (wf : fz_wf V nt nc nq nl wk) (hz : fz_zo (V 2) 40) (y : Int32) (fr : Bool) (e : fz_make V nc nq wk y fr = (-1, V)) : pw_op l yL_make wsL_make 8 125 1 6 D cy [.ref (f 0), .int y, .int (fz_b fr)] (pK cy f a t h x ad cn V L K) (-11) (pS cy f a t h x ad cn V L) := by
  rintro Wn ⟨X, sl, g, T, vb, S, hX, hg, hc, hk, rfl⟩
  have hok : fz_ok (fz_make V nc nq wk y fr).1 = false := by rw [e]; rfl
  have hen : fz_en (fz_make V nc nq wk y fr).1 = xIO := by rw [e]; rfl
  have C := c_L_make_IO l hst D cy f a t h x g cn V (sl cn) (S cn) (fz_cat (pwB cy f a t h x ad sl g cn V T X vb S) (pw_rest cn)) nt nc nq nl wk wf hc (hg cn hc) hz (pwW_hh hc hg) y fr hok hen
  rw [show (fz_make V nc nq wk y fr).2 = V from by rw [e]] at C
  exact ⟨[], _, _, pwW cy f a t h x ad sl g cn V T X vb (hs_p S V cn), C, (pwW_old hc).trans (by rw [List.append_nil]), (by rw [List.append_nil]; exact pwW_no hc), rfl, X, sl, g, T, vb, hs_p S V cn, hX, hg, hc, trivial, rfl⟩
set_option maxHeartbeats 1000000 in
set_option maxRecDepth 20000 in
theorem pw_make_IS (hst : l.stackTraces = false) (wf : fz_wf V nt nc nq nl wk) (hz : fz_zo (V 2) 40) (y : Int32) (fr : Bool) (e : fz_make V nc nq wk y fr = (-3, V)) : pw_op l yL_make wsL_make 8 125 1 6 D cy [.ref (f 0), .int y, .int (fz_b fr)] (pK cy f a t h x ad cn V L K) (-12) (pS cy f a t h x ad cn V L) := by
  rintro Wn ⟨X, sl, g, T, vb, S, hX, hg, hc, hk, rfl⟩
  have hok : fz_ok (fz_make V nc nq wk y fr).1 = false := by rw [e]; rfl
  have hen : fz_en (fz_make V nc nq wk y fr).1 = xIS := by rw [e]; rfl
  have C := c_L_make_IS l hst D cy f a t h x g cn V (sl cn) (S cn) (fz_cat (pwB cy f a t h x ad sl g cn V T X vb S) (pw_rest cn)) nt nc nq nl wk wf hc (hg cn hc) hz (pwW_hh hc hg) y fr hok hen
  rw [show (fz_make V nc nq wk y fr).2 = V from by rw [e]] at C
  exact ⟨[], _, _, pwW cy f a t h x ad sl g cn V T X vb (hs_p S V cn), C, (pwW_old hc).trans (by rw [List.append_nil]), (by rw [List.append_nil]; exact pwW_no hc), rfl, X, sl, g, T, vb, hs_p S V cn, hX, hg, hc, trivial, rfl⟩
set_option maxHeartbeats 1000000 in
set_option maxRecDepth 20000 in
theorem pw_giveUp_t (hst : l.stackTraces = false) (wf : fz_wf V nt nc nq nl wk) (hz : fz_zo (V 2) 40) (y : Int32) (hok : fz_ok (fz_drop V nc nq y).1 = true) : pw_op l yL_giveUp wsL_giveUp 8 124 1 6 D cy [.ref (f 0), .int y] (pK cy f a t h x ad cn V L K) (fz_drop V nc nq y).1 (pS cy f a t h x ad (hs_n cn) (fz_drop V nc nq y).2 L) := by
  rintro Wn ⟨X, sl, g, T, vb, S, hX, hg, hc, hk, rfl⟩
  exact ⟨[], _, _, pwW cy f a t h x ad (hs_sl sl cn) (hs_g g cn) (hs_n cn) (fz_drop V nc nq y).2 T X vb (hs_S S V cn), c_L_giveUp_t l hst D cy f a t h x g cn V (sl cn) (S cn) (fz_cat (pwB cy f a t h x ad sl g cn V T X vb S) (pw_rest cn)) nt nc nq nl wk wf hc (hg cn hc) hz (pwW_hh hc hg) y hok, (pwW_old hc).trans (by rw [List.append_nil]), (by rw [List.append_nil]; exact pwW_new hc), rfl, X, hs_sl sl cn, hs_g g cn, T, vb, hs_S S V cn, hX, hs_gsl hc hg, hs_n_lt hc, trivial, rfl⟩
set_option maxHeartbeats 1000000 in
set_option maxRecDepth 20000 in
theorem pw_giveUp_IO (hst : l.stackTraces = false) (wf : fz_wf V nt nc nq nl wk) (hz : fz_zo (V 2) 40) (y : Int32) (e : fz_drop V nc nq y = (-1, V)) : pw_op l yL_giveUp wsL_giveUp 8 124 1 6 D cy [.ref (f 0), .int y] (pK cy f a t h x ad cn V L K) (-11) (pS cy f a t h x ad cn V L) := by
  rintro Wn ⟨X, sl, g, T, vb, S, hX, hg, hc, hk, rfl⟩
  have hok : fz_ok (fz_drop V nc nq y).1 = false := by rw [e]; rfl
  have hen : fz_en (fz_drop V nc nq y).1 = xIO := by rw [e]; rfl
  have C := c_L_giveUp_IO l hst D cy f a t h x g cn V (sl cn) (S cn) (fz_cat (pwB cy f a t h x ad sl g cn V T X vb S) (pw_rest cn)) nt nc nq nl wk wf hc (hg cn hc) hz (pwW_hh hc hg) y hok hen
  rw [show (fz_drop V nc nq y).2 = V from by rw [e]] at C
  exact ⟨[], _, _, pwW cy f a t h x ad sl g cn V T X vb (hs_p S V cn), C, (pwW_old hc).trans (by rw [List.append_nil]), (by rw [List.append_nil]; exact pwW_no hc), rfl, X, sl, g, T, vb, hs_p S V cn, hX, hg, hc, trivial, rfl⟩
set_option maxHeartbeats 1000000 in
set_option maxRecDepth 20000 in
theorem pw_giveUp_IS (hst : l.stackTraces = false) (wf : fz_wf V nt nc nq nl wk) (hz : fz_zo (V 2) 40) (y : Int32) (e : fz_drop V nc nq y = (-3, V)) : pw_op l yL_giveUp wsL_giveUp 8 124 1 6 D cy [.ref (f 0), .int y] (pK cy f a t h x ad cn V L K) (-12) (pS cy f a t h x ad cn V L) := by
  rintro Wn ⟨X, sl, g, T, vb, S, hX, hg, hc, hk, rfl⟩
  have hok : fz_ok (fz_drop V nc nq y).1 = false := by rw [e]; rfl
  have hen : fz_en (fz_drop V nc nq y).1 = xIS := by rw [e]; rfl
  have C := c_L_giveUp_IS l hst D cy f a t h x g cn V (sl cn) (S cn) (fz_cat (pwB cy f a t h x ad sl g cn V T X vb S) (pw_rest cn)) nt nc nq nl wk wf hc (hg cn hc) hz (pwW_hh hc hg) y hok hen
  rw [show (fz_drop V nc nq y).2 = V from by rw [e]] at C
  exact ⟨[], _, _, pwW cy f a t h x ad sl g cn V T X vb (hs_p S V cn), C, (pwW_old hc).trans (by rw [List.append_nil]), (by rw [List.append_nil]; exact pwW_no hc), rfl, X, sl, g, T, vb, hs_p S V cn, hX, hg, hc, trivial, rfl⟩
set_option maxHeartbeats 1000000 in
set_option maxRecDepth 20000 in
theorem pw_lend_t (hst : l.stackTraces = false) (wf : fz_wf V nt nc nq nl wk) (hz : fz_zo (V 2) 40) (y : Int32) (z : Int32) (u : Int32) (v : Int32) (hok : fz_ok (fz_lend V nt nl y z u v).1 = true) : pw_op l yL_lend wsL_lend 8 127 1 6 D cy [.ref (f 0), .int y, .int z, .int u, .int v] (pK cy f a t h x ad cn V L K) (fz_lend V nt nl y z u v).1 (pS cy f a t h x ad (hs_n cn) (fz_lend V nt nl y z u v).2 L) := by
  rintro Wn ⟨X, sl, g, T, vb, S, hX, hg, hc, hk, rfl⟩
  exact ⟨[], _, _, pwW cy f a t h x ad (hs_sl sl cn) (hs_g g cn) (hs_n cn) (fz_lend V nt nl y z u v).2 T X vb (hs_S S V cn), c_L_lend_t l hst D cy f a t h x g cn V (sl cn) (S cn) (fz_cat (pwB cy f a t h x ad sl g cn V T X vb S) (pw_rest cn)) nt nc nq nl wk wf hc (hg cn hc) hz (pwW_hh hc hg) y z u v hok, (pwW_old hc).trans (by rw [List.append_nil]), (by rw [List.append_nil]; exact pwW_new hc), rfl, X, hs_sl sl cn, hs_g g cn, T, vb, hs_S S V cn, hX, hs_gsl hc hg, hs_n_lt hc, trivial, rfl⟩
set_option maxHeartbeats 1000000 in
set_option maxRecDepth 20000 in
theorem pw_lend_IO (hst : l.stackTraces = false) (wf : fz_wf V nt nc nq nl wk) (hz : fz_zo (V 2) 40) (y : Int32) (z : Int32) (u : Int32) (v : Int32) (e : fz_lend V nt nl y z u v = (-1, V)) : pw_op l yL_lend wsL_lend 8 127 1 6 D cy [.ref (f 0), .int y, .int z, .int u, .int v] (pK cy f a t h x ad cn V L K) (-11) (pS cy f a t h x ad cn V L) := by
  rintro Wn ⟨X, sl, g, T, vb, S, hX, hg, hc, hk, rfl⟩
  have hok : fz_ok (fz_lend V nt nl y z u v).1 = false := by rw [e]; rfl
  have hen : fz_en (fz_lend V nt nl y z u v).1 = xIO := by rw [e]; rfl
  have C := c_L_lend_IO l hst D cy f a t h x g cn V (sl cn) (S cn) (fz_cat (pwB cy f a t h x ad sl g cn V T X vb S) (pw_rest cn)) nt nc nq nl wk wf hc (hg cn hc) hz (pwW_hh hc hg) y z u v hok hen
  rw [show (fz_lend V nt nl y z u v).2 = V from by rw [e]] at C
  exact ⟨[], _, _, pwW cy f a t h x ad sl g cn V T X vb (hs_p S V cn), C, (pwW_old hc).trans (by rw [List.append_nil]), (by rw [List.append_nil]; exact pwW_no hc), rfl, X, sl, g, T, vb, hs_p S V cn, hX, hg, hc, trivial, rfl⟩
set_option maxHeartbeats 1000000 in
set_option maxRecDepth 20000 in
theorem pw_lend_IA (hst : l.stackTraces = false) (wf : fz_wf V nt nc nq nl wk) (hz : fz_zo (V 2) 40) (y : Int32) (z : Int32) (u : Int32) (v : Int32) (e : fz_lend V nt nl y z u v = (-2, V)) : pw_op l yL_lend wsL_lend 8 127 1 6 D cy [.ref (f 0), .int y, .int z, .int u, .int v] (pK cy f a t h x ad cn V L K) (-12) (pS cy f a t h x ad cn V L) := by
  rintro Wn ⟨X, sl, g, T, vb, S, hX, hg, hc, hk, rfl⟩
  have hok : fz_ok (fz_lend V nt nl y z u v).1 = false := by rw [e]; rfl
  have hen : fz_en (fz_lend V nt nl y z u v).1 = xIA := by rw [e]; rfl
  have C := c_L_lend_IA l hst D cy f a t h x g cn V (sl cn) (S cn) (fz_cat (pwB cy f a t h x ad sl g cn V T X vb S) (pw_rest cn)) nt nc nq nl wk wf hc (hg cn hc) hz (pwW_hh hc hg) y z u v hok hen
  rw [show (fz_lend V nt nl y z u v).2 = V from by rw [e]] at C
  exact ⟨[], _, _, pwW cy f a t h x ad sl g cn V T X vb (hs_p S V cn), C, (pwW_old hc).trans (by rw [List.append_nil]), (by rw [List.append_nil]; exact pwW_no hc), rfl, X, sl, g, T, vb, hs_p S V cn, hX, hg, hc, trivial, rfl⟩
set_option maxHeartbeats 1000000 in
set_option maxRecDepth 20000 in
theorem pw_lend_IS (hst : l.stackTraces = false) (wf : fz_wf V nt nc nq nl wk) (hz : fz_zo (V 2) 40) (y : Int32) (z : Int32) (u : Int32) (v : Int32) (e : fz_lend V nt nl y z u v = (-3, V)) : pw_op l yL_lend wsL_lend 8 127 1 6 D cy [.ref (f 0), .int y, .int z, .int u, .int v] (pK cy f a t h x ad cn V L K) (-13) (pS cy f a t h x ad cn V L) := by
  rintro Wn ⟨X, sl, g, T, vb, S, hX, hg, hc, hk, rfl⟩
  have hok : fz_ok (fz_lend V nt nl y z u v).1 = false := by rw [e]; rfl
  have hen : fz_en (fz_lend V nt nl y z u v).1 = xIS := by rw [e]; rfl
  have C := c_L_lend_IS l hst D cy f a t h x g cn V (sl cn) (S cn) (fz_cat (pwB cy f a t h x ad sl g cn V T X vb S) (pw_rest cn)) nt nc nq nl wk wf hc (hg cn hc) hz (pwW_hh hc hg) y z u v hok hen
  rw [show (fz_lend V nt nl y z u v).2 = V from by rw [e]] at C
  exact ⟨[], _, _, pwW cy f a t h x ad sl g cn V T X vb (hs_p S V cn), C, (pwW_old hc).trans (by rw [List.append_nil]), (by rw [List.append_nil]; exact pwW_no hc), rfl, X, sl, g, T, vb, hs_p S V cn, hX, hg, hc, trivial, rfl⟩
set_option maxHeartbeats 1000000 in
set_option maxRecDepth 20000 in
theorem pw_repay_t (hst : l.stackTraces = false) (wf : fz_wf V nt nc nq nl wk) (hz : fz_zo (V 2) 40) (y : Int32) (z : Int32) (hok : fz_ok (fz_repay V nl y z).1 = true) : pw_op l yL_repay wsL_repay 8 125 1 6 D cy [.ref (f 0), .int y, .int z] (pK cy f a t h x ad cn V L K) (fz_repay V nl y z).1 (pS cy f a t h x ad (hs_n cn) (fz_repay V nl y z).2 L) := by
  rintro Wn ⟨X, sl, g, T, vb, S, hX, hg, hc, hk, rfl⟩
  exact ⟨[], _, _, pwW cy f a t h x ad (hs_sl sl cn) (hs_g g cn) (hs_n cn) (fz_repay V nl y z).2 T X vb (hs_S S V cn), c_L_repay_t l hst D cy f a t h x g cn V (sl cn) (S cn) (fz_cat (pwB cy f a t h x ad sl g cn V T X vb S) (pw_rest cn)) nt nc nq nl wk wf hc (hg cn hc) hz (pwW_hh hc hg) y z hok, (pwW_old hc).trans (by rw [List.append_nil]), (by rw [List.append_nil]; exact pwW_new hc), rfl, X, hs_sl sl cn, hs_g g cn, T, vb, hs_S S V cn, hX, hs_gsl hc hg, hs_n_lt hc, trivial, rfl⟩
set_option maxHeartbeats 1000000 in
set_option maxRecDepth 20000 in
theorem pw_repay_IO (hst : l.stackTraces = false) (wf : fz_wf V nt nc nq nl wk) (hz : fz_zo (V 2) 40) (y : Int32) (z : Int32) (e : fz_repay V nl y z = (-1, V)) : pw_op l yL_repay wsL_repay 8 125 1 6 D cy [.ref (f 0), .int y, .int z] (pK cy f a t h x ad cn V L K) (-11) (pS cy f a t h x ad cn V L) := by
  rintro Wn ⟨X, sl, g, T, vb, S, hX, hg, hc, hk, rfl⟩
  have hok : fz_ok (fz_repay V nl y z).1 = false := by rw [e]; rfl
  have hen : fz_en (fz_repay V nl y z).1 = xIO := by rw [e]; rfl
  have C := c_L_repay_IO l hst D cy f a t h x g cn V (sl cn) (S cn) (fz_cat (pwB cy f a t h x ad sl g cn V T X vb S) (pw_rest cn)) nt nc nq nl wk wf hc (hg cn hc) hz (pwW_hh hc hg) y z hok hen
  rw [show (fz_repay V nl y z).2 = V from by rw [e]] at C
  exact ⟨[], _, _, pwW cy f a t h x ad sl g cn V T X vb (hs_p S V cn), C, (pwW_old hc).trans (by rw [List.append_nil]), (by rw [List.append_nil]; exact pwW_no hc), rfl, X, sl, g, T, vb, hs_p S V cn, hX, hg, hc, trivial, rfl⟩
set_option maxHeartbeats 1000000 in
set_option maxRecDepth 20000 in
theorem pw_repay_IA (hst : l.stackTraces = false) (wf : fz_wf V nt nc nq nl wk) (hz : fz_zo (V 2) 40) (y : Int32) (z : Int32) (e : fz_repay V nl y z = (-2, V)) : pw_op l yL_repay wsL_repay 8 125 1 6 D cy [.ref (f 0), .int y, .int z] (pK cy f a t h x ad cn V L K) (-12) (pS cy f a t h x ad cn V L) := by
  rintro Wn ⟨X, sl, g, T, vb, S, hX, hg, hc, hk, rfl⟩
  have hok : fz_ok (fz_repay V nl y z).1 = false := by rw [e]; rfl
  have hen : fz_en (fz_repay V nl y z).1 = xIA := by rw [e]; rfl
  have C := c_L_repay_IA l hst D cy f a t h x g cn V (sl cn) (S cn) (fz_cat (pwB cy f a t h x ad sl g cn V T X vb S) (pw_rest cn)) nt nc nq nl wk wf hc (hg cn hc) hz (pwW_hh hc hg) y z hok hen
  rw [show (fz_repay V nl y z).2 = V from by rw [e]] at C
  exact ⟨[], _, _, pwW cy f a t h x ad sl g cn V T X vb (hs_p S V cn), C, (pwW_old hc).trans (by rw [List.append_nil]), (by rw [List.append_nil]; exact pwW_no hc), rfl, X, sl, g, T, vb, hs_p S V cn, hX, hg, hc, trivial, rfl⟩
set_option maxHeartbeats 1000000 in
set_option maxRecDepth 20000 in
theorem pw_repay_IS (hst : l.stackTraces = false) (wf : fz_wf V nt nc nq nl wk) (hz : fz_zo (V 2) 40) (y : Int32) (z : Int32) (e : fz_repay V nl y z = (-3, V)) : pw_op l yL_repay wsL_repay 8 125 1 6 D cy [.ref (f 0), .int y, .int z] (pK cy f a t h x ad cn V L K) (-13) (pS cy f a t h x ad cn V L) := by
  rintro Wn ⟨X, sl, g, T, vb, S, hX, hg, hc, hk, rfl⟩
  have hok : fz_ok (fz_repay V nl y z).1 = false := by rw [e]; rfl
  have hen : fz_en (fz_repay V nl y z).1 = xIS := by rw [e]; rfl
  have C := c_L_repay_IS l hst D cy f a t h x g cn V (sl cn) (S cn) (fz_cat (pwB cy f a t h x ad sl g cn V T X vb S) (pw_rest cn)) nt nc nq nl wk wf hc (hg cn hc) hz (pwW_hh hc hg) y z hok hen
  rw [show (fz_repay V nl y z).2 = V from by rw [e]] at C
  exact ⟨[], _, _, pwW cy f a t h x ad sl g cn V T X vb (hs_p S V cn), C, (pwW_old hc).trans (by rw [List.append_nil]), (by rw [List.append_nil]; exact pwW_no hc), rfl, X, sl, g, T, vb, hs_p S V cn, hX, hg, hc, trivial, rfl⟩
set_option maxHeartbeats 1000000 in
set_option maxRecDepth 20000 in
theorem pw_type_t (hst : l.stackTraces = false) (y : Int32) (hv : fz_vo y 128 = true) (hl : L.length < 150) : pw_op l yL_type wsL_type 7 103 1 6 D cy [.ref (f 0), .int y] (pK cy f a t h x ad cn V L K) (nI (L.length + 1)) (pK cy f a t h x ad cn V (L ++ [y]) K) := by
  rintro Wn ⟨X, sl, g, T, vb, S, hX, hg, hc, hk, rfl⟩
  have hok : (fz_vo y 128 && decide (L.length < 150)) = true := by rw [hv, decide_eq_true hl]; rfl
  exact ⟨fz_cat (pwB cy f a t h x ad sl g cn V T X vb S) [1, 2, 3, 5, 6, 7, 8, 9], _, _, pwW cy f a t h x ad sl g cn V T ((fz_up (fz_up X 0 (upd (X 0) 0 (nI (L.length + 1)))) 2 (upd (X 2) L.length y))) vb S, c_L_type_t l hst D cy f a t h x ad X vb y L.length hX.1 hX.2.1 hok, (by rw [List.append_assoc]; exact fz_cat_P (pwB cy f a t h x ad sl g cn V T X vb S) (L' := [0, 4, 1, 2, 3, 5, 6, 7, 8, 9]) (by decide)), (by rw [List.append_assoc]; exact fz_cat_P (pwB cy f a t h x ad sl g cn V T ((fz_up (fz_up X 0 (upd (X 0) 0 (nI (L.length + 1)))) 2 (upd (X 2) L.length y))) vb S) (L := [0, 4, 1, 2, 3, 5, 6, 7, 8, 9]) (by decide)), rfl, (fz_up (fz_up X 0 (upd (X 0) 0 (nI (L.length + 1)))) 2 (upd (X 2) L.length y)), sl, g, T, vb, S, tX_push hX hl, hg, hc, hk, rfl⟩
set_option maxHeartbeats 1000000 in
set_option maxRecDepth 20000 in
theorem pw_type_IA (hst : l.stackTraces = false) (y : Int32) (hv : fz_vo y 128 = false) : pw_op l yL_type wsL_type 7 103 1 6 D cy [.ref (f 0), .int y] (pK cy f a t h x ad cn V L K) (-11) (pK cy f a t h x ad cn V L K) := by
  rintro Wn ⟨X, sl, g, T, vb, S, hX, hg, hc, hk, rfl⟩
  have hok : (fz_vo y 128 && decide (L.length < 150)) = false := by rw [hv]; rfl
  have hen : (bif fz_vo y 128 then xIS else xIA) = xIA := by rw [hv]; rfl
  exact ⟨fz_cat (pwB cy f a t h x ad sl g cn V T X vb S) [1, 2, 3, 5, 6, 7, 8, 9], _, _, pwW cy f a t h x ad sl g cn V T (X) vb S, c_L_type_IA l hst D cy f a t h x ad X vb y L.length hX.1 hX.2.1 hok hen, (by rw [List.append_assoc]; exact fz_cat_P (pwB cy f a t h x ad sl g cn V T X vb S) (L' := [0, 4, 1, 2, 3, 5, 6, 7, 8, 9]) (by decide)), (by rw [List.append_assoc]; exact fz_cat_P (pwB cy f a t h x ad sl g cn V T (X) vb S) (L := [0, 4, 1, 2, 3, 5, 6, 7, 8, 9]) (by decide)), rfl, X, sl, g, T, vb, S, hX, hg, hc, hk, rfl⟩
set_option maxHeartbeats 1000000 in
set_option maxRecDepth 20000 in
theorem pw_undo_t {U : Nat → Nat → Int32} (hst : l.stackTraces = false) (hz : fz_zo (U 2) 40) : pw_op l yL_undo wsL_undo 7 110 1 6 D cy [.ref (f 0)] (pK cy f a t h x ad (cn + 1) V L (kU cn U)) (nI cn) (pS cy f a t h x ad cn U L) := by
  rintro Wn ⟨X, sl, g, T, vb, S, hX, hg, hc, hk, rfl⟩
  have hc4 : cn < 5 := by omega
  have eN : S cn = U := hk
  have hz9 : fz_zo (S cn 2) 40 := by rw [eN]; exact hz
  have C := c_L_undo_t l hst D cy f a t h x g cn V (sl cn) (S cn) (fz_cat (pwB cy f a t h x ad sl g (cn + 1) V T X vb S) (pw_rest cn)) hc4 (hg cn hc4) hz9
  refine ⟨[], _, _, pwW cy f a t h x ad sl g cn U T X vb S, C, (fz_cat_P (pwB cy f a t h x ad sl g (cn + 1) V T X vb S) (pw_rest_P cn hc4)).trans (by rw [List.append_nil]; exact List.Perm.refl _), ?_, rfl, X, sl, g, T, vb, S, hX, hg, hc4, trivial, rfl⟩
  rw [List.append_nil]
  have q := (fz_cat_P (pwB cy f a t h x ad sl g cn U T X vb S) (pw_rest_P cn hc4)).symm
  rw [← eN] at q ⊢
  match cn, hc4 with
  | 0, _ => exact q
  | 1, _ => exact q
  | 2, _ => exact q
  | 3, _ => exact q
  | 4, _ => exact q
set_option maxHeartbeats 1000000 in
set_option maxRecDepth 20000 in
theorem pw_undo_IS (hst : l.stackTraces = false) : pw_op l yL_undo wsL_undo 7 110 1 6 D cy [.ref (f 0)] (pK cy f a t h x ad 0 V L K) (-11) (pK cy f a t h x ad 0 V L K) := by
  rintro Wn ⟨X, sl, g, T, vb, S, hX, hg, hc, hk, rfl⟩
  exact ⟨[], _, _, pwW cy f a t h x ad sl g 0 V T X vb S, c_L_undo_IS l hst D cy f a t h x g (fz_cat (pwB cy f a t h x ad sl g 0 V T X vb S) [2, 3, 4, 5, 6, 7, 8, 9]), (by rw [List.append_nil]; exact List.Perm.refl _), (by rw [List.append_nil]; exact List.Perm.refl _), rfl, X, sl, g, T, vb, S, hX, hg, hc, hk, rfl⟩
set_option maxHeartbeats 1000000 in
set_option maxRecDepth 20000 in
theorem pv_clear : pv_op (fun _ => fz_T) l yX8_clearCommands wsX8_clearCommands 0 0 D cy (f 0) 6 [] (pK cy f a t h x ad cn V L K) (nI L.length) (pK cy f a t h x ad cn V [] K) := by
  rintro Wn ⟨X, sl, g, T, vb, S, hX, hg, hc, hk, rfl⟩
  have C := c_X8_clearCommands l D cy f a t h x ad X vb
  rw [hX.1] at C
  exact ⟨fz_cat (pwB cy f a t h x ad sl g cn V T X vb S) [1, 2, 3, 5, 6, 7, 8, 9], _, _, pwW cy f a t h x ad sl g cn V T (fz_up X 0 (upd (X 0) 0 0)) vb S, _, C, rfl, (by rw [List.append_assoc]; exact fz_cat_P (pwB cy f a t h x ad sl g cn V T X vb S) (L' := [0, 4, 1, 2, 3, 5, 6, 7, 8, 9]) (by decide)), (by rw [List.append_assoc]; exact fz_cat_P (pwB cy f a t h x ad sl g cn V T (fz_up X 0 (upd (X 0) 0 0)) vb S) (L := [0, 4, 1, 2, 3, 5, 6, 7, 8, 9]) (by decide)), rfl, fz_up X 0 (upd (X 0) 0 0), sl, g, T, vb, S, tX_clear, hg, hc, hk, rfl⟩
/-- the text L has the fault F; run on V, cnt commands are carried out, the rows are V' then -/
def tFis (L : List Int32) (F : Int32) : Prop := ∀ (T : Nat → Int32) (v : Option Nat) (Z : Nat → Int32), (∀ i, i < L.length → T i = L.getD i 0) → (cx_ff T L.length 150 0 v Z).1 = F
def tCis (L : List Int32) (V : Nat → Nat → Int32) (cnt : Nat) (V' : Nat → Nat → Int32) : Prop := ∀ (T : Nat → Int32) (v : Option Nat) (Z : Nat → Int32), (∀ i, i < L.length → T i = L.getD i 0) → (cx_rl T L.length 150 0 v Z V 0).1 = cnt ∧ (cx_rl T L.length 150 0 v Z V 0).2.1 = V'
set_option maxHeartbeats 1000000 in
set_option maxRecDepth 20000 in
theorem pv_run_f {F : Int32} (hF : tFis L F) (hn : ¬ F = -1) : pv_op (fz_Er ad adK adV) l yX8_runCommands wsX8_runCommands 8 176 D cy (f 0) 6 [] (pK cy f a t h x ad cn V L K) ((-10) - F) (pK cy f a t h x ad cn V L K) := by
  rintro Wn ⟨X, sl, g, T, vb, S, hX, hg, hc, hk, rfl⟩
  have e : (cx_F X L.length vb).1 = F := hF (X 2) vb (X 1) hX.2.2
  have C := c_X8_runCommands_f l D cy f a t h x g ad adK adV X vb L.length hX.1 hX.2.1 (fz_cat (pwB cy f a t h x ad sl g cn V T X vb S) [1, 2, 3, 5, 6, 7, 8, 9]) (by rw [e]; exact hn)
  rw [e] at C
  exact ⟨[], _, _, pwW cy f a t h x ad sl g cn V T (cx_X1 X L.length vb) (cx_F X L.length vb).2.2.1 S, _, C, rfl, (by rw [List.append_nil]; exact fz_cat_P (pwB cy f a t h x ad sl g cn V T X vb S) (L' := [0, 4, 1, 2, 3, 5, 6, 7, 8, 9]) (by decide)), (by rw [List.append_nil]; exact fz_cat_P (pwB cy f a t h x ad sl g cn V T (cx_X1 X L.length vb) (cx_F X L.length vb).2.2.1 S) (L := [0, 4, 1, 2, 3, 5, 6, 7, 8, 9]) (by decide)), rfl, cx_X1 X L.length vb, sl, g, T, (cx_F X L.length vb).2.2.1, S, hX.to rfl rfl, hg, hc, hk, rfl⟩
set_option maxHeartbeats 1000000 in
set_option maxRecDepth 20000 in
theorem pv_run_n {cnt : Nat} {V' : Nat → Nat → Int32} (hF : tFis L (-1)) (hC : tCis L V cnt V') (wf : fz_wf V nt nc nq nl wk) (hz : fz_zo (V 2) 40) : pv_op (fz_Er ad adK adV) l yX8_runCommands wsX8_runCommands 8 176 D cy (f 0) 6 [] (pK cy f a t h x ad cn V L K) (nI cnt) (pK cy f a t h x ad (hs_n cn) V' L (kU (hs_n cn - 1) V)) := by
  rintro Wn ⟨X, sl, g, T, vb, S, hX, hg, hc, hk, rfl⟩
  have e : (cx_F X L.length vb).1 = -1 := hF (X 2) vb (X 1) hX.2.2
  have e2 := hC (cx_X1 X L.length vb 2) (cx_F X L.length vb).2.2.1 (cx_X1 X L.length vb 1) hX.2.2
  have C := c_X8_runCommands_n l D cy f a t h x g ad adK adV X vb L.length hX.1 hX.2.1 cn V (sl cn) (S cn) (fz_cat (pwB cy f a t h x ad sl g cn V T X vb S) (pw_rest2 cn)) e ⟨nt, nc, nq, nl, wk, wf⟩ hc (hg cn hc) hz (pwR_hh hc hg)
  rw [show (cx_C X L.length vb V).1 = cnt from e2.1, show (cx_C X L.length vb V).2.1 = V' from e2.2] at C
  exact ⟨[], _, _, pwW cy f a t h x ad (hs_sl sl cn) (hs_g g cn) (hs_n cn) V' T (cx_X2 X L.length vb V) (cx_C X L.length vb V).2.2.2.1 (hs_S S V cn), _, C, rfl, (pwR_old hc).trans (by rw [List.append_nil]), (by rw [List.append_nil]; exact pwR_new hc), rfl, cx_X2 X L.length vb V, hs_sl sl cn, hs_g g cn, T, (cx_C X L.length vb V).2.2.2.1, hs_S S V cn, hX.to rfl rfl, hs_gsl hc hg, hs_n_lt hc, (hs_top hc).2, rfl⟩
set_option maxHeartbeats 1000000 in
set_option maxRecDepth 20000 in
theorem pr_thaw (wf : fz_wf V nt nc nq nl wk) : pr_op l yX8_nextThaw wsX8_nextThaw 1 21 D cy (f 0) 6 [] (pK cy f a t h x ad cn V L K) (fz_thaw (V 2) wk) := by
  rintro Wn ⟨X, sl, g, T, vb, S, hX, hg, hc, hk, rfl⟩
  exact ⟨fz_cat (pwB cy f a t h x ad sl g cn V T X vb S) [1, 3, 4, 5, 6, 7, 8, 9], _, _, c_X8_nextThaw l D cy f t h x a V nt nc nq nl wk wf, rfl, (by rw [List.append_assoc]; exact fz_cat_P (pwB cy f a t h x ad sl g cn V T X vb S) (L' := [0, 2, 1, 3, 4, 5, 6, 7, 8, 9]) (by decide))⟩
set_option maxHeartbeats 1000000 in
set_option maxRecDepth 20000 in
theorem pl_digest (wf : fz_wf V nt nc nq nl wk) : pl_op l yX8_digest wsX8_digest 5 108 D cy (f 0) 6 [] (pK cy f a t h x ad cn V L K) (cx_dg V (nI L.length) (nI cn) nt nc nq nl wk) := by
  rintro Wn ⟨X, sl, g, T, vb, S, hX, hg, hc, hk, rfl⟩
  have C := c_X8_digest l D cy f t x ad X vb h g (nI cn) a V nt nc nq nl wk wf
  rw [hX.1] at C
  exact ⟨fz_cat (pwB cy f a t h x ad sl g cn V T X vb S) [3, 5, 6, 7, 8, 9], _, _, C, rfl, (by rw [List.append_assoc, List.append_assoc, List.append_assoc]; exact fz_cat_P (pwB cy f a t h x ad sl g cn V T X vb S) (L' := [0, 4, 1, 2, 3, 5, 6, 7, 8, 9]) (by decide))⟩
end POP
