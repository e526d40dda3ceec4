/-! runCommands: class and model -/
theorem run_fault {X M : Nat → Nat → Int32} {ln : Nat} {vb : Option Nat} (hln : ln ≤ 150) (hT : X 2 = M 4) : (cx_F X ln vb).1 = (tx_fa (M 4) ln (M 0 5) (M 5)).2.2.1 := by
  rw [cx_F, hT]
  exact fault_eq hln _ _ _ _
theorem run_rel {X M V : Nat → Nat → Int32} {ln ns B : Nat} {vb : Option Nat} (hln : ln ≤ 150) (hT : X 2 = M 4) (hr : cRx V (M 1) B) (hB : B + 990000 < 2000000000) (hf : (cx_F X ln vb).1 = -1) :
    (cx_C X ln vb V).1 = (fm_run1 (fm_st M (tx_fa (M 4) ln (M 0 5) (M 5))) ln ns).1 ∧ cRx (cx_C X ln vb V).2.1 ((fm_run1 (fm_st M (tx_fa (M 4) ln (M 0 5) (M 5))) ln ns).2 1) (B + 990000) ∧ (fm_run1 (fm_st M (tx_fa (M 4) ln (M 0 5) (M 5))) ln ns).2 2 = fm_sv (M 2) (M 1) ns ∧ (fm_run1 (fm_st M (tx_fa (M 4) ln (M 0 5) (M 5))) ln ns).2 4 = M 4 ∧ (fm_run1 (fm_st M (tx_fa (M 4) ln (M 0 5) (M 5))) ln ns).2 0 0 = nI (fm_ns ns) ∧ (fm_run1 (fm_st M (tx_fa (M 4) ln (M 0 5) (M 5))) ln ns).2 0 1 = M 0 1 := by
  have hfa : (tx_fa (M 4) ln (M 0 5) (M 5)).2.2.1 = -1 := (run_fault hln hT).symm.trans hf
  have hgd : tx_gd (M 4) ln 200 (tx_sp (M 4) ln 0) := tx_fo_gd 200 (tx_sp (M 4) ln 0, M 0 5, -1, M 5) rfl hfa
  obtain ⟨S, eS⟩ : ∃ S, S = fm_st M (tx_fa (M 4) ln (M 0 5) (M 5)) := ⟨_, rfl⟩
  have s4 : S 4 = M 4 := by rw [eS]; rfl
  have s1 : S 1 = M 1 := by rw [eS]; rfl
  have s2 : S 2 = M 2 := by rw [eS]; rfl
  have s01 : S 0 1 = M 0 1 := by rw [eS]; rfl
  rw [← eS]
  have r := rl_rel (T := M 4) hln 150 0 (cx_F X ln vb).2.2.1 (cx_X1 X ln vb 1) V (fm_r0 S ln ns) 0 200 B (by omega) (by omega) (by omega) hgd (by rw [← s4]; rfl) (by
    have e : fm_r0 S ln ns 1 = S 1 := rfl
    rw [e, s1]
    exact hr) (by omega)
  have eC : cx_C X ln vb V = cx_rl (M 4) ln 150 0 (cx_F X ln vb).2.2.1 (cx_X1 X ln vb 1) V 0 := by
    rw [cx_C, cx_ct, show cx_X1 X ln vb 2 = X 2 from rfl, hT]
  have eR : fm_run1 S ln ns = fm_rl ln 200 (decide (tx_sp (M 4) ln 0 < ln)) (tx_sp (M 4) ln 0) (fm_r0 S ln ns) 0 := by rw [fm_run1, s4]
  rw [eC, eR]
  refine ⟨r.1, r.2.1, (r.2.2.1 2 (by omega)).trans ?_, (r.2.2.1 4 (by omega)).trans ?_, (r.2.2.2 0 (by omega)).trans ?_, (r.2.2.2 1 (by omega)).trans ?_⟩
  · show fm_sv (S 2) (S 1) ns = _
    rw [s1, s2]
  · exact s4
  · rfl
  · exact s01
