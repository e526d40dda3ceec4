/-! what a method may want of the tables besides its words: links to private members of nest mates -/
def fz_nests : List Cond := [.methodLinkNest RX1 132 yX8_isRisk "FreezeCredits", .methodLinkNest RX1 166 yX8_asNumber "FreezeCredits", .methodLinkNest RX1 192 yX8_sum "FreezeCredits", .methodLinkNest RX1 29 yX6_init "FreezeCredits", .methodLinkNest RX1 36 yX2_init "FreezeCredits", .methodLinkNest RX1 43 yX5_init "FreezeCredits", .methodLinkNest RX8 11 yX1_init "FreezeCredits", .methodLinkNest RX8 28 yX3_init "FreezeCredits", .methodLinkNest RX4 17 yX1_init "FreezeCredits",
  .fieldLinkNest RX1 78 "FreezeCredits" "SETTINGS_FROM" "[I" "FreezeCredits", .fieldLinkNest RX1 81 "FreezeCredits" "SETTINGS_TO" "[I" "FreezeCredits", .fieldLinkNest RX1 9 "FreezeCredits" "SETTINGS_AT_FIRST" "[I" "FreezeCredits"]
def fz_Nw (U : State) : Prop := ∀ w ∈ fz_nests, va_Nw w U
theorem fz_nests_tb : fz_nests.all (fun w => w.onTables) = true := by decide +kernel
theorem fz_Nw_bl : fz_bl fz_Nw := fun a U g mk h w hw => va_Nw.same (u := U) (U := U.calling g mk a) (List.all_eq_true.mp fz_nests_tb w hw) rfl (h w hw)
theorem fz_Nw_warm {s U : State} (hW : s.WarmedH U.vm) (h : fz_Nw s) : fz_Nw U := by
  intro w hw
  have h1 := h w hw
  simp only [fz_nests, List.mem_cons, List.not_mem_nil, or_false] at hw
  rcases hw with rfl | rfl | rfl | rfl | rfl | rfl | rfl | rfl | rfl | rfl | rfl | rfl
  · exact va_Nw.warmM hW h1
  · exact va_Nw.warmM hW h1
  · exact va_Nw.warmM hW h1
  · exact va_Nw.warmM hW h1
  · exact va_Nw.warmM hW h1
  · exact va_Nw.warmM hW h1
  · exact va_Nw.warmM hW h1
  · exact va_Nw.warmM hW h1
  · exact va_Nw.warmM hW h1
  · exact va_Nw.warmF hW h1
  · exact va_Nw.warmF hW h1
  · exact va_Nw.warmF hW h1
theorem fz_Nw_at {U : State} (h : fz_Nw U) (i : Nat) {w : Cond} (hi : fz_nests[i]? = some w) : va_Nw w U := h w (List.mem_of_getElem? hi)
abbrev AW (cy : Nat → ClassId) (q : Nat) (n : Nat) (f : Nat → Int32) : va_W := [(q, .inl (cy 0, n, .inl f))]
/-- 0 or 1, as a number -/
def fz_nz (x : Int32) : Int32 := if x = 0 then 0 else 1
theorem fz_nz_b (b : Bool) : fz_nz (fz_b b) = fz_b b := by cases b <;> decide
def fz_risk (x : Int32) : Bool := !(decide (x < 1)) && !(decide (9 < x))
