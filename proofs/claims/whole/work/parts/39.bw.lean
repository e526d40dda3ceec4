/-! the class's whole world: the object, its history, seven calendars, its text -/
abbrev FW (f a t h x : Nat → Nat) : va_W := [(f 0, .inr (6, [.ref (a 0), .ref (t 0), .ref (h 0), .ref (x 0)]))]
/-- the slots of the history: slot k is calendar (k + r) mod 5 -/
def hw_f (sl : Nat → Nat → Nat) (r : Nat) : Nat → Option Nat := fun k => some (sl ((k + r) % 5) 0)
abbrev HW (cy : Nat → ClassId) (h : Nat → Nat) (sl : Nat → Nat → Nat) (r : Nat) (Y : Nat → Nat → Int32) : va_W := [(h 0, .inr (3, [.int (Y 0 0), .ref (h 1)])), (h 1, .inl (cy 3, 5, .inr (.inr (.inr (.inr (hw_f sl r))))))]
abbrev SW (cy : Nat → ClassId) (sl : Nat → Nat → Nat) (S : Nat → Nat → Nat → Int32) : va_W := CW cy (sl 0) (S 0) ++ (CW cy (sl 1) (S 1) ++ (CW cy (sl 2) (S 2) ++ (CW cy (sl 3) (S 3) ++ CW cy (sl 4) (S 4))))
/-- what History's own methods work on -/
abbrev HSW (cy : Nat → ClassId) (a : Nat → Nat) (V : Nat → Nat → Int32) (h : Nat → Nat) (sl : Nat → Nat → Nat) (r : Nat) (Y : Nat → Nat → Int32) (S : Nat → Nat → Nat → Int32) : va_W := HW cy h sl r Y ++ (CW cy a V ++ SW cy sl S)
set_option maxRecDepth 100000 in
theorem zz_test {D : va_G} {H : Heap} {cy : Nat → ClassId} {f a t h x : Nat → Nat} {sl : Nat → Nat → Nat} {r : Nat} {Y V T X : Nat → Nat → Int32} {S : Nat → Nat → Nat → Int32} {ad : Nat → Nat} {vb : Option Nat} (hP : va_P D vwCl (FW f a t h x ++ (HW cy h sl r Y ++ (CW cy a V ++ (SW cy sl S ++ (CW cy t T ++ XW cy ad x X vb))))) H) : va_P D vwCl (HSW cy a V h sl r Y S) H :=
  hP.sub (List.range' 1 146) rfl
set_option maxRecDepth 100000 in
theorem zz_test2 {A : Nat → Prop} {cy : Nat → ClassId} {f a t h x : Nat → Nat} {sl : Nat → Nat → Nat} {r : Nat} {Y V T X : Nat → Nat → Int32} {S : Nat → Nat → Nat → Int32} {ad : Nat → Nat} {vb : Option Nat} (hP : va_D A (FW f a t h x ++ (HW cy h sl r Y ++ (CW cy a V ++ (SW cy sl S ++ (CW cy t T ++ XW cy ad x X vb)))))) : va_D A (HSW cy a V h sl r Y S) :=
  hP.sub (List.range' 1 146) (by decide +kernel) rfl
