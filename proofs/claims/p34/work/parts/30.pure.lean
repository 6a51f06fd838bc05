def cmpN (mp : Nat → Int32) (x : Nat × Int64 × Mem) (y : Int64 × Mem) : Prop := f_X6_thrown y.2 = (if x.1 = 0 then 0 else mp x.1) ∧ (x.1 = 0 → x.2.1 = y.1)
def cmpV (mp : Nat → Int32) (x : Nat × Mem) (y : Mem) : Prop := f_X6_thrown y = (if x.1 = 0 then 0 else mp x.1)
def toM (y : Int32 × Mem) : Int64 × Mem := (y.1.toInt64, y.2)
def DH_25 (M : Mem) : Prop := ∀ M1 : Mem, M1 = f_X6_select M → ¬ gI M1 7 = 0 → ∃ j, j < 8 ∧ ¬ gB M1 7 j = 0
def DH_27 (M : Mem) : Prop := ∀ M1 : Mem, M1 = f_X6_select M → gI M1 7 < 2 * gI M1 8 → ∃ j, j < 8 ∧ ¬ gB M1 7 j = 0
def DD (M : Mem) : Prop := ∀ (M1 M2 : Mem) (r : Int32), M1 = f_X6_select M → (r, M2) = f_X6_refused M1 0 → ∀ j, j < 8 → ¬ gB M2 7 j = 0 → ¬ f_X6_distanceOf M2 j + 1 = 0
