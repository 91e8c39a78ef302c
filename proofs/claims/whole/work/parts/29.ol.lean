/-! the arrays that were there -/
def xbL : List Int32 := [0, 256, 0, 4, 4, 4, 4, 0, 0, 0, 0, 256, 256, 256, 8, 0, 6, 6, 6, 0, 8, 0]
def gvL : List Int32 := [0, 1, 1, 1, 0, 1, 0, 1, 0, 2, 2, 0, 0, 0, 1, 0, 1, 0, 0, 0, 1, 0]
/-- the arrays that were there: the script, X_BOUNDS, GIVEN -/
def pm_ol (L : Nat) (xs : Nat → Int32) : pm_O := [(L, xs), (22, fun j => xbL.getD j 0), (22, fun j => gvL.getD j 0)]
theorem ai_1001 (Ls : Nat) (xs : Nat → Int32) (h : pm_H) (j : Int32) (hj : inb j 22) : pm_ai (pm_ol Ls xs) h 1001 j = some (.int (xbL.getD j.toNatClampNeg 0)) := if_pos hj
theorem ai_1002 (Ls : Nat) (xs : Nat → Int32) (h : pm_H) (j : Int32) (hj : inb j 22) : pm_ai (pm_ol Ls xs) h 1002 j = some (.int (gvL.getD j.toNatClampNeg 0)) := if_pos hj
theorem ai_1000 (Ls : Nat) (xs : Nat → Int32) (h : pm_H) (j : Int32) (hj : inb j Ls) : pm_ai (pm_ol Ls xs) h 1000 j = some (.int (xs j.toNatClampNeg)) := if_pos hj
theorem ln_1000 (Ls : Nat) (xs : Nat → Int32) (h : pm_H) : pm_ln (pm_ol Ls xs) h 1000 = some (.int (Int32.ofNat Ls)) := rfl
