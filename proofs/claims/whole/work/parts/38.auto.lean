/-! rows of the heap at places nI j, and numbers, for simp with omega -/
section AUT
variable (ol : pm_O) (A I : Nat → Nat → Int32) (L : Nat → Int64) (g : pm_H)
theorem aN_2 (j : Nat) (h : j < 8) : pm_ai ol (mk A I L g) 2 (nI j) = some (.int (A 2 j)) := (ai_2 ol A I L g (nI j) (inb_nI h (by decide))).trans (by rw [clampN (by omega)])
theorem aL_2 (j : Nat) (h : (OfNat.ofNat j : Nat) < 8) : pm_ai ol (mk A I L g) 2 (no_index (OfNat.ofNat j)) = some (.int (A 2 (OfNat.ofNat j))) := aN_2 ol A I L g j h
theorem sN_2 (j : Nat) (x : Int32) (h : j < 8) : pm_si (mk A I L g) 2 (nI j) x = some (mk (sA A 2 j x) I L g) := (si_2 A I L g (nI j) x (inb_nI h (by decide))).trans (by rw [clampN (by omega)])
theorem sL_2 (j : Nat) (x : Int32) (h : (OfNat.ofNat j : Nat) < 8) : pm_si (mk A I L g) 2 (no_index (OfNat.ofNat j)) x = some (mk (sA A 2 (OfNat.ofNat j) x) I L g) := sN_2 A I L g j x h
theorem aN_3 (j : Nat) (h : j < 6) : pm_ai ol (mk A I L g) 3 (nI j) = some (.int (A 3 j)) := (ai_3 ol A I L g (nI j) (inb_nI h (by decide))).trans (by rw [clampN (by omega)])
theorem aL_3 (j : Nat) (h : (OfNat.ofNat j : Nat) < 6) : pm_ai ol (mk A I L g) 3 (no_index (OfNat.ofNat j)) = some (.int (A 3 (OfNat.ofNat j))) := aN_3 ol A I L g j h
theorem sN_3 (j : Nat) (x : Int32) (h : j < 6) : pm_si (mk A I L g) 3 (nI j) x = some (mk (sA A 3 j x) I L g) := (si_3 A I L g (nI j) x (inb_nI h (by decide))).trans (by rw [clampN (by omega)])
theorem sL_3 (j : Nat) (x : Int32) (h : (OfNat.ofNat j : Nat) < 6) : pm_si (mk A I L g) 3 (no_index (OfNat.ofNat j)) x = some (mk (sA A 3 (OfNat.ofNat j) x) I L g) := sN_3 A I L g j x h
theorem aN_4 (j : Nat) (h : j < 6) : pm_ai ol (mk A I L g) 4 (nI j) = some (.int (A 4 j)) := (ai_4 ol A I L g (nI j) (inb_nI h (by decide))).trans (by rw [clampN (by omega)])
theorem aL_4 (j : Nat) (h : (OfNat.ofNat j : Nat) < 6) : pm_ai ol (mk A I L g) 4 (no_index (OfNat.ofNat j)) = some (.int (A 4 (OfNat.ofNat j))) := aN_4 ol A I L g j h
theorem sN_4 (j : Nat) (x : Int32) (h : j < 6) : pm_si (mk A I L g) 4 (nI j) x = some (mk (sA A 4 j x) I L g) := (si_4 A I L g (nI j) x (inb_nI h (by decide))).trans (by rw [clampN (by omega)])
theorem sL_4 (j : Nat) (x : Int32) (h : (OfNat.ofNat j : Nat) < 6) : pm_si (mk A I L g) 4 (no_index (OfNat.ofNat j)) x = some (mk (sA A 4 (OfNat.ofNat j) x) I L g) := sN_4 A I L g j x h
theorem aN_7 (j : Nat) (h : j < 4) : pm_ai ol (mk A I L g) 7 (nI j) = some (.int (A 7 j)) := (ai_7 ol A I L g (nI j) (inb_nI h (by decide))).trans (by rw [clampN (by omega)])
theorem aL_7 (j : Nat) (h : (OfNat.ofNat j : Nat) < 4) : pm_ai ol (mk A I L g) 7 (no_index (OfNat.ofNat j)) = some (.int (A 7 (OfNat.ofNat j))) := aN_7 ol A I L g j h
theorem sN_7 (j : Nat) (x : Int32) (h : j < 4) : pm_si (mk A I L g) 7 (nI j) x = some (mk (sA A 7 j x) I L g) := (si_7 A I L g (nI j) x (inb_nI h (by decide))).trans (by rw [clampN (by omega)])
theorem sL_7 (j : Nat) (x : Int32) (h : (OfNat.ofNat j : Nat) < 4) : pm_si (mk A I L g) 7 (no_index (OfNat.ofNat j)) x = some (mk (sA A 7 (OfNat.ofNat j) x) I L g) := sN_7 A I L g j x h
theorem aN_9 (j : Nat) (h : j < 4) : pm_ai ol (mk A I L g) 9 (nI j) = some (.int (A 9 j)) := (ai_9 ol A I L g (nI j) (inb_nI h (by decide))).trans (by rw [clampN (by omega)])
theorem aL_9 (j : Nat) (h : (OfNat.ofNat j : Nat) < 4) : pm_ai ol (mk A I L g) 9 (no_index (OfNat.ofNat j)) = some (.int (A 9 (OfNat.ofNat j))) := aN_9 ol A I L g j h
theorem sN_9 (j : Nat) (x : Int32) (h : j < 4) : pm_si (mk A I L g) 9 (nI j) x = some (mk (sA A 9 j x) I L g) := (si_9 A I L g (nI j) x (inb_nI h (by decide))).trans (by rw [clampN (by omega)])
theorem sL_9 (j : Nat) (x : Int32) (h : (OfNat.ofNat j : Nat) < 4) : pm_si (mk A I L g) 9 (no_index (OfNat.ofNat j)) x = some (mk (sA A 9 (OfNat.ofNat j) x) I L g) := sN_9 A I L g j x h
theorem aN_11 (j : Nat) (h : j < 4) : pm_ai ol (mk A I L g) 11 (nI j) = some (.int (A 11 j)) := (ai_11 ol A I L g (nI j) (inb_nI h (by decide))).trans (by rw [clampN (by omega)])
theorem aL_11 (j : Nat) (h : (OfNat.ofNat j : Nat) < 4) : pm_ai ol (mk A I L g) 11 (no_index (OfNat.ofNat j)) = some (.int (A 11 (OfNat.ofNat j))) := aN_11 ol A I L g j h
theorem sN_11 (j : Nat) (x : Int32) (h : j < 4) : pm_si (mk A I L g) 11 (nI j) x = some (mk (sA A 11 j x) I L g) := (si_11 A I L g (nI j) x (inb_nI h (by decide))).trans (by rw [clampN (by omega)])
theorem sL_11 (j : Nat) (x : Int32) (h : (OfNat.ofNat j : Nat) < 4) : pm_si (mk A I L g) 11 (no_index (OfNat.ofNat j)) x = some (mk (sA A 11 (OfNat.ofNat j) x) I L g) := sN_11 A I L g j x h
theorem aN_13 (j : Nat) (h : j < 4) : pm_ai ol (mk A I L g) 13 (nI j) = some (.int (A 13 j)) := (ai_13 ol A I L g (nI j) (inb_nI h (by decide))).trans (by rw [clampN (by omega)])
theorem aL_13 (j : Nat) (h : (OfNat.ofNat j : Nat) < 4) : pm_ai ol (mk A I L g) 13 (no_index (OfNat.ofNat j)) = some (.int (A 13 (OfNat.ofNat j))) := aN_13 ol A I L g j h
theorem sN_13 (j : Nat) (x : Int32) (h : j < 4) : pm_si (mk A I L g) 13 (nI j) x = some (mk (sA A 13 j x) I L g) := (si_13 A I L g (nI j) x (inb_nI h (by decide))).trans (by rw [clampN (by omega)])
theorem sL_13 (j : Nat) (x : Int32) (h : (OfNat.ofNat j : Nat) < 4) : pm_si (mk A I L g) 13 (no_index (OfNat.ofNat j)) x = some (mk (sA A 13 (OfNat.ofNat j) x) I L g) := sN_13 A I L g j x h
theorem aN_15 (j : Nat) (h : j < 4) : pm_ai ol (mk A I L g) 15 (nI j) = some (.int (A 15 j)) := (ai_15 ol A I L g (nI j) (inb_nI h (by decide))).trans (by rw [clampN (by omega)])
theorem aL_15 (j : Nat) (h : (OfNat.ofNat j : Nat) < 4) : pm_ai ol (mk A I L g) 15 (no_index (OfNat.ofNat j)) = some (.int (A 15 (OfNat.ofNat j))) := aN_15 ol A I L g j h
theorem sN_15 (j : Nat) (x : Int32) (h : j < 4) : pm_si (mk A I L g) 15 (nI j) x = some (mk (sA A 15 j x) I L g) := (si_15 A I L g (nI j) x (inb_nI h (by decide))).trans (by rw [clampN (by omega)])
theorem sL_15 (j : Nat) (x : Int32) (h : (OfNat.ofNat j : Nat) < 4) : pm_si (mk A I L g) 15 (no_index (OfNat.ofNat j)) x = some (mk (sA A 15 (OfNat.ofNat j) x) I L g) := sN_15 A I L g j x h
theorem aN_17 (j : Nat) (h : j < 4) : pm_ai ol (mk A I L g) 17 (nI j) = some (.int (A 17 j)) := (ai_17 ol A I L g (nI j) (inb_nI h (by decide))).trans (by rw [clampN (by omega)])
theorem aL_17 (j : Nat) (h : (OfNat.ofNat j : Nat) < 4) : pm_ai ol (mk A I L g) 17 (no_index (OfNat.ofNat j)) = some (.int (A 17 (OfNat.ofNat j))) := aN_17 ol A I L g j h
theorem sN_17 (j : Nat) (x : Int32) (h : j < 4) : pm_si (mk A I L g) 17 (nI j) x = some (mk (sA A 17 j x) I L g) := (si_17 A I L g (nI j) x (inb_nI h (by decide))).trans (by rw [clampN (by omega)])
theorem sL_17 (j : Nat) (x : Int32) (h : (OfNat.ofNat j : Nat) < 4) : pm_si (mk A I L g) 17 (no_index (OfNat.ofNat j)) x = some (mk (sA A 17 (OfNat.ofNat j) x) I L g) := sN_17 A I L g j x h
theorem aN_19 (j : Nat) (h : j < 4) : pm_ai ol (mk A I L g) 19 (nI j) = some (.int (A 19 j)) := (ai_19 ol A I L g (nI j) (inb_nI h (by decide))).trans (by rw [clampN (by omega)])
theorem aL_19 (j : Nat) (h : (OfNat.ofNat j : Nat) < 4) : pm_ai ol (mk A I L g) 19 (no_index (OfNat.ofNat j)) = some (.int (A 19 (OfNat.ofNat j))) := aN_19 ol A I L g j h
theorem sN_19 (j : Nat) (x : Int32) (h : j < 4) : pm_si (mk A I L g) 19 (nI j) x = some (mk (sA A 19 j x) I L g) := (si_19 A I L g (nI j) x (inb_nI h (by decide))).trans (by rw [clampN (by omega)])
theorem sL_19 (j : Nat) (x : Int32) (h : (OfNat.ofNat j : Nat) < 4) : pm_si (mk A I L g) 19 (no_index (OfNat.ofNat j)) x = some (mk (sA A 19 (OfNat.ofNat j) x) I L g) := sN_19 A I L g j x h
theorem aN_22 (j : Nat) (h : j < 48) : pm_ai ol (mk A I L g) 22 (nI j) = some (.int (A 22 j)) := (ai_22 ol A I L g (nI j) (inb_nI h (by decide))).trans (by rw [clampN (by omega)])
theorem aL_22 (j : Nat) (h : (OfNat.ofNat j : Nat) < 48) : pm_ai ol (mk A I L g) 22 (no_index (OfNat.ofNat j)) = some (.int (A 22 (OfNat.ofNat j))) := aN_22 ol A I L g j h
theorem sN_22 (j : Nat) (x : Int32) (h : j < 48) : pm_si (mk A I L g) 22 (nI j) x = some (mk (sA A 22 j x) I L g) := (si_22 A I L g (nI j) x (inb_nI h (by decide))).trans (by rw [clampN (by omega)])
theorem sL_22 (j : Nat) (x : Int32) (h : (OfNat.ofNat j : Nat) < 48) : pm_si (mk A I L g) 22 (no_index (OfNat.ofNat j)) x = some (mk (sA A 22 (OfNat.ofNat j) x) I L g) := sN_22 A I L g j x h
theorem aN_25 (j : Nat) (h : j < 120) : pm_ai ol (mk A I L g) 25 (nI j) = some (.int (A 25 j)) := (ai_25 ol A I L g (nI j) (inb_nI h (by decide))).trans (by rw [clampN (by omega)])
theorem aL_25 (j : Nat) (h : (OfNat.ofNat j : Nat) < 120) : pm_ai ol (mk A I L g) 25 (no_index (OfNat.ofNat j)) = some (.int (A 25 (OfNat.ofNat j))) := aN_25 ol A I L g j h
theorem sN_25 (j : Nat) (x : Int32) (h : j < 120) : pm_si (mk A I L g) 25 (nI j) x = some (mk (sA A 25 j x) I L g) := (si_25 A I L g (nI j) x (inb_nI h (by decide))).trans (by rw [clampN (by omega)])
theorem sL_25 (j : Nat) (x : Int32) (h : (OfNat.ofNat j : Nat) < 120) : pm_si (mk A I L g) 25 (no_index (OfNat.ofNat j)) x = some (mk (sA A 25 (OfNat.ofNat j) x) I L g) := sN_25 A I L g j x h
theorem aN_27 (j : Nat) (h : j < 48) : pm_ai ol (mk A I L g) 27 (nI j) = some (.int (A 27 j)) := (ai_27 ol A I L g (nI j) (inb_nI h (by decide))).trans (by rw [clampN (by omega)])
theorem aL_27 (j : Nat) (h : (OfNat.ofNat j : Nat) < 48) : pm_ai ol (mk A I L g) 27 (no_index (OfNat.ofNat j)) = some (.int (A 27 (OfNat.ofNat j))) := aN_27 ol A I L g j h
theorem sN_27 (j : Nat) (x : Int32) (h : j < 48) : pm_si (mk A I L g) 27 (nI j) x = some (mk (sA A 27 j x) I L g) := (si_27 A I L g (nI j) x (inb_nI h (by decide))).trans (by rw [clampN (by omega)])
theorem sL_27 (j : Nat) (x : Int32) (h : (OfNat.ofNat j : Nat) < 48) : pm_si (mk A I L g) 27 (no_index (OfNat.ofNat j)) x = some (mk (sA A 27 (OfNat.ofNat j) x) I L g) := sN_27 A I L g j x h
theorem aN_29 (j : Nat) (h : j < 9) : pm_ai ol (mk A I L g) 29 (nI j) = some (.int (A 29 j)) := (ai_29 ol A I L g (nI j) (inb_nI h (by decide))).trans (by rw [clampN (by omega)])
theorem aL_29 (j : Nat) (h : (OfNat.ofNat j : Nat) < 9) : pm_ai ol (mk A I L g) 29 (no_index (OfNat.ofNat j)) = some (.int (A 29 (OfNat.ofNat j))) := aN_29 ol A I L g j h
theorem sN_29 (j : Nat) (x : Int32) (h : j < 9) : pm_si (mk A I L g) 29 (nI j) x = some (mk (sA A 29 j x) I L g) := (si_29 A I L g (nI j) x (inb_nI h (by decide))).trans (by rw [clampN (by omega)])
theorem sL_29 (j : Nat) (x : Int32) (h : (OfNat.ofNat j : Nat) < 9) : pm_si (mk A I L g) 29 (no_index (OfNat.ofNat j)) x = some (mk (sA A 29 (OfNat.ofNat j) x) I L g) := sN_29 A I L g j x h
theorem aN_31 (j : Nat) (h : j < 441) : pm_ai ol (mk A I L g) 31 (nI j) = some (.int (A 31 j)) := (ai_31 ol A I L g (nI j) (inb_nI h (by decide))).trans (by rw [clampN (by omega)])
theorem aL_31 (j : Nat) (h : (OfNat.ofNat j : Nat) < 441) : pm_ai ol (mk A I L g) 31 (no_index (OfNat.ofNat j)) = some (.int (A 31 (OfNat.ofNat j))) := aN_31 ol A I L g j h
theorem sN_31 (j : Nat) (x : Int32) (h : j < 441) : pm_si (mk A I L g) 31 (nI j) x = some (mk (sA A 31 j x) I L g) := (si_31 A I L g (nI j) x (inb_nI h (by decide))).trans (by rw [clampN (by omega)])
theorem sL_31 (j : Nat) (x : Int32) (h : (OfNat.ofNat j : Nat) < 441) : pm_si (mk A I L g) 31 (no_index (OfNat.ofNat j)) x = some (mk (sA A 31 (OfNat.ofNat j) x) I L g) := sN_31 A I L g j x h
theorem aN_32 (j : Nat) (h : j < 49) : pm_ai ol (mk A I L g) 32 (nI j) = some (.int (A 32 j)) := (ai_32 ol A I L g (nI j) (inb_nI h (by decide))).trans (by rw [clampN (by omega)])
theorem aL_32 (j : Nat) (h : (OfNat.ofNat j : Nat) < 49) : pm_ai ol (mk A I L g) 32 (no_index (OfNat.ofNat j)) = some (.int (A 32 (OfNat.ofNat j))) := aN_32 ol A I L g j h
theorem sN_32 (j : Nat) (x : Int32) (h : j < 49) : pm_si (mk A I L g) 32 (nI j) x = some (mk (sA A 32 j x) I L g) := (si_32 A I L g (nI j) x (inb_nI h (by decide))).trans (by rw [clampN (by omega)])
theorem sL_32 (j : Nat) (x : Int32) (h : (OfNat.ofNat j : Nat) < 49) : pm_si (mk A I L g) 32 (no_index (OfNat.ofNat j)) x = some (mk (sA A 32 (OfNat.ofNat j) x) I L g) := sN_32 A I L g j x h
theorem aN_35 (j : Nat) (h : j < 9) : pm_ai ol (mk A I L g) 35 (nI j) = some (.int (A 35 j)) := (ai_35 ol A I L g (nI j) (inb_nI h (by decide))).trans (by rw [clampN (by omega)])
theorem aL_35 (j : Nat) (h : (OfNat.ofNat j : Nat) < 9) : pm_ai ol (mk A I L g) 35 (no_index (OfNat.ofNat j)) = some (.int (A 35 (OfNat.ofNat j))) := aN_35 ol A I L g j h
theorem sN_35 (j : Nat) (x : Int32) (h : j < 9) : pm_si (mk A I L g) 35 (nI j) x = some (mk (sA A 35 j x) I L g) := (si_35 A I L g (nI j) x (inb_nI h (by decide))).trans (by rw [clampN (by omega)])
theorem sL_35 (j : Nat) (x : Int32) (h : (OfNat.ofNat j : Nat) < 9) : pm_si (mk A I L g) 35 (no_index (OfNat.ofNat j)) x = some (mk (sA A 35 (OfNat.ofNat j) x) I L g) := sN_35 A I L g j x h
theorem aN_36 (j : Nat) (h : j < 4) : pm_ai ol (mk A I L g) 36 (nI j) = some (.int (A 36 j)) := (ai_36 ol A I L g (nI j) (inb_nI h (by decide))).trans (by rw [clampN (by omega)])
theorem aL_36 (j : Nat) (h : (OfNat.ofNat j : Nat) < 4) : pm_ai ol (mk A I L g) 36 (no_index (OfNat.ofNat j)) = some (.int (A 36 (OfNat.ofNat j))) := aN_36 ol A I L g j h
theorem sN_36 (j : Nat) (x : Int32) (h : j < 4) : pm_si (mk A I L g) 36 (nI j) x = some (mk (sA A 36 j x) I L g) := (si_36 A I L g (nI j) x (inb_nI h (by decide))).trans (by rw [clampN (by omega)])
theorem sL_36 (j : Nat) (x : Int32) (h : (OfNat.ofNat j : Nat) < 4) : pm_si (mk A I L g) 36 (no_index (OfNat.ofNat j)) x = some (mk (sA A 36 (OfNat.ofNat j) x) I L g) := sN_36 A I L g j x h
theorem aN_41 (j : Nat) (h : j < 120) : pm_ai ol (mk A I L g) 41 (nI j) = some (.int (A 41 j)) := (ai_41 ol A I L g (nI j) (inb_nI h (by decide))).trans (by rw [clampN (by omega)])
theorem aL_41 (j : Nat) (h : (OfNat.ofNat j : Nat) < 120) : pm_ai ol (mk A I L g) 41 (no_index (OfNat.ofNat j)) = some (.int (A 41 (OfNat.ofNat j))) := aN_41 ol A I L g j h
theorem sN_41 (j : Nat) (x : Int32) (h : j < 120) : pm_si (mk A I L g) 41 (nI j) x = some (mk (sA A 41 j x) I L g) := (si_41 A I L g (nI j) x (inb_nI h (by decide))).trans (by rw [clampN (by omega)])
theorem sL_41 (j : Nat) (x : Int32) (h : (OfNat.ofNat j : Nat) < 120) : pm_si (mk A I L g) 41 (no_index (OfNat.ofNat j)) x = some (mk (sA A 41 (OfNat.ofNat j) x) I L g) := sN_41 A I L g j x h
theorem aN_42 (j : Nat) (h : j < 4) : pm_ai ol (mk A I L g) 42 (nI j) = some (.int (A 42 j)) := (ai_42 ol A I L g (nI j) (inb_nI h (by decide))).trans (by rw [clampN (by omega)])
theorem aL_42 (j : Nat) (h : (OfNat.ofNat j : Nat) < 4) : pm_ai ol (mk A I L g) 42 (no_index (OfNat.ofNat j)) = some (.int (A 42 (OfNat.ofNat j))) := aN_42 ol A I L g j h
theorem sN_42 (j : Nat) (x : Int32) (h : j < 4) : pm_si (mk A I L g) 42 (nI j) x = some (mk (sA A 42 j x) I L g) := (si_42 A I L g (nI j) x (inb_nI h (by decide))).trans (by rw [clampN (by omega)])
theorem sL_42 (j : Nat) (x : Int32) (h : (OfNat.ofNat j : Nat) < 4) : pm_si (mk A I L g) 42 (no_index (OfNat.ofNat j)) x = some (mk (sA A 42 (OfNat.ofNat j) x) I L g) := sN_42 A I L g j x h
theorem aN_46 (j : Nat) (h : j < 441) : pm_ai ol (mk A I L g) 46 (nI j) = some (.int (A 46 j)) := (ai_46 ol A I L g (nI j) (inb_nI h (by decide))).trans (by rw [clampN (by omega)])
theorem aL_46 (j : Nat) (h : (OfNat.ofNat j : Nat) < 441) : pm_ai ol (mk A I L g) 46 (no_index (OfNat.ofNat j)) = some (.int (A 46 (OfNat.ofNat j))) := aN_46 ol A I L g j h
theorem sN_46 (j : Nat) (x : Int32) (h : j < 441) : pm_si (mk A I L g) 46 (nI j) x = some (mk (sA A 46 j x) I L g) := (si_46 A I L g (nI j) x (inb_nI h (by decide))).trans (by rw [clampN (by omega)])
theorem sL_46 (j : Nat) (x : Int32) (h : (OfNat.ofNat j : Nat) < 441) : pm_si (mk A I L g) 46 (no_index (OfNat.ofNat j)) x = some (mk (sA A 46 (OfNat.ofNat j) x) I L g) := sN_46 A I L g j x h
theorem aN_47 (j : Nat) (h : j < 49) : pm_ai ol (mk A I L g) 47 (nI j) = some (.int (A 47 j)) := (ai_47 ol A I L g (nI j) (inb_nI h (by decide))).trans (by rw [clampN (by omega)])
theorem aL_47 (j : Nat) (h : (OfNat.ofNat j : Nat) < 49) : pm_ai ol (mk A I L g) 47 (no_index (OfNat.ofNat j)) = some (.int (A 47 (OfNat.ofNat j))) := aN_47 ol A I L g j h
theorem sN_47 (j : Nat) (x : Int32) (h : j < 49) : pm_si (mk A I L g) 47 (nI j) x = some (mk (sA A 47 j x) I L g) := (si_47 A I L g (nI j) x (inb_nI h (by decide))).trans (by rw [clampN (by omega)])
theorem sL_47 (j : Nat) (x : Int32) (h : (OfNat.ofNat j : Nat) < 49) : pm_si (mk A I L g) 47 (no_index (OfNat.ofNat j)) x = some (mk (sA A 47 (OfNat.ofNat j) x) I L g) := sN_47 A I L g j x h
theorem aN_49 (j : Nat) (h : j < 8) : pm_ai ol (mk A I L g) 49 (nI j) = some (.int (A 49 j)) := (ai_49 ol A I L g (nI j) (inb_nI h (by decide))).trans (by rw [clampN (by omega)])
theorem aL_49 (j : Nat) (h : (OfNat.ofNat j : Nat) < 8) : pm_ai ol (mk A I L g) 49 (no_index (OfNat.ofNat j)) = some (.int (A 49 (OfNat.ofNat j))) := aN_49 ol A I L g j h
theorem sN_49 (j : Nat) (x : Int32) (h : j < 8) : pm_si (mk A I L g) 49 (nI j) x = some (mk (sA A 49 j x) I L g) := (si_49 A I L g (nI j) x (inb_nI h (by decide))).trans (by rw [clampN (by omega)])
theorem sL_49 (j : Nat) (x : Int32) (h : (OfNat.ofNat j : Nat) < 8) : pm_si (mk A I L g) 49 (no_index (OfNat.ofNat j)) x = some (mk (sA A 49 (OfNat.ofNat j) x) I L g) := sN_49 A I L g j x h
theorem aN_50 (j : Nat) (h : j < 6) : pm_ai ol (mk A I L g) 50 (nI j) = some (.int (A 50 j)) := (ai_50 ol A I L g (nI j) (inb_nI h (by decide))).trans (by rw [clampN (by omega)])
theorem aL_50 (j : Nat) (h : (OfNat.ofNat j : Nat) < 6) : pm_ai ol (mk A I L g) 50 (no_index (OfNat.ofNat j)) = some (.int (A 50 (OfNat.ofNat j))) := aN_50 ol A I L g j h
theorem sN_50 (j : Nat) (x : Int32) (h : j < 6) : pm_si (mk A I L g) 50 (nI j) x = some (mk (sA A 50 j x) I L g) := (si_50 A I L g (nI j) x (inb_nI h (by decide))).trans (by rw [clampN (by omega)])
theorem sL_50 (j : Nat) (x : Int32) (h : (OfNat.ofNat j : Nat) < 6) : pm_si (mk A I L g) 50 (no_index (OfNat.ofNat j)) x = some (mk (sA A 50 (OfNat.ofNat j) x) I L g) := sN_50 A I L g j x h
theorem aN_51 (j : Nat) (h : j < 6) : pm_ai ol (mk A I L g) 51 (nI j) = some (.int (A 51 j)) := (ai_51 ol A I L g (nI j) (inb_nI h (by decide))).trans (by rw [clampN (by omega)])
theorem aL_51 (j : Nat) (h : (OfNat.ofNat j : Nat) < 6) : pm_ai ol (mk A I L g) 51 (no_index (OfNat.ofNat j)) = some (.int (A 51 (OfNat.ofNat j))) := aN_51 ol A I L g j h
theorem sN_51 (j : Nat) (x : Int32) (h : j < 6) : pm_si (mk A I L g) 51 (nI j) x = some (mk (sA A 51 j x) I L g) := (si_51 A I L g (nI j) x (inb_nI h (by decide))).trans (by rw [clampN (by omega)])
theorem sL_51 (j : Nat) (x : Int32) (h : (OfNat.ofNat j : Nat) < 6) : pm_si (mk A I L g) 51 (no_index (OfNat.ofNat j)) x = some (mk (sA A 51 (OfNat.ofNat j) x) I L g) := sN_51 A I L g j x h
theorem aN_52 (j : Nat) (h : j < 18) : pm_ai ol (mk A I L g) 52 (nI j) = some (.int (A 52 j)) := (ai_52 ol A I L g (nI j) (inb_nI h (by decide))).trans (by rw [clampN (by omega)])
theorem aL_52 (j : Nat) (h : (OfNat.ofNat j : Nat) < 18) : pm_ai ol (mk A I L g) 52 (no_index (OfNat.ofNat j)) = some (.int (A 52 (OfNat.ofNat j))) := aN_52 ol A I L g j h
theorem sN_52 (j : Nat) (x : Int32) (h : j < 18) : pm_si (mk A I L g) 52 (nI j) x = some (mk (sA A 52 j x) I L g) := (si_52 A I L g (nI j) x (inb_nI h (by decide))).trans (by rw [clampN (by omega)])
theorem sL_52 (j : Nat) (x : Int32) (h : (OfNat.ofNat j : Nat) < 18) : pm_si (mk A I L g) 52 (no_index (OfNat.ofNat j)) x = some (mk (sA A 52 (OfNat.ofNat j) x) I L g) := sN_52 A I L g j x h
theorem aN_53 (j : Nat) (h : j < 6) : pm_ai ol (mk A I L g) 53 (nI j) = some (.int (A 53 j)) := (ai_53 ol A I L g (nI j) (inb_nI h (by decide))).trans (by rw [clampN (by omega)])
theorem aL_53 (j : Nat) (h : (OfNat.ofNat j : Nat) < 6) : pm_ai ol (mk A I L g) 53 (no_index (OfNat.ofNat j)) = some (.int (A 53 (OfNat.ofNat j))) := aN_53 ol A I L g j h
theorem sN_53 (j : Nat) (x : Int32) (h : j < 6) : pm_si (mk A I L g) 53 (nI j) x = some (mk (sA A 53 j x) I L g) := (si_53 A I L g (nI j) x (inb_nI h (by decide))).trans (by rw [clampN (by omega)])
theorem sL_53 (j : Nat) (x : Int32) (h : (OfNat.ofNat j : Nat) < 6) : pm_si (mk A I L g) 53 (no_index (OfNat.ofNat j)) x = some (mk (sA A 53 (OfNat.ofNat j) x) I L g) := sN_53 A I L g j x h
theorem aN_54 (j : Nat) (h : j < 6) : pm_ai ol (mk A I L g) 54 (nI j) = some (.int (A 54 j)) := (ai_54 ol A I L g (nI j) (inb_nI h (by decide))).trans (by rw [clampN (by omega)])
theorem aL_54 (j : Nat) (h : (OfNat.ofNat j : Nat) < 6) : pm_ai ol (mk A I L g) 54 (no_index (OfNat.ofNat j)) = some (.int (A 54 (OfNat.ofNat j))) := aN_54 ol A I L g j h
theorem sN_54 (j : Nat) (x : Int32) (h : j < 6) : pm_si (mk A I L g) 54 (nI j) x = some (mk (sA A 54 j x) I L g) := (si_54 A I L g (nI j) x (inb_nI h (by decide))).trans (by rw [clampN (by omega)])
theorem sL_54 (j : Nat) (x : Int32) (h : (OfNat.ofNat j : Nat) < 6) : pm_si (mk A I L g) 54 (no_index (OfNat.ofNat j)) x = some (mk (sA A 54 (OfNat.ofNat j) x) I L g) := sN_54 A I L g j x h
theorem aN_55 (j : Nat) (h : j < 4) : pm_ai ol (mk A I L g) 55 (nI j) = some (.int (A 55 j)) := (ai_55 ol A I L g (nI j) (inb_nI h (by decide))).trans (by rw [clampN (by omega)])
theorem aL_55 (j : Nat) (h : (OfNat.ofNat j : Nat) < 4) : pm_ai ol (mk A I L g) 55 (no_index (OfNat.ofNat j)) = some (.int (A 55 (OfNat.ofNat j))) := aN_55 ol A I L g j h
theorem sN_55 (j : Nat) (x : Int32) (h : j < 4) : pm_si (mk A I L g) 55 (nI j) x = some (mk (sA A 55 j x) I L g) := (si_55 A I L g (nI j) x (inb_nI h (by decide))).trans (by rw [clampN (by omega)])
theorem sL_55 (j : Nat) (x : Int32) (h : (OfNat.ofNat j : Nat) < 4) : pm_si (mk A I L g) 55 (no_index (OfNat.ofNat j)) x = some (mk (sA A 55 (OfNat.ofNat j) x) I L g) := sN_55 A I L g j x h
theorem aN_56 (j : Nat) (h : j < 48) : pm_ai ol (mk A I L g) 56 (nI j) = some (.int (A 56 j)) := (ai_56 ol A I L g (nI j) (inb_nI h (by decide))).trans (by rw [clampN (by omega)])
theorem aL_56 (j : Nat) (h : (OfNat.ofNat j : Nat) < 48) : pm_ai ol (mk A I L g) 56 (no_index (OfNat.ofNat j)) = some (.int (A 56 (OfNat.ofNat j))) := aN_56 ol A I L g j h
theorem sN_56 (j : Nat) (x : Int32) (h : j < 48) : pm_si (mk A I L g) 56 (nI j) x = some (mk (sA A 56 j x) I L g) := (si_56 A I L g (nI j) x (inb_nI h (by decide))).trans (by rw [clampN (by omega)])
theorem sL_56 (j : Nat) (x : Int32) (h : (OfNat.ofNat j : Nat) < 48) : pm_si (mk A I L g) 56 (no_index (OfNat.ofNat j)) x = some (mk (sA A 56 (OfNat.ofNat j) x) I L g) := sN_56 A I L g j x h
theorem aN_57 (j : Nat) (h : j < 120) : pm_ai ol (mk A I L g) 57 (nI j) = some (.int (A 57 j)) := (ai_57 ol A I L g (nI j) (inb_nI h (by decide))).trans (by rw [clampN (by omega)])
theorem aL_57 (j : Nat) (h : (OfNat.ofNat j : Nat) < 120) : pm_ai ol (mk A I L g) 57 (no_index (OfNat.ofNat j)) = some (.int (A 57 (OfNat.ofNat j))) := aN_57 ol A I L g j h
theorem sN_57 (j : Nat) (x : Int32) (h : j < 120) : pm_si (mk A I L g) 57 (nI j) x = some (mk (sA A 57 j x) I L g) := (si_57 A I L g (nI j) x (inb_nI h (by decide))).trans (by rw [clampN (by omega)])
theorem sL_57 (j : Nat) (x : Int32) (h : (OfNat.ofNat j : Nat) < 120) : pm_si (mk A I L g) 57 (no_index (OfNat.ofNat j)) x = some (mk (sA A 57 (OfNat.ofNat j) x) I L g) := sN_57 A I L g j x h
theorem aN_58 (j : Nat) (h : j < 48) : pm_ai ol (mk A I L g) 58 (nI j) = some (.int (A 58 j)) := (ai_58 ol A I L g (nI j) (inb_nI h (by decide))).trans (by rw [clampN (by omega)])
theorem aL_58 (j : Nat) (h : (OfNat.ofNat j : Nat) < 48) : pm_ai ol (mk A I L g) 58 (no_index (OfNat.ofNat j)) = some (.int (A 58 (OfNat.ofNat j))) := aN_58 ol A I L g j h
theorem sN_58 (j : Nat) (x : Int32) (h : j < 48) : pm_si (mk A I L g) 58 (nI j) x = some (mk (sA A 58 j x) I L g) := (si_58 A I L g (nI j) x (inb_nI h (by decide))).trans (by rw [clampN (by omega)])
theorem sL_58 (j : Nat) (x : Int32) (h : (OfNat.ofNat j : Nat) < 48) : pm_si (mk A I L g) 58 (no_index (OfNat.ofNat j)) x = some (mk (sA A 58 (OfNat.ofNat j) x) I L g) := sN_58 A I L g j x h
theorem aN_59 (j : Nat) (h : j < 48) : pm_ai ol (mk A I L g) 59 (nI j) = some (.int (A 59 j)) := (ai_59 ol A I L g (nI j) (inb_nI h (by decide))).trans (by rw [clampN (by omega)])
theorem aL_59 (j : Nat) (h : (OfNat.ofNat j : Nat) < 48) : pm_ai ol (mk A I L g) 59 (no_index (OfNat.ofNat j)) = some (.int (A 59 (OfNat.ofNat j))) := aN_59 ol A I L g j h
theorem sN_59 (j : Nat) (x : Int32) (h : j < 48) : pm_si (mk A I L g) 59 (nI j) x = some (mk (sA A 59 j x) I L g) := (si_59 A I L g (nI j) x (inb_nI h (by decide))).trans (by rw [clampN (by omega)])
theorem sL_59 (j : Nat) (x : Int32) (h : (OfNat.ofNat j : Nat) < 48) : pm_si (mk A I L g) 59 (no_index (OfNat.ofNat j)) x = some (mk (sA A 59 (OfNat.ofNat j) x) I L g) := sN_59 A I L g j x h
theorem aN_60 (j : Nat) (h : j < 480) : pm_ai ol (mk A I L g) 60 (nI j) = some (.int (A 60 j)) := (ai_60 ol A I L g (nI j) (inb_nI h (by decide))).trans (by rw [clampN (by omega)])
theorem aL_60 (j : Nat) (h : (OfNat.ofNat j : Nat) < 480) : pm_ai ol (mk A I L g) 60 (no_index (OfNat.ofNat j)) = some (.int (A 60 (OfNat.ofNat j))) := aN_60 ol A I L g j h
theorem sN_60 (j : Nat) (x : Int32) (h : j < 480) : pm_si (mk A I L g) 60 (nI j) x = some (mk (sA A 60 j x) I L g) := (si_60 A I L g (nI j) x (inb_nI h (by decide))).trans (by rw [clampN (by omega)])
theorem sL_60 (j : Nat) (x : Int32) (h : (OfNat.ofNat j : Nat) < 480) : pm_si (mk A I L g) 60 (no_index (OfNat.ofNat j)) x = some (mk (sA A 60 (OfNat.ofNat j) x) I L g) := sN_60 A I L g j x h
theorem aN_61 (j : Nat) (h : j < 10) : pm_ai ol (mk A I L g) 61 (nI j) = some (.int (A 61 j)) := (ai_61 ol A I L g (nI j) (inb_nI h (by decide))).trans (by rw [clampN (by omega)])
theorem aL_61 (j : Nat) (h : (OfNat.ofNat j : Nat) < 10) : pm_ai ol (mk A I L g) 61 (no_index (OfNat.ofNat j)) = some (.int (A 61 (OfNat.ofNat j))) := aN_61 ol A I L g j h
theorem sN_61 (j : Nat) (x : Int32) (h : j < 10) : pm_si (mk A I L g) 61 (nI j) x = some (mk (sA A 61 j x) I L g) := (si_61 A I L g (nI j) x (inb_nI h (by decide))).trans (by rw [clampN (by omega)])
theorem sL_61 (j : Nat) (x : Int32) (h : (OfNat.ofNat j : Nat) < 10) : pm_si (mk A I L g) 61 (no_index (OfNat.ofNat j)) x = some (mk (sA A 61 (OfNat.ofNat j) x) I L g) := sN_61 A I L g j x h
theorem aN_66 (j : Nat) (h : j < 490) : pm_ai ol (mk A I L g) 66 (nI j) = some (.int (A 66 j)) := (ai_66 ol A I L g (nI j) (inb_nI h (by decide))).trans (by rw [clampN (by omega)])
theorem aL_66 (j : Nat) (h : (OfNat.ofNat j : Nat) < 490) : pm_ai ol (mk A I L g) 66 (no_index (OfNat.ofNat j)) = some (.int (A 66 (OfNat.ofNat j))) := aN_66 ol A I L g j h
theorem sN_66 (j : Nat) (x : Int32) (h : j < 490) : pm_si (mk A I L g) 66 (nI j) x = some (mk (sA A 66 j x) I L g) := (si_66 A I L g (nI j) x (inb_nI h (by decide))).trans (by rw [clampN (by omega)])
theorem sL_66 (j : Nat) (x : Int32) (h : (OfNat.ofNat j : Nat) < 490) : pm_si (mk A I L g) 66 (no_index (OfNat.ofNat j)) x = some (mk (sA A 66 (OfNat.ofNat j) x) I L g) := sN_66 A I L g j x h
theorem aN_67 (j : Nat) (h : j < 700) : pm_ai ol (mk A I L g) 67 (nI j) = some (.int (A 67 j)) := (ai_67 ol A I L g (nI j) (inb_nI h (by decide))).trans (by rw [clampN (by omega)])
theorem aL_67 (j : Nat) (h : (OfNat.ofNat j : Nat) < 700) : pm_ai ol (mk A I L g) 67 (no_index (OfNat.ofNat j)) = some (.int (A 67 (OfNat.ofNat j))) := aN_67 ol A I L g j h
theorem sN_67 (j : Nat) (x : Int32) (h : j < 700) : pm_si (mk A I L g) 67 (nI j) x = some (mk (sA A 67 j x) I L g) := (si_67 A I L g (nI j) x (inb_nI h (by decide))).trans (by rw [clampN (by omega)])
theorem sL_67 (j : Nat) (x : Int32) (h : (OfNat.ofNat j : Nat) < 700) : pm_si (mk A I L g) 67 (no_index (OfNat.ofNat j)) x = some (mk (sA A 67 (OfNat.ofNat j) x) I L g) := sN_67 A I L g j x h
theorem aN_68 (j : Nat) (h : j < 4) : pm_ai ol (mk A I L g) 68 (nI j) = some (.int (A 68 j)) := (ai_68 ol A I L g (nI j) (inb_nI h (by decide))).trans (by rw [clampN (by omega)])
theorem aL_68 (j : Nat) (h : (OfNat.ofNat j : Nat) < 4) : pm_ai ol (mk A I L g) 68 (no_index (OfNat.ofNat j)) = some (.int (A 68 (OfNat.ofNat j))) := aN_68 ol A I L g j h
theorem sN_68 (j : Nat) (x : Int32) (h : j < 4) : pm_si (mk A I L g) 68 (nI j) x = some (mk (sA A 68 j x) I L g) := (si_68 A I L g (nI j) x (inb_nI h (by decide))).trans (by rw [clampN (by omega)])
theorem sL_68 (j : Nat) (x : Int32) (h : (OfNat.ofNat j : Nat) < 4) : pm_si (mk A I L g) 68 (no_index (OfNat.ofNat j)) x = some (mk (sA A 68 (OfNat.ofNat j) x) I L g) := sN_68 A I L g j x h
theorem aN_23 (j : Nat) (h : j < 48) : pm_az (mk A I L g) 23 (nI j) = some (.int (A 23 j)) := (az_23 A I L g (nI j) (inb_nI h (by decide))).trans (by rw [clampN (by omega)])
theorem sN_23 (j : Nat) (x : Int32) (h : j < 48) : pm_sb (mk A I L g) 23 (nI j) x = some (mk (sA A 23 j (vp_nar .boolean x)) I L g) := (sb_23 A I L g (nI j) x (inb_nI h (by decide))).trans (by rw [clampN (by omega)])
theorem aN_43 (j : Nat) (h : j < 49) : pm_az (mk A I L g) 43 (nI j) = some (.int (A 43 j)) := (az_43 A I L g (nI j) (inb_nI h (by decide))).trans (by rw [clampN (by omega)])
theorem sN_43 (j : Nat) (x : Int32) (h : j < 49) : pm_sb (mk A I L g) 43 (nI j) x = some (mk (sA A 43 j (vp_nar .boolean x)) I L g) := (sb_43 A I L g (nI j) x (inb_nI h (by decide))).trans (by rw [clampN (by omega)])
theorem aN_44 (j : Nat) (h : j < 49) : pm_az (mk A I L g) 44 (nI j) = some (.int (A 44 j)) := (az_44 A I L g (nI j) (inb_nI h (by decide))).trans (by rw [clampN (by omega)])
theorem sN_44 (j : Nat) (x : Int32) (h : j < 49) : pm_sb (mk A I L g) 44 (nI j) x = some (mk (sA A 44 j (vp_nar .boolean x)) I L g) := (sb_44 A I L g (nI j) x (inb_nI h (by decide))).trans (by rw [clampN (by omega)])
theorem aN_62 (j : Nat) (h : j < 49) : pm_az (mk A I L g) 62 (nI j) = some (.int (A 62 j)) := (az_62 A I L g (nI j) (inb_nI h (by decide))).trans (by rw [clampN (by omega)])
theorem sN_62 (j : Nat) (x : Int32) (h : j < 49) : pm_sb (mk A I L g) 62 (nI j) x = some (mk (sA A 62 j (vp_nar .boolean x)) I L g) := (sb_62 A I L g (nI j) x (inb_nI h (by decide))).trans (by rw [clampN (by omega)])
theorem aN_63 (j : Nat) (h : j < 49) : pm_az (mk A I L g) 63 (nI j) = some (.int (A 63 j)) := (az_63 A I L g (nI j) (inb_nI h (by decide))).trans (by rw [clampN (by omega)])
theorem sN_63 (j : Nat) (x : Int32) (h : j < 49) : pm_sb (mk A I L g) 63 (nI j) x = some (mk (sA A 63 j (vp_nar .boolean x)) I L g) := (sb_63 A I L g (nI j) x (inb_nI h (by decide))).trans (by rw [clampN (by omega)])
theorem aN_64 (j : Nat) (h : j < 49) : pm_az (mk A I L g) 64 (nI j) = some (.int (A 64 j)) := (az_64 A I L g (nI j) (inb_nI h (by decide))).trans (by rw [clampN (by omega)])
theorem sN_64 (j : Nat) (x : Int32) (h : j < 49) : pm_sb (mk A I L g) 64 (nI j) x = some (mk (sA A 64 j (vp_nar .boolean x)) I L g) := (sb_64 A I L g (nI j) x (inb_nI h (by decide))).trans (by rw [clampN (by omega)])
theorem aN_65 (j : Nat) (h : j < 49) : pm_az (mk A I L g) 65 (nI j) = some (.int (A 65 j)) := (az_65 A I L g (nI j) (inb_nI h (by decide))).trans (by rw [clampN (by omega)])
theorem sN_65 (j : Nat) (x : Int32) (h : j < 49) : pm_sb (mk A I L g) 65 (nI j) x = some (mk (sA A 65 j (vp_nar .boolean x)) I L g) := (sb_65 A I L g (nI j) x (inb_nI h (by decide))).trans (by rw [clampN (by omega)])
theorem aN_1001 (Ls : Nat) (xs : Nat → Int32) (h : pm_H) (j : Nat) (hj : j < 22) : pm_ai (pm_ol Ls xs) h 1001 (nI j) = some (.int (xbL.getD j 0)) := (ai_1001 Ls xs h (nI j) (inb_nI hj (by decide))).trans (by rw [clampN (by omega)])
theorem aN_1002 (Ls : Nat) (xs : Nat → Int32) (h : pm_H) (j : Nat) (hj : j < 22) : pm_ai (pm_ol Ls xs) h 1002 (nI j) = some (.int (gvL.getD j 0)) := (ai_1002 Ls xs h (nI j) (inb_nI hj (by decide))).trans (by rw [clampN (by omega)])
theorem aq_5_0 : pm_aq (mk A I L g) 5 (nI 0) = some (.ref 8) := rfl
theorem aq_5_1 : pm_aq (mk A I L g) 5 (nI 1) = some (.ref 10) := rfl
theorem aq_5_2 : pm_aq (mk A I L g) 5 (nI 2) = some (.ref 12) := rfl
theorem aq_5_3 : pm_aq (mk A I L g) 5 (nI 3) = some (.ref 14) := rfl
theorem aq_5_4 : pm_aq (mk A I L g) 5 (nI 4) = some (.ref 16) := rfl
theorem aq_5_5 : pm_aq (mk A I L g) 5 (nI 5) = some (.ref 18) := rfl
end AUT
theorem q_add (a b : Nat) : nI a + nI b = nI (a + b) := nI_add a b
theorem q_addl (a n : Nat) : nI a + (no_index (OfNat.ofNat n) : Int32) = nI (a + OfNat.ofNat n) := nI_add a n
theorem q_ladd (a n : Nat) : (no_index (OfNat.ofNat n) : Int32) + nI a = nI (OfNat.ofNat n + a) := nI_add n a
theorem q_sub0 {a b : Nat} (h : b ≤ a) : nI a - nI b = nI (a - b) := by
  have e : nI (a - b) + nI b = nI a := by rw [nI_add]; congr 1; omega
  rw [← e, Int32.add_sub_cancel]
theorem q_sub (a b : Nat) (h : b ≤ a) : nI a - nI b = nI (a - b) := q_sub0 h
theorem q_subl (a n : Nat) (h : (OfNat.ofNat n : Nat) ≤ a) : nI a - (no_index (OfNat.ofNat n) : Int32) = nI (a - OfNat.ofNat n) := q_sub0 h
theorem q_lsub (a n : Nat) (h : a ≤ (OfNat.ofNat n : Nat)) : (no_index (OfNat.ofNat n) : Int32) - nI a = nI (OfNat.ofNat n - a) := q_sub0 h
theorem q_mul0 (a b : Nat) : nI a * nI b = nI (a * b) := (Int32.ofNat_mul a b).symm
theorem q_mul (a b : Nat) : nI a * nI b = nI (a * b) := q_mul0 a b
theorem q_mull (a n : Nat) : nI a * (no_index (OfNat.ofNat n) : Int32) = nI (a * OfNat.ofNat n) := q_mul0 a n
theorem q_lmul (a n : Nat) : (no_index (OfNat.ofNat n) : Int32) * nI a = nI (OfNat.ofNat n * a) := q_mul0 n a
theorem q_le (a b : Nat) (ha : a < 2 ^ 31) (hb : b < 2 ^ 31) : (nI a ≤ nI b) = (a ≤ b) := propext (nI_leI ha hb)
theorem q_lel (a n : Nat) (ha : a < 2 ^ 31) (hb : (OfNat.ofNat n : Nat) < 2 ^ 31) : (nI a ≤ (no_index (OfNat.ofNat n) : Int32)) = (a ≤ OfNat.ofNat n) := propext (nI_leI ha hb)
theorem q_lle (a n : Nat) (ha : (OfNat.ofNat n : Nat) < 2 ^ 31) (hb : a < 2 ^ 31) : ((no_index (OfNat.ofNat n) : Int32) ≤ nI a) = (OfNat.ofNat n ≤ a) := propext (nI_leI ha hb)
theorem q_lt (a b : Nat) (ha : a < 2 ^ 31) (hb : b < 2 ^ 31) : (nI a < nI b) = (a < b) := propext (nI_ltI ha hb)
theorem q_ltl (a n : Nat) (ha : a < 2 ^ 31) (hb : (OfNat.ofNat n : Nat) < 2 ^ 31) : (nI a < (no_index (OfNat.ofNat n) : Int32)) = (a < OfNat.ofNat n) := propext (nI_ltI ha hb)
theorem q_llt (a n : Nat) (ha : (OfNat.ofNat n : Nat) < 2 ^ 31) (hb : a < 2 ^ 31) : ((no_index (OfNat.ofNat n) : Int32) < nI a) = (OfNat.ofNat n < a) := propext (nI_ltI ha hb)
theorem q_eq (a b : Nat) (ha : a < 2 ^ 31) (hb : b < 2 ^ 31) : (nI a = nI b) = (a = b) := propext (nI_eq ha hb)
theorem q_eql (a n : Nat) (ha : a < 2 ^ 31) (hb : (OfNat.ofNat n : Nat) < 2 ^ 31) : (nI a = (no_index (OfNat.ofNat n) : Int32)) = (a = OfNat.ofNat n) := propext (nI_eq ha hb)
theorem q_leq (a n : Nat) (ha : (OfNat.ofNat n : Nat) < 2 ^ 31) (hb : a < 2 ^ 31) : ((no_index (OfNat.ofNat n) : Int32) = nI a) = (OfNat.ofNat n = a) := propext (nI_eq ha hb)
theorem q_m10 (a : Nat) (ha : a < 2 ^ 31) : ¬ nI a = -1 := by
  intro e
  have h := nI_pos' ha
  rw [e] at h
  exact absurd h (by decide)
theorem q_m1 (a : Nat) (ha : a < 2 ^ 31) : (nI a = -1) = False := eq_false (q_m10 a ha)
theorem q_1m (a : Nat) (ha : a < 2 ^ 31) : (-1 = nI a) = False := eq_false (fun e => q_m10 a ha e.symm)
theorem q_cl (a : Nat) (ha : a < 2 ^ 31) : (nI a).toNatClampNeg = a := clampN ha
theorem q_nb (p : Prop) [Decidable p] : vp_nar .boolean (b1 p) = b1 p := by unfold b1; split <;> rfl
theorem q_leT (a b : Nat) (h : a ≤ b) : (a ≤ b) = True := eq_true h
theorem q_leF (a b : Nat) (h : ¬ a ≤ b) : (a ≤ b) = False := eq_false h
theorem q_ltT (a b : Nat) (h : a < b) : (a < b) = True := eq_true h
theorem q_ltF (a b : Nat) (h : ¬ a < b) : (a < b) = False := eq_false h
theorem q_eqT (a b : Nat) (h : a = b) : (a = b) = True := eq_true h
theorem q_eqF (a b : Nat) (h : ¬ a = b) : (a = b) = False := eq_false h
theorem q_10 : ((1 : Int32) = 0) = False := by decide
theorem q_01 : ((0 : Int32) = 1) = False := by decide
theorem q_em (p : Prop) : (¬ p ∨ p) = True := eq_true ((Classical.em p).symm)
theorem q_bT (i : Decidable True) : @b1 True i = 1 := @if_pos True i trivial Int32 1 0
theorem q_bF (i : Decidable False) : @b1 False i = 0 := @if_neg False i (fun h => h) Int32 1 0
theorem q_uS (f : Nat → Int32) (k : Nat) (x : Int32) : upd f k x k = x := pk_us
theorem q_uN (f : Nat → Int32) (k j : Nat) (x : Int32) (h : ¬ j = k) : upd f k x j = f j := pk_un h
theorem q_sA (A : Nat → Nat → Int32) (a i : Nat) (x : Int32) : sA A a i x a = upd (A a) i x := sF_s A a _
theorem q_sAn (A : Nat → Nat → Int32) (a b i : Nat) (x : Int32) (h : ¬ b = a) : sA A a i x b = A b := sF_n A _ h
theorem q_sFn (A : Nat → Nat → Int32) (a b : Nat) (f : Nat → Int32) (h : ¬ b = a) : sF A a f b = A b := sF_n A f h
theorem q_sIn (I : Nat → Nat → Int32) (a j b i : Nat) (x : Int32) (h : ¬ (b = a ∧ i = j)) : sI I a j x b i = I b i := sI_n I x h
theorem q_sAF (A : Nat → Nat → Int32) (a i : Nat) (f : Nat → Int32) (x : Int32) : sA (sF A a f) a i x = sF A a (upd f i x) := by unfold sA; rw [sF_sF, sF_s]
