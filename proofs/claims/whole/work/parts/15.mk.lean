/-! THE HEAP behind the constructors: A: what the arrays hold, I: the int fields, L: the law's long array, g: what came behind -/
def mk_q : Nat → Option Nat := fun j => if j = 0 then some 8 else if j = 1 then some 10 else if j = 2 then some 12 else if j = 3 then some 14 else if j = 4 then some 16 else if j = 5 then some 18 else none
def mk (A I : Nat → Nat → Int32) (L : Nat → Int64) (g : pm_H) : pm_H :=
  .inr (11, [.ref 1, .ref 20, .ref 24, .ref 26, .ref 37, .ref 38]) ::
  .inr (10, [.ref 2, .ref 3, .ref 4, .ref 5, .ref 6]) ::
  .inl (0, 8, .inl (A 2)) ::
  .inl (0, 6, .inl (A 3)) ::
  .inl (0, 6, .inl (A 4)) ::
  .inl (3, 6, .inr (.inr (.inr (.inr mk_q)))) ::
  .inr (4, [.ref 7, .int (I 6 1), .int (I 6 2)]) ::
  .inl (0, 4, .inl (A 7)) ::
  .inr (4, [.ref 9, .int (I 8 1), .int (I 8 2)]) ::
  .inl (0, 4, .inl (A 9)) ::
  .inr (4, [.ref 11, .int (I 10 1), .int (I 10 2)]) ::
  .inl (0, 4, .inl (A 11)) ::
  .inr (4, [.ref 13, .int (I 12 1), .int (I 12 2)]) ::
  .inl (0, 4, .inl (A 13)) ::
  .inr (4, [.ref 15, .int (I 14 1), .int (I 14 2)]) ::
  .inl (0, 4, .inl (A 15)) ::
  .inr (4, [.ref 17, .int (I 16 1), .int (I 16 2)]) ::
  .inl (0, 4, .inl (A 17)) ::
  .inr (4, [.ref 19, .int (I 18 1), .int (I 18 2)]) ::
  .inl (0, 4, .inl (A 19)) ::
  .inr (2, [.ref 21, .ref 23]) ::
  .inr (0, [.ref 22, .int (I 21 1)]) ::
  .inl (0, 48, .inl (A 22)) ::
  .inl (1, 48, .inl (A 23)) ::
  .inr (0, [.ref 25, .int (I 24 1)]) ::
  .inl (0, 120, .inl (A 25)) ::
  .inr (8, [.ref 30, .int (I 26 1), .ref 1, .ref 24, .ref 27, .ref 28, .int (I 26 6), .int (I 26 7), .int (I 26 8)]) ::
  .inl (0, 48, .inl (A 27)) ::
  .inr (5, [.ref 29, .int (I 28 1)]) ::
  .inl (0, 9, .inl (A 29)) ::
  .inr (6, [.ref 1, .ref 31, .ref 32]) ::
  .inl (0, 441, .inl (A 31)) ::
  .inl (0, 49, .inl (A 32)) ::
  .inr (7, [.ref 34, .ref 1, .ref 20, .ref 36, .int (I 33 4)]) ::
  .inr (5, [.ref 35, .int (I 34 1)]) ::
  .inl (0, 9, .inl (A 35)) ::
  .inl (0, 4, .inl (A 36)) ::
  .inr (1, [.ref 1, .ref 20, .ref 33, .ref 30]) ::
  .inr (3, [.ref 1, .ref 20, .ref 33, .ref 45, .ref 39, .ref 43, .ref 44]) ::
  .inr (9, [.ref 40, .ref 42, .int (I 39 2), .int (I 39 3)]) ::
  .inr (0, [.ref 41, .int (I 40 1)]) ::
  .inl (0, 120, .inl (A 41)) ::
  .inl (0, 4, .inl (A 42)) ::
  .inl (1, 49, .inl (A 43)) ::
  .inl (1, 49, .inl (A 44)) ::
  .inr (6, [.ref 1, .ref 46, .ref 47]) ::
  .inl (0, 441, .inl (A 46)) ::
  .inl (0, 49, .inl (A 47)) ::
  .inr (12, [.int (I 48 0), .ref 49, .ref 50, .ref 51, .ref 52, .ref 53, .ref 54, .ref 55, .int (I 48 8), .int (I 48 9), .ref 56, .int (I 48 11), .ref 57, .int (I 48 13), .int (I 48 14), .ref 58, .ref 59, .ref 60, .int (I 48 18), .int (I 48 19), .ref 61, .int (I 48 21), .int (I 48 22), .int (I 48 23), .ref 62, .ref 63, .ref 64, .ref 65, .ref 66, .ref 67, .int (I 48 30), .ref 68]) ::
  .inl (0, 8, .inl (A 49)) ::
  .inl (0, 6, .inl (A 50)) ::
  .inl (0, 6, .inl (A 51)) ::
  .inl (0, 18, .inl (A 52)) ::
  .inl (0, 6, .inl (A 53)) ::
  .inl (0, 6, .inl (A 54)) ::
  .inl (0, 4, .inl (A 55)) ::
  .inl (0, 48, .inl (A 56)) ::
  .inl (0, 120, .inl (A 57)) ::
  .inl (0, 48, .inl (A 58)) ::
  .inl (0, 48, .inl (A 59)) ::
  .inl (0, 480, .inl (A 60)) ::
  .inl (0, 10, .inl (A 61)) ::
  .inl (1, 49, .inl (A 62)) ::
  .inl (1, 49, .inl (A 63)) ::
  .inl (1, 49, .inl (A 64)) ::
  .inl (1, 49, .inl (A 65)) ::
  .inl (0, 490, .inl (A 66)) ::
  .inl (0, 700, .inl (A 67)) ::
  .inl (0, 4, .inl (A 68)) ::
  .inl (2, 1, .inr (.inl L)) :: g
def sI (I : Nat → Nat → Int32) (a j : Nat) (x : Int32) : Nat → Nat → Int32 := fun b i => if b = a ∧ i = j then x else I b i
def sF (A : Nat → Nat → Int32) (a : Nat) (f : Nat → Int32) : Nat → Nat → Int32 := fun b => if b = a then f else A b
def sA (A : Nat → Nat → Int32) (a i : Nat) (x : Int32) : Nat → Nat → Int32 := sF A a (upd (A a) i x)
def inb (j : Int32) (n : Nat) : Prop := ¬ (j < 0 ∨ n ≤ j.toNatClampNeg)
section MK
variable (ol : pm_O) (A I : Nat → Nat → Int32) (L : Nat → Int64) (g : pm_H)
theorem is_0 : pm_is (mk A I L g) 0 11 = true := rfl
theorem fd_0_0 : pm_fd (mk A I L g) 0 11 0 = some (.ref 1) := rfl
theorem fd_0_1 : pm_fd (mk A I L g) 0 11 1 = some (.ref 20) := rfl
theorem fd_0_2 : pm_fd (mk A I L g) 0 11 2 = some (.ref 24) := rfl
theorem fd_0_3 : pm_fd (mk A I L g) 0 11 3 = some (.ref 26) := rfl
theorem fd_0_4 : pm_fd (mk A I L g) 0 11 4 = some (.ref 37) := rfl
theorem fd_0_5 : pm_fd (mk A I L g) 0 11 5 = some (.ref 38) := rfl
theorem is_1 : pm_is (mk A I L g) 1 10 = true := rfl
theorem fd_1_0 : pm_fd (mk A I L g) 1 10 0 = some (.ref 2) := rfl
theorem fd_1_1 : pm_fd (mk A I L g) 1 10 1 = some (.ref 3) := rfl
theorem fd_1_2 : pm_fd (mk A I L g) 1 10 2 = some (.ref 4) := rfl
theorem fd_1_3 : pm_fd (mk A I L g) 1 10 3 = some (.ref 5) := rfl
theorem fd_1_4 : pm_fd (mk A I L g) 1 10 4 = some (.ref 6) := rfl
theorem ai_2 (j : Int32) (h : inb j 8) : pm_ai ol (mk A I L g) 2 j = some (.int (A 2 j.toNatClampNeg)) := if_pos h
theorem si_2 (j x : Int32) (h : inb j 8) : pm_si (mk A I L g) 2 j x = some (mk (sA A 2 j.toNatClampNeg x) I L g) := if_pos h
theorem ln_2 : pm_ln ol (mk A I L g) 2 = some (.int 8) := rfl
theorem ai_3 (j : Int32) (h : inb j 6) : pm_ai ol (mk A I L g) 3 j = some (.int (A 3 j.toNatClampNeg)) := if_pos h
theorem si_3 (j x : Int32) (h : inb j 6) : pm_si (mk A I L g) 3 j x = some (mk (sA A 3 j.toNatClampNeg x) I L g) := if_pos h
theorem ln_3 : pm_ln ol (mk A I L g) 3 = some (.int 6) := rfl
theorem ai_4 (j : Int32) (h : inb j 6) : pm_ai ol (mk A I L g) 4 j = some (.int (A 4 j.toNatClampNeg)) := if_pos h
theorem si_4 (j x : Int32) (h : inb j 6) : pm_si (mk A I L g) 4 j x = some (mk (sA A 4 j.toNatClampNeg x) I L g) := if_pos h
theorem ln_4 : pm_ln ol (mk A I L g) 4 = some (.int 6) := rfl
theorem is_6 : pm_is (mk A I L g) 6 4 = true := rfl
theorem fd_6_0 : pm_fd (mk A I L g) 6 4 0 = some (.ref 7) := rfl
theorem fd_6_1 : pm_fd (mk A I L g) 6 4 1 = some (.int (I 6 1)) := rfl
theorem fs_6_1 (x : Int32) : pm_fs (mk A I L g) 6 4 1 (.int x) = some (mk A (sI I 6 1 x) L g) := rfl
theorem fd_6_2 : pm_fd (mk A I L g) 6 4 2 = some (.int (I 6 2)) := rfl
theorem fs_6_2 (x : Int32) : pm_fs (mk A I L g) 6 4 2 (.int x) = some (mk A (sI I 6 2 x) L g) := rfl
theorem ai_7 (j : Int32) (h : inb j 4) : pm_ai ol (mk A I L g) 7 j = some (.int (A 7 j.toNatClampNeg)) := if_pos h
theorem si_7 (j x : Int32) (h : inb j 4) : pm_si (mk A I L g) 7 j x = some (mk (sA A 7 j.toNatClampNeg x) I L g) := if_pos h
theorem ln_7 : pm_ln ol (mk A I L g) 7 = some (.int 4) := rfl
theorem is_8 : pm_is (mk A I L g) 8 4 = true := rfl
theorem fd_8_0 : pm_fd (mk A I L g) 8 4 0 = some (.ref 9) := rfl
theorem fd_8_1 : pm_fd (mk A I L g) 8 4 1 = some (.int (I 8 1)) := rfl
theorem fs_8_1 (x : Int32) : pm_fs (mk A I L g) 8 4 1 (.int x) = some (mk A (sI I 8 1 x) L g) := rfl
theorem fd_8_2 : pm_fd (mk A I L g) 8 4 2 = some (.int (I 8 2)) := rfl
theorem fs_8_2 (x : Int32) : pm_fs (mk A I L g) 8 4 2 (.int x) = some (mk A (sI I 8 2 x) L g) := rfl
theorem ai_9 (j : Int32) (h : inb j 4) : pm_ai ol (mk A I L g) 9 j = some (.int (A 9 j.toNatClampNeg)) := if_pos h
theorem si_9 (j x : Int32) (h : inb j 4) : pm_si (mk A I L g) 9 j x = some (mk (sA A 9 j.toNatClampNeg x) I L g) := if_pos h
theorem ln_9 : pm_ln ol (mk A I L g) 9 = some (.int 4) := rfl
theorem is_10 : pm_is (mk A I L g) 10 4 = true := rfl
theorem fd_10_0 : pm_fd (mk A I L g) 10 4 0 = some (.ref 11) := rfl
theorem fd_10_1 : pm_fd (mk A I L g) 10 4 1 = some (.int (I 10 1)) := rfl
theorem fs_10_1 (x : Int32) : pm_fs (mk A I L g) 10 4 1 (.int x) = some (mk A (sI I 10 1 x) L g) := rfl
theorem fd_10_2 : pm_fd (mk A I L g) 10 4 2 = some (.int (I 10 2)) := rfl
theorem fs_10_2 (x : Int32) : pm_fs (mk A I L g) 10 4 2 (.int x) = some (mk A (sI I 10 2 x) L g) := rfl
theorem ai_11 (j : Int32) (h : inb j 4) : pm_ai ol (mk A I L g) 11 j = some (.int (A 11 j.toNatClampNeg)) := if_pos h
theorem si_11 (j x : Int32) (h : inb j 4) : pm_si (mk A I L g) 11 j x = some (mk (sA A 11 j.toNatClampNeg x) I L g) := if_pos h
theorem ln_11 : pm_ln ol (mk A I L g) 11 = some (.int 4) := rfl
theorem is_12 : pm_is (mk A I L g) 12 4 = true := rfl
theorem fd_12_0 : pm_fd (mk A I L g) 12 4 0 = some (.ref 13) := rfl
theorem fd_12_1 : pm_fd (mk A I L g) 12 4 1 = some (.int (I 12 1)) := rfl
theorem fs_12_1 (x : Int32) : pm_fs (mk A I L g) 12 4 1 (.int x) = some (mk A (sI I 12 1 x) L g) := rfl
theorem fd_12_2 : pm_fd (mk A I L g) 12 4 2 = some (.int (I 12 2)) := rfl
theorem fs_12_2 (x : Int32) : pm_fs (mk A I L g) 12 4 2 (.int x) = some (mk A (sI I 12 2 x) L g) := rfl
theorem ai_13 (j : Int32) (h : inb j 4) : pm_ai ol (mk A I L g) 13 j = some (.int (A 13 j.toNatClampNeg)) := if_pos h
theorem si_13 (j x : Int32) (h : inb j 4) : pm_si (mk A I L g) 13 j x = some (mk (sA A 13 j.toNatClampNeg x) I L g) := if_pos h
theorem ln_13 : pm_ln ol (mk A I L g) 13 = some (.int 4) := rfl
theorem is_14 : pm_is (mk A I L g) 14 4 = true := rfl
theorem fd_14_0 : pm_fd (mk A I L g) 14 4 0 = some (.ref 15) := rfl
theorem fd_14_1 : pm_fd (mk A I L g) 14 4 1 = some (.int (I 14 1)) := rfl
theorem fs_14_1 (x : Int32) : pm_fs (mk A I L g) 14 4 1 (.int x) = some (mk A (sI I 14 1 x) L g) := rfl
theorem fd_14_2 : pm_fd (mk A I L g) 14 4 2 = some (.int (I 14 2)) := rfl
theorem fs_14_2 (x : Int32) : pm_fs (mk A I L g) 14 4 2 (.int x) = some (mk A (sI I 14 2 x) L g) := rfl
theorem ai_15 (j : Int32) (h : inb j 4) : pm_ai ol (mk A I L g) 15 j = some (.int (A 15 j.toNatClampNeg)) := if_pos h
theorem si_15 (j x : Int32) (h : inb j 4) : pm_si (mk A I L g) 15 j x = some (mk (sA A 15 j.toNatClampNeg x) I L g) := if_pos h
theorem ln_15 : pm_ln ol (mk A I L g) 15 = some (.int 4) := rfl
theorem is_16 : pm_is (mk A I L g) 16 4 = true := rfl
theorem fd_16_0 : pm_fd (mk A I L g) 16 4 0 = some (.ref 17) := rfl
theorem fd_16_1 : pm_fd (mk A I L g) 16 4 1 = some (.int (I 16 1)) := rfl
theorem fs_16_1 (x : Int32) : pm_fs (mk A I L g) 16 4 1 (.int x) = some (mk A (sI I 16 1 x) L g) := rfl
theorem fd_16_2 : pm_fd (mk A I L g) 16 4 2 = some (.int (I 16 2)) := rfl
theorem fs_16_2 (x : Int32) : pm_fs (mk A I L g) 16 4 2 (.int x) = some (mk A (sI I 16 2 x) L g) := rfl
theorem ai_17 (j : Int32) (h : inb j 4) : pm_ai ol (mk A I L g) 17 j = some (.int (A 17 j.toNatClampNeg)) := if_pos h
theorem si_17 (j x : Int32) (h : inb j 4) : pm_si (mk A I L g) 17 j x = some (mk (sA A 17 j.toNatClampNeg x) I L g) := if_pos h
theorem ln_17 : pm_ln ol (mk A I L g) 17 = some (.int 4) := rfl
theorem is_18 : pm_is (mk A I L g) 18 4 = true := rfl
theorem fd_18_0 : pm_fd (mk A I L g) 18 4 0 = some (.ref 19) := rfl
theorem fd_18_1 : pm_fd (mk A I L g) 18 4 1 = some (.int (I 18 1)) := rfl
theorem fs_18_1 (x : Int32) : pm_fs (mk A I L g) 18 4 1 (.int x) = some (mk A (sI I 18 1 x) L g) := rfl
theorem fd_18_2 : pm_fd (mk A I L g) 18 4 2 = some (.int (I 18 2)) := rfl
theorem fs_18_2 (x : Int32) : pm_fs (mk A I L g) 18 4 2 (.int x) = some (mk A (sI I 18 2 x) L g) := rfl
theorem ai_19 (j : Int32) (h : inb j 4) : pm_ai ol (mk A I L g) 19 j = some (.int (A 19 j.toNatClampNeg)) := if_pos h
theorem si_19 (j x : Int32) (h : inb j 4) : pm_si (mk A I L g) 19 j x = some (mk (sA A 19 j.toNatClampNeg x) I L g) := if_pos h
theorem ln_19 : pm_ln ol (mk A I L g) 19 = some (.int 4) := rfl
theorem is_20 : pm_is (mk A I L g) 20 2 = true := rfl
theorem fd_20_0 : pm_fd (mk A I L g) 20 2 0 = some (.ref 21) := rfl
theorem fd_20_1 : pm_fd (mk A I L g) 20 2 1 = some (.ref 23) := rfl
theorem is_21 : pm_is (mk A I L g) 21 0 = true := rfl
theorem fd_21_0 : pm_fd (mk A I L g) 21 0 0 = some (.ref 22) := rfl
theorem fd_21_1 : pm_fd (mk A I L g) 21 0 1 = some (.int (I 21 1)) := rfl
theorem fs_21_1 (x : Int32) : pm_fs (mk A I L g) 21 0 1 (.int x) = some (mk A (sI I 21 1 x) L g) := rfl
theorem ai_22 (j : Int32) (h : inb j 48) : pm_ai ol (mk A I L g) 22 j = some (.int (A 22 j.toNatClampNeg)) := if_pos h
theorem si_22 (j x : Int32) (h : inb j 48) : pm_si (mk A I L g) 22 j x = some (mk (sA A 22 j.toNatClampNeg x) I L g) := if_pos h
theorem ln_22 : pm_ln ol (mk A I L g) 22 = some (.int 48) := rfl
theorem az_23 (j : Int32) (h : inb j 48) : pm_az (mk A I L g) 23 j = some (.int (A 23 j.toNatClampNeg)) := if_pos h
theorem sb_23 (j x : Int32) (h : inb j 48) : pm_sb (mk A I L g) 23 j x = some (mk (sA A 23 j.toNatClampNeg (vp_nar .boolean x)) I L g) := if_pos h
theorem ln_23 : pm_ln ol (mk A I L g) 23 = some (.int 48) := rfl
theorem is_24 : pm_is (mk A I L g) 24 0 = true := rfl
theorem fd_24_0 : pm_fd (mk A I L g) 24 0 0 = some (.ref 25) := rfl
theorem fd_24_1 : pm_fd (mk A I L g) 24 0 1 = some (.int (I 24 1)) := rfl
theorem fs_24_1 (x : Int32) : pm_fs (mk A I L g) 24 0 1 (.int x) = some (mk A (sI I 24 1 x) L g) := rfl
theorem ai_25 (j : Int32) (h : inb j 120) : pm_ai ol (mk A I L g) 25 j = some (.int (A 25 j.toNatClampNeg)) := if_pos h
theorem si_25 (j x : Int32) (h : inb j 120) : pm_si (mk A I L g) 25 j x = some (mk (sA A 25 j.toNatClampNeg x) I L g) := if_pos h
theorem ln_25 : pm_ln ol (mk A I L g) 25 = some (.int 120) := rfl
theorem is_26 : pm_is (mk A I L g) 26 8 = true := rfl
theorem fd_26_0 : pm_fd (mk A I L g) 26 8 0 = some (.ref 30) := rfl
theorem fd_26_1 : pm_fd (mk A I L g) 26 8 1 = some (.int (I 26 1)) := rfl
theorem fs_26_1 (x : Int32) : pm_fs (mk A I L g) 26 8 1 (.int x) = some (mk A (sI I 26 1 x) L g) := rfl
theorem fd_26_2 : pm_fd (mk A I L g) 26 8 2 = some (.ref 1) := rfl
theorem fd_26_3 : pm_fd (mk A I L g) 26 8 3 = some (.ref 24) := rfl
theorem fd_26_4 : pm_fd (mk A I L g) 26 8 4 = some (.ref 27) := rfl
theorem fd_26_5 : pm_fd (mk A I L g) 26 8 5 = some (.ref 28) := rfl
theorem fd_26_6 : pm_fd (mk A I L g) 26 8 6 = some (.int (I 26 6)) := rfl
theorem fs_26_6 (x : Int32) : pm_fs (mk A I L g) 26 8 6 (.int x) = some (mk A (sI I 26 6 x) L g) := rfl
theorem fd_26_7 : pm_fd (mk A I L g) 26 8 7 = some (.int (I 26 7)) := rfl
theorem fs_26_7 (x : Int32) : pm_fs (mk A I L g) 26 8 7 (.int x) = some (mk A (sI I 26 7 x) L g) := rfl
theorem fd_26_8 : pm_fd (mk A I L g) 26 8 8 = some (.int (I 26 8)) := rfl
theorem fs_26_8 (x : Int32) : pm_fs (mk A I L g) 26 8 8 (.int x) = some (mk A (sI I 26 8 x) L g) := rfl
theorem ai_27 (j : Int32) (h : inb j 48) : pm_ai ol (mk A I L g) 27 j = some (.int (A 27 j.toNatClampNeg)) := if_pos h
theorem si_27 (j x : Int32) (h : inb j 48) : pm_si (mk A I L g) 27 j x = some (mk (sA A 27 j.toNatClampNeg x) I L g) := if_pos h
theorem ln_27 : pm_ln ol (mk A I L g) 27 = some (.int 48) := rfl
theorem is_28 : pm_is (mk A I L g) 28 5 = true := rfl
theorem fd_28_0 : pm_fd (mk A I L g) 28 5 0 = some (.ref 29) := rfl
theorem fd_28_1 : pm_fd (mk A I L g) 28 5 1 = some (.int (I 28 1)) := rfl
theorem fs_28_1 (x : Int32) : pm_fs (mk A I L g) 28 5 1 (.int x) = some (mk A (sI I 28 1 x) L g) := rfl
theorem ai_29 (j : Int32) (h : inb j 9) : pm_ai ol (mk A I L g) 29 j = some (.int (A 29 j.toNatClampNeg)) := if_pos h
theorem si_29 (j x : Int32) (h : inb j 9) : pm_si (mk A I L g) 29 j x = some (mk (sA A 29 j.toNatClampNeg x) I L g) := if_pos h
theorem ln_29 : pm_ln ol (mk A I L g) 29 = some (.int 9) := rfl
theorem is_30 : pm_is (mk A I L g) 30 6 = true := rfl
theorem fd_30_0 : pm_fd (mk A I L g) 30 6 0 = some (.ref 1) := rfl
theorem fd_30_1 : pm_fd (mk A I L g) 30 6 1 = some (.ref 31) := rfl
theorem fd_30_2 : pm_fd (mk A I L g) 30 6 2 = some (.ref 32) := rfl
theorem ai_31 (j : Int32) (h : inb j 441) : pm_ai ol (mk A I L g) 31 j = some (.int (A 31 j.toNatClampNeg)) := if_pos h
theorem si_31 (j x : Int32) (h : inb j 441) : pm_si (mk A I L g) 31 j x = some (mk (sA A 31 j.toNatClampNeg x) I L g) := if_pos h
theorem ln_31 : pm_ln ol (mk A I L g) 31 = some (.int 441) := rfl
theorem ai_32 (j : Int32) (h : inb j 49) : pm_ai ol (mk A I L g) 32 j = some (.int (A 32 j.toNatClampNeg)) := if_pos h
theorem si_32 (j x : Int32) (h : inb j 49) : pm_si (mk A I L g) 32 j x = some (mk (sA A 32 j.toNatClampNeg x) I L g) := if_pos h
theorem ln_32 : pm_ln ol (mk A I L g) 32 = some (.int 49) := rfl
theorem is_33 : pm_is (mk A I L g) 33 7 = true := rfl
theorem fd_33_0 : pm_fd (mk A I L g) 33 7 0 = some (.ref 34) := rfl
theorem fd_33_1 : pm_fd (mk A I L g) 33 7 1 = some (.ref 1) := rfl
theorem fd_33_2 : pm_fd (mk A I L g) 33 7 2 = some (.ref 20) := rfl
theorem fd_33_3 : pm_fd (mk A I L g) 33 7 3 = some (.ref 36) := rfl
theorem fd_33_4 : pm_fd (mk A I L g) 33 7 4 = some (.int (I 33 4)) := rfl
theorem fs_33_4 (x : Int32) : pm_fs (mk A I L g) 33 7 4 (.int x) = some (mk A (sI I 33 4 x) L g) := rfl
theorem is_34 : pm_is (mk A I L g) 34 5 = true := rfl
theorem fd_34_0 : pm_fd (mk A I L g) 34 5 0 = some (.ref 35) := rfl
theorem fd_34_1 : pm_fd (mk A I L g) 34 5 1 = some (.int (I 34 1)) := rfl
theorem fs_34_1 (x : Int32) : pm_fs (mk A I L g) 34 5 1 (.int x) = some (mk A (sI I 34 1 x) L g) := rfl
theorem ai_35 (j : Int32) (h : inb j 9) : pm_ai ol (mk A I L g) 35 j = some (.int (A 35 j.toNatClampNeg)) := if_pos h
theorem si_35 (j x : Int32) (h : inb j 9) : pm_si (mk A I L g) 35 j x = some (mk (sA A 35 j.toNatClampNeg x) I L g) := if_pos h
theorem ln_35 : pm_ln ol (mk A I L g) 35 = some (.int 9) := rfl
theorem ai_36 (j : Int32) (h : inb j 4) : pm_ai ol (mk A I L g) 36 j = some (.int (A 36 j.toNatClampNeg)) := if_pos h
theorem si_36 (j x : Int32) (h : inb j 4) : pm_si (mk A I L g) 36 j x = some (mk (sA A 36 j.toNatClampNeg x) I L g) := if_pos h
theorem ln_36 : pm_ln ol (mk A I L g) 36 = some (.int 4) := rfl
theorem is_37 : pm_is (mk A I L g) 37 1 = true := rfl
theorem fd_37_0 : pm_fd (mk A I L g) 37 1 0 = some (.ref 1) := rfl
theorem fd_37_1 : pm_fd (mk A I L g) 37 1 1 = some (.ref 20) := rfl
theorem fd_37_2 : pm_fd (mk A I L g) 37 1 2 = some (.ref 33) := rfl
theorem fd_37_3 : pm_fd (mk A I L g) 37 1 3 = some (.ref 30) := rfl
theorem is_38 : pm_is (mk A I L g) 38 3 = true := rfl
theorem fd_38_0 : pm_fd (mk A I L g) 38 3 0 = some (.ref 1) := rfl
theorem fd_38_1 : pm_fd (mk A I L g) 38 3 1 = some (.ref 20) := rfl
theorem fd_38_2 : pm_fd (mk A I L g) 38 3 2 = some (.ref 33) := rfl
theorem fd_38_3 : pm_fd (mk A I L g) 38 3 3 = some (.ref 45) := rfl
theorem fd_38_4 : pm_fd (mk A I L g) 38 3 4 = some (.ref 39) := rfl
theorem fd_38_5 : pm_fd (mk A I L g) 38 3 5 = some (.ref 43) := rfl
theorem fd_38_6 : pm_fd (mk A I L g) 38 3 6 = some (.ref 44) := rfl
theorem is_39 : pm_is (mk A I L g) 39 9 = true := rfl
theorem fd_39_0 : pm_fd (mk A I L g) 39 9 0 = some (.ref 40) := rfl
theorem fd_39_1 : pm_fd (mk A I L g) 39 9 1 = some (.ref 42) := rfl
theorem fd_39_2 : pm_fd (mk A I L g) 39 9 2 = some (.int (I 39 2)) := rfl
theorem fs_39_2 (x : Int32) : pm_fs (mk A I L g) 39 9 2 (.int x) = some (mk A (sI I 39 2 x) L g) := rfl
theorem fd_39_3 : pm_fd (mk A I L g) 39 9 3 = some (.int (I 39 3)) := rfl
theorem fs_39_3 (x : Int32) : pm_fs (mk A I L g) 39 9 3 (.int x) = some (mk A (sI I 39 3 x) L g) := rfl
theorem is_40 : pm_is (mk A I L g) 40 0 = true := rfl
theorem fd_40_0 : pm_fd (mk A I L g) 40 0 0 = some (.ref 41) := rfl
theorem fd_40_1 : pm_fd (mk A I L g) 40 0 1 = some (.int (I 40 1)) := rfl
theorem fs_40_1 (x : Int32) : pm_fs (mk A I L g) 40 0 1 (.int x) = some (mk A (sI I 40 1 x) L g) := rfl
theorem ai_41 (j : Int32) (h : inb j 120) : pm_ai ol (mk A I L g) 41 j = some (.int (A 41 j.toNatClampNeg)) := if_pos h
theorem si_41 (j x : Int32) (h : inb j 120) : pm_si (mk A I L g) 41 j x = some (mk (sA A 41 j.toNatClampNeg x) I L g) := if_pos h
theorem ln_41 : pm_ln ol (mk A I L g) 41 = some (.int 120) := rfl
theorem ai_42 (j : Int32) (h : inb j 4) : pm_ai ol (mk A I L g) 42 j = some (.int (A 42 j.toNatClampNeg)) := if_pos h
theorem si_42 (j x : Int32) (h : inb j 4) : pm_si (mk A I L g) 42 j x = some (mk (sA A 42 j.toNatClampNeg x) I L g) := if_pos h
theorem ln_42 : pm_ln ol (mk A I L g) 42 = some (.int 4) := rfl
theorem az_43 (j : Int32) (h : inb j 49) : pm_az (mk A I L g) 43 j = some (.int (A 43 j.toNatClampNeg)) := if_pos h
theorem sb_43 (j x : Int32) (h : inb j 49) : pm_sb (mk A I L g) 43 j x = some (mk (sA A 43 j.toNatClampNeg (vp_nar .boolean x)) I L g) := if_pos h
theorem ln_43 : pm_ln ol (mk A I L g) 43 = some (.int 49) := rfl
theorem az_44 (j : Int32) (h : inb j 49) : pm_az (mk A I L g) 44 j = some (.int (A 44 j.toNatClampNeg)) := if_pos h
theorem sb_44 (j x : Int32) (h : inb j 49) : pm_sb (mk A I L g) 44 j x = some (mk (sA A 44 j.toNatClampNeg (vp_nar .boolean x)) I L g) := if_pos h
theorem ln_44 : pm_ln ol (mk A I L g) 44 = some (.int 49) := rfl
theorem is_45 : pm_is (mk A I L g) 45 6 = true := rfl
theorem fd_45_0 : pm_fd (mk A I L g) 45 6 0 = some (.ref 1) := rfl
theorem fd_45_1 : pm_fd (mk A I L g) 45 6 1 = some (.ref 46) := rfl
theorem fd_45_2 : pm_fd (mk A I L g) 45 6 2 = some (.ref 47) := rfl
theorem ai_46 (j : Int32) (h : inb j 441) : pm_ai ol (mk A I L g) 46 j = some (.int (A 46 j.toNatClampNeg)) := if_pos h
theorem si_46 (j x : Int32) (h : inb j 441) : pm_si (mk A I L g) 46 j x = some (mk (sA A 46 j.toNatClampNeg x) I L g) := if_pos h
theorem ln_46 : pm_ln ol (mk A I L g) 46 = some (.int 441) := rfl
theorem ai_47 (j : Int32) (h : inb j 49) : pm_ai ol (mk A I L g) 47 j = some (.int (A 47 j.toNatClampNeg)) := if_pos h
theorem si_47 (j x : Int32) (h : inb j 49) : pm_si (mk A I L g) 47 j x = some (mk (sA A 47 j.toNatClampNeg x) I L g) := if_pos h
theorem ln_47 : pm_ln ol (mk A I L g) 47 = some (.int 49) := rfl
theorem is_48 : pm_is (mk A I L g) 48 12 = true := rfl
theorem fd_48_0 : pm_fd (mk A I L g) 48 12 0 = some (.int (I 48 0)) := rfl
theorem fs_48_0 (x : Int32) : pm_fs (mk A I L g) 48 12 0 (.int x) = some (mk A (sI I 48 0 x) L g) := rfl
theorem fd_48_1 : pm_fd (mk A I L g) 48 12 1 = some (.ref 49) := rfl
theorem fd_48_2 : pm_fd (mk A I L g) 48 12 2 = some (.ref 50) := rfl
theorem fd_48_3 : pm_fd (mk A I L g) 48 12 3 = some (.ref 51) := rfl
theorem fd_48_4 : pm_fd (mk A I L g) 48 12 4 = some (.ref 52) := rfl
theorem fd_48_5 : pm_fd (mk A I L g) 48 12 5 = some (.ref 53) := rfl
theorem fd_48_6 : pm_fd (mk A I L g) 48 12 6 = some (.ref 54) := rfl
theorem fd_48_7 : pm_fd (mk A I L g) 48 12 7 = some (.ref 55) := rfl
theorem fd_48_8 : pm_fd (mk A I L g) 48 12 8 = some (.int (I 48 8)) := rfl
theorem fs_48_8 (x : Int32) : pm_fs (mk A I L g) 48 12 8 (.int x) = some (mk A (sI I 48 8 x) L g) := rfl
theorem fd_48_9 : pm_fd (mk A I L g) 48 12 9 = some (.int (I 48 9)) := rfl
theorem fs_48_9 (x : Int32) : pm_fs (mk A I L g) 48 12 9 (.int x) = some (mk A (sI I 48 9 x) L g) := rfl
theorem fd_48_10 : pm_fd (mk A I L g) 48 12 10 = some (.ref 56) := rfl
theorem fd_48_11 : pm_fd (mk A I L g) 48 12 11 = some (.int (I 48 11)) := rfl
theorem fs_48_11 (x : Int32) : pm_fs (mk A I L g) 48 12 11 (.int x) = some (mk A (sI I 48 11 x) L g) := rfl
theorem fd_48_12 : pm_fd (mk A I L g) 48 12 12 = some (.ref 57) := rfl
theorem fd_48_13 : pm_fd (mk A I L g) 48 12 13 = some (.int (I 48 13)) := rfl
theorem fs_48_13 (x : Int32) : pm_fs (mk A I L g) 48 12 13 (.int x) = some (mk A (sI I 48 13 x) L g) := rfl
theorem fd_48_14 : pm_fd (mk A I L g) 48 12 14 = some (.int (I 48 14)) := rfl
theorem fs_48_14 (x : Int32) : pm_fs (mk A I L g) 48 12 14 (.int x) = some (mk A (sI I 48 14 x) L g) := rfl
theorem fd_48_15 : pm_fd (mk A I L g) 48 12 15 = some (.ref 58) := rfl
theorem fd_48_16 : pm_fd (mk A I L g) 48 12 16 = some (.ref 59) := rfl
theorem fd_48_17 : pm_fd (mk A I L g) 48 12 17 = some (.ref 60) := rfl
theorem fd_48_18 : pm_fd (mk A I L g) 48 12 18 = some (.int (I 48 18)) := rfl
theorem fs_48_18 (x : Int32) : pm_fs (mk A I L g) 48 12 18 (.int x) = some (mk A (sI I 48 18 x) L g) := rfl
theorem fd_48_19 : pm_fd (mk A I L g) 48 12 19 = some (.int (I 48 19)) := rfl
theorem fs_48_19 (x : Int32) : pm_fs (mk A I L g) 48 12 19 (.int x) = some (mk A (sI I 48 19 x) L g) := rfl
theorem fd_48_20 : pm_fd (mk A I L g) 48 12 20 = some (.ref 61) := rfl
theorem fd_48_21 : pm_fd (mk A I L g) 48 12 21 = some (.int (I 48 21)) := rfl
theorem fs_48_21 (x : Int32) : pm_fs (mk A I L g) 48 12 21 (.int x) = some (mk A (sI I 48 21 x) L g) := rfl
theorem fd_48_22 : pm_fd (mk A I L g) 48 12 22 = some (.int (I 48 22)) := rfl
theorem fs_48_22 (x : Int32) : pm_fs (mk A I L g) 48 12 22 (.int x) = some (mk A (sI I 48 22 x) L g) := rfl
theorem fd_48_23 : pm_fd (mk A I L g) 48 12 23 = some (.int (I 48 23)) := rfl
theorem fs_48_23 (x : Int32) : pm_fs (mk A I L g) 48 12 23 (.int x) = some (mk A (sI I 48 23 x) L g) := rfl
theorem fd_48_24 : pm_fd (mk A I L g) 48 12 24 = some (.ref 62) := rfl
theorem fd_48_25 : pm_fd (mk A I L g) 48 12 25 = some (.ref 63) := rfl
theorem fd_48_26 : pm_fd (mk A I L g) 48 12 26 = some (.ref 64) := rfl
theorem fd_48_27 : pm_fd (mk A I L g) 48 12 27 = some (.ref 65) := rfl
theorem fd_48_28 : pm_fd (mk A I L g) 48 12 28 = some (.ref 66) := rfl
theorem fd_48_29 : pm_fd (mk A I L g) 48 12 29 = some (.ref 67) := rfl
theorem fd_48_30 : pm_fd (mk A I L g) 48 12 30 = some (.int (I 48 30)) := rfl
theorem fs_48_30 (x : Int32) : pm_fs (mk A I L g) 48 12 30 (.int x) = some (mk A (sI I 48 30 x) L g) := rfl
theorem fd_48_31 : pm_fd (mk A I L g) 48 12 31 = some (.ref 68) := rfl
theorem ai_49 (j : Int32) (h : inb j 8) : pm_ai ol (mk A I L g) 49 j = some (.int (A 49 j.toNatClampNeg)) := if_pos h
theorem si_49 (j x : Int32) (h : inb j 8) : pm_si (mk A I L g) 49 j x = some (mk (sA A 49 j.toNatClampNeg x) I L g) := if_pos h
theorem ln_49 : pm_ln ol (mk A I L g) 49 = some (.int 8) := rfl
theorem ai_50 (j : Int32) (h : inb j 6) : pm_ai ol (mk A I L g) 50 j = some (.int (A 50 j.toNatClampNeg)) := if_pos h
theorem si_50 (j x : Int32) (h : inb j 6) : pm_si (mk A I L g) 50 j x = some (mk (sA A 50 j.toNatClampNeg x) I L g) := if_pos h
theorem ln_50 : pm_ln ol (mk A I L g) 50 = some (.int 6) := rfl
theorem ai_51 (j : Int32) (h : inb j 6) : pm_ai ol (mk A I L g) 51 j = some (.int (A 51 j.toNatClampNeg)) := if_pos h
theorem si_51 (j x : Int32) (h : inb j 6) : pm_si (mk A I L g) 51 j x = some (mk (sA A 51 j.toNatClampNeg x) I L g) := if_pos h
theorem ln_51 : pm_ln ol (mk A I L g) 51 = some (.int 6) := rfl
theorem ai_52 (j : Int32) (h : inb j 18) : pm_ai ol (mk A I L g) 52 j = some (.int (A 52 j.toNatClampNeg)) := if_pos h
theorem si_52 (j x : Int32) (h : inb j 18) : pm_si (mk A I L g) 52 j x = some (mk (sA A 52 j.toNatClampNeg x) I L g) := if_pos h
theorem ln_52 : pm_ln ol (mk A I L g) 52 = some (.int 18) := rfl
theorem ai_53 (j : Int32) (h : inb j 6) : pm_ai ol (mk A I L g) 53 j = some (.int (A 53 j.toNatClampNeg)) := if_pos h
theorem si_53 (j x : Int32) (h : inb j 6) : pm_si (mk A I L g) 53 j x = some (mk (sA A 53 j.toNatClampNeg x) I L g) := if_pos h
theorem ln_53 : pm_ln ol (mk A I L g) 53 = some (.int 6) := rfl
theorem ai_54 (j : Int32) (h : inb j 6) : pm_ai ol (mk A I L g) 54 j = some (.int (A 54 j.toNatClampNeg)) := if_pos h
theorem si_54 (j x : Int32) (h : inb j 6) : pm_si (mk A I L g) 54 j x = some (mk (sA A 54 j.toNatClampNeg x) I L g) := if_pos h
theorem ln_54 : pm_ln ol (mk A I L g) 54 = some (.int 6) := rfl
theorem ai_55 (j : Int32) (h : inb j 4) : pm_ai ol (mk A I L g) 55 j = some (.int (A 55 j.toNatClampNeg)) := if_pos h
theorem si_55 (j x : Int32) (h : inb j 4) : pm_si (mk A I L g) 55 j x = some (mk (sA A 55 j.toNatClampNeg x) I L g) := if_pos h
theorem ln_55 : pm_ln ol (mk A I L g) 55 = some (.int 4) := rfl
theorem ai_56 (j : Int32) (h : inb j 48) : pm_ai ol (mk A I L g) 56 j = some (.int (A 56 j.toNatClampNeg)) := if_pos h
theorem si_56 (j x : Int32) (h : inb j 48) : pm_si (mk A I L g) 56 j x = some (mk (sA A 56 j.toNatClampNeg x) I L g) := if_pos h
theorem ln_56 : pm_ln ol (mk A I L g) 56 = some (.int 48) := rfl
theorem ai_57 (j : Int32) (h : inb j 120) : pm_ai ol (mk A I L g) 57 j = some (.int (A 57 j.toNatClampNeg)) := if_pos h
theorem si_57 (j x : Int32) (h : inb j 120) : pm_si (mk A I L g) 57 j x = some (mk (sA A 57 j.toNatClampNeg x) I L g) := if_pos h
theorem ln_57 : pm_ln ol (mk A I L g) 57 = some (.int 120) := rfl
theorem ai_58 (j : Int32) (h : inb j 48) : pm_ai ol (mk A I L g) 58 j = some (.int (A 58 j.toNatClampNeg)) := if_pos h
theorem si_58 (j x : Int32) (h : inb j 48) : pm_si (mk A I L g) 58 j x = some (mk (sA A 58 j.toNatClampNeg x) I L g) := if_pos h
theorem ln_58 : pm_ln ol (mk A I L g) 58 = some (.int 48) := rfl
theorem ai_59 (j : Int32) (h : inb j 48) : pm_ai ol (mk A I L g) 59 j = some (.int (A 59 j.toNatClampNeg)) := if_pos h
theorem si_59 (j x : Int32) (h : inb j 48) : pm_si (mk A I L g) 59 j x = some (mk (sA A 59 j.toNatClampNeg x) I L g) := if_pos h
theorem ln_59 : pm_ln ol (mk A I L g) 59 = some (.int 48) := rfl
theorem ai_60 (j : Int32) (h : inb j 480) : pm_ai ol (mk A I L g) 60 j = some (.int (A 60 j.toNatClampNeg)) := if_pos h
theorem si_60 (j x : Int32) (h : inb j 480) : pm_si (mk A I L g) 60 j x = some (mk (sA A 60 j.toNatClampNeg x) I L g) := if_pos h
theorem ln_60 : pm_ln ol (mk A I L g) 60 = some (.int 480) := rfl
theorem ai_61 (j : Int32) (h : inb j 10) : pm_ai ol (mk A I L g) 61 j = some (.int (A 61 j.toNatClampNeg)) := if_pos h
theorem si_61 (j x : Int32) (h : inb j 10) : pm_si (mk A I L g) 61 j x = some (mk (sA A 61 j.toNatClampNeg x) I L g) := if_pos h
theorem ln_61 : pm_ln ol (mk A I L g) 61 = some (.int 10) := rfl
theorem az_62 (j : Int32) (h : inb j 49) : pm_az (mk A I L g) 62 j = some (.int (A 62 j.toNatClampNeg)) := if_pos h
theorem sb_62 (j x : Int32) (h : inb j 49) : pm_sb (mk A I L g) 62 j x = some (mk (sA A 62 j.toNatClampNeg (vp_nar .boolean x)) I L g) := if_pos h
theorem ln_62 : pm_ln ol (mk A I L g) 62 = some (.int 49) := rfl
theorem az_63 (j : Int32) (h : inb j 49) : pm_az (mk A I L g) 63 j = some (.int (A 63 j.toNatClampNeg)) := if_pos h
theorem sb_63 (j x : Int32) (h : inb j 49) : pm_sb (mk A I L g) 63 j x = some (mk (sA A 63 j.toNatClampNeg (vp_nar .boolean x)) I L g) := if_pos h
theorem ln_63 : pm_ln ol (mk A I L g) 63 = some (.int 49) := rfl
theorem az_64 (j : Int32) (h : inb j 49) : pm_az (mk A I L g) 64 j = some (.int (A 64 j.toNatClampNeg)) := if_pos h
theorem sb_64 (j x : Int32) (h : inb j 49) : pm_sb (mk A I L g) 64 j x = some (mk (sA A 64 j.toNatClampNeg (vp_nar .boolean x)) I L g) := if_pos h
theorem ln_64 : pm_ln ol (mk A I L g) 64 = some (.int 49) := rfl
theorem az_65 (j : Int32) (h : inb j 49) : pm_az (mk A I L g) 65 j = some (.int (A 65 j.toNatClampNeg)) := if_pos h
theorem sb_65 (j x : Int32) (h : inb j 49) : pm_sb (mk A I L g) 65 j x = some (mk (sA A 65 j.toNatClampNeg (vp_nar .boolean x)) I L g) := if_pos h
theorem ln_65 : pm_ln ol (mk A I L g) 65 = some (.int 49) := rfl
theorem ai_66 (j : Int32) (h : inb j 490) : pm_ai ol (mk A I L g) 66 j = some (.int (A 66 j.toNatClampNeg)) := if_pos h
theorem si_66 (j x : Int32) (h : inb j 490) : pm_si (mk A I L g) 66 j x = some (mk (sA A 66 j.toNatClampNeg x) I L g) := if_pos h
theorem ln_66 : pm_ln ol (mk A I L g) 66 = some (.int 490) := rfl
theorem ai_67 (j : Int32) (h : inb j 700) : pm_ai ol (mk A I L g) 67 j = some (.int (A 67 j.toNatClampNeg)) := if_pos h
theorem si_67 (j x : Int32) (h : inb j 700) : pm_si (mk A I L g) 67 j x = some (mk (sA A 67 j.toNatClampNeg x) I L g) := if_pos h
theorem ln_67 : pm_ln ol (mk A I L g) 67 = some (.int 700) := rfl
theorem ai_68 (j : Int32) (h : inb j 4) : pm_ai ol (mk A I L g) 68 j = some (.int (A 68 j.toNatClampNeg)) := if_pos h
theorem si_68 (j x : Int32) (h : inb j 4) : pm_si (mk A I L g) 68 j x = some (mk (sA A 68 j.toNatClampNeg x) I L g) := if_pos h
theorem ln_68 : pm_ln ol (mk A I L g) 68 = some (.int 4) := rfl
theorem cp_7_29 (sp dp n : Int32) (h : (¬ sp < 0 ∧ ¬ dp < 0 ∧ ¬ n < 0) ∧ sp.toNatClampNeg + n.toNatClampNeg ≤ 4 ∧ dp.toNatClampNeg + n.toNatClampNeg ≤ 9) : pm_cp (mk A I L g) 7 sp 29 dp n = some (mk (sF A 29 (va_cpy (A 7) (A 29) sp.toNatClampNeg dp.toNatClampNeg n.toNatClampNeg)) I L g) := if_pos h
theorem cp_7_35 (sp dp n : Int32) (h : (¬ sp < 0 ∧ ¬ dp < 0 ∧ ¬ n < 0) ∧ sp.toNatClampNeg + n.toNatClampNeg ≤ 4 ∧ dp.toNatClampNeg + n.toNatClampNeg ≤ 9) : pm_cp (mk A I L g) 7 sp 35 dp n = some (mk (sF A 35 (va_cpy (A 7) (A 35) sp.toNatClampNeg dp.toNatClampNeg n.toNatClampNeg)) I L g) := if_pos h
theorem cp_7_42 (sp dp n : Int32) (h : (¬ sp < 0 ∧ ¬ dp < 0 ∧ ¬ n < 0) ∧ sp.toNatClampNeg + n.toNatClampNeg ≤ 4 ∧ dp.toNatClampNeg + n.toNatClampNeg ≤ 4) : pm_cp (mk A I L g) 7 sp 42 dp n = some (mk (sF A 42 (va_cpy (A 7) (A 42) sp.toNatClampNeg dp.toNatClampNeg n.toNatClampNeg)) I L g) := if_pos h
theorem cp_29_31 (sp dp n : Int32) (h : (¬ sp < 0 ∧ ¬ dp < 0 ∧ ¬ n < 0) ∧ sp.toNatClampNeg + n.toNatClampNeg ≤ 9 ∧ dp.toNatClampNeg + n.toNatClampNeg ≤ 441) : pm_cp (mk A I L g) 29 sp 31 dp n = some (mk (sF A 31 (va_cpy (A 29) (A 31) sp.toNatClampNeg dp.toNatClampNeg n.toNatClampNeg)) I L g) := if_pos h
theorem cp_35_46 (sp dp n : Int32) (h : (¬ sp < 0 ∧ ¬ dp < 0 ∧ ¬ n < 0) ∧ sp.toNatClampNeg + n.toNatClampNeg ≤ 9 ∧ dp.toNatClampNeg + n.toNatClampNeg ≤ 441) : pm_cp (mk A I L g) 35 sp 46 dp n = some (mk (sF A 46 (va_cpy (A 35) (A 46) sp.toNatClampNeg dp.toNatClampNeg n.toNatClampNeg)) I L g) := if_pos h
theorem cp_31_35 (sp dp n : Int32) (h : (¬ sp < 0 ∧ ¬ dp < 0 ∧ ¬ n < 0) ∧ sp.toNatClampNeg + n.toNatClampNeg ≤ 441 ∧ dp.toNatClampNeg + n.toNatClampNeg ≤ 9) : pm_cp (mk A I L g) 31 sp 35 dp n = some (mk (sF A 35 (va_cpy (A 31) (A 35) sp.toNatClampNeg dp.toNatClampNeg n.toNatClampNeg)) I L g) := if_pos h
theorem cp_46_35 (sp dp n : Int32) (h : (¬ sp < 0 ∧ ¬ dp < 0 ∧ ¬ n < 0) ∧ sp.toNatClampNeg + n.toNatClampNeg ≤ 441 ∧ dp.toNatClampNeg + n.toNatClampNeg ≤ 9) : pm_cp (mk A I L g) 46 sp 35 dp n = some (mk (sF A 35 (va_cpy (A 46) (A 35) sp.toNatClampNeg dp.toNatClampNeg n.toNatClampNeg)) I L g) := if_pos h
theorem aq_5 (j : Int32) (h : inb j 6) : pm_aq (mk A I L g) 5 j = some (va_rf (mk_q j.toNatClampNeg)) := if_pos h
theorem aj_69 (j : Int32) (h : inb j 1) : pm_aj (mk A I L g) 69 j = some (.long (L j.toNatClampNeg)) := if_pos h
theorem sj_69 (j : Int32) (x : Int64) (h : inb j 1) : pm_sj (mk A I L g) 69 j x = some (mk A I (vp_updL L j.toNatClampNeg x) g) := if_pos h
end MK
theorem sI_s (I : Nat → Nat → Int32) (a j : Nat) (x : Int32) : sI I a j x a j = x := if_pos ⟨rfl, rfl⟩
theorem sI_n (I : Nat → Nat → Int32) {a j b i : Nat} (x : Int32) (h : ¬ (b = a ∧ i = j)) : sI I a j x b i = I b i := if_neg h
theorem sF_s (A : Nat → Nat → Int32) (a : Nat) (f : Nat → Int32) : sF A a f a = f := if_pos rfl
theorem sF_n (A : Nat → Nat → Int32) {a b : Nat} (f : Nat → Int32) (h : ¬ b = a) : sF A a f b = A b := if_neg h
