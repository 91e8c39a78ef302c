/-! THE PURE MACHINE: the methods' code over a heap that is a list of cells; a reference is a place in that list (from 1000 on: an array that was there before, 'ol') -/
abbrev pm_C : Type := (Nat × vp_A) ⊕ (Nat × List Value)
abbrev pm_H : Type := List pm_C
abbrev pm_L : Type := List (Nat × Value)
abbrev pm_O : Type := List (Nat × (Nat → Int32))
abbrev pm_R : Type := Option ((Nat × pm_L × List Value × pm_H) ⊕ (Option Value ⊕ (Nat × List Value × List Value)))
/-- how many cells the law makes before it begins; none is made later but exceptions -/
def pm_M : Nat := 70
def pm_nx (pc : Nat) (lo : pm_L) (st : List Value) (h : pm_H) : pm_R := some (.inl (pc, lo, st, h))
def pm_lg (lo : pm_L) (i : Nat) : Option Value := match lo with
  | [] => none
  | (j, v) :: r => if j = i then some v else pm_lg r i
def pm_ls (lo : pm_L) (i : Nat) (v : Value) : pm_L := (i, v) :: lo.filter (fun q => !(q.1 == i) && !(q.1 + 1 == i && q.2.category == 2))
def pm_gi (h : pm_H) (t a : Nat) : Option (Nat × (Nat → Int32)) := if a < pm_M then (match h[a]? with
  | some (.inl (t', n, .inl f)) => if t' = t then some (n, f) else none
  | _ => none) else none
def pm_gl (h : pm_H) (a : Nat) : Option (Nat × (Nat → Int64)) := if a < pm_M then (match h[a]? with
  | some (.inl (t', n, .inr (.inl f))) => if t' = 2 then some (n, f) else none
  | _ => none) else none
def pm_gq (h : pm_H) (a : Nat) : Option (Nat × (Nat → Option Nat)) := if a < pm_M then (match h[a]? with
  | some (.inl (t', n, .inr (.inr (.inr (.inr f))))) => if t' = 3 then some (n, f) else none
  | _ => none) else none
def pm_go (h : pm_H) (a : Nat) : Option (Nat × List Value) := if a < pm_M then (match h[a]? with
  | some (.inr o) => some o
  | _ => none) else none
def pm_ia (ol : pm_O) (h : pm_H) (a : Nat) : Option (Nat × (Nat → Int32)) := if a < 1000 then pm_gi h 0 a else ol[a - 1000]?
def pm_al (h : pm_H) (a : Nat) : Option Nat := if a < pm_M then (match h[a]? with
  | some (.inl (t, x)) => if t < 4 then some x.1 else none
  | _ => none) else none
def pm_len (ol : pm_O) (h : pm_H) (a : Nat) : Option Nat := if a < 1000 then pm_al h a else (ol[a - 1000]?).map (fun q => q.1)
def pm_pop : Nat → List Value → List Value → Option (List Value × List Value)
  | 0, st, acc => some (acc, st)
  | n + 1, v :: st, acc => pm_pop n st (v :: acc)
  | _ + 1, [], _ => none
def pm_b1 (c : ClassFile.Cond) (x : Int32) : Bool := match c with
  | .eq => decide (x = 0)
  | .ne => decide (¬ x = 0)
  | .lt => decide (x < 0)
  | .ge => decide (0 ≤ x)
  | .gt => decide (0 < x)
  | .le => decide (x ≤ 0)
def pm_b2 (c : ClassFile.Cond) (x y : Int32) : Bool := match c with
  | .eq => decide (x = y)
  | .ne => decide (¬ x = y)
  | .lt => decide (x < y)
  | .ge => decide (y ≤ x)
  | .gt => decide (y < x)
  | .le => decide (x ≤ y)
def pm_cat (r : List Value) : Nat := (r.map fun v => v.category).sum
def pm_ts (d lo hi : Int) (offs : Array Int) (x : Int32) : Option Int := if x.toInt < lo ∨ hi < x.toInt then some d else offs[(x.toInt - lo).toNat]?
def pm_i2 (f : Int32 → Int32 → Int32) (pc : Nat) (lo : pm_L) (st : List Value) (h : pm_H) : pm_R := match st with
  | .int y :: .int x :: r => pm_nx pc lo (.int (f x y) :: r) h
  | _ => none
def pm_l2 (f : Int64 → Int64 → Int64) (pc : Nat) (lo : pm_L) (st : List Value) (h : pm_H) : pm_R := match st with
  | .long y :: .long x :: r => pm_nx pc lo (.long (f x y) :: r) h
  | _ => none
def pm_sh (f : Int64 → Int32 → Int64) (pc : Nat) (lo : pm_L) (st : List Value) (h : pm_H) : pm_R := match st with
  | .int y :: .long x :: r => pm_nx pc lo (.long (f x y) :: r) h
  | _ => none
def pm_jmp (t : Int) (lo : pm_L) (st : List Value) (h : pm_H) : pm_R := pm_nx t.toNat lo st h
noncomputable def pm_call (k : Nat) (as rest : List Value) : pm_R := if pm_cat rest ≤ 8 ∧ (500 ≤ k ∨ pm_cat as ≤ pm_mL k) then some (.inr (.inr (k, as, rest))) else none
def pm_mk (c : pm_C) (pc : Nat) (lo : pm_L) (st : List Value) (h : pm_H) : pm_R := if h.length < pm_M then pm_nx pc lo (.ref h.length :: st) (h ++ [c]) else none
noncomputable def pm_one (ol : pm_O) (i : Instr) (len pc : Nat) (lo : pm_L) (st : List Value) (h : pm_H) : pm_R := match i with
  | .iconst v => pm_nx (pc + len) lo (.int (Int32.ofInt v) :: st) h
  | .ldc2_w v => pm_nx (pc + len) lo (.long (Int64.ofNat v) :: st) h
  | .iload j => match pm_lg lo j with
    | some (.int x) => pm_nx (pc + len) lo (.int x :: st) h
    | _ => none
  | .aload j => match pm_lg lo j with
    | some (.ref x) => pm_nx (pc + len) lo (.ref x :: st) h
    | _ => none
  | .lload j => match pm_lg lo j with
    | some (.long x) => pm_nx (pc + len) lo (.long x :: st) h
    | _ => none
  | .istore j => match st with
    | .int x :: r => pm_nx (pc + len) (pm_ls lo j (.int x)) r h
    | _ => none
  | .astore j => match st with
    | .ref x :: r => pm_nx (pc + len) (pm_ls lo j (.ref x)) r h
    | _ => none
  | .iinc j n => match pm_lg lo j with
    | some (.int x) => pm_nx (pc + len) (pm_ls lo j (.int (x + Int32.ofInt n))) st h
    | _ => none
  | .iadd => pm_i2 (fun x y => x + y) (pc + len) lo st h
  | .isub => pm_i2 (fun x y => x - y) (pc + len) lo st h
  | .imul => pm_i2 (fun x y => x * y) (pc + len) lo st h
  | .iand => pm_i2 (fun x y => x &&& y) (pc + len) lo st h
  | .irem => match st with
    | .int y :: .int x :: r => if y = 0 then none else pm_nx (pc + len) lo (.int (x - x / y * y) :: r) h
    | _ => none
  | .ineg => match st with
    | .int x :: r => pm_nx (pc + len) lo (.int (-x) :: r) h
    | _ => none
  | .i2l => match st with
    | .int x :: r => pm_nx (pc + len) lo (.long x.toInt64 :: r) h
    | _ => none
  | .l2i => match st with
    | .long x :: r => pm_nx (pc + len) lo (.int x.toInt32 :: r) h
    | _ => none
  | .i2b => match st with
    | .int x :: r => pm_nx (pc + len) lo (.int x.toInt8.toInt32 :: r) h
    | _ => none
  | .land => pm_l2 (fun x y => x &&& y) (pc + len) lo st h
  | .lor => pm_l2 (fun x y => x ||| y) (pc + len) lo st h
  | .lshl => pm_sh (fun x y => x <<< (y.toInt64 &&& 63)) (pc + len) lo st h
  | .lshr => pm_sh (fun x y => x >>> (y.toInt64 &&& 63)) (pc + len) lo st h
  | .lushr => pm_sh (fun x y => (x.toUInt64 >>> (y.toInt64.toUInt64 &&& Int64.toUInt64 63)).toInt64) (pc + len) lo st h
  | .lcmp => match st with
    | .long y :: .long x :: r => pm_nx (pc + len) lo (.int (lg_cmp x y) :: r) h
    | _ => none
  | .dup => match st with
    | v :: r => if v.category = 1 then pm_nx (pc + len) lo (v :: v :: r) h else none
    | _ => none
  | .dup2 => match st with
    | v :: w :: r => if v.category = 1 ∧ w.category = 1 then pm_nx (pc + len) lo (v :: w :: v :: w :: r) h else none
    | _ => none
  | .pop => match st with
    | v :: r => if v.category = 1 then pm_nx (pc + len) lo r h else none
    | _ => none
  | .goto t => pm_jmp t lo st h
  | .ifCond c t => match st with
    | .int x :: r => if pm_b1 c x = true then pm_jmp t lo r h else pm_nx (pc + len) lo r h
    | _ => none
  | .if_icmp c t => match st with
    | .int y :: .int x :: r => if pm_b2 c x y = true then pm_jmp t lo r h else pm_nx (pc + len) lo r h
    | _ => none
  | .tableswitch d a b offs => match st with
    | .int x :: r => match pm_ts d a b offs x with
      | some t => pm_jmp t lo r h
      | none => none
    | _ => none
  | .lookupswitch d ps => match st with
    | .int x :: r => pm_jmp (Op.lookupswitch.offset ps.toList d x.toInt) lo r h
    | _ => none
  | .iaload => match st with
    | .int j :: .ref a :: r => match pm_ia ol h a with
      | some (n, f) => if ¬ (j < 0 ∨ n ≤ j.toNatClampNeg) then pm_nx (pc + len) lo (.int (f j.toNatClampNeg) :: r) h else none
      | none => none
    | _ => none
  | .baload => match st with
    | .int j :: .ref a :: r => match pm_gi h 1 a with
      | some (n, f) => if ¬ (j < 0 ∨ n ≤ j.toNatClampNeg) then pm_nx (pc + len) lo (.int (f j.toNatClampNeg) :: r) h else none
      | none => none
    | _ => none
  | .laload => match st with
    | .int j :: .ref a :: r => match pm_gl h a with
      | some (n, f) => if ¬ (j < 0 ∨ n ≤ j.toNatClampNeg) then pm_nx (pc + len) lo (.long (f j.toNatClampNeg) :: r) h else none
      | none => none
    | _ => none
  | .aaload => match st with
    | .int j :: .ref a :: r => match pm_gq h a with
      | some (n, f) => if ¬ (j < 0 ∨ n ≤ j.toNatClampNeg) then pm_nx (pc + len) lo (va_rf (f j.toNatClampNeg) :: r) h else none
      | none => none
    | _ => none
  | .iastore => match st with
    | .int x :: .int j :: .ref a :: r => match pm_gi h 0 a with
      | some (n, f) => if ¬ (j < 0 ∨ n ≤ j.toNatClampNeg) then pm_nx (pc + len) lo r (h.set a (.inl (0, n, .inl (upd f j.toNatClampNeg x)))) else none
      | none => none
    | _ => none
  | .bastore => match st with
    | .int x :: .int j :: .ref a :: r => match pm_gi h 1 a with
      | some (n, f) => if ¬ (j < 0 ∨ n ≤ j.toNatClampNeg) then pm_nx (pc + len) lo r (h.set a (.inl (1, n, .inl (upd f j.toNatClampNeg (vp_nar .boolean x))))) else none
      | none => none
    | _ => none
  | .lastore => match st with
    | .long x :: .int j :: .ref a :: r => match pm_gl h a with
      | some (n, f) => if ¬ (j < 0 ∨ n ≤ j.toNatClampNeg) then pm_nx (pc + len) lo r (h.set a (.inl (2, n, .inr (.inl (vp_updL f j.toNatClampNeg x))))) else none
      | none => none
    | _ => none
  | .aastore => match st with
    | .ref v :: .int j :: .ref a :: r => match pm_gq h a with
      | some (n, f) => match pm_go h v with
        | some (ci, _) => if ci = 4 ∧ ¬ (j < 0 ∨ n ≤ j.toNatClampNeg) then pm_nx (pc + len) lo r (h.set a (.inl (3, n, .inr (.inr (.inr (.inr (va_up f j.toNatClampNeg (some v)))))))) else none
        | none => none
      | none => none
    | _ => none
  | .arraylength => match st with
    | .ref a :: r => match pm_len ol h a with
      | some n => pm_nx (pc + len) lo (.int (Int32.ofNat n) :: r) h
      | none => none
    | _ => none
  | .getfield x => match st with
    | .ref a :: r => match pm_go h a with
      | some (ci, fs) => if ci = x / 64 then (match fs[x % 64]? with
        | some v => pm_nx (pc + len) lo (v :: r) h
        | none => none) else none
      | none => none
    | _ => none
  | .putfield x => match st with
    | .int v :: .ref a :: r => match pm_go h a with
      | some (ci, fs) => if ci = x / 64 ∧ x % 64 < fs.length then pm_nx (pc + len) lo r (h.set a (.inr (ci, fs.set (x % 64) (.int v)))) else none
      | none => none
    | _ => none
  | .putstatic x => match st with
    | .int v :: .ref a :: r => match pm_go h a with
      | some (ci, fs) => if ci = x / 64 ∧ x % 64 < fs.length ∧ (v = 0 ∨ v = 1) then pm_nx (pc + len) lo r (h.set a (.inr (ci, fs.set (x % 64) (.int v)))) else none
      | none => none
    | _ => none
  | .checkcast x => match st with
    | .ref v :: .ref a :: r => match pm_go h a with
      | some (ci, fs) => if ci = x / 64 ∧ x % 64 < fs.length then pm_nx (pc + len) lo r (h.set a (.inr (ci, fs.set (x % 64) (.ref v)))) else none
      | none => none
    | _ => none
  | .getstatic a => pm_nx (pc + len) lo (.ref a :: st) h
  | .new ci => match pm_dfs[ci]? with
    | some fs => pm_mk (.inr (ci, fs)) (pc + len) lo st h
    | none => none
  | .newarray t => match st with
    | .int n :: r => if ¬ n < 0 ∧ n.toNatClampNeg ≤ 1000 then (match t with
      | .int => pm_mk (.inl (0, n.toNatClampNeg, .inl (fun _ => 0))) (pc + len) lo r h
      | .boolean => pm_mk (.inl (1, n.toNatClampNeg, .inl (fun _ => 0))) (pc + len) lo r h
      | .long => pm_mk (.inl (2, n.toNatClampNeg, .inr (.inl (fun _ => 0)))) (pc + len) lo r h
      | _ => none) else none
    | _ => none
  | .anewarray _ => match st with
    | .int n :: r => if ¬ n < 0 ∧ n.toNatClampNeg ≤ 1000 then pm_mk (.inl (3, n.toNatClampNeg, .inr (.inr (.inr (.inr (fun _ => none)))))) (pc + len) lo r h else none
    | _ => none
  | .invokespecial _ => match st with
    | .ref _ :: r => if pm_cat r ≤ 8 then pm_nx (pc + len) lo r h else none
    | _ => none
  | .invokedynamic _ => match st with
    | .int n :: .int dp :: .ref a :: .int sp :: .ref a0 :: r => match pm_gi h 0 a0 with
      | some (n0, f) => match pm_gi h 0 a with
        | some (n1, g) => if (¬ sp < 0 ∧ ¬ dp < 0 ∧ ¬ n < 0) ∧ sp.toNatClampNeg + n.toNatClampNeg ≤ n0 ∧ dp.toNatClampNeg + n.toNatClampNeg ≤ n1 ∧ pm_cat r ≤ 8 then pm_nx (pc + len) lo r (h.set a (.inl (0, n1, .inl (va_cpy f g sp.toNatClampNeg dp.toNatClampNeg n.toNatClampNeg)))) else none
        | none => none
      | none => none
    | _ => none
  | .dadd => match st with
    | .int y :: .int x :: r => if pm_cat r ≤ 8 then pm_nx (pc + len) lo (.int (if x < y then y else x) :: r) h else none
    | _ => none
  | .dsub => match st with
    | .int y :: .int x :: r => if pm_cat r ≤ 8 then pm_nx (pc + len) lo (.int (if y < x then y else x) :: r) h else none
    | _ => none
  | .dneg => match st with
    | .int x :: r => if pm_cat r ≤ 8 then pm_nx (pc + len) lo (.int (if 0 ≤ x then x else 0 - x) :: r) h else none
    | _ => none
  | .invokeinterface x n => match pm_pop n st [] with
    | some (.ref b :: as, rest) => match pm_go h b with
      | some (ci, _) => if ci = x / 1000 then pm_call (x % 1000) (.ref b :: as) rest else none
      | none => none
    | _ => none
  | .multianewarray k n => match pm_pop n st [] with
    | some (as, rest) => pm_call k as rest
    | _ => none
  | .ireturn => match st with
    | [.int v] => some (.inr (.inl (some (.int v))))
    | _ => none
  | .freturn => match st with
    | [.int v] => if v = 0 ∨ v = 1 then some (.inr (.inl (some (.int v)))) else none
    | _ => none
  | .areturn => match st with
    | [.ref v] => some (.inr (.inl (some (.ref v))))
    | _ => none
  | .return_ => match st with
    | [] => some (.inr (.inl none))
    | _ => none
  | _ => none
def pm_lv : List Nat → pm_L → pm_L
  | [], _ => []
  | j :: r, lo => match pm_lg lo j with
    | some v => (j, v) :: pm_lv r lo
    | none => pm_lv r lo
abbrev pm_Q : Type := Nat → List Value → pm_H → Option (Option Value × pm_H)
/-- a run of the pure machine: n: fuel; orc: what the methods from 500 on do -/
noncomputable def pm_X (ol : pm_O) (orc : pm_Q) : Nat → Nat → Nat → pm_L → List Value → pm_H → Option (Option Value × pm_H)
  | 0, _, _, _, _, _ => none
  | n + 1, k, pc, lo, st, h => match pm_ins k pc with
    | none => none
    | some (i, len, _) => match pm_one ol i len pc (pm_lv (pm_liv k pc) lo) st h with
      | none => none
      | some (.inl (pc', lo', st', h')) => pm_X ol orc n k pc' lo' st' h'
      | some (.inr (.inl v)) => some (v, h)
      | some (.inr (.inr (k', as, rest))) =>
        match (if k' < 500 then pm_X ol orc n k' 0 (lv_args 0 as) [] h else orc k' as h) with
        | none => none
        | some (v, h') => pm_X ol orc n k (pc + len) (pm_lv (pm_liv k pc) lo) (v.toList ++ rest) h'
theorem pm_X_mono (ol : pm_O) (orc : pm_Q) : ∀ (n k pc : Nat) (lo : pm_L) (st : List Value) (h : pm_H) (r : Option Value × pm_H), pm_X ol orc n k pc lo st h = some r → pm_X ol orc (n + 1) k pc lo st h = some r := by
  intro n
  induction n with
  | zero => intro k pc lo st h r hr; cases hr
  | succ n ih =>
    intro k pc lo st h r hr
    rw [pm_X] at hr ⊢
    cases hi : pm_ins k pc with
    | none => rw [hi] at hr; cases hr
    | some x =>
      obtain ⟨i, len, q⟩ := x
      rw [hi] at hr
      dsimp only at hr ⊢
      cases ho : pm_one ol i len pc (pm_lv (pm_liv k pc) lo) st h with
      | none => rw [ho] at hr; cases hr
      | some y =>
        rw [ho] at hr
        rcases y with ⟨pc', lo', st', h'⟩ | v | ⟨k', as, rest⟩
        · exact ih _ _ _ _ _ _ hr
        · exact hr
        · dsimp only at hr ⊢
          by_cases hk : k' < 500
          · simp only [if_pos hk] at hr ⊢
            cases hc : pm_X ol orc n k' 0 (lv_args 0 as) [] h with
            | none => rw [hc] at hr; cases hr
            | some z =>
              rw [hc] at hr
              rw [ih _ _ _ _ _ _ hc]
              exact ih _ _ _ _ _ _ hr
          · simp only [if_neg hk] at hr ⊢
            cases hc : orc k' as h with
            | none => rw [hc] at hr; cases hr
            | some z =>
              rw [hc] at hr
              exact ih _ _ _ _ _ _ hr
theorem pm_X_le (ol : pm_O) (orc : pm_Q) {n m k pc : Nat} {lo : pm_L} {st : List Value} {h : pm_H} {r : Option Value × pm_H} (hnm : n ≤ m) (hr : pm_X ol orc n k pc lo st h = some r) : pm_X ol orc m k pc lo st h = some r := by
  induction hnm with
  | refl => exact hr
  | step _ ih => exact pm_X_mono _ _ _ _ _ _ _ _ _ ih
