/-! what the pure code has to do with the bytes and the tables' words: checked by the kernel -/
def pm_wd (pos : Nat) (w : Jvm.Cond) : Bool := decide (lw_tbl[pos]? = some w)
noncomputable def pm_okf (k idx x pos : Nat) : Bool := match vwCl[x / 64]? with
  | some (_, T, N) => decide (x % 64 < N) && pm_wd pos (.fieldLink (pm_y k).cls idx (T (x % 64)).1 (T (x % 64)).2.1 (T (x % 64)).2.2.1)
  | none => false
/-- a field that may be written here: not final, or in its class's own constructor -/
noncomputable def pm_okw (k x : Nat) (f : FieldType → Bool) : Bool := match vwCl[x / 64]? with
  | some (_, T, _) => (match parseFieldDescriptor (T (x % 64)).2.2.1 with
    | some ty => f ty
    | none => false) && (decide ((T (x % 64)).2.2.2 = false) || (decide ((pm_y k).name = "<init>") && decide ((T (x % 64)).1 = (pm_y k).cls)))
  | none => false
def pm_refT : FieldType → Bool
  | .object _ => true
  | .array _ => true
  | _ => false
noncomputable def pm_okc (k idx pos k' n kind ci : Nat) : Bool := decide (k' < 168) && pm_wd pos (.methodLink (pm_y k).cls idx (pm_y k')) && decide ((pm_mi k').1 = kind) && decide ((pm_mi k').2.2.1 = ci) && decide (n = (pm_mi k').2.1 + (if kind = 1 then 0 else 1)) && decide (pm_rf k' + 1 ≤ pm_rf k) && decide (8 + (pm_mL k' + 11) + pm_rl k' ≤ pm_rl k)
def pm_plain : Instr → Bool
  | .iadd | .isub | .imul | .iand | .irem | .ineg | .i2l | .l2i | .i2b | .land | .lor | .lshl | .lshr | .lushr | .lcmp | .dup | .dup2 | .pop | .iaload | .baload | .laload | .aaload | .iastore | .bastore | .lastore | .aastore | .arraylength => true
  | _ => false
noncomputable def pm_okJ (k pc : Nat) (i pi : Instr) (len pos : Nat) : Bool := match i with
  | .getfield idx => match pi with
    | .getfield x => decide (len = 3) && pm_okf k idx x pos
    | _ => false
  | .putfield idx => match pi with
    | .putfield x => decide (len = 3) && pm_okf k idx x pos && pm_okw k x (fun t => decide (t = .int))
    | .putstatic x => decide (len = 3) && pm_okf k idx x pos && pm_okw k x (fun t => decide (t = .boolean))
    | .checkcast x => decide (len = 3) && pm_okf k idx x pos && pm_okw k x pm_refT
    | _ => false
  | .getstatic idx => match pi with
    | .getstatic a => decide (len = 3) && ((decide (a = 1001) && pm_wd pos (.fieldLink (pm_y k).cls idx RX2 "X_BOUNDS" "[I")) || (decide (a = 1002) && pm_wd pos (.fieldLink (pm_y k).cls idx RX7 "GIVEN" "[I")))
    | _ => false
  | .new idx => match pi with
    | .new ci => match vwCl[ci]? with
      | some (C, _, _) => decide (len = 3) && pm_wd pos (.classLink (pm_y k).cls idx C)
      | none => false
    | .nop => true
    | _ => false
  | .newarray t => decide (pi = .newarray t) && decide (len = 2)
  | .anewarray idx => decide (pi = .anewarray 0) && decide (len = 3) && pm_wd pos (.classLink (pm_y k).cls idx RX4)
  | .invokespecial idx => match pi with
    | .invokespecial _ => decide (len = 3) && pm_wd pos (.methodLink (pm_y k).cls idx objectInit) && decide (1 ≤ pm_rf k) && decide (20 ≤ pm_rl k)
    | .invokeinterface x n => decide (len = 3) && pm_okc k idx pos (x % 1000) n 2 (x / 1000)
    | .nop => true
    | _ => false
  | .invokevirtual idx => match pi with
    | .invokeinterface x n => decide (len = 3) && pm_okc k idx pos (x % 1000) n 0 (x / 1000)
    | _ => false
  | .invokestatic idx => match pi with
    | .multianewarray k' n => decide (len = 3) && (decide (500 ≤ k' ∧ k = 168) || pm_okc k idx pos k' n 1 (pm_mi k').2.2.1)
    | .invokedynamic _ => decide (len = 3) && pm_wd pos (.methodLink (pm_y k).cls idx arraycopyName) && decide (1 ≤ pm_rf k) && decide (26 ≤ pm_rl k)
    | .dadd => decide (len = 3) && pm_wd pos (.methodLink (pm_y k).cls idx Lib.Math.max.name) && decide (1 ≤ pm_rf k) && decide (21 ≤ pm_rl k)
    | .dsub => decide (len = 3) && pm_wd pos (.methodLink (pm_y k).cls idx Lib.Math.min.name) && decide (1 ≤ pm_rf k) && decide (21 ≤ pm_rl k)
    | .dneg => decide (len = 3) && pm_wd pos (.methodLink (pm_y k).cls idx Lib.Math.abs.name) && decide (1 ≤ pm_rf k) && decide (21 ≤ pm_rl k)
    | _ => false
  | .ireturn => ((decide (pi = .ireturn) && decide (pm_rt k = some .int)) || (decide (pi = .freturn) && decide (pm_rt k = some .boolean))) && decide (len = 1)
  | .areturn => decide (pi = .areturn) && decide (len = 1) && (match pm_rt k with
    | some (.object _) => true
    | _ => false)
  | .return_ => decide (pi = .return_) && decide (len = 1) && decide (pm_rt k = none)
  | .ldc idx => match pi with
    | .iconst v => decide (len = 2) && pm_wd pos (.constant (pm_y k).cls idx (Int32.ofInt v))
    | .nop => true
    | _ => false
  | .ldc2_w idx => match pi with
    | .ldc2_w v => decide (len = 3) && pm_wd pos (.constantLong (pm_y k).cls idx (Int64.ofNat v))
    | _ => false
  | .iconst v => decide (pi = .iconst v) && decide (len = 1)
  | .bipush v => decide (pi = .iconst v) && decide (len = 2) && decide ((Int8.ofInt v).toInt32 = Int32.ofInt v)
  | .sipush v => decide (pi = .iconst v) && decide (len = 3) && decide ((Int16.ofInt v).toInt32 = Int32.ofInt v)
  | .iload_n n => decide (pi = .iload n) && decide (len = 1)
  | .iload n => decide (pi = .iload n) && decide (len = 2)
  | .aload_n n => decide (pi = .aload n) && decide (len = 1)
  | .aload n => decide (pi = .aload n) && decide (len = 2)
  | .lload_n n => decide (pi = .lload n) && decide (len = 1)
  | .istore_n n => decide (pi = .istore n) && decide (len = 1) && decide ((n : Nat) < pm_mL k)
  | .istore n => decide (pi = .istore n) && decide (len = 2) && decide (n < pm_mL k)
  | .astore_n n => decide (pi = .astore n) && decide (len = 1) && decide ((n : Nat) < pm_mL k)
  | .astore n => decide (pi = .astore n) && decide (len = 2) && decide (n < pm_mL k)
  | .iinc n z => decide (pi = .iinc n z) && decide (len = 3) && decide (n < pm_mL k)
  | .goto o => decide (pi = .goto (pc + o)) && decide (len = 3) && decide (0 ≤ (pc : Int) + o)
  | .ifCond c o => decide (pi = .ifCond c (pc + o)) && decide (len = 3) && decide (0 ≤ (pc : Int) + o)
  | .if_icmp c o => decide (pi = .if_icmp c (pc + o)) && decide (len = 3) && decide (0 ≤ (pc : Int) + o)
  | .tableswitch d lo hi offs => decide (pi = .tableswitch (pc + d) lo hi (offs.map (fun o => (pc : Int) + o))) && decide (0 ≤ (pc : Int) + d) && offs.toList.all (fun o => decide (0 ≤ (pc : Int) + o))
  | .lookupswitch d ps => decide (pi = .lookupswitch (pc + d) (ps.map (fun q => (q.1, (pc : Int) + q.2)))) && decide (0 ≤ (pc : Int) + d) && ps.toList.all (fun q => decide (0 ≤ (pc : Int) + q.2)) && (ps.toList.zip (ps.toList.drop 1)).all (fun (a, next) => a.1 < next.1)
  | .athrow => decide (pi = .nop)
  | i => pm_plain i && decide (pi = i) && decide (len = 1)
noncomputable def pm_okI (k pc : Nat) (e : pm_I) : Bool := match decode (pm_b k) pc with
  | .ok (i, len) => decide (len = e.2.1) && pm_okJ k pc i e.1 e.2.1 e.2.2
  | _ => false
noncomputable def pm_okk (k : Nat) : Bool := (pm_cds.getD k []).zipIdx.all (fun q => match q.1 with
  | some e => pm_okI k q.2 e
  | none => true)
theorem pm_okk_spec {k pc : Nat} {e : pm_I} (h : pm_okk k = true) (hi : pm_ins k pc = some e) : pm_okI k pc e = true := by
  unfold pm_ins at hi
  split at hi
  · rename_i x hx
    cases hi
    unfold pm_okk at h
    have h1 := List.all_eq_true.mp h (some e, pc) (by
      rw [List.mem_zipIdx_iff_getElem?]
      exact hx)
    exact h1
  · cases hi
theorem pm_okr_0 : ((List.range' 0 12).all pm_okk) = true := by decide +kernel
theorem pm_okr_12 : ((List.range' 12 12).all pm_okk) = true := by decide +kernel
theorem pm_okr_24 : ((List.range' 24 12).all pm_okk) = true := by decide +kernel
theorem pm_okr_36 : ((List.range' 36 12).all pm_okk) = true := by decide +kernel
theorem pm_okr_48 : ((List.range' 48 12).all pm_okk) = true := by decide +kernel
theorem pm_okr_60 : ((List.range' 60 12).all pm_okk) = true := by decide +kernel
theorem pm_okr_72 : ((List.range' 72 12).all pm_okk) = true := by decide +kernel
theorem pm_okr_84 : ((List.range' 84 12).all pm_okk) = true := by decide +kernel
theorem pm_okr_96 : ((List.range' 96 12).all pm_okk) = true := by decide +kernel
theorem pm_okr_108 : ((List.range' 108 12).all pm_okk) = true := by decide +kernel
theorem pm_okr_120 : ((List.range' 120 12).all pm_okk) = true := by decide +kernel
theorem pm_okr_132 : ((List.range' 132 12).all pm_okk) = true := by decide +kernel
theorem pm_okr_144 : ((List.range' 144 12).all pm_okk) = true := by decide +kernel
theorem pm_okr_156 : ((List.range' 156 12).all pm_okk) = true := by decide +kernel
theorem pm_okr_168 : ((List.range' 168 1).all pm_okk) = true := by decide +kernel
