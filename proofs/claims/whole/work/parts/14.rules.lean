/-! RULES of the pure machine as equations -/
theorem pm_lg_lv {lo : pm_L} : ∀ (L : List Nat) (j : Nat), j ∈ L → pm_lg (pm_lv L lo) j = pm_lg lo j := by
  intro L
  induction L with
  | nil => intro j h; cases h
  | cons i r ih =>
    intro j hj
    unfold pm_lv
    by_cases hij : i = j
    · subst hij
      split
      · rename_i v hv
        rw [hv]
        show (if i = i then some v else _) = some v
        rw [if_pos rfl]
      · rename_i hv
        rw [hv]
        cases hx : pm_lg (pm_lv r lo) i with
        | none => rfl
        | some w => rw [pm_lv_mem (pm_lg_mem hx)] at hv; cases hv
    · have hr : j ∈ r := by
        rcases List.mem_cons.mp hj with h | h
        · exact absurd h.symm hij
        · exact h
      split
      · rename_i v hv
        show (if i = j then some v else pm_lg (pm_lv r lo) j) = _
        rw [if_neg hij]
        exact ih j hr
      · exact ih j hr
theorem pm_lv_lv {lo : pm_L} (L : List Nat) : ∀ r : List Nat, (∀ j ∈ r, j ∈ L) → pm_lv r (pm_lv L lo) = pm_lv r lo := by
  intro r
  induction r with
  | nil => intro _; rfl
  | cons j r ih =>
    intro h
    have e := pm_lg_lv (lo := lo) L j (h j List.mem_cons_self)
    have e2 := ih (fun i hi => h i (List.mem_cons_of_mem _ hi))
    show (match pm_lg (pm_lv L lo) j with
      | some v => (j, v) :: pm_lv r (pm_lv L lo)
      | none => pm_lv r (pm_lv L lo)) = _
    rw [e, e2]
    rfl
section RUL
variable {ol : pm_O} {orc : pm_Q} {k pc : Nat} {lo : pm_L} {st : List Value} {h : pm_H}
theorem pm_F_live {lo1 : pm_L} (hl : pm_lv (pm_liv k pc) lo = lo1) : pm_F ol orc k pc lo st h = pm_F ol orc k pc lo1 st h := by
  subst hl
  have key : ∀ n, pm_X ol orc n k pc (pm_lv (pm_liv k pc) lo) st h = pm_X ol orc n k pc lo st h := by
    intro n
    cases n with
    | zero => rfl
    | succ n => rw [pm_X, pm_X, pm_lv_lv _ _ (fun _ h => h)]
  exact pm_F_ext (fun r n hn => ⟨n, by rw [key]; exact hn⟩) (fun r n hn => ⟨n, by rw [← key]; exact hn⟩)
theorem pm_F_nx {i : Instr} {len q pc' : Nat} {lo1 lo2 lo3 : pm_L} {st' : List Value} {h' : pm_H} (hi : pm_ins k pc = some (i, len, q)) (hl : pm_lv (pm_liv k pc) lo = lo1) (ho : pm_one ol i len pc lo1 st h = some (.inl (pc', lo2, st', h'))) (h2 : pm_lv (pm_liv k pc') lo2 = lo3) : pm_F ol orc k pc lo st h = pm_F ol orc k pc' lo3 st' h' := by
  rw [pm_F_unf hi hl, ho]
  exact pm_F_live h2
theorem pm_F_rt {i : Instr} {len q : Nat} {lo1 : pm_L} {v : Option Value} (hi : pm_ins k pc = some (i, len, q)) (hl : pm_lv (pm_liv k pc) lo = lo1) (ho : pm_one ol i len pc lo1 st h = some (.inr (.inl v))) : pm_F ol orc k pc lo st h = some (v, h) := by
  rw [pm_F_unf hi hl, ho]
  rfl
theorem pm_F_zr {len q : Nat} {lo1 : pm_L} {x : Int32} (hi : pm_ins k pc = some (.freturn, len, q)) (hl : pm_lv (pm_liv k pc) lo = lo1) : pm_F ol orc k pc lo [.int x] h = if x = 0 ∨ x = 1 then some (some (.int x), h) else none := by
  rw [pm_F_unf hi hl]
  show pm_S ol orc k (pc + len) lo1 h (if x = 0 ∨ x = 1 then some (.inr (.inl (some (.int x)))) else none) = _
  split <;> rfl
theorem pm_F_i1 {cc : ClassFile.Cond} {t : Int} {len q : Nat} {x : Int32} {lo1 lo2 lo3 : pm_L} {c : Prop} [Decidable c] (hi : pm_ins k pc = some (.ifCond cc t, len, q)) (hl : pm_lv (pm_liv k pc) lo = lo1) (hc : pm_b1 cc x = decide c) (h2 : pm_lv (pm_liv k t.toNat) lo1 = lo2) (h3 : pm_lv (pm_liv k (pc + len)) lo1 = lo3) : pm_F ol orc k pc lo (.int x :: st) h = if c then pm_F ol orc k t.toNat lo2 st h else pm_F ol orc k (pc + len) lo3 st h := by
  rw [pm_F_unf hi hl]
  show pm_S ol orc k (pc + len) lo1 h (if pm_b1 cc x = true then pm_jmp t lo1 st h else pm_nx (pc + len) lo1 st h) = _
  rw [hc]
  by_cases g : c
  · rw [if_pos g, if_pos (decide_eq_true g)]; exact pm_F_live h2
  · rw [if_neg g, if_neg (fun z => g (of_decide_eq_true z))]; exact pm_F_live h3
theorem pm_F_i2 {cc : ClassFile.Cond} {t : Int} {len q : Nat} {x y : Int32} {lo1 lo2 lo3 : pm_L} {c : Prop} [Decidable c] (hi : pm_ins k pc = some (.if_icmp cc t, len, q)) (hl : pm_lv (pm_liv k pc) lo = lo1) (hc : pm_b2 cc x y = decide c) (h2 : pm_lv (pm_liv k t.toNat) lo1 = lo2) (h3 : pm_lv (pm_liv k (pc + len)) lo1 = lo3) : pm_F ol orc k pc lo (.int y :: .int x :: st) h = if c then pm_F ol orc k t.toNat lo2 st h else pm_F ol orc k (pc + len) lo3 st h := by
  rw [pm_F_unf hi hl]
  show pm_S ol orc k (pc + len) lo1 h (if pm_b2 cc x y = true then pm_jmp t lo1 st h else pm_nx (pc + len) lo1 st h) = _
  rw [hc]
  by_cases g : c
  · rw [if_pos g, if_pos (decide_eq_true g)]; exact pm_F_live h2
  · rw [if_neg g, if_neg (fun z => g (of_decide_eq_true z))]; exact pm_F_live h3
/-- the value is pushed, if there is one -/
noncomputable def pm_Pv (ol : pm_O) (orc : pm_Q) (k pc : Nat) (lo : pm_L) (st : List Value) (h : pm_H) (r : Option Value) : Option (Option Value × pm_H) := match r with
  | some v => pm_F ol orc k pc lo (v :: st) h
  | none => none
/-- the heap becomes another, if there is one -/
noncomputable def pm_Ph (ol : pm_O) (orc : pm_Q) (k pc : Nat) (lo : pm_L) (st : List Value) (r : Option pm_H) : Option (Option Value × pm_H) := match r with
  | some h => pm_F ol orc k pc lo st h
  | none => none
noncomputable def pm_Pt (ol : pm_O) (orc : pm_Q) (k : Nat) (lo : pm_L) (st : List Value) (h : pm_H) (r : Option Int) : Option (Option Value × pm_H) := match r with
  | some t => pm_F ol orc k t.toNat lo st h
  | none => none
theorem pm_Pv_some (v : Value) : pm_Pv ol orc k pc lo st h (some v) = pm_F ol orc k pc lo (v :: st) h := rfl
theorem pm_Ph_some : pm_Ph ol orc k pc lo st (some h) = pm_F ol orc k pc lo st h := rfl
theorem pm_Pt_some (t : Int) : pm_Pt ol orc k lo st h (some t) = pm_F ol orc k t.toNat lo st h := rfl
def pm_fd (h : pm_H) (a ci j : Nat) : Option Value := match pm_go h a with
  | some (c, fs) => if c = ci then fs[j]? else none
  | none => none
def pm_fs (h : pm_H) (a ci j : Nat) (v : Value) : Option pm_H := match pm_go h a with
  | some (c, fs) => if c = ci ∧ j < fs.length then some (h.set a (.inr (c, fs.set j v))) else none
  | none => none
def pm_ai (ol : pm_O) (h : pm_H) (a : Nat) (j : Int32) : Option Value := match pm_ia ol h a with
  | some (n, f) => if ¬ (j < 0 ∨ n ≤ j.toNatClampNeg) then some (.int (f j.toNatClampNeg)) else none
  | none => none
def pm_az (h : pm_H) (a : Nat) (j : Int32) : Option Value := match pm_gi h 1 a with
  | some (n, f) => if ¬ (j < 0 ∨ n ≤ j.toNatClampNeg) then some (.int (f j.toNatClampNeg)) else none
  | none => none
def pm_aj (h : pm_H) (a : Nat) (j : Int32) : Option Value := match pm_gl h a with
  | some (n, f) => if ¬ (j < 0 ∨ n ≤ j.toNatClampNeg) then some (.long (f j.toNatClampNeg)) else none
  | none => none
def pm_aq (h : pm_H) (a : Nat) (j : Int32) : Option Value := match pm_gq h a with
  | some (n, f) => if ¬ (j < 0 ∨ n ≤ j.toNatClampNeg) then some (va_rf (f j.toNatClampNeg)) else none
  | none => none
def pm_si (h : pm_H) (a : Nat) (j x : Int32) : Option pm_H := match pm_gi h 0 a with
  | some (n, f) => if ¬ (j < 0 ∨ n ≤ j.toNatClampNeg) then some (h.set a (.inl (0, n, .inl (upd f j.toNatClampNeg x)))) else none
  | none => none
def pm_sb (h : pm_H) (a : Nat) (j x : Int32) : Option pm_H := match pm_gi h 1 a with
  | some (n, f) => if ¬ (j < 0 ∨ n ≤ j.toNatClampNeg) then some (h.set a (.inl (1, n, .inl (upd f j.toNatClampNeg (vp_nar .boolean x))))) else none
  | none => none
def pm_sj (h : pm_H) (a : Nat) (j : Int32) (x : Int64) : Option pm_H := match pm_gl h a with
  | some (n, f) => if ¬ (j < 0 ∨ n ≤ j.toNatClampNeg) then some (h.set a (.inl (2, n, .inr (.inl (vp_updL f j.toNatClampNeg x))))) else none
  | none => none
def pm_ln (ol : pm_O) (h : pm_H) (a : Nat) : Option Value := (pm_len ol h a).map (fun n => .int (Int32.ofNat n))
def pm_cp (h : pm_H) (a0 : Nat) (sp : Int32) (a : Nat) (dp n : Int32) : Option pm_H := match pm_gi h 0 a0 with
  | some (n0, f) => match pm_gi h 0 a with
    | some (n1, g) => if (¬ sp < 0 ∧ ¬ dp < 0 ∧ ¬ n < 0) ∧ sp.toNatClampNeg + n.toNatClampNeg ≤ n0 ∧ dp.toNatClampNeg + n.toNatClampNeg ≤ n1 then some (h.set a (.inl (0, n1, .inl (va_cpy f g sp.toNatClampNeg dp.toNatClampNeg n.toNatClampNeg)))) else none
    | none => none
  | none => none
variable {len q : Nat} {lo1 lo2 : pm_L}
theorem pm_F_gf {x a : Nat} (hi : pm_ins k pc = some (.getfield x, len, q)) (hl : pm_lv (pm_liv k pc) lo = lo1) (h2 : pm_lv (pm_liv k (pc + len)) lo1 = lo2) : pm_F ol orc k pc lo (.ref a :: st) h = pm_Pv ol orc k (pc + len) lo2 st h (pm_fd h a (x / 64) (x % 64)) := by
  rw [pm_F_unf hi hl]
  simp only [pm_one]
  unfold pm_fd
  cases pm_go h a with
  | none => rfl
  | some o =>
    obtain ⟨c, fs⟩ := o
    dsimp only
    by_cases g : c = x / 64
    · rw [if_pos g, if_pos g]
      cases fs[x % 64]? with
      | none => rfl
      | some v => exact pm_F_live h2
    · rw [if_neg g, if_neg g]; rfl
theorem pm_F_pf {x a : Nat} {v : Int32} (hi : pm_ins k pc = some (.putfield x, len, q)) (hl : pm_lv (pm_liv k pc) lo = lo1) (h2 : pm_lv (pm_liv k (pc + len)) lo1 = lo2) : pm_F ol orc k pc lo (.int v :: .ref a :: st) h = pm_Ph ol orc k (pc + len) lo2 st (pm_fs h a (x / 64) (x % 64) (.int v)) := by
  rw [pm_F_unf hi hl]
  simp only [pm_one]
  unfold pm_fs
  cases pm_go h a with
  | none => rfl
  | some o =>
    obtain ⟨c, fs⟩ := o
    dsimp only
    by_cases g : c = x / 64 ∧ x % 64 < fs.length
    · rw [if_pos g, if_pos g]; exact pm_F_live h2
    · rw [if_neg g, if_neg g]; rfl
theorem pm_F_pb {x a : Nat} {v : Int32} (hi : pm_ins k pc = some (.putstatic x, len, q)) (hl : pm_lv (pm_liv k pc) lo = lo1) (h2 : pm_lv (pm_liv k (pc + len)) lo1 = lo2) : pm_F ol orc k pc lo (.int v :: .ref a :: st) h = if v = 0 ∨ v = 1 then pm_Ph ol orc k (pc + len) lo2 st (pm_fs h a (x / 64) (x % 64) (.int v)) else none := by
  rw [pm_F_unf hi hl]
  simp only [pm_one]
  unfold pm_fs
  cases pm_go h a with
  | none => by_cases g2 : v = 0 ∨ v = 1
            · rw [if_pos g2]; rfl
            · rw [if_neg g2]; rfl
  | some o =>
    obtain ⟨c, fs⟩ := o
    dsimp only
    by_cases g : c = x / 64 ∧ x % 64 < fs.length
    · by_cases g2 : v = 0 ∨ v = 1
      · rw [if_pos ⟨g.1, g.2, g2⟩, if_pos g2, if_pos g]; exact pm_F_live h2
      · rw [if_neg (fun z => g2 z.2.2), if_neg g2]; rfl
    · rw [if_neg (fun z => g ⟨z.1, z.2.1⟩), if_neg g]
      split <;> rfl
theorem pm_F_ia {a : Nat} {j : Int32} (hi : pm_ins k pc = some (.iaload, len, q)) (hl : pm_lv (pm_liv k pc) lo = lo1) (h2 : pm_lv (pm_liv k (pc + len)) lo1 = lo2) : pm_F ol orc k pc lo (.int j :: .ref a :: st) h = pm_Pv ol orc k (pc + len) lo2 st h (pm_ai ol h a j) := by
  rw [pm_F_unf hi hl]
  simp only [pm_one]
  unfold pm_ai
  cases pm_ia ol h a with
  | none => rfl
  | some o =>
    obtain ⟨n, f⟩ := o
    dsimp only
    by_cases g : ¬ (j < 0 ∨ n ≤ j.toNatClampNeg)
    · rw [if_pos g, if_pos g]; exact pm_F_live h2
    · rw [if_neg g, if_neg g]; rfl
theorem pm_F_za {a : Nat} {j : Int32} (hi : pm_ins k pc = some (.baload, len, q)) (hl : pm_lv (pm_liv k pc) lo = lo1) (h2 : pm_lv (pm_liv k (pc + len)) lo1 = lo2) : pm_F ol orc k pc lo (.int j :: .ref a :: st) h = pm_Pv ol orc k (pc + len) lo2 st h (pm_az h a j) := by
  rw [pm_F_unf hi hl]
  simp only [pm_one]
  unfold pm_az
  cases pm_gi h 1 a with
  | none => rfl
  | some o =>
    obtain ⟨n, f⟩ := o
    dsimp only
    by_cases g : ¬ (j < 0 ∨ n ≤ j.toNatClampNeg)
    · rw [if_pos g, if_pos g]; exact pm_F_live h2
    · rw [if_neg g, if_neg g]; rfl
theorem pm_F_ja {a : Nat} {j : Int32} (hi : pm_ins k pc = some (.laload, len, q)) (hl : pm_lv (pm_liv k pc) lo = lo1) (h2 : pm_lv (pm_liv k (pc + len)) lo1 = lo2) : pm_F ol orc k pc lo (.int j :: .ref a :: st) h = pm_Pv ol orc k (pc + len) lo2 st h (pm_aj h a j) := by
  rw [pm_F_unf hi hl]
  simp only [pm_one]
  unfold pm_aj
  cases pm_gl h a with
  | none => rfl
  | some o =>
    obtain ⟨n, f⟩ := o
    dsimp only
    by_cases g : ¬ (j < 0 ∨ n ≤ j.toNatClampNeg)
    · rw [if_pos g, if_pos g]; exact pm_F_live h2
    · rw [if_neg g, if_neg g]; rfl
theorem pm_F_qa {a : Nat} {j : Int32} (hi : pm_ins k pc = some (.aaload, len, q)) (hl : pm_lv (pm_liv k pc) lo = lo1) (h2 : pm_lv (pm_liv k (pc + len)) lo1 = lo2) : pm_F ol orc k pc lo (.int j :: .ref a :: st) h = pm_Pv ol orc k (pc + len) lo2 st h (pm_aq h a j) := by
  rw [pm_F_unf hi hl]
  simp only [pm_one]
  unfold pm_aq
  cases pm_gq h a with
  | none => rfl
  | some o =>
    obtain ⟨n, f⟩ := o
    dsimp only
    by_cases g : ¬ (j < 0 ∨ n ≤ j.toNatClampNeg)
    · rw [if_pos g, if_pos g]; exact pm_F_live h2
    · rw [if_neg g, if_neg g]; rfl
theorem pm_F_is {a : Nat} {j x : Int32} (hi : pm_ins k pc = some (.iastore, len, q)) (hl : pm_lv (pm_liv k pc) lo = lo1) (h2 : pm_lv (pm_liv k (pc + len)) lo1 = lo2) : pm_F ol orc k pc lo (.int x :: .int j :: .ref a :: st) h = pm_Ph ol orc k (pc + len) lo2 st (pm_si h a j x) := by
  rw [pm_F_unf hi hl]
  simp only [pm_one]
  unfold pm_si
  cases pm_gi h 0 a with
  | none => rfl
  | some o =>
    obtain ⟨n, f⟩ := o
    dsimp only
    by_cases g : ¬ (j < 0 ∨ n ≤ j.toNatClampNeg)
    · rw [if_pos g, if_pos g]; exact pm_F_live h2
    · rw [if_neg g, if_neg g]; rfl
theorem pm_F_zs {a : Nat} {j x : Int32} (hi : pm_ins k pc = some (.bastore, len, q)) (hl : pm_lv (pm_liv k pc) lo = lo1) (h2 : pm_lv (pm_liv k (pc + len)) lo1 = lo2) : pm_F ol orc k pc lo (.int x :: .int j :: .ref a :: st) h = pm_Ph ol orc k (pc + len) lo2 st (pm_sb h a j x) := by
  rw [pm_F_unf hi hl]
  simp only [pm_one]
  unfold pm_sb
  cases pm_gi h 1 a with
  | none => rfl
  | some o =>
    obtain ⟨n, f⟩ := o
    dsimp only
    by_cases g : ¬ (j < 0 ∨ n ≤ j.toNatClampNeg)
    · rw [if_pos g, if_pos g]; exact pm_F_live h2
    · rw [if_neg g, if_neg g]; rfl
theorem pm_F_js {a : Nat} {j : Int32} {x : Int64} (hi : pm_ins k pc = some (.lastore, len, q)) (hl : pm_lv (pm_liv k pc) lo = lo1) (h2 : pm_lv (pm_liv k (pc + len)) lo1 = lo2) : pm_F ol orc k pc lo (.long x :: .int j :: .ref a :: st) h = pm_Ph ol orc k (pc + len) lo2 st (pm_sj h a j x) := by
  rw [pm_F_unf hi hl]
  simp only [pm_one]
  unfold pm_sj
  cases pm_gl h a with
  | none => rfl
  | some o =>
    obtain ⟨n, f⟩ := o
    dsimp only
    by_cases g : ¬ (j < 0 ∨ n ≤ j.toNatClampNeg)
    · rw [if_pos g, if_pos g]; exact pm_F_live h2
    · rw [if_neg g, if_neg g]; rfl
theorem pm_F_ln {a : Nat} (hi : pm_ins k pc = some (.arraylength, len, q)) (hl : pm_lv (pm_liv k pc) lo = lo1) (h2 : pm_lv (pm_liv k (pc + len)) lo1 = lo2) : pm_F ol orc k pc lo (.ref a :: st) h = pm_Pv ol orc k (pc + len) lo2 st h (pm_ln ol h a) := by
  rw [pm_F_unf hi hl]
  simp only [pm_one]
  unfold pm_ln
  cases pm_len ol h a with
  | none => rfl
  | some n => exact pm_F_live h2
theorem pm_F_cp {z a0 a : Nat} {sp dp n : Int32} (hi : pm_ins k pc = some (.invokedynamic z, len, q)) (hl : pm_lv (pm_liv k pc) lo = lo1) (hc : pm_cat st ≤ 8) (h2 : pm_lv (pm_liv k (pc + len)) lo1 = lo2) : pm_F ol orc k pc lo (.int n :: .int dp :: .ref a :: .int sp :: .ref a0 :: st) h = pm_Ph ol orc k (pc + len) lo2 st (pm_cp h a0 sp a dp n) := by
  rw [pm_F_unf hi hl]
  simp only [pm_one]
  unfold pm_cp
  cases pm_gi h 0 a0 with
  | none => rfl
  | some o =>
    obtain ⟨n0, f⟩ := o
    dsimp only
    cases pm_gi h 0 a with
    | none => rfl
    | some o2 =>
      obtain ⟨n1, f1⟩ := o2
      dsimp only
      by_cases g : (¬ sp < 0 ∧ ¬ dp < 0 ∧ ¬ n < 0) ∧ sp.toNatClampNeg + n.toNatClampNeg ≤ n0 ∧ dp.toNatClampNeg + n.toNatClampNeg ≤ n1
      · rw [if_pos ⟨g.1, g.2.1, g.2.2, hc⟩, if_pos g]; exact pm_F_live h2
      · rw [if_neg (fun z => g ⟨z.1, z.2.1, z.2.2.1⟩), if_neg g]; rfl
theorem pm_B_live {pc' : Nat} {rest : List Value} {r : Option (Option Value × pm_H)} (h2 : pm_lv (pm_liv k pc') lo1 = lo2) : pm_B ol orc k pc' lo1 rest r = pm_B ol orc k pc' lo2 rest r := by
  cases r with
  | none => rfl
  | some z =>
    obtain ⟨v, h⟩ := z
    exact pm_F_live h2
theorem pm_F_sc {k' n : Nat} {as rest : List Value} (hi : pm_ins k pc = some (.multianewarray k' n, len, q)) (hl : pm_lv (pm_liv k pc) lo = lo1) (hp : pm_pop n st [] = some (as, rest)) (hc : pm_cat rest ≤ 8 ∧ (500 ≤ k' ∨ pm_cat as ≤ pm_mL k')) (h2 : pm_lv (pm_liv k (pc + len)) lo1 = lo2) : pm_F ol orc k pc lo st h = pm_B ol orc k (pc + len) lo2 rest (pm_V ol orc k' as h) := by
  rw [pm_F_unf hi hl]
  simp only [pm_one, hp]
  rw [pm_S_call _ _ _ _ _ _ _ _ _ hc]
  exact pm_B_live h2
/-- an object of a class stands there -/
def pm_is (h : pm_H) (a ci : Nat) : Bool := match pm_go h a with
  | some (c, _) => decide (c = ci)
  | none => false
theorem pm_F_vc {x n b : Nat} {as rest : List Value} (hi : pm_ins k pc = some (.invokeinterface x n, len, q)) (hl : pm_lv (pm_liv k pc) lo = lo1) (hp : pm_pop n st [] = some (.ref b :: as, rest)) (hc : pm_cat rest ≤ 8 ∧ (500 ≤ x % 1000 ∨ pm_cat (.ref b :: as) ≤ pm_mL (x % 1000))) (h2 : pm_lv (pm_liv k (pc + len)) lo1 = lo2) : pm_F ol orc k pc lo st h = if pm_is h b (x / 1000) = true then pm_B ol orc k (pc + len) lo2 rest (pm_V ol orc (x % 1000) (.ref b :: as) h) else none := by
  rw [pm_F_unf hi hl]
  simp only [pm_one, hp]
  unfold pm_is
  cases pm_go h b with
  | none => rfl
  | some o =>
    obtain ⟨c, fs⟩ := o
    dsimp only
    by_cases g : c = x / 1000
    · rw [if_pos g, if_pos (decide_eq_true g), pm_S_call _ _ _ _ _ _ _ _ _ hc]
      exact pm_B_live h2
    · rw [if_neg g, if_neg (fun z => g (of_decide_eq_true z))]; rfl
theorem pm_F_ts {d a b : Int} {offs : Array Int} {x : Int32} (hi : pm_ins k pc = some (.tableswitch d a b offs, len, q)) (hl : pm_lv (pm_liv k pc) lo = lo1) : pm_F ol orc k pc lo (.int x :: st) h = pm_Pt ol orc k lo1 st h (pm_ts d a b offs x) := by
  rw [pm_F_unf hi hl]
  simp only [pm_one]
  cases pm_ts d a b offs x <;> rfl
theorem pm_F_ls {d : Int} {ps : Array (Int × Int)} {x : Int32} (hi : pm_ins k pc = some (.lookupswitch d ps, len, q)) (hl : pm_lv (pm_liv k pc) lo = lo1) : pm_F ol orc k pc lo (.int x :: st) h = pm_Pt ol orc k lo1 st h (some (Op.lookupswitch.offset ps.toList d x.toInt)) := by
  rw [pm_F_unf hi hl]
  rfl
variable {pn : Nat}
theorem r_i1 {cc : ClassFile.Cond} {t : Int} {tn : Nat} {x : Int32} {lo3 : pm_L} {c : Prop} [Decidable c] (hi : pm_ins k pc = some (.ifCond cc t, len, q)) (ht : t.toNat = tn) (hp : pc + len = pn) (hl : pm_lv (pm_liv k pc) lo = lo1) (hc : pm_b1 cc x = decide c) (h2 : pm_lv (pm_liv k tn) lo1 = lo2) (h3 : pm_lv (pm_liv k pn) lo1 = lo3) : pm_F ol orc k pc lo (.int x :: st) h = if c then pm_F ol orc k tn lo2 st h else pm_F ol orc k pn lo3 st h := by
  subst ht; subst hp; exact pm_F_i1 hi hl hc h2 h3
theorem r_i2 {cc : ClassFile.Cond} {t : Int} {tn : Nat} {x y : Int32} {lo3 : pm_L} {c : Prop} [Decidable c] (hi : pm_ins k pc = some (.if_icmp cc t, len, q)) (ht : t.toNat = tn) (hp : pc + len = pn) (hl : pm_lv (pm_liv k pc) lo = lo1) (hc : pm_b2 cc x y = decide c) (h2 : pm_lv (pm_liv k tn) lo1 = lo2) (h3 : pm_lv (pm_liv k pn) lo1 = lo3) : pm_F ol orc k pc lo (.int y :: .int x :: st) h = if c then pm_F ol orc k tn lo2 st h else pm_F ol orc k pn lo3 st h := by
  subst ht; subst hp; exact pm_F_i2 hi hl hc h2 h3
theorem r_gf {x a ci j : Nat} (hi : pm_ins k pc = some (.getfield x, len, q)) (hp : pc + len = pn) (h64 : x / 64 = ci) (hm : x % 64 = j) (hl : pm_lv (pm_liv k pc) lo = lo1) (h2 : pm_lv (pm_liv k pn) lo1 = lo2) : pm_F ol orc k pc lo (.ref a :: st) h = pm_Pv ol orc k pn lo2 st h (pm_fd h a ci j) := by
  subst hp; subst h64; subst hm; exact pm_F_gf hi hl h2
theorem r_pf {x a ci j : Nat} {v : Int32} (hi : pm_ins k pc = some (.putfield x, len, q)) (hp : pc + len = pn) (h64 : x / 64 = ci) (hm : x % 64 = j) (hl : pm_lv (pm_liv k pc) lo = lo1) (h2 : pm_lv (pm_liv k pn) lo1 = lo2) : pm_F ol orc k pc lo (.int v :: .ref a :: st) h = pm_Ph ol orc k pn lo2 st (pm_fs h a ci j (.int v)) := by
  subst hp; subst h64; subst hm; exact pm_F_pf hi hl h2
theorem r_pb {x a ci j : Nat} {v : Int32} (hi : pm_ins k pc = some (.putstatic x, len, q)) (hp : pc + len = pn) (h64 : x / 64 = ci) (hm : x % 64 = j) (hl : pm_lv (pm_liv k pc) lo = lo1) (h2 : pm_lv (pm_liv k pn) lo1 = lo2) : pm_F ol orc k pc lo (.int v :: .ref a :: st) h = if v = 0 ∨ v = 1 then pm_Ph ol orc k pn lo2 st (pm_fs h a ci j (.int v)) else none := by
  subst hp; subst h64; subst hm; exact pm_F_pb hi hl h2
theorem r_ia {a : Nat} {j : Int32} (hi : pm_ins k pc = some (.iaload, len, q)) (hp : pc + len = pn) (hl : pm_lv (pm_liv k pc) lo = lo1) (h2 : pm_lv (pm_liv k pn) lo1 = lo2) : pm_F ol orc k pc lo (.int j :: .ref a :: st) h = pm_Pv ol orc k pn lo2 st h (pm_ai ol h a j) := by
  subst hp; exact pm_F_ia hi hl h2
theorem r_za {a : Nat} {j : Int32} (hi : pm_ins k pc = some (.baload, len, q)) (hp : pc + len = pn) (hl : pm_lv (pm_liv k pc) lo = lo1) (h2 : pm_lv (pm_liv k pn) lo1 = lo2) : pm_F ol orc k pc lo (.int j :: .ref a :: st) h = pm_Pv ol orc k pn lo2 st h (pm_az h a j) := by
  subst hp; exact pm_F_za hi hl h2
theorem r_ja {a : Nat} {j : Int32} (hi : pm_ins k pc = some (.laload, len, q)) (hp : pc + len = pn) (hl : pm_lv (pm_liv k pc) lo = lo1) (h2 : pm_lv (pm_liv k pn) lo1 = lo2) : pm_F ol orc k pc lo (.int j :: .ref a :: st) h = pm_Pv ol orc k pn lo2 st h (pm_aj h a j) := by
  subst hp; exact pm_F_ja hi hl h2
theorem r_qa {a : Nat} {j : Int32} (hi : pm_ins k pc = some (.aaload, len, q)) (hp : pc + len = pn) (hl : pm_lv (pm_liv k pc) lo = lo1) (h2 : pm_lv (pm_liv k pn) lo1 = lo2) : pm_F ol orc k pc lo (.int j :: .ref a :: st) h = pm_Pv ol orc k pn lo2 st h (pm_aq h a j) := by
  subst hp; exact pm_F_qa hi hl h2
theorem r_is {a : Nat} {j x : Int32} (hi : pm_ins k pc = some (.iastore, len, q)) (hp : pc + len = pn) (hl : pm_lv (pm_liv k pc) lo = lo1) (h2 : pm_lv (pm_liv k pn) lo1 = lo2) : pm_F ol orc k pc lo (.int x :: .int j :: .ref a :: st) h = pm_Ph ol orc k pn lo2 st (pm_si h a j x) := by
  subst hp; exact pm_F_is hi hl h2
theorem r_zs {a : Nat} {j x : Int32} (hi : pm_ins k pc = some (.bastore, len, q)) (hp : pc + len = pn) (hl : pm_lv (pm_liv k pc) lo = lo1) (h2 : pm_lv (pm_liv k pn) lo1 = lo2) : pm_F ol orc k pc lo (.int x :: .int j :: .ref a :: st) h = pm_Ph ol orc k pn lo2 st (pm_sb h a j x) := by
  subst hp; exact pm_F_zs hi hl h2
theorem r_js {a : Nat} {j : Int32} {x : Int64} (hi : pm_ins k pc = some (.lastore, len, q)) (hp : pc + len = pn) (hl : pm_lv (pm_liv k pc) lo = lo1) (h2 : pm_lv (pm_liv k pn) lo1 = lo2) : pm_F ol orc k pc lo (.long x :: .int j :: .ref a :: st) h = pm_Ph ol orc k pn lo2 st (pm_sj h a j x) := by
  subst hp; exact pm_F_js hi hl h2
theorem r_ln {a : Nat} (hi : pm_ins k pc = some (.arraylength, len, q)) (hp : pc + len = pn) (hl : pm_lv (pm_liv k pc) lo = lo1) (h2 : pm_lv (pm_liv k pn) lo1 = lo2) : pm_F ol orc k pc lo (.ref a :: st) h = pm_Pv ol orc k pn lo2 st h (pm_ln ol h a) := by
  subst hp; exact pm_F_ln hi hl h2
theorem r_cp {z a0 a : Nat} {sp dp n : Int32} (hi : pm_ins k pc = some (.invokedynamic z, len, q)) (hp : pc + len = pn) (hl : pm_lv (pm_liv k pc) lo = lo1) (hc : pm_cat st ≤ 8) (h2 : pm_lv (pm_liv k pn) lo1 = lo2) : pm_F ol orc k pc lo (.int n :: .int dp :: .ref a :: .int sp :: .ref a0 :: st) h = pm_Ph ol orc k pn lo2 st (pm_cp h a0 sp a dp n) := by
  subst hp; exact pm_F_cp hi hl hc h2
theorem r_sc {k' n : Nat} {as rest : List Value} (hi : pm_ins k pc = some (.multianewarray k' n, len, q)) (hp : pc + len = pn) (hl : pm_lv (pm_liv k pc) lo = lo1) (hp2 : pm_pop n st [] = some (as, rest)) (hc : pm_cat rest ≤ 8) (hc2 : 500 ≤ k' ∨ pm_cat as ≤ pm_mL k') (h2 : pm_lv (pm_liv k pn) lo1 = lo2) : pm_F ol orc k pc lo st h = pm_B ol orc k pn lo2 rest (pm_V ol orc k' as h) := by
  subst hp; exact pm_F_sc hi hl hp2 ⟨hc, hc2⟩ h2
theorem r_vc {x n b ci k' : Nat} {as rest : List Value} (hi : pm_ins k pc = some (.invokeinterface x n, len, q)) (hp : pc + len = pn) (h64 : x / 1000 = ci) (hm : x % 1000 = k') (hl : pm_lv (pm_liv k pc) lo = lo1) (hp2 : pm_pop n st [] = some (.ref b :: as, rest)) (hc : pm_cat rest ≤ 8) (hc2 : pm_cat (.ref b :: as) ≤ pm_mL k') (h2 : pm_lv (pm_liv k pn) lo1 = lo2) : pm_F ol orc k pc lo st h = if pm_is h b ci = true then pm_B ol orc k pn lo2 rest (pm_V ol orc k' (.ref b :: as) h) else none := by
  subst hp; subst h64; subst hm; exact pm_F_vc hi hl hp2 ⟨hc, Or.inr hc2⟩ h2
theorem r_le {a b : Nat} (h : Nat.ble a b = true) : a ≤ b := Nat.le_of_ble_eq_true h
end RUL
