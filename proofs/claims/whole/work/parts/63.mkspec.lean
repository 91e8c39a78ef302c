/-! making: what it means -/
def up {α : Type} (f : Nat → α) (i : Nat) (v : α) : Nat → α := fun j => if j = i then v else f j
theorem up_s {α : Type} (f : Nat → α) (i : Nat) (v : α) : up f i v i = v := if_pos rfl
theorem up_n {α : Type} (f : Nat → α) {i j : Nat} (v : α) (h : ¬ j = i) : up f i v j = f j := if_neg h
/-- the heights that came (none: nothing came), the types, what waits -/
def St : Type := (Nat → Option Nat) × (Nat → Nat → Int32) × (Nat → Bool)
def St.ht (z : St) : Nat → Option Nat := z.1
def St.tt (z : St) : Nat → Nat → Int32 := z.2.1
def St.op (z : St) : Nat → Bool := z.2.2
def mkS (a : Nat → Option Nat) (b : Nat → Nat → Int32) (c : Nat → Bool) : St := (a, b, c)
def mtS (w : Wd) (h : Nat) (a b : Nat → Int32) : Nat → Int32 := fun j => if j < 4 + h then meetP w.P (a j) (b j) else a j
abbrev chS (w : Wd) (h : Nat) (a b : Nat → Int32) : Prop := ∃ j, j < 4 + h ∧ ¬ meetP w.P (a j) (b j) = a j
def coS (w : Wd) (z : St) (p h : Nat) (s : Nat → Int32) : Option St := match z.ht p with
  | none => some (mkS (up z.ht p (some h)) (up z.tt p s) (up z.op p true))
  | some k => if ¬ k = h then none else some (mkS z.ht (up z.tt p (mtS w h (z.tt p) s)) (up z.op p (z.op p || decide (chS w h (z.tt p) s))))
def tgN (w : Wd) (p : Nat) : Nat := (tgI p (xof w p)).toNatClampNeg
abbrev bgI (w : Wd) (t : Int32) : Prop := (0 ≤ t ∧ t < 48) ∧ bgN w.cs w.cb t.toNatClampNeg
def wk3 (w : Wd) (z : St) (p h : Nat) (s : Nat → Int32) : Nat × St := match (if goN (w.cb p) then coS w z (tgN w p) h s else some z) with
  | none => (300 + tgN w p, z)
  | some z2 => (0, z2)
def wk2 (w : Wd) (z : St) (p h : Nat) (s : Nat → Int32) : Nat × St := match (if gonN (w.cb p) then coS w z (nxN w.cb p) h s else some z) with
  | none => (300 + nxN w.cb p, z)
  | some z1 => wk3 w z1 p h s
def wkS (w : Wd) (z : St) (p : Nat) : Nat × St := if ¬ (p < w.cs ∧ wlN w.cs w.cb p) then (100 + p, z) else if ¬ ftS w p ((z.ht p).getD 0) (z.tt p) = 0 then (100 * ftS w p ((z.ht p).getD 0) (z.tt p) + p, z) else if goN (w.cb p) ∧ ¬ bgI w (tgI p (xof w p)) then (800 + p, z) else wk2 w (mkS z.ht z.tt (up z.op p false)) p (phS w (w.cb p) (xof w p) ((z.ht p).getD 0)) (psS w (w.cb p) (xof w p) p ((z.ht p).getD 0) (z.tt p))
def loS (z : St) : Nat → Nat → Nat
  | 0, p => p
  | n + 1, p => if z.op p = true then p else loS z n (p + 1)
def wlS (w : Wd) : Nat → St → Nat × St
  | 0, z => (0, z)
  | n + 1, z => if loS z (w.cs + 1) 0 ≤ w.cs then (if ¬ (wkS w z (loS z (w.cs + 1) 0)).1 = 0 then wkS w z (loS z (w.cs + 1) 0) else wlS w n (wkS w z (loS z (w.cs + 1) 0)).2) else (0, z)
def urS (w : Wd) (z : St) : Nat → Nat → Nat
  | 0, _ => 0
  | n + 1, q => if bgN w.cs w.cb q ∧ z.ht q = none then 200 + q else urS w z n (q + 1)
theorem lo_spec (z : St) : ∀ (n p : Nat), p ≤ loS z n p ∧ loS z n p ≤ p + n ∧ (∀ q, p ≤ q → q < loS z n p → z.op q = false) ∧ (loS z n p < p + n → z.op (loS z n p) = true) := by
  intro n
  induction n with
  | zero =>
    intro p
    exact ⟨Nat.le_refl _, Nat.le_refl _, fun q h1 h2 => absurd (show q < p from h2) (by omega), fun h => absurd (show p < p + 0 from h) (by omega)⟩
  | succ n ih =>
    intro p
    unfold loS
    split
    · rename_i e
      exact ⟨Nat.le_refl _, by omega, fun q h1 h2 => by omega, fun _ => e⟩
    · rename_i e
      obtain ⟨h1, h2, h3, h4⟩ := ih (p + 1)
      refine ⟨by omega, by omega, ?_, fun h => h4 (by omega)⟩
      intro q hq1 hq2
      by_cases e2 : q = p
      · rw [e2]
        cases hz : z.op p with
        | false => rfl
        | true => exact absurd hz e
      · exact h3 q (by omega) hq2
/-! it ends: a measure -/
def sm (f : Nat → Nat) : Nat → Nat
  | 0 => 0
  | n + 1 => sm f n + f n
theorem sm_le {f g : Nat → Nat} : ∀ n, (∀ j, j < n → f j ≤ g j) → sm f n ≤ sm g n := by
  intro n
  induction n with
  | zero => exact fun _ => Nat.le_refl _
  | succ n ih =>
    intro h
    have h1 := ih (fun j hj => h j (by omega))
    have h2 := h n (by omega)
    show sm f n + f n ≤ sm g n + g n
    omega
theorem sm_lt {f g : Nat → Nat} : ∀ n, (∀ j, j < n → f j ≤ g j) → ∀ i, i < n → f i < g i → sm f n < sm g n := by
  intro n
  induction n with
  | zero => intro _ i hi; omega
  | succ n ih =>
    intro h i hi hl
    show sm f n + f n < sm g n + g n
    by_cases e : i = n
    · have h1 := sm_le n (fun j hj => h j (by omega))
      rw [e] at hl
      omega
    · have h1 := ih (fun j hj => h j (by omega)) i (by omega) hl
      have h2 := h n (by omega)
      omega
theorem sm_bd {f : Nat → Nat} {b : Nat} : ∀ n, (∀ j, j < n → f j ≤ b) → sm f n ≤ b * n := by
  intro n
  induction n with
  | zero => exact fun _ => Nat.le_refl _
  | succ n ih =>
    intro h
    have h1 := ih (fun j hj => h j (by omega))
    have h2 := h n (by omega)
    show sm f n + f n ≤ b * (n + 1)
    rw [Nat.mul_succ]
    omega
def rk (t : Int32) : Nat := if t = 2 then 9 else if tObj t then (t - 15).toNatClampNeg else if t = 0 then 0 else 1
theorem rk_obj {t : Int32} {c : Nat} (hc : c < 8) (h : t - 16 = nI c) : rk t = c + 1 := by
  have e : t = 16 + nI c := by grind
  subst e
  have : ∀ c, c < 8 → rk (16 + nI c) = c + 1 := by decide
  exact this c hc
theorem rk_le (t : Int32) : rk t ≤ 9 := by
  by_cases e : tObj t
  · obtain ⟨c, hc, h, -⟩ := obj_of e
    rw [rk_obj hc h]
    omega
  · unfold rk
    rw [if_neg e]
    split
    · omega
    · split <;> omega
theorem lca_lt8 {P : Nat → Nat} (hP : okP P) {a b : Nat} (ha : a < 8) (hb : b < 8) : lca P 16 a b < 8 := by
  have := lca_le hP 16 a b ha hb
  omega
theorem rk_meet {P : Nat → Nat} (hP : okP P) {t u : Int32} (h : ¬ meetP P t u = t) : rk (meetP P t u) < rk t := by
  unfold meetP at h ⊢
  by_cases c1 : t = u
  · rw [if_pos c1] at h
    exact absurd rfl h
  · rw [if_neg c1] at h ⊢
    by_cases c2 : t = 2 ∧ tObj u
    · rw [if_pos c2]
      obtain ⟨c, hc, e, -⟩ := obj_of c2.2
      rw [rk_obj hc e, c2.1]
      show c + 1 < 9
      omega
    · rw [if_neg c2] at h ⊢
      by_cases c3 : u = 2 ∧ tObj t
      · rw [if_pos c3] at h
        exact absurd rfl h
      · rw [if_neg c3] at h ⊢
        by_cases c4 : tObj t ∧ tObj u
        · rw [if_pos c4] at h ⊢
          obtain ⟨a, ha, ea, ca⟩ := obj_of c4.1
          obtain ⟨b, hb, eb, cb⟩ := obj_of c4.2
          rw [ca, cb] at h ⊢
          have h1 := lca_le hP 16 a b ha hb
          have h2 : ¬ lca P 16 a b = a := by
            intro z
            rw [z] at h
            exact h (by grind)
          rw [rk_obj ha ea, rk_obj (c := lca P 16 a b) (by omega) (by grind)]
          omega
        · rw [if_neg c4] at h ⊢
          have ht : ¬ t = 0 := fun z => h z.symm
          have : rk 0 = 0 := rfl
          rw [this]
          unfold rk
          split
          · omega
          · split
            · rename_i z
              obtain ⟨c, hc, e, -⟩ := obj_of z
              have e2 : t - 15 = nI (c + 1) := by
                rw [← nI_add]
                have : nI 1 = 1 := rfl
                rw [this, ← e]
                grind
              rw [e2, clampN (by omega)]
              omega
            · omega
theorem vT_meet {w : Wd} (hk : okW w) {t u : Int32} (ht : vT w t) (hu : vT w u) : vT w (meetP w.P t u) := by
  unfold meetP
  split
  · exact ht
  · split
    · exact hu
    · split
      · exact ht
      · split
        · rename_i c4
          obtain ⟨a, ha, ea, ca⟩ := obj_of c4.1
          obtain ⟨b, hb, eb, cb⟩ := obj_of c4.2
          rw [ca, cb]
          have := lca_lt8 hk.P ha hb
          have e : (16 : Int32) + nI (lca w.P 16 a b) = nI (16 + lca w.P 16 a b) := by
            rw [← nI_add]
            rfl
          rw [e]
          exact vT_obj this
        · exact Or.inl rfl
def rnk (z : St) (p : Nat) : Nat := match z.ht p with
  | none => 82
  | some h => sm (fun j => rk (z.tt p j)) (4 + h)
def mp (z : St) (p : Nat) : Nat := 2 * rnk z p + (if z.op p = true then 1 else 0)
def mS (z : St) : Nat := sm (mp z) 49
theorem rnk_le {z : St} {p : Nat} (h : ∀ h, z.ht p = some h → h ≤ 5) : rnk z p ≤ 82 := by
  unfold rnk
  split
  · omega
  · rename_i k e
    have h1 := h k e
    have h2 := sm_bd (f := fun j => rk (z.tt p j)) (b := 9) (4 + k) (fun j _ => rk_le _)
    omega
theorem co_le {w : Wd} (hk : okW w) {z z' : St} {p h : Nat} {s : Nat → Int32} (h5 : h ≤ 5) (e : coS w z p h s = some z') : mS z' ≤ mS z := by
  unfold coS at e
  unfold mS
  refine sm_le 49 (fun q _ => ?_)
  split at e
  · rename_i e0
    obtain rfl := Option.some.inj e
    by_cases eq : q = p
    · subst eq
      have h1 : mp z q = 2 * 82 + (if z.op q = true then 1 else 0) := by
        unfold mp rnk
        rw [e0]
      have h2 : rnk (mkS (up z.ht q (some h)) (up z.tt q s) (up z.op q true)) q ≤ 81 := by
        unfold rnk
        have : (mkS (up z.ht q (some h)) (up z.tt q s) (up z.op q true)).ht q = some h := up_s _ _ _
        rw [this]
        have := sm_bd (f := fun j => rk ((mkS (up z.ht q (some h)) (up z.tt q s) (up z.op q true)).tt q j)) (b := 9) (4 + h) (fun j _ => rk_le _)
        show sm _ (4 + h) ≤ 81
        omega
      have h3 : mp (mkS (up z.ht q (some h)) (up z.tt q s) (up z.op q true)) q ≤ 2 * 81 + 1 := by
        unfold mp
        split <;> omega
      omega
    · have : mp (mkS (up z.ht p (some h)) (up z.tt p s) (up z.op p true)) q = mp z q := by
        unfold mp rnk
        show 2 * (match up z.ht p (some h) q with | none => 82 | some h_1 => sm (fun j => rk (up z.tt p s q j)) (4 + h_1)) + (if up z.op p true q = true then 1 else 0) = _
        rw [up_n _ _ eq, up_n _ _ eq, up_n _ _ eq]
      omega
  · rename_i k e0
    split at e
    · cases e
    · rename_i ek
      have ek : k = h := Classical.not_not.mp ek
      subst ek
      obtain rfl := Option.some.inj e
      by_cases eq : q = p
      · subst eq
        have hr : ∀ b : Bool, rnk (mkS z.ht (up z.tt q (mtS w k (z.tt q) s)) (up z.op q b)) q = sm (fun j => rk (mtS w k (z.tt q) s j)) (4 + k) := by
          intro b
          unfold rnk
          show (match z.ht q with | none => 82 | some h_1 => sm (fun j => rk (up z.tt q (mtS w k (z.tt q) s) q j)) (4 + h_1)) = _
          rw [e0, up_s]
        have hz : rnk z q = sm (fun j => rk (z.tt q j)) (4 + k) := by
          unfold rnk
          rw [e0]
        have hmj : ∀ j, j < 4 + k → rk (mtS w k (z.tt q) s j) ≤ rk (z.tt q j) := by
          intro j hj
          unfold mtS
          rw [if_pos hj]
          by_cases e1 : meetP w.P (z.tt q j) (s j) = z.tt q j
          · rw [e1]
            exact Nat.le_refl _
          · exact Nat.le_of_lt (rk_meet hk.P e1)
        unfold mp
        rw [hr, hz]
        show _ + (if up z.op q (z.op q || decide (chS w k (z.tt q) s)) q = true then 1 else 0) ≤ _
        rw [up_s]
        by_cases ec : chS w k (z.tt q) s
        · obtain ⟨j, hj, hne⟩ := ec
          have := sm_lt (4 + k) hmj j hj (by
            unfold mtS
            rw [if_pos hj]
            exact rk_meet hk.P hne)
          split <;> omega
        · rw [decide_eq_false ec, Bool.or_false]
          have := sm_le (4 + k) hmj
          omega
      · have : mp (mkS z.ht (up z.tt p (mtS w k (z.tt p) s)) (up z.op p (z.op p || decide (chS w k (z.tt p) s)))) q = mp z q := by
          unfold mp rnk
          show 2 * (match z.ht q with | none => 82 | some h_1 => sm (fun j => rk (up z.tt p (mtS w k (z.tt p) s) q j)) (4 + h_1)) + (if up z.op p (z.op p || decide (chS w k (z.tt p) s)) q = true then 1 else 0) = _
          rw [up_n _ _ eq, up_n _ _ eq]
        omega
theorem wk3_le {w : Wd} (hk : okW w) {z : St} {p h : Nat} {s : Nat → Int32} (h5 : h ≤ 5) (e : (wk3 w z p h s).1 = 0) : mS (wk3 w z p h s).2 ≤ mS z := by
  unfold wk3 at e ⊢
  by_cases g : goN (w.cb p)
  · rw [if_pos g] at e ⊢
    cases hc : coS w z (tgN w p) h s with
    | none => 
      rw [hc] at e
      have : 300 + tgN w p = 0 := e
      omega
    | some z2 => exact co_le hk h5 hc
  · rw [if_neg g]
    exact Nat.le_refl _
theorem wk2_le {w : Wd} (hk : okW w) {z : St} {p h : Nat} {s : Nat → Int32} (h5 : h ≤ 5) (e : (wk2 w z p h s).1 = 0) : mS (wk2 w z p h s).2 ≤ mS z := by
  unfold wk2 at e ⊢
  by_cases g : gonN (w.cb p)
  · rw [if_pos g] at e ⊢
    cases hc : coS w z (nxN w.cb p) h s with
    | none =>
      rw [hc] at e
      have : 300 + nxN w.cb p = 0 := e
      omega
    | some z1 =>
      rw [hc] at e
      exact Nat.le_trans (wk3_le hk h5 e) (co_le hk h5 hc)
  · rw [if_neg g] at e ⊢
    exact wk3_le hk h5 e
theorem op_lt {z : St} {p : Nat} (hp : p < 49) (ho : z.op p = true) : mS (mkS z.ht z.tt (up z.op p false)) < mS z := by
  unfold mS
  have hq : ∀ q, mp (mkS z.ht z.tt (up z.op p false)) q = 2 * rnk z q + (if up z.op p false q = true then 1 else 0) := fun q => rfl
  refine sm_lt 49 (fun q _ => ?_) p hp ?_
  · rw [hq]
    unfold mp
    by_cases e : q = p
    · rw [e, up_s]
      simp
    · rw [up_n _ _ e]
      exact Nat.le_refl _
  · rw [hq, up_s]
    unfold mp
    rw [if_pos ho]
    simp
theorem wk_lt {w : Wd} (hk : okW w) {z : St} {p : Nat} (hp : p < 49) (ho : z.op p = true) (e : (wkS w z p).1 = 0) : mS (wkS w z p).2 < mS z := by
  unfold wkS at e ⊢
  split at e
  · have : 100 + p = 0 := e
    omega
  · rename_i c1
    rw [if_neg c1]
    split at e
    · have : 100 * ftS w p ((z.ht p).getD 0) (z.tt p) + p = 0 := e
      omega
    · rename_i c2
      rw [if_neg c2]
      split at e
      · have : 800 + p = 0 := e
        omega
      · rename_i c3
        rw [if_neg c3]
        exact Nat.lt_of_le_of_lt (wk2_le hk (ph_le (Classical.not_not.mp c2)) e) (op_lt hp ho)
