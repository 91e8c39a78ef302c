/-! making: what holds all along -/
abbrev srcS (w : Wd) (p : Nat) : Prop := p = 0 ∨ ∃ q, q < w.cs ∧ bgN w.cs w.cb q ∧ wlN w.cs w.cb q ∧ ((gonN (w.cb q) ∧ nxN w.cb q = p) ∨ (goN (w.cb q) ∧ tgN w q = p))
abbrev plS (w : Wd) (p : Nat) : Prop := p ≤ w.cs ∧ (p < w.cs → bgN w.cs w.cb p) ∧ srcS w p
abbrev dnS (w : Wd) (p : Nat) : Prop := p < w.cs ∧ wlN w.cs w.cb p ∧ (goN (w.cb p) → bgI w (tgI p (xof w p)))
def Iv (w : Wd) (z : St) : Prop := (∀ p, z.op p = true → ¬ z.ht p = none) ∧ (∀ p h, z.ht p = some h → h ≤ 5 ∧ plS w p ∧ ∀ j, j < 4 + h → vT w (z.tt p j)) ∧ ∀ p, ¬ z.ht p = none → z.op p = false → dnS w p
theorem co_Iv {w : Wd} (hk : okW w) {z z' : St} {p h : Nat} {s : Nat → Int32} (hz : Iv w z) (h5 : h ≤ 5) (hp : plS w p) (hv : ∀ j, j < 4 + h → vT w (s j)) (e : coS w z p h s = some z') : Iv w z' := by
  obtain ⟨i1, i2, i3⟩ := hz
  unfold coS at e
  split at e
  · rename_i e0
    obtain rfl := Option.some.inj e
    refine ⟨?_, ?_, ?_⟩
    · intro q hq
      show ¬ up z.ht p (some h) q = none
      by_cases eq : q = p
      · rw [eq, up_s]
        exact fun z => by cases z
      · rw [up_n _ _ eq]
        exact i1 q (by
          have hq : up z.op p true q = true := hq
          rw [up_n _ _ eq] at hq
          exact hq)
    · intro q k hq
      have hq : up z.ht p (some h) q = some k := hq
      show k ≤ 5 ∧ plS w q ∧ ∀ j, j < 4 + k → vT w (up z.tt p s q j)
      by_cases eq : q = p
      · rw [eq, up_s] at hq
        obtain rfl := Option.some.inj hq
        rw [eq, up_s]
        exact ⟨h5, hp, hv⟩
      · rw [up_n _ _ eq] at hq ⊢
        exact i2 q k hq
    · intro q hq ho
      have hq : ¬ up z.ht p (some h) q = none := hq
      have ho : up z.op p true q = false := ho
      by_cases eq : q = p
      · rw [eq, up_s] at ho
        cases ho
      · rw [up_n _ _ eq] at hq ho
        exact i3 q hq ho
  · rename_i k e0
    split at e
    · cases e
    · rename_i ek
      have ek : k = h := Classical.not_not.mp ek
      subst ek
      obtain rfl := Option.some.inj e
      refine ⟨?_, ?_, ?_⟩
      · intro q hq
        have hq : up z.op p (z.op p || decide (chS w k (z.tt p) s)) q = true := hq
        show ¬ z.ht q = none
        by_cases eq : q = p
        · rw [eq, e0]
          exact fun z => by cases z
        · rw [up_n _ _ eq] at hq
          exact i1 q hq
      · intro q k2 hq
        have hq2 : z.ht q = some k2 := hq
        clear hq
        show k2 ≤ 5 ∧ plS w q ∧ ∀ j, j < 4 + k2 → vT w (up z.tt p (mtS w k (z.tt p) s) q j)
        obtain ⟨a1, a2, a3⟩ := i2 q k2 hq2
        refine ⟨a1, a2, ?_⟩
        intro j hj
        by_cases eq : q = p
        · subst eq
          rw [e0] at hq2
          obtain rfl := Option.some.inj hq2
          rw [up_s]
          unfold mtS
          rw [if_pos hj]
          exact vT_meet hk (a3 j hj) (hv j hj)
        · rw [up_n _ _ eq]
          exact a3 j hj
      · intro q hq ho
        have ho : up z.op p (z.op p || decide (chS w k (z.tt p) s)) q = false := ho
        by_cases eq : q = p
        · rw [eq, up_s] at ho
          rw [eq] at hq ⊢
          exact i3 p hq (by
            cases hh : z.op p with
            | false => rfl
            | true =>
              rw [hh] at ho
              cases ho)
        · rw [up_n _ _ eq] at ho
          exact i3 q hq ho
theorem wk2_Iv {w : Wd} (hk : okW w) {z : St} {p h : Nat} {s : Nat → Int32} (hz : Iv w z) (hp : p < w.cs) (hb : bgN w.cs w.cb p) (hwl : wlN w.cs w.cb p) (hg : goN (w.cb p) → bgI w (tgI p (xof w p))) (h5 : h ≤ 5) (hv : ∀ j, j < 4 + h → vT w (s j)) (e : (wk2 w z p h s).1 = 0) : Iv w (wk2 w z p h s).2 := by
  have h48 := hk.cs
  have h3 : ∀ z1, Iv w z1 → (wk3 w z1 p h s).1 = 0 → Iv w (wk3 w z1 p h s).2 := by
    intro z1 hz1 e
    unfold wk3 at e ⊢
    by_cases g : goN (w.cb p)
    · rw [if_pos g] at e ⊢
      have hg := hg g
      cases hc : coS w z1 (tgN w p) h s with
      | none =>
        rw [hc] at e
        have : 300 + tgN w p = 0 := e
        omega
      | some z2 => exact co_Iv hk hz1 h5 ⟨Nat.le_of_lt hg.2.2, fun _ => hg.2, Or.inr ⟨p, hp, hb, hwl, Or.inr ⟨g, rfl⟩⟩⟩ hv hc
    · rw [if_neg g]
      exact hz1
  unfold wk2 at e ⊢
  by_cases g : gonN (w.cb p)
  · rw [if_pos g] at e ⊢
    cases hc : coS w z (nxN w.cb p) h s with
    | none =>
      rw [hc] at e
      have : 300 + nxN w.cb p = 0 := e
      omega
    | some z1 =>
      rw [hc] at e
      exact h3 z1 (co_Iv hk hz h5 ⟨hwl.2, fun z => ⟨(nxF_go hb.1 hp hwl).2, z⟩, Or.inr ⟨p, hp, hb, hwl, Or.inl ⟨g, rfl⟩⟩⟩ hv hc) e
  · rw [if_neg g] at e ⊢
    exact h3 z hz e
/-- what is known where work is done -/
theorem wk_at {w : Wd} {z : St} {p : Nat} (hz : Iv w z) (ho : z.op p = true) : ∃ h, z.ht p = some h ∧ h ≤ 5 ∧ plS w p ∧ ∀ j, j < 4 + h → vT w (z.tt p j) := by
  cases e : z.ht p with
  | none => exact absurd e (hz.1 p ho)
  | some h => exact ⟨h, rfl, hz.2.1 p h e⟩
theorem cl_Iv {w : Wd} {z : St} {p : Nat} (hz : Iv w z) (hd : dnS w p) : Iv w (mkS z.ht z.tt (up z.op p false)) := by
  refine ⟨?_, hz.2.1, ?_⟩
  · intro q hq
    have hq : up z.op p false q = true := hq
    by_cases eq : q = p
    · rw [eq, up_s] at hq
      cases hq
    · rw [up_n _ _ eq] at hq
      exact hz.1 q hq
  · intro q hq ho
    have ho : up z.op p false q = false := ho
    by_cases eq : q = p
    · rw [eq]
      exact hd
    · rw [up_n _ _ eq] at ho
      exact hz.2.2 q hq ho
theorem wk_Iv {w : Wd} (hk : okW w) {z : St} {p : Nat} (hz : Iv w z) (ho : z.op p = true) (e : (wkS w z p).1 = 0) : Iv w (wkS w z p).2 ∧ dnS w p ∧ ftS w p ((z.ht p).getD 0) (z.tt p) = 0 := by
  obtain ⟨h, eh, h5, hpl, hv⟩ := wk_at hz ho
  unfold wkS at e ⊢
  split at e
  · have : 100 + p = 0 := e
    omega
  · rename_i c1
    have c1' := Classical.not_not.mp c1
    rw [if_neg c1]
    split at e
    · have : 100 * ftS w p ((z.ht p).getD 0) (z.tt p) + p = 0 := e
      omega
    · rename_i c2
      have c2' := Classical.not_not.mp c2
      rw [if_neg c2]
      split at e
      · have : 800 + p = 0 := e
        omega
      · rename_i c3
        rw [if_neg c3]
        have hg : goN (w.cb p) → bgI w (tgI p (xof w p)) := fun g => Classical.not_not.mp (fun y => c3 ⟨g, y⟩)
        have hb := hpl.2.1 c1'.1
        refine ⟨wk2_Iv hk (cl_Iv hz ⟨c1'.1, c1'.2, hg⟩) c1'.1 hb c1'.2 hg (ph_le c2') ?_ e, ⟨c1'.1, c1'.2, hg⟩, c2'⟩
        have hv2 : ∀ j, j < 4 + (z.ht p).getD 0 → vT w (z.tt p j) := by
          rw [eh]
          exact hv
        exact ps_val hk hb c1'.2 c2' hv2
theorem wk_bd {w : Wd} (hk : okW w) {z : St} {p : Nat} (hp : p ≤ w.cs) : (wkS w z p).1 ≤ 1000 := by
  have h48 := hk.cs
  have hft := ft_le w p ((z.ht p).getD 0) (z.tt p)
  unfold wkS
  by_cases c1 : p < w.cs ∧ wlN w.cs w.cb p
  · rw [if_neg (not_not_intro c1)]
    by_cases c2 : ftS w p ((z.ht p).getD 0) (z.tt p) = 0
    · rw [if_neg (not_not_intro c2)]
      by_cases c3 : goN (w.cb p) ∧ ¬ bgI w (tgI p (xof w p))
      · rw [if_pos c3]
        show 800 + p ≤ 1000
        omega
      · rw [if_neg c3]
        have h3 : ∀ z1 h s, (wk3 w z1 p h s).1 ≤ 1000 := by
          intro z1 h s
          unfold wk3
          by_cases g : goN (w.cb p)
          · have hb : bgI w (tgI p (xof w p)) := Classical.not_not.mp (fun y => c3 ⟨g, y⟩)
            have ht : tgN w p < 48 := Nat.lt_of_lt_of_le hb.2.2 h48
            rw [if_pos g]
            split
            · show 300 + tgN w p ≤ 1000
              omega
            · exact Nat.zero_le _
          · rw [if_neg g]
            exact Nat.zero_le _
        have hle := c1.2.2
        unfold wk2
        split
        · show 300 + nxN w.cb p ≤ 1000
          omega
        · exact h3 _ _ _
    · rw [if_pos c2]
      show 100 * ftS w p ((z.ht p).getD 0) (z.tt p) + p ≤ 1000
      omega
  · rw [if_pos c1]
    show 100 + p ≤ 1000
    omega
