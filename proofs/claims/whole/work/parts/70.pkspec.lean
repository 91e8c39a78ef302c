/-! packing: what it means -/
def Bf : Type := Nat × (Nat → Int32)
def psh (b : Bf) (x : Int32) : Bf := (b.1 + 1, upd b.2 b.1 x)
theorem psh_1 (b : Bf) (x : Int32) : (psh b x).1 = b.1 + 1 := rfl
def psT (b : Bf) (t : Int32) : Bf := if tObj t then psh (psh b 7) (t - 16) else if tNew t then psh (psh b 8) (t - 64) else psh b t
def psL (s : Nat → Int32) : Nat → Nat → Bf → Bf
  | 0, _, b => b
  | k + 1, i, b => psL s k (i + 1) (psT b (s i))
theorem psT_le (b : Bf) (t : Int32) : b.1 < (psT b t).1 ∧ (psT b t).1 ≤ b.1 + 2 := by
  unfold psT
  split
  · exact ⟨by show b.1 < b.1 + 1 + 1; omega, by show b.1 + 1 + 1 ≤ b.1 + 2; omega⟩
  · split
    · exact ⟨by show b.1 < b.1 + 1 + 1; omega, by show b.1 + 1 + 1 ≤ b.1 + 2; omega⟩
    · exact ⟨by show b.1 < b.1 + 1; omega, by show b.1 + 1 ≤ b.1 + 2; omega⟩
theorem psL_le (s : Nat → Int32) : ∀ (k i : Nat) (b : Bf), b.1 ≤ (psL s k i b).1 ∧ (psL s k i b).1 ≤ b.1 + 2 * k := by
  intro k
  induction k with
  | zero => exact fun i b => ⟨Nat.le_refl _, Nat.le_refl _⟩
  | succ k ih =>
    intro i b
    have h1 := ih (i + 1) (psT b (s i))
    have h2 := psT_le b (s i)
    show b.1 ≤ (psL s k (i + 1) (psT b (s i))).1 ∧ (psL s k (i + 1) (psT b (s i))).1 ≤ b.1 + 2 * (k + 1)
    omega
/-- how many locals, without those at the end that are TOP -/
def cnS (s : Nat → Int32) : Nat := if ¬ s 3 = 0 then 4 else if ¬ s 2 = 0 then 3 else if ¬ s 1 = 0 then 2 else if ¬ s 0 = 0 then 1 else 0
theorem cn_le (s : Nat → Int32) : cnS s ≤ 4 := by
  unfold cnS
  repeat' split
  all_goals omega
abbrev shr (s v : Nat → Int32) (k : Nat) : Prop := ∀ i, i < k → s i = v i
def psF (b : Bf) (d n had : Nat) (v : Nat → Int32) (h : Nat) (s : Nat → Int32) : Bf := if shr s v (min n had) ∧ n = had ∧ h = 0 then psh b (nI d) else if shr s v (min n had) ∧ n = had ∧ h = 1 then psT (psh b (nI (64 + d))) (s 4) else if shr s v (min n had) ∧ h = 0 ∧ n ≤ had + 3 ∧ had ≤ n + 3 then psL s (n - had) had (psh (psh b (nI (251 + n - had))) (nI d)) else psL (fun i => s (4 + i)) h 0 (psh (psL s n 0 (psh (psh (psh b 255) (nI d)) (nI n))) (nI h))
theorem psF_le {b : Bf} {d n had : Nat} {v : Nat → Int32} {h : Nat} {s : Nat → Int32} (hn : n ≤ 4) (hh : h ≤ 5) : b.1 < (psF b d n had v h s).1 ∧ (psF b d n had v h s).1 ≤ b.1 + 22 := by
  unfold psF
  split
  · exact ⟨by show b.1 < b.1 + 1; omega, by show b.1 + 1 ≤ b.1 + 22; omega⟩
  · split
    · have := psT_le (psh b (nI (64 + d))) (s 4)
      rw [psh_1] at this
      omega
    · split
      · have := psL_le s (n - had) had (psh (psh b (nI (251 + n - had))) (nI d))
        rw [psh_1, psh_1] at this
        omega
      · have h1 := psL_le (fun i => s (4 + i)) h 0 (psh (psL s n 0 (psh (psh (psh b 255) (nI d)) (nI n))) (nI h))
        have h2 := psL_le s n 0 (psh (psh (psh b 255) (nI d)) (nI n))
        rw [psh_1] at h1
        rw [psh_1, psh_1, psh_1] at h2
        omega
theorem psF_congr {b : Bf} {d n had : Nat} {v v' : Nat → Int32} {h : Nat} {s s' : Nat → Int32} (hv : ∀ i, i < had → v i = v' i) (hs : s = s') : psF b d n had v h s = psF b d n had v' h s' := by
  subst hs
  have e : shr s v (min n had) = shr s v' (min n had) := by
    apply propext
    constructor
    · intro y i hi
      rw [y i hi]
      exact hv i (by omega)
    · intro y i hi
      rw [y i hi]
      exact (hv i (by omega)).symm
  unfold psF
  simp only [e]
/-- places that need a frame -/
abbrev frS (w : Wd) (q : Nat) : Prop := ∃ p, p < w.cs ∧ mrk w p q
/-- all frames from place p on -/
def pkS (w : Wd) (z : St) : Nat → Nat → Nat → Nat → (Nat → Int32) → Bf → Bf
  | 0, _, _, _, _, b => b
  | n + 1, p, nb, had, v, b => if frS w p then pkS w z n (p + 1) (p + 1) (cnS (z.tt p)) (z.tt p) (psF b (p - nb) (cnS (z.tt p)) had v ((z.ht p).getD 0) (z.tt p)) else pkS w z n (p + 1) nb had v b
def ctS (w : Wd) (k : Nat) : Nat := sm (fun p => if frS w p then 1 else 0) k
def pkA (w : Wd) (z : St) : Bf := pkS w z w.cs 0 0 w.mn w.mt (psh (0, fun _ => 0) (nI (ctS w w.cs)))
/-- what the end of the work says -/
def Fin (w : Wd) (z : St) : Prop := Iv w z ∧ (∀ p, z.op p = false) ∧ ∀ q, q < w.cs → bgN w.cs w.cb q → ¬ z.ht q = none
theorem Fin.at {w : Wd} {z : St} (hF : Fin w z) {p : Nat} (hp : p < w.cs) (hb : bgN w.cs w.cb p) : dnS w p ∧ ∃ h, z.ht p = some h ∧ h ≤ 5 ∧ ∀ j, j < 4 + h → vT w (z.tt p j) := by
  obtain ⟨h1, h2, h3⟩ := hF
  have h4 := h3 p hp hb
  refine ⟨h1.2.2 p h4 (h2 p), ?_⟩
  cases e : z.ht p with
  | none => exact absurd e h4
  | some h =>
    have := h1.2.1 p h e
    exact ⟨h, rfl, this.1, this.2.2⟩
theorem Fin.fr {w : Wd} {z : St} (hF : Fin w z) {q : Nat} (hq : q < w.cs) (h : frS w q) : bgN w.cs w.cb q := by
  obtain ⟨p, hp, -, hb, hwl, hm⟩ := h
  obtain ⟨hd, -⟩ := hF.at hp hb
  rcases hm with ⟨-, e⟩ | ⟨e1, e2⟩
  · rw [← e] at hq ⊢
    exact ⟨(nxF_go hb.1 hp hwl).2, hq⟩
  · have := (hd.2.2 e1).2
    rw [← e2]
    exact this
/-! at most 24 frames -/
abbrev goB (w : Wd) (p : Nat) : Prop := bgN w.cs w.cb p ∧ wlN w.cs w.cb p ∧ goN (w.cb p)
theorem nx_inj {w : Wd} {p q : Nat} (hp : bgN w.cs w.cb p) (hq : bgN w.cs w.cb q) (wp : wlN w.cs w.cb p) (wq : wlN w.cs w.cb q) (e : nxN w.cb p = nxN w.cb q) : p = q := by
  by_cases h : p < q
  · have h1 := bg_next hp.1 hp.2 wp (j := q) (by
      have : q < nxN w.cb q := by
        unfold nxN
        split <;> omega
      omega) hq
    omega
  · by_cases h2 : q < p
    · have h1 := bg_next hq.1 hq.2 wq (j := p) (by
        have : p < nxN w.cb p := by
          unfold nxN
          split <;> omega
        omega) hp
      omega
    · omega
/-- a framed place is gone to -/
theorem fr_go {w : Wd} {z : St} (hF : Fin w z) {q : Nat} (hq : q < w.cs) (h : frS w q) : ∃ p, p < w.cs ∧ goB w p ∧ tgN w p = q := by
  have hbq := hF.fr hq h
  obtain ⟨p, hp, -, hb, hwl, hm⟩ := h
  rcases hm with ⟨g, e⟩ | ⟨e1, e2⟩
  · have hr := hF.2.2 q hq hbq
    cases eh : z.ht q with
    | none => exact absurd eh hr
    | some k =>
      have hs := (hF.1.2.1 q k eh).2.1.2.2
      rcases hs with y | ⟨x, hx, hxb, hxw, y⟩
      · exfalso
        have : p < nxN w.cb p := by
          unfold nxN
          split <;> omega
        omega
      · rcases y with ⟨y1, y2⟩ | ⟨y1, y2⟩
        · exfalso
          have := nx_inj hb hxb hwl hxw (e.trans y2.symm)
          rw [this] at g
          exact g y1
        · exact ⟨x, hx, ⟨hxb, hxw, y1⟩, y2⟩
  · exact ⟨p, hp, ⟨hb, hwl, e1⟩, e2⟩
theorem ct_le (f : Nat → Nat) (P : Nat → Prop) [DecidablePred P] : ∀ (n m : Nat), sm (fun q => if ∃ p, p < n ∧ P p ∧ f p = q then 1 else 0) m ≤ sm (fun p => if P p then 1 else 0) n := by
  intro n
  induction n with
  | zero =>
    intro m
    refine Nat.le_trans (sm_bd (b := 0) m (fun j _ => ?_)) (by omega)
    rw [if_neg (by rintro ⟨p, h, -⟩; omega)]
    exact Nat.le_refl _
  | succ n ih =>
    have key : ∀ m, sm (fun q => if ∃ p, p < n + 1 ∧ P p ∧ f p = q then 1 else 0) m ≤ sm (fun q => if ∃ p, p < n ∧ P p ∧ f p = q then 1 else 0) m + (if P n ∧ f n < m then 1 else 0) := by
      intro m
      induction m with
      | zero => exact Nat.zero_le _
      | succ m ihm =>
        show sm _ m + (if ∃ p, p < n + 1 ∧ P p ∧ f p = m then 1 else 0) ≤ sm _ m + (if ∃ p, p < n ∧ P p ∧ f p = m then 1 else 0) + (if P n ∧ f n < m + 1 then 1 else 0)
        by_cases c1 : ∃ p, p < n ∧ P p ∧ f p = m
        · have c2 : ∃ p, p < n + 1 ∧ P p ∧ f p = m := by
            obtain ⟨p, h1, h2⟩ := c1
            exact ⟨p, by omega, h2⟩
          rw [if_pos c1, if_pos c2]
          have : (if P n ∧ f n < m then 1 else 0) ≤ if P n ∧ f n < m + 1 then 1 else 0 := by
            split
            · rw [if_pos (by rename_i y; exact ⟨y.1, by omega⟩)]
              exact Nat.le_refl _
            · exact Nat.zero_le _
          omega
        · rw [if_neg c1]
          by_cases c2 : ∃ p, p < n + 1 ∧ P p ∧ f p = m
          · rw [if_pos c2]
            obtain ⟨p, h1, h2, h3⟩ := c2
            have : p = n := by
              by_cases e : p = n
              · exact e
              · exact absurd ⟨p, by omega, h2, h3⟩ c1
            subst this
            rw [if_neg (by rintro ⟨-, y⟩; omega)] at ihm
            rw [if_pos ⟨h2, by omega⟩]
            omega
          · rw [if_neg c2]
            have : (if P n ∧ f n < m then 1 else 0) ≤ if P n ∧ f n < m + 1 then 1 else 0 := by
              split
              · rw [if_pos (by rename_i y; exact ⟨y.1, by omega⟩)]
                exact Nat.le_refl _
              · exact Nat.zero_le _
            omega
    intro m
    have h1 := key m
    have h2 := ih m
    show _ ≤ sm (fun p => if P p then 1 else 0) n + (if P n then 1 else 0)
    have h3 : (if P n ∧ f n < m then 1 else 0) ≤ if P n then 1 else 0 := by
      split
      · rename_i y
        rw [if_pos y.1]
        exact Nat.le_refl _
      · exact Nat.zero_le _
    omega
theorem go_ct {w : Wd} : ∀ n, 2 * sm (fun p => if goB w p then 1 else 0) n ≤ n + 1 ∧ ((n = 0 ∨ ¬ goB w (n - 1)) → 2 * sm (fun p => if goB w p then 1 else 0) n ≤ n) := by
  intro n
  induction n with
  | zero => exact ⟨Nat.zero_le _, fun _ => Nat.zero_le _⟩
  | succ n ih =>
    have e : sm (fun p => if goB w p then 1 else 0) (n + 1) = sm (fun p => if goB w p then 1 else 0) n + (if goB w n then 1 else 0) := rfl
    rw [e]
    by_cases c : goB w n
    · rw [if_pos c]
      have hn : n = 0 ∨ ¬ goB w (n - 1) := by
        by_cases e0 : n = 0
        · exact Or.inl e0
        · right
          intro y
          have hgo : hsN (w.cb (n - 1)) := by
            rcases y.2.2 with e2 | e2 | e2 <;> rw [e2] <;> decide
          have hnx : nxN w.cb (n - 1) = n - 1 + 2 := if_pos hgo
          have := bg_next y.1.1 y.1.2 y.2.1 (j := n) (by omega) c.1
          omega
      have := ih.2 hn
      refine ⟨by omega, ?_⟩
      rintro (y | y)
      · omega
      · exact absurd c y
    · rw [if_neg c]
      have := ih.1
      exact ⟨by omega, fun _ => by omega⟩
theorem ct_24 {w : Wd} (hk : okW w) {z : St} (hF : Fin w z) : ctS w w.cs ≤ 24 := by
  have h48 := hk.cs
  have h1 : ctS w w.cs ≤ sm (fun q => if ∃ p, p < w.cs ∧ goB w p ∧ tgN w p = q then 1 else 0) w.cs := by
    refine sm_le w.cs (fun q hq => ?_)
    by_cases e : frS w q
    · rw [if_pos e, if_pos (fr_go hF hq e)]
      exact Nat.le_refl _
    · rw [if_neg e]
      exact Nat.zero_le _
  have h2 := ct_le (tgN w) (goB w) w.cs w.cs
  have h3 := (go_ct (w := w) w.cs).1
  omega
theorem ct_mono {w : Wd} {k n : Nat} (h : k ≤ n) : ctS w k ≤ ctS w n := by
  induction n with
  | zero =>
    rw [show k = 0 by omega]
    exact Nat.le_refl _
  | succ n ih =>
    by_cases e : k = n + 1
    · rw [e]
      exact Nat.le_refl _
    · have := ih (by omega)
      have e2 : ctS w (n + 1) = ctS w n + (if frS w n then 1 else 0) := rfl
      omega
