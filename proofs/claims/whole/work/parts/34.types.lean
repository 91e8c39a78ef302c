/-! how types stand to one another -/
/-- a parent's number is less -/
def okP (P : Nat → Nat) : Prop := P 0 = 0 ∧ ∀ c, 0 < c → c < 8 → P c < c
def lca (P : Nat → Nat) : Nat → Nat → Nat → Nat
  | 0, a, _ => a
  | n + 1, a, b => if a = b then a else if b < a then lca P n (P a) b else lca P n a (P b)
/-- from a up to the first that isn't above d -/
def dn (P : Nat → Nat) (d : Nat) : Nat → Nat → Nat
  | 0, a => a
  | n + 1, a => if d < a then dn P d n (P a) else a
theorem lca_le {P : Nat → Nat} (hP : okP P) : ∀ (n a b : Nat), a < 8 → b < 8 → lca P n a b ≤ a := by
  intro n
  induction n with
  | zero => intro a b _ _; exact Nat.le_refl _
  | succ n ih =>
    intro a b ha hb
    unfold lca
    have hPa : P a ≤ a := by
      rcases Nat.eq_zero_or_pos a with rfl | h
      · rw [hP.1]; exact Nat.le_refl _
      · exact Nat.le_of_lt (hP.2 a h ha)
    have hPb : P b ≤ b := by
      rcases Nat.eq_zero_or_pos b with rfl | h
      · rw [hP.1]; exact Nat.le_refl _
      · exact Nat.le_of_lt (hP.2 b h hb)
    split
    · exact Nat.le_refl _
    · split
      · exact Nat.le_trans (ih (P a) b (by omega) hb) hPa
      · exact ih a (P b) ha (by omega)
/-- a is below d -/
abbrev bel (P : Nat → Nat) (a d : Nat) : Prop := dn P d 8 a = d
theorem dn_more {P : Nat → Nat} (hP : okP P) (d : Nat) : ∀ (n a : Nat), a < 8 → a ≤ n → ∀ k, dn P d (n + k) a = dn P d n a := by
  intro n
  induction n with
  | zero =>
    intro a ha hn k
    have : a = 0 := by omega
    subst this
    cases k with
    | zero => rfl
    | succ k =>
      show (if d < 0 then _ else 0) = 0
      rw [if_neg (by omega)]
  | succ n ih =>
    intro a ha hn k
    rw [show n + 1 + k = (n + k) + 1 by omega]
    show (if d < a then dn P d (n + k) (P a) else a) = (if d < a then dn P d n (P a) else a)
    split
    · rename_i h
      have := hP.2 a (by omega) ha
      exact ih (P a) (by omega) (by omega) k
    · rfl
theorem dn_step {P : Nat → Nat} (hP : okP P) {d a : Nat} (ha : a < 8) (h : d < a) : dn P d 8 a = dn P d 8 (P a) := by
  have hp := hP.2 a (by omega) ha
  have e : dn P d 8 a = dn P d 7 (P a) := by
    show (if d < a then dn P d 7 (P a) else a) = _
    rw [if_pos h]
  rw [e]
  exact (dn_more hP d 7 (P a) (by omega) (by omega) 1).symm
theorem dn_stop {P : Nat → Nat} {d a : Nat} (h : ¬ d < a) : dn P d 8 a = a := by
  show (if d < a then dn P d 7 (P a) else a) = _
  rw [if_neg h]
theorem lca_bel {P : Nat → Nat} (hP : okP P) : ∀ (n a b : Nat), a < 8 → b < 8 → a + b ≤ n → (lca P n a b = b ↔ bel P a b) := by
  intro n
  induction n with
  | zero =>
    intro a b ha hb hn
    have : a = 0 := by omega
    have : b = 0 := by omega
    subst_vars
    unfold bel
    rw [dn_stop (by omega)]
    exact Iff.rfl
  | succ n ih =>
    intro a b ha hb hn
    unfold lca
    by_cases h : a = b
    · subst h
      rw [if_pos rfl]
      unfold bel
      rw [dn_stop (by omega)]
    · rw [if_neg h]
      by_cases h2 : b < a
      · rw [if_pos h2]
        have hp := hP.2 a (by omega) ha
        rw [ih (P a) b (by omega) hb (by omega)]
        unfold bel
        rw [dn_step hP ha h2]
      · rw [if_neg h2]
        have hp := hP.2 b (by omega) hb
        have := lca_le hP n a (P b) ha (by omega)
        unfold bel
        rw [dn_stop h2]
        constructor
        · intro q; omega
        · intro q; omega
/-- the reference's way: from a up to the first that b is below -/
noncomputable def mtM (P : Nat → Nat) (b : Nat) : Nat → Nat → Nat
  | 0, c => c
  | n + 1, c => if dn P c 8 b = c then c else mtM P b n (P c)
theorem mtM_P {P : Nat → Nat} (hP : okP P) {b : Nat} (hb : b < 8) : ∀ (n c : Nat), c < b → c < 8 → mtM P b n c = mtM P (P b) n c := by
  intro n
  induction n with
  | zero => intro c _ _; rfl
  | succ n ih =>
    intro c hc h8
    unfold mtM
    rw [dn_step hP hb hc]
    split
    · rfl
    · have hPc : P c ≤ c := by
        rcases Nat.eq_zero_or_pos c with rfl | h
        · rw [hP.1]; exact Nat.le_refl _
        · exact Nat.le_of_lt (hP.2 c h h8)
      exact ih (P c) (by omega) (by omega)
theorem mtM_more {P : Nat → Nat} (hP : okP P) {b : Nat} (hb : b < 8) : ∀ (n c : Nat), c < 8 → c < n → mtM P b (n + 1) c = mtM P b n c := by
  intro n
  induction n with
  | zero => intro c _ h; omega
  | succ n ih =>
    intro c h8 hn
    show (if dn P c 8 b = c then c else mtM P b (n + 1) (P c)) = (if dn P c 8 b = c then c else mtM P b n (P c))
    split
    · rfl
    · rename_i hne
      rcases Nat.eq_zero_or_pos c with rfl | h
      · exfalso
        apply hne
        have : ∀ (n a : Nat), a < 8 → a ≤ n → dn P 0 n a = 0 := by
          intro n
          induction n with
          | zero => intro a _ h; have : a = 0 := by omega
                    subst this; rfl
          | succ n ih2 =>
            intro a ha h
            show (if 0 < a then dn P 0 n (P a) else a) = 0
            split
            · rename_i q
              have := hP.2 a q ha
              exact ih2 (P a) (by omega) (by omega)
            · omega
        exact this 8 b hb (by omega)
      · have := hP.2 c h h8
        exact ih (P c) (by omega) (by omega)
theorem mtM_lca {P : Nat → Nat} (hP : okP P) : ∀ (n a b : Nat), a < 8 → b < 8 → a + b ≤ n → mtM P b 8 a = lca P n a b := by
  intro n
  induction n with
  | zero =>
    intro a b ha hb hn
    have : a = 0 := by omega
    have : b = 0 := by omega
    subst_vars
    show (if dn P 0 8 0 = 0 then 0 else _) = 0
    rw [if_pos (dn_stop (by omega))]
  | succ n ih =>
    intro a b ha hb hn
    unfold lca
    by_cases h : a = b
    · subst h
      rw [if_pos rfl]
      show (if dn P a 8 a = a then a else _) = a
      rw [if_pos (dn_stop (by omega))]
    · rw [if_neg h]
      by_cases h2 : b < a
      · rw [if_pos h2]
        have hp := hP.2 a (by omega) ha
        rw [← ih (P a) b (by omega) hb (by omega)]
        show (if dn P a 8 b = a then a else mtM P b 7 (P a)) = _
        rw [dn_stop (by omega), if_neg (fun q => h q.symm)]
        exact (mtM_more hP hb 7 (P a) (by omega) (by omega)).symm
      · rw [if_neg h2]
        have hp := hP.2 b (by omega) hb
        rw [← ih a (P b) ha (by omega) (by omega)]
        exact mtM_P hP hb 8 a (by omega) ha
