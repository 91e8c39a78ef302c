/-! the class: Stepper.step -/
theorem al1 {P : Nat → Prop} : (∀ i, i < 1 → P i) ↔ P 0 := by
  constructor
  · intro h
    exact h 0 (by omega)
  · intro h i hi
    obtain rfl : i = 0 := by omega
    exact h
theorem al2 {P : Nat → Prop} : (∀ i, i < 2 → P i) ↔ P 0 ∧ P 1 := by
  constructor
  · intro h
    exact ⟨h 0 (by omega), h 1 (by omega)⟩
  · intro h i hi
    have : i = 0 ∨ i = 1 := by omega
    rcases this with rfl | rfl
    · exact h.1
    · exact h.2
theorem al0 {P : Nat → Prop} : (∀ i, i < 0 → P i) ↔ True := ⟨fun _ => trivial, fun _ i hi => absurd hi (by omega)⟩
theorem bel0 {P : Nat → Nat} (hP : okP P) : ∀ n a, a < 8 → a ≤ n → dn P 0 n a = 0 := by
  intro n
  induction n with
  | zero =>
    intro a ha h
    obtain rfl : a = 0 := by omega
    rfl
  | succ n ih =>
    intro a ha h
    unfold dn
    split
    · have := hP.2 a (by omega) ha
      exact ih _ (by omega) (by omega)
    · omega
theorem wok_1 (w : Wd) (t : Int32) : wok w 1 t ↔ t = 1 := by
  unfold wok
  rw [if_neg (by decide), if_neg (by decide)]
  unfold fitsP
  grind
theorem wok_0 (w : Wd) (t : Int32) : wok w 0 t ↔ True := by
  unfold wok
  rw [if_neg (by decide), if_neg (by decide)]
  exact ⟨fun _ => trivial, fun _ => Or.inl rfl⟩
theorem wok_m2 (w : Wd) (t : Int32) : wok w (-2) t ↔ tRef t := by
  unfold wok
  rw [if_pos rfl]
theorem wok_m3 (w : Wd) (t : Int32) : wok w (-3) t ↔ tNew t := by
  unfold wok
  rw [if_neg (by decide), if_pos rfl]
theorem wok_16 {w : Wd} (hk : okW w) (t : Int32) : wok w 16 t ↔ tPlain t := by
  unfold wok
  rw [if_neg (by decide), if_neg (by decide)]
  unfold fitsP
  constructor
  · rintro (h | h | h)
    · exact absurd h (by decide)
    · subst h
      exact Or.inr (by decide)
    · rcases h.2 with q | q
      · exact Or.inl q
      · exact Or.inr q.1
  · rintro (h | h)
    · exact Or.inr (Or.inr ⟨by decide, Or.inl h⟩)
    · refine Or.inr (Or.inr ⟨by decide, Or.inr ⟨h, ?_⟩⟩)
      obtain ⟨c, hc, e1, e2⟩ := obj_of h
      rw [e2]
      have : ((16 : Int32) - 16).toNatClampNeg = 0 := by decide
      rw [this]
      exact bel0 hk.P 8 c hc (by omega)
theorem wok_k (w : Wd) {u : Int32} (hu : tKnown u) (t : Int32) : wok w u t ↔ fitsP w.P t u := by
  unfold wok
  rw [if_neg (by grind), if_neg (by grind)]
theorem obj_nI {c : Nat} (h : c < 8) : tObj (nI (16 + c)) := ⟨nI_le (a := 16) (by omega) (by omega), nI_lt (b := 24) (by omega) (by decide)⟩
theorem wok_o (w : Wd) {c : Nat} (h : c < 8) (t : Int32) : wok w (nI (16 + c)) t ↔ fitsP w.P t (nI (16 + c)) := wok_k w (Or.inr (obj_nI h)) t
def cfit (w : Wd) (n x p h : Nat) (s : Nat → Int32) : Prop := (∀ i, i < tak w n x → wok w (wtT w n x i) (s (4 + h - tak w n x + i))) ∧ (if n = 3 then s x = 1 else if n = 5 then tRef (s x) else True) ∧ ¬ (n = 14 ∧ ¬ ∀ j, j < h → ¬ s (4 + j) = nI (64 + p))
theorem cfit_iff {w : Wd} (hk : okW w) {n x p h : Nat} {s : Nat → Int32} (hn : n < 22) (hx : xok n x) (ht : tak w n x ≤ h) (h5 : h ≤ 5) : cfit w n x p h s ↔ fitS w n x p h s := by
  have e1 : 4 + h - 1 = 3 + h := by omega
  have e2 : 4 + h - 2 = 2 + h := by omega
  have e3 : 2 + h + 1 = 3 + h := by omega
  unfold cfit
  rcases n22 hn with rfl | rfl | rfl | rfl | rfl | rfl | rfl | rfl | rfl | rfl | rfl | rfl | rfl | rfl | rfl | rfl | rfl | rfl | rfl | rfl | rfl | rfl
  · have e : tak w 0 x = 0 := rfl
    rw [e, al0]
    show True ∧ True ∧ _ ↔ decide True = true
    exact ⟨fun z => rfl, fun z => ⟨trivial, trivial, fun q => absurd q.1 (by decide)⟩⟩
  · have e : tak w 1 x = 0 := rfl
    rw [e, al0]
    show True ∧ True ∧ _ ↔ decide True = true
    exact ⟨fun z => rfl, fun z => ⟨trivial, trivial, fun q => absurd q.1 (by decide)⟩⟩
  · have e : tak w 2 x = 0 := rfl
    rw [e, al0]
    show True ∧ True ∧ _ ↔ decide True = true
    exact ⟨fun z => rfl, fun z => ⟨trivial, trivial, fun q => absurd q.1 (by decide)⟩⟩
  · have e : tak w 3 x = 0 := rfl
    rw [e, al0]
    show True ∧ s x = 1 ∧ _ ↔ decide (s x = 1) = true
    rw [decide_eq_true_iff]
    exact ⟨fun z => z.2.1, fun z => ⟨trivial, z, fun q => absurd q.1 (by decide)⟩⟩
  · have e : tak w 4 x = 1 := rfl
    rw [e] at ht ⊢
    rw [al1, e1]
    show wok w 1 (s (3 + h)) ∧ True ∧ _ ↔ decide (s (3 + h) = 1) = true
    rw [decide_eq_true_iff, wok_1 w]
    exact ⟨fun z => z.1, fun z => ⟨z, trivial, fun q => absurd q.1 (by decide)⟩⟩
  · have e : tak w 5 x = 0 := rfl
    rw [e, al0]
    show True ∧ tRef (s x) ∧ _ ↔ decide (tRef (s x)) = true
    rw [decide_eq_true_iff]
    exact ⟨fun z => z.2.1, fun z => ⟨trivial, z, fun q => absurd q.1 (by decide)⟩⟩
  · have e : tak w 6 x = 1 := rfl
    rw [e] at ht ⊢
    rw [al1, e1]
    show wok w (-2) (s (3 + h)) ∧ True ∧ _ ↔ decide (tRef (s (3 + h))) = true
    rw [decide_eq_true_iff, wok_m2 w]
    exact ⟨fun z => z.1, fun z => ⟨z, trivial, fun q => absurd q.1 (by decide)⟩⟩
  · have e : tak w 7 x = 2 := rfl
    rw [e] at ht ⊢
    rw [al2, e2, e3]
    show (wok w 1 (s (2 + h)) ∧ wok w 1 (s (3 + h))) ∧ True ∧ _ ↔ decide (s (3 + h) = 1 ∧ s (2 + h) = 1) = true
    rw [decide_eq_true_iff, wok_1 w, wok_1 w]
    exact ⟨fun z => ⟨z.1.2, z.1.1⟩, fun z => ⟨⟨z.2, z.1⟩, trivial, fun q => absurd q.1 (by decide)⟩⟩
  · have e : tak w 8 x = 1 := rfl
    rw [e] at ht ⊢
    rw [al1, e1]
    show wok w 0 (s (3 + h)) ∧ True ∧ _ ↔ decide (True) = true
    rw [decide_eq_true_iff, wok_0 w]
    exact ⟨fun z => z.1, fun z => ⟨z, trivial, fun q => absurd q.1 (by decide)⟩⟩
  · have e : tak w 9 x = 1 := rfl
    rw [e] at ht ⊢
    rw [al1, e1]
    show wok w 0 (s (3 + h)) ∧ True ∧ _ ↔ decide (True) = true
    rw [decide_eq_true_iff, wok_0 w]
    exact ⟨fun z => z.1, fun z => ⟨z, trivial, fun q => absurd q.1 (by decide)⟩⟩
  · have e : tak w 10 x = 2 := rfl
    rw [e] at ht ⊢
    rw [al2, e2, e3]
    show (wok w 0 (s (2 + h)) ∧ wok w 0 (s (3 + h))) ∧ True ∧ _ ↔ decide (True) = true
    rw [decide_eq_true_iff, wok_0 w, wok_0 w]
    exact ⟨fun z => trivial, fun z => ⟨⟨trivial, trivial⟩, trivial, fun q => absurd q.1 (by decide)⟩⟩
  · have e : tak w 11 x = 0 := rfl
    rw [e, al0]
    show True ∧ True ∧ _ ↔ decide True = true
    exact ⟨fun z => rfl, fun z => ⟨trivial, trivial, fun q => absurd q.1 (by decide)⟩⟩
  · have e : tak w 12 x = 1 := rfl
    rw [e] at ht ⊢
    rw [al1, e1]
    show wok w 1 (s (3 + h)) ∧ True ∧ _ ↔ decide (s (3 + h) = 1) = true
    rw [decide_eq_true_iff, wok_1 w]
    exact ⟨fun z => z.1, fun z => ⟨z, trivial, fun q => absurd q.1 (by decide)⟩⟩
  · have e : tak w 13 x = 1 := rfl
    rw [e] at ht ⊢
    rw [al1, e1]
    show wok w 16 (s (3 + h)) ∧ True ∧ _ ↔ decide (tPlain (s (3 + h))) = true
    rw [decide_eq_true_iff, wok_16 hk]
    exact ⟨fun z => z.1, fun z => ⟨z, trivial, fun q => absurd q.1 (by decide)⟩⟩
  · have e : tak w 14 x = 0 := rfl
    rw [e, al0]
    show True ∧ True ∧ _ ↔ decide (∀ k, k < h → ¬ s (4 + k) = nI (64 + p)) = true
    rw [decide_eq_true_iff]
    exact ⟨fun z => Decidable.not_not.mp (fun q => z.2.2 ⟨rfl, q⟩), fun z => ⟨trivial, trivial, fun q => q.2 z⟩⟩
  · have e : tak w 15 x = 1 := rfl
    rw [e] at ht ⊢
    rw [al1, e1]
    show wok w (-3) (s (3 + h)) ∧ True ∧ _ ↔ decide (tNew (s (3 + h))) = true
    rw [decide_eq_true_iff, wok_m3 w]
    exact ⟨fun z => z.1, fun z => ⟨z, trivial, fun q => absurd q.1 (by decide)⟩⟩
  · have h6 : x < 6 := by simpa [xok] using hx
    have e : tak w 16 x = 1 := rfl
    rw [e] at ht ⊢
    rw [al1, e1]
    show wok w (nI (16 + w.fc x)) (s (3 + h)) ∧ True ∧ _ ↔ decide (fitsP w.P (s (3 + h)) (nI (16 + w.fc x))) = true
    rw [decide_eq_true_iff, wok_o w (hk.fc x h6)]
    exact ⟨fun z => z.1, fun z => ⟨z, trivial, fun q => absurd q.1 (by decide)⟩⟩
  · have h6 : x < 6 := by simpa [xok] using hx
    have e : tak w 17 x = 2 := rfl
    rw [e] at ht ⊢
    rw [al2, e2, e3]
    show (wok w (nI (16 + w.fc x)) (s (2 + h)) ∧ wok w (w.ft x) (s (3 + h))) ∧ True ∧ _ ↔ decide (fitsP w.P (s (3 + h)) (w.ft x) ∧ fitsP w.P (s (2 + h)) (nI (16 + w.fc x))) = true
    rw [decide_eq_true_iff, wok_o w (hk.fc x h6), wok_k w (hk.ft x h6)]
    exact ⟨fun z => ⟨z.1.2, z.1.1⟩, fun z => ⟨⟨z.2, z.1⟩, trivial, fun q => absurd q.1 (by decide)⟩⟩
  · have h6 : x < 6 := by simpa [xok] using hx
    have e : tak w 18 x = w.rn x := rfl
    rw [e]
    show (∀ i, i < w.rn x → wok w (w.rt x i) _) ∧ True ∧ _ ↔ decide (∀ k, k < w.rn x → fitsP w.P (s (4 + h - w.rn x + k)) (w.rt x k)) = true
    rw [decide_eq_true_iff]
    constructor
    · intro z k hk2
      exact (wok_k w (hk.rt x k h6 hk2) _).mp (z.1 k hk2)
    · intro z
      exact ⟨fun i hi => (wok_k w (hk.rt x i h6 hi) _).mpr (z i hi), trivial, fun q => absurd q.1 (by decide)⟩
  · by_cases h0 : w.mg = 0
    · have e : tak w 19 x = 0 := if_pos h0
      rw [e, al0]
      show True ∧ True ∧ _ ↔ decide (w.mg = 0 ∨ fitsP w.P (s (3 + h)) w.mg) = true
      rw [decide_eq_true_iff]
      exact ⟨fun _ => Or.inl h0, fun _ => ⟨trivial, trivial, fun q => absurd q.1 (by decide)⟩⟩
    · have e : tak w 19 x = 1 := if_neg h0
      rw [e] at ht ⊢
      rw [al1, e1]
      show wok w w.mg (s (3 + h + 0)) ∧ True ∧ _ ↔ decide (w.mg = 0 ∨ fitsP w.P (s (3 + h)) w.mg) = true
      have hm : tKnown w.mg := hk.mg.resolve_left h0
      rw [decide_eq_true_iff, wok_k w hm]
      exact ⟨fun z => Or.inr z.1, fun z => ⟨z.resolve_left h0, trivial, fun q => absurd q.1 (by decide)⟩⟩
  · have e : tak w 20 x = 1 := rfl
    rw [e] at ht ⊢
    rw [al1, e1]
    show wok w 16 (s (3 + h)) ∧ True ∧ _ ↔ decide (tPlain (s (3 + h))) = true
    rw [decide_eq_true_iff, wok_16 hk]
    exact ⟨fun z => z.1, fun z => ⟨z, trivial, fun q => absurd q.1 (by decide)⟩⟩
  · have e : tak w 21 x = 1 := rfl
    rw [e] at ht ⊢
    rw [al1, e1]
    show wok w 16 (s (3 + h)) ∧ True ∧ _ ↔ decide (tPlain (s (3 + h))) = true
    rw [decide_eq_true_iff, wok_16 hk]
    exact ⟨fun z => z.1, fun z => ⟨z, trivial, fun q => absurd q.1 (by decide)⟩⟩
def upS (h : Nat) (s : Nat → Int32) (d : Nat) : Int32 := if d < h then s (3 + h - d) else 0
theorem ps_eq {w : Wd} {n x p h : Nat} {s : Nat → Int32} (hn : n < 22) (ht : tak w n x ≤ h) (hf : fitS w n x p h s) : gvS w n x p (h - tak w n x) (upS h s 0) (upS h s 1) (clS w n x p (h - tak w n x) (upS h s 0) s) = psS w n x p h s := by
  rcases n22 hn with rfl | rfl | rfl | rfl | rfl | rfl | rfl | rfl | rfl | rfl | rfl | rfl | rfl | rfl | rfl | rfl | rfl | rfl | rfl | rfl | rfl | rfl
  · rfl
  · have e : tak w 1 x = 0 := rfl
    rw [e, Nat.sub_zero]
    rfl
  · have e : tak w 2 x = 0 := rfl
    rw [e, Nat.sub_zero]
    rfl
  · have e : tak w 3 x = 0 := rfl
    rw [e, Nat.sub_zero]
    rfl
  · have e : tak w 4 x = 1 := rfl
    rw [e] at ht ⊢
    have hf2 : decide (s (3 + h) = 1) = true := hf
    rw [decide_eq_true_iff] at hf2
    show upd s x (upS h s 0) = upd s x 1
    unfold upS
    rw [if_pos (by omega), show 3 + h - 0 = 3 + h by omega, hf2]
  · have e : tak w 5 x = 0 := rfl
    rw [e, Nat.sub_zero]
    rfl
  · have e : tak w 6 x = 1 := rfl
    rw [e] at ht ⊢
    show upd s x (upS h s 0) = upd s x (s (3 + h))
    unfold upS
    rw [if_pos (by omega), show 3 + h - 0 = 3 + h by omega]
  · have e : tak w 7 x = 2 := rfl
    rw [e] at ht ⊢
    show upd s (4 + (h - 2)) 1 = upd s (2 + h) 1
    rw [show 4 + (h - 2) = 2 + h by omega]
  · rfl
  · have e : tak w 9 x = 1 := rfl
    rw [e] at ht ⊢
    show upd (upd s (4 + (h - 1)) (upS h s 0)) (4 + (h - 1 + 1)) (upS h s 0) = upd (upd s (3 + h) (s (3 + h))) (4 + h) (s (3 + h))
    unfold upS
    rw [if_pos (by omega), show 3 + h - 0 = 3 + h by omega, show 4 + (h - 1) = 3 + h by omega, show 4 + (h - 1 + 1) = 4 + h by omega]
  · have e : tak w 10 x = 2 := rfl
    rw [e] at ht ⊢
    show upd (upd s (4 + (h - 2)) (upS h s 0)) (4 + (h - 2 + 1)) (upS h s 1) = upd (upd s (2 + h) (s (3 + h))) (3 + h) (s (2 + h))
    unfold upS
    rw [if_pos (by omega), if_pos (by omega), show 3 + h - 0 = 3 + h by omega, show 3 + h - 1 = 2 + h by omega, show 4 + (h - 2) = 2 + h by omega, show 4 + (h - 2 + 1) = 3 + h by omega]
  · rfl
  · rfl
  · rfl
  · have e : tak w 14 x = 0 := rfl
    rw [e, Nat.sub_zero]
    rfl
  · have e : tak w 15 x = 1 := rfl
    rw [e] at ht ⊢
    show rpl s (4 + (h - 1)) (upS h s 0) (nI (16 + w.cb ((upS h s 0 - 64).toNatClampNeg + 1))) = rpl s (3 + h) (s (3 + h)) (nI (16 + w.cb ((s (3 + h) - 64).toNatClampNeg + 1)))
    unfold upS
    rw [if_pos (by omega), show 3 + h - 0 = 3 + h by omega, show 4 + (h - 1) = 3 + h by omega]
  · have e : tak w 16 x = 1 := rfl
    rw [e] at ht ⊢
    show upd s (4 + (h - 1)) (w.ft x) = upd s (3 + h) (w.ft x)
    rw [show 4 + (h - 1) = 3 + h by omega]
  · rfl
  · have e : tak w 18 x = w.rn x := rfl
    rw [e] at ht ⊢
    show (if w.rg x = 0 then s else upd s (4 + (h - w.rn x)) (w.rg x)) = (if w.rg x = 0 then s else upd s (4 + h - w.rn x) (w.rg x))
    rw [show 4 + (h - w.rn x) = 4 + h - w.rn x by omega]
  · rfl
  · have e : tak w 20 x = 1 := rfl
    rw [e] at ht ⊢
    show upd s (4 + (h - 1)) (nI (16 + x)) = upd s (3 + h) (nI (16 + x))
    rw [show 4 + (h - 1) = 3 + h by omega]
  · rfl
theorem tak_le {w : Wd} (hk : okW w) {n x : Nat} (hx : n = 18 → x < 6) : tak w n x ≤ 4 := by
  unfold tak
  have := hk.rn x
  grind
theorem giv_le (w : Wd) (n x : Nat) : giv w n x ≤ 2 := by
  unfold giv
  grind
section STQ
variable (Ls : Nat) (xs : Nat → Int32) (orc : pm_Q) (L : Nat → Int64) (g : pm_H) (w : Wd)
theorem V_step {A I : Nat → Nat → Int32} (hw : hW w A I) (hk : okW w) {p h : Nat} (hp : p < w.cs) (hwl : wlN w.cs w.cb p) (h5 : h ≤ 5) (s : Nat → Int32) (hv : ∀ j, j < 4 + h → vT w (s j)) : ∃ W c, pm_V (pm_ol Ls xs) orc 57 [.ref 33, .int (nI p)] (mk (sF A 35 s) (sI I 34 1 (nI h)) L g) = some (some (.int (nI (ftS w p h s))), mk (sF (sF A 36 W) 35 (if ftS w p h s = 0 then psS w (w.cb p) (xof w p) p h s else s)) (sI (sI I 33 4 c) 34 1 (nI (if ftS w p h s = 0 then phS w (w.cb p) (xof w p) h else h))) L g) := by
  have h48 := hk.cs
  have hn : w.cb p < 22 := hwl.1
  have hc : cdI A I (nI p) = nI (w.cb p) := cd_in hw.c hp
  have hxv : hsN (w.cb p) → cdI A I (nI (p + 1)) = nI (xof w p) := by
    intro hh
    have := hwl.2
    unfold nxN at this
    rw [if_pos hh] at this
    rw [cd_in hw.c (by omega)]
    unfold xof
    rw [if_pos hh]
  have hx256 : hsN (w.cb p) → xof w p < 256 := by
    intro hh
    have := hwl.2
    unfold nxN at this
    rw [if_pos hh] at this
    unfold xof
    rw [if_pos hh]
    exact hk.cb _ (by omega)
  have eX : (¬ hsP (nI (w.cb p)) ∨ cdI A I (nI (p + 1)) < xbI (nI (w.cb p))) = xok (w.cb p) (xof w p) := by
    rw [hs_nI _ (by omega)]
    by_cases hh : hsN (w.cb p)
    · rw [hxv hh, xr_dec hn (hx256 hh) hh]
      simp [hh]
    · have : xof w p = 0 := if_neg hh
      rw [this]
      have h1 := xr_no _ hn hh
      simp [hh, h1]
  unfold ftS
  generalize hN : w.cb p = n at *
  generalize hX : xof w p = x at *
  by_cases hx : xok n x
  · rw [if_neg (not_not_intro hx)]
    obtain ⟨W, h1, h2⟩ := V_listWanted orc L g w (pm_ol Ls xs) (A := sF A 35 s) (I := sI I 34 1 (nI h)) ((hw.sF (by decide) _).sI (by decide) _ _) hk hn hx (cdI A I (nI (p + 1))) hxv
    have ht4 : tak w n x ≤ 4 := tak_le hk (by rintro rfl; simpa [xok] using hx)
    by_cases ht : h < tak w n x
    · rw [if_pos ht]
      refine ⟨W, nI (tak w n x), ?_⟩
      simp (disch := omega) only [f57_0, f57_1, f57_4, f57_5, f57_8, f57_9, f57_10, f57_13, f57_14, f57_17, f57_18, f57_19, f57_22, f57_23, f57_26, f57_29, f57_30, f57_31, f57_32, f57_33, f57_34, f57_37, f57_38, f57_41, f57_44, f57_45, f57_48, f57_51, f57_52, f57_53, f57_54, f57_57, f57_60, f57_61, f57_62, f57_63, f57_66, f57_69, f57_70, f57_71, f57_72, f57_75, f57_78, f57_80, f57_81, f57_82, f57_85, f57_88, f57_89, f57_92, f57_93, f57_94, f57_95, f57_96, f57_99, f57_100, f57_101, f57_104, f57_106, f57_107, f57_108, f57_111, f57_112, f57_115, f57_117, f57_118, f57_121, f57_122, f57_125, f57_127, f57_128, f57_131, f57_132, f57_135, f57_138, f57_139, f57_140, f57_142, f57_145, f57_146, f57_147, f57_149, f57_151, f57_154, f57_155, v57, pm_Pv_some, pm_Ph_some, pm_B_some, pm_B_none, is_0, fd_0_0, fd_0_1, fd_0_2, fd_0_3, fd_0_4, fd_0_5, is_1, fd_1_0, fd_1_1, fd_1_2, fd_1_3, fd_1_4, ln_2, ln_3, ln_4, is_6, fd_6_0, fd_6_1, fs_6_1, fd_6_2, fs_6_2, ln_7, is_8, fd_8_0, fd_8_1, fs_8_1, fd_8_2, fs_8_2, ln_9, is_10, fd_10_0, fd_10_1, fs_10_1, fd_10_2, fs_10_2, ln_11, is_12, fd_12_0, fd_12_1, fs_12_1, fd_12_2, fs_12_2, ln_13, is_14, fd_14_0, fd_14_1, fs_14_1, fd_14_2, fs_14_2, ln_15, is_16, fd_16_0, fd_16_1, fs_16_1, fd_16_2, fs_16_2, ln_17, is_18, fd_18_0, fd_18_1, fs_18_1, fd_18_2, fs_18_2, ln_19, is_20, fd_20_0, fd_20_1, is_21, fd_21_0, fd_21_1, fs_21_1, ln_22, ln_23, is_24, fd_24_0, fd_24_1, fs_24_1, ln_25, is_26, fd_26_0, fd_26_1, fs_26_1, fd_26_2, fd_26_3, fd_26_4, fd_26_5, fd_26_6, fs_26_6, fd_26_7, fs_26_7, fd_26_8, fs_26_8, ln_27, is_28, fd_28_0, fd_28_1, fs_28_1, ln_29, is_30, fd_30_0, fd_30_1, fd_30_2, ln_31, ln_32, is_33, fd_33_0, fd_33_1, fd_33_2, fd_33_3, fd_33_4, fs_33_4, is_34, fd_34_0, fd_34_1, fs_34_1, ln_35, ln_36, is_37, fd_37_0, fd_37_1, fd_37_2, fd_37_3, is_38, fd_38_0, fd_38_1, fd_38_2, fd_38_3, fd_38_4, fd_38_5, fd_38_6, is_39, fd_39_0, fd_39_1, fd_39_2, fs_39_2, fd_39_3, fs_39_3, is_40, fd_40_0, fd_40_1, fs_40_1, ln_41, ln_42, ln_43, ln_44, is_45, fd_45_0, fd_45_1, fd_45_2, ln_46, ln_47, is_48, fd_48_0, fs_48_0, fd_48_1, fd_48_2, fd_48_3, fd_48_4, fd_48_5, fd_48_6, fd_48_7, fd_48_8, fs_48_8, fd_48_9, fs_48_9, fd_48_10, fd_48_11, fs_48_11, fd_48_12, fd_48_13, fs_48_13, fd_48_14, fs_48_14, fd_48_15, fd_48_16, fd_48_17, fd_48_18, fs_48_18, fd_48_19, fs_48_19, fd_48_20, fd_48_21, fs_48_21, fd_48_22, fs_48_22, fd_48_23, fs_48_23, fd_48_24, fd_48_25, fd_48_26, fd_48_27, fd_48_28, fd_48_29, fd_48_30, fs_48_30, fd_48_31, ln_49, ln_50, ln_51, ln_52, ln_53, ln_54, ln_55, ln_56, ln_57, ln_58, ln_59, ln_60, ln_61, ln_62, ln_63, ln_64, ln_65, ln_66, ln_67, ln_68, aN_2, aL_2, sN_2, sL_2, aN_3, aL_3, sN_3, sL_3, aN_4, aL_4, sN_4, sL_4, aN_7, aL_7, sN_7, sL_7, aN_9, aL_9, sN_9, sL_9, aN_11, aL_11, sN_11, sL_11, aN_13, aL_13, sN_13, sL_13, aN_15, aL_15, sN_15, sL_15, aN_17, aL_17, sN_17, sL_17, aN_19, aL_19, sN_19, sL_19, aN_22, aL_22, sN_22, sL_22, aN_25, aL_25, sN_25, sL_25, aN_27, aL_27, sN_27, sL_27, aN_29, aL_29, sN_29, sL_29, aN_31, aL_31, sN_31, sL_31, aN_32, aL_32, sN_32, sL_32, aN_35, aL_35, sN_35, sL_35, aN_36, aL_36, sN_36, sL_36, aN_41, aL_41, sN_41, sL_41, aN_42, aL_42, sN_42, sL_42, aN_46, aL_46, sN_46, sL_46, aN_47, aL_47, sN_47, sL_47, aN_49, aL_49, sN_49, sL_49, aN_50, aL_50, sN_50, sL_50, aN_51, aL_51, sN_51, sL_51, aN_52, aL_52, sN_52, sL_52, aN_53, aL_53, sN_53, sL_53, aN_54, aL_54, sN_54, sL_54, aN_55, aL_55, sN_55, sL_55, aN_56, aL_56, sN_56, sL_56, aN_57, aL_57, sN_57, sL_57, aN_58, aL_58, sN_58, sL_58, aN_59, aL_59, sN_59, sL_59, aN_60, aL_60, sN_60, sL_60, aN_61, aL_61, sN_61, sL_61, aN_66, aL_66, sN_66, sL_66, aN_67, aL_67, sN_67, sL_67, aN_68, aL_68, sN_68, sL_68, aN_23, sN_23, aN_43, sN_43, aN_44, sN_44, aN_62, sN_62, aN_63, sN_63, aN_64, sN_64, aN_65, sN_65, aN_1001, aN_1002, aq_5_0, aq_5_1, aq_5_2, aq_5_3, aq_5_4, aq_5_5, q_add, q_addl, q_ladd, q_sub, q_subl, q_lsub, q_mul, q_mull, q_lmul, q_le, q_lel, q_lle, q_lt, q_ltl, q_llt, q_eq, q_eql, q_leq, q_m1, q_1m, q_cl, q_nb, q_leT, q_leF, q_ltT, q_ltF, q_eqT, q_eqF, q_10, q_01, q_em, q_bT, q_bF, q_uS, q_uN, q_sA, q_sAn, q_sFn, q_sIn, q_sAF, sF_s, sI_s, sI_sI, sF_sF, nar0, nar1, b1_0, b1_1, b1_or, if_true, if_false, not_true_eq_false, not_false_eq_true, ↓reduceIte, Int32.reduceAdd, Int32.reduceSub, Int32.reduceMul, Int32.reduceLT, Int32.reduceLE, eq_self, Nat.reduceAdd, Nat.reduceSub, Nat.reduceMul, true_or, or_true, false_or, or_false, and_true, true_and, and_false, false_and, V_number, V_x, V_isXRight, cdI_sF, cdI_sI, hc, eX, eq_true hx, h1, cm_35_36, ci_34_33]
      rfl
    · rw [if_neg ht]
      have hwf := V_wantedFit (pm_ol Ls xs) orc L g w W s hw hk ht4 h5 (by omega)
      have hw2 : hW w (sF A 36 W) (sI I 33 4 (nI (tak w n x))) := (hw.sF (by decide) _).sI (by decide) _ _
      have hw3 : hW w (sF (sF A 36 W) 35 s) (sI (sI I 33 4 (nI (tak w n x))) 34 1 (nI h)) := (hw2.sF (by decide) _).sI (by decide) _ _
      have eW : (∀ i, i < tak w n x → wok w (W i) (s (4 + h - tak w n x + i))) = (∀ i, i < tak w n x → wok w (wtT w n x i) (s (4 + h - tak w n x + i))) := by
        apply propext
        constructor
        · intro z i hi
          rw [← h2 i hi]
          exact z i hi
        · intro z i hi
          rw [h2 i hi]
          exact z i hi
      have hci := cfit_iff (p := p) (s := s) hk hn hx (by omega) h5
      have hg2 := giv_le w n x
      by_cases hf : fitS w n x p h s
      · rw [if_neg (not_not_intro hf)]
        obtain ⟨c1, c2, c3⟩ := hci.mpr hf
        rw [← eW] at c1
        by_cases h7 : 5 < h - tak w n x + giv w n x
        · rw [if_pos h7]
          refine ⟨W, nI (tak w n x), ?_⟩
          simp (disch := omega) only [f57_0, f57_1, f57_4, f57_5, f57_8, f57_9, f57_10, f57_13, f57_14, f57_17, f57_18, f57_19, f57_22, f57_23, f57_26, f57_29, f57_30, f57_31, f57_32, f57_33, f57_34, f57_37, f57_38, f57_41, f57_44, f57_45, f57_48, f57_51, f57_52, f57_53, f57_54, f57_57, f57_60, f57_61, f57_62, f57_63, f57_66, f57_69, f57_70, f57_71, f57_72, f57_75, f57_78, f57_80, f57_81, f57_82, f57_85, f57_88, f57_89, f57_92, f57_93, f57_94, f57_95, f57_96, f57_99, f57_100, f57_101, f57_104, f57_106, f57_107, f57_108, f57_111, f57_112, f57_115, f57_117, f57_118, f57_121, f57_122, f57_125, f57_127, f57_128, f57_131, f57_132, f57_135, f57_138, f57_139, f57_140, f57_142, f57_145, f57_146, f57_147, f57_149, f57_151, f57_154, f57_155, v57, pm_Pv_some, pm_Ph_some, pm_B_some, pm_B_none, is_0, fd_0_0, fd_0_1, fd_0_2, fd_0_3, fd_0_4, fd_0_5, is_1, fd_1_0, fd_1_1, fd_1_2, fd_1_3, fd_1_4, ln_2, ln_3, ln_4, is_6, fd_6_0, fd_6_1, fs_6_1, fd_6_2, fs_6_2, ln_7, is_8, fd_8_0, fd_8_1, fs_8_1, fd_8_2, fs_8_2, ln_9, is_10, fd_10_0, fd_10_1, fs_10_1, fd_10_2, fs_10_2, ln_11, is_12, fd_12_0, fd_12_1, fs_12_1, fd_12_2, fs_12_2, ln_13, is_14, fd_14_0, fd_14_1, fs_14_1, fd_14_2, fs_14_2, ln_15, is_16, fd_16_0, fd_16_1, fs_16_1, fd_16_2, fs_16_2, ln_17, is_18, fd_18_0, fd_18_1, fs_18_1, fd_18_2, fs_18_2, ln_19, is_20, fd_20_0, fd_20_1, is_21, fd_21_0, fd_21_1, fs_21_1, ln_22, ln_23, is_24, fd_24_0, fd_24_1, fs_24_1, ln_25, is_26, fd_26_0, fd_26_1, fs_26_1, fd_26_2, fd_26_3, fd_26_4, fd_26_5, fd_26_6, fs_26_6, fd_26_7, fs_26_7, fd_26_8, fs_26_8, ln_27, is_28, fd_28_0, fd_28_1, fs_28_1, ln_29, is_30, fd_30_0, fd_30_1, fd_30_2, ln_31, ln_32, is_33, fd_33_0, fd_33_1, fd_33_2, fd_33_3, fd_33_4, fs_33_4, is_34, fd_34_0, fd_34_1, fs_34_1, ln_35, ln_36, is_37, fd_37_0, fd_37_1, fd_37_2, fd_37_3, is_38, fd_38_0, fd_38_1, fd_38_2, fd_38_3, fd_38_4, fd_38_5, fd_38_6, is_39, fd_39_0, fd_39_1, fd_39_2, fs_39_2, fd_39_3, fs_39_3, is_40, fd_40_0, fd_40_1, fs_40_1, ln_41, ln_42, ln_43, ln_44, is_45, fd_45_0, fd_45_1, fd_45_2, ln_46, ln_47, is_48, fd_48_0, fs_48_0, fd_48_1, fd_48_2, fd_48_3, fd_48_4, fd_48_5, fd_48_6, fd_48_7, fd_48_8, fs_48_8, fd_48_9, fs_48_9, fd_48_10, fd_48_11, fs_48_11, fd_48_12, fd_48_13, fs_48_13, fd_48_14, fs_48_14, fd_48_15, fd_48_16, fd_48_17, fd_48_18, fs_48_18, fd_48_19, fs_48_19, fd_48_20, fd_48_21, fs_48_21, fd_48_22, fs_48_22, fd_48_23, fs_48_23, fd_48_24, fd_48_25, fd_48_26, fd_48_27, fd_48_28, fd_48_29, fd_48_30, fs_48_30, fd_48_31, ln_49, ln_50, ln_51, ln_52, ln_53, ln_54, ln_55, ln_56, ln_57, ln_58, ln_59, ln_60, ln_61, ln_62, ln_63, ln_64, ln_65, ln_66, ln_67, ln_68, aN_2, aL_2, sN_2, sL_2, aN_3, aL_3, sN_3, sL_3, aN_4, aL_4, sN_4, sL_4, aN_7, aL_7, sN_7, sL_7, aN_9, aL_9, sN_9, sL_9, aN_11, aL_11, sN_11, sL_11, aN_13, aL_13, sN_13, sL_13, aN_15, aL_15, sN_15, sL_15, aN_17, aL_17, sN_17, sL_17, aN_19, aL_19, sN_19, sL_19, aN_22, aL_22, sN_22, sL_22, aN_25, aL_25, sN_25, sL_25, aN_27, aL_27, sN_27, sL_27, aN_29, aL_29, sN_29, sL_29, aN_31, aL_31, sN_31, sL_31, aN_32, aL_32, sN_32, sL_32, aN_35, aL_35, sN_35, sL_35, aN_36, aL_36, sN_36, sL_36, aN_41, aL_41, sN_41, sL_41, aN_42, aL_42, sN_42, sL_42, aN_46, aL_46, sN_46, sL_46, aN_47, aL_47, sN_47, sL_47, aN_49, aL_49, sN_49, sL_49, aN_50, aL_50, sN_50, sL_50, aN_51, aL_51, sN_51, sL_51, aN_52, aL_52, sN_52, sL_52, aN_53, aL_53, sN_53, sL_53, aN_54, aL_54, sN_54, sL_54, aN_55, aL_55, sN_55, sL_55, aN_56, aL_56, sN_56, sL_56, aN_57, aL_57, sN_57, sL_57, aN_58, aL_58, sN_58, sL_58, aN_59, aL_59, sN_59, sL_59, aN_60, aL_60, sN_60, sL_60, aN_61, aL_61, sN_61, sL_61, aN_66, aL_66, sN_66, sL_66, aN_67, aL_67, sN_67, sL_67, aN_68, aL_68, sN_68, sL_68, aN_23, sN_23, aN_43, sN_43, aN_44, sN_44, aN_62, sN_62, aN_63, sN_63, aN_64, sN_64, aN_65, sN_65, aN_1001, aN_1002, aq_5_0, aq_5_1, aq_5_2, aq_5_3, aq_5_4, aq_5_5, q_add, q_addl, q_ladd, q_sub, q_subl, q_lsub, q_mul, q_mull, q_lmul, q_le, q_lel, q_lle, q_lt, q_ltl, q_llt, q_eq, q_eql, q_leq, q_m1, q_1m, q_cl, q_nb, q_leT, q_leF, q_ltT, q_ltF, q_eqT, q_eqF, q_10, q_01, q_em, q_bT, q_bF, q_uS, q_uN, q_sA, q_sAn, q_sFn, q_sIn, q_sAF, sF_s, sI_s, sI_sI, sF_sF, nar0, nar1, b1_0, b1_1, b1_or, if_true, if_false, not_true_eq_false, not_false_eq_true, ↓reduceIte, Int32.reduceAdd, Int32.reduceSub, Int32.reduceMul, Int32.reduceLT, Int32.reduceLE, eq_self, Nat.reduceAdd, Nat.reduceSub, Nat.reduceMul, true_or, or_true, false_or, or_false, and_true, true_and, and_false, false_and, V_number, V_x, V_isXRight, cdI_sF, cdI_sI, hc, eX, eq_true hx, h1, cm_35_36, ci_34_33, hwf, eq_true c1, V_localFits orc L g (pm_ol Ls xs) s hn hx _ hxv, eq_true c2, V_isNewStacked orc L g (pm_ol Ls xs) s hn (show p < 48 by omega) h5, eq_false c3, V_givenCount Ls xs orc L g w hw3 hn hx _ hxv]
          rfl
        · rw [if_neg h7]
          have hup : n = 15 → ∃ q, q < 48 ∧ mkN w.cs w.cb q ∧ upS h s 0 = nI (64 + q) := by
            rintro rfl
            have ht1 : ¬ h < 1 := ht
            have hf2 : decide (tNew (s (3 + h))) = true := hf
            rw [decide_eq_true_iff] at hf2
            unfold upS
            rw [if_pos (by omega), show 3 + h - 0 = 3 + h by omega]
            rcases hv (3 + h) (by omega) with q | q | q | q | q
            · rw [q] at hf2; exact absurd hf2 (by decide)
            · rw [q] at hf2; exact absurd hf2 (by decide)
            · rw [q] at hf2; exact absurd hf2 (by decide)
            · grind
            · exact q
          have hc2 : cdI (sF A 36 W) (sI I 33 4 (nI (tak w n x))) (nI p) = nI n := by simp (disch := omega) only [cdI_sF, cdI_sI, hc]
          have hxv2 : hsN n → cdI (sF A 36 W) (sI I 33 4 (nI (tak w n x))) (nI (p + 1)) = nI x := by simp (disch := omega) only [cdI_sF, cdI_sI]; exact hxv
          have hcl := V_cl orc L g w (pm_ol Ls xs) hw2 s (h := h - tak w n x) (upS h s 0) hn hx (show p < 48 by omega) (by omega) hc2 hxv2 hup
          have hgv := V_gv orc L g w (pm_ol Ls xs) hw2 (clS w n x p (h - tak w n x) (upS h s 0) s) (h := h - tak w n x) (upS h s 0) (upS h s 1) hn hx (show p < 48 by omega) (by omega) hc2 hxv2
          rw [ps_eq hn (by omega) hf] at hgv
          have u0 : (if 0 < h then s (3 + h - 0) else 0) = upS h s 0 := rfl
          have u1 : (if 1 < h then s (3 + h - 1) else 0) = upS h s 1 := rfl
          have f0 := V_fromTop (pm_ol Ls xs) orc (sF A 36 W) (sI I 33 4 (nI (tak w n x))) L g s (h := h) (d := 0) h5 (by decide)
          have f1 := V_fromTop (pm_ol Ls xs) orc (sF A 36 W) (sI I 33 4 (nI (tak w n x))) L g s (h := h) (d := 1) h5 (by decide)
          rw [u0] at f0
          rw [u1] at f1
          have z0 : nI 0 = 0 := rfl
          have z1 : nI 1 = 1 := rfl
          rw [z0] at f0
          rw [z1] at f1
          refine ⟨W, nI (tak w n x), ?_⟩
          simp (disch := omega) only [f57_0, f57_1, f57_4, f57_5, f57_8, f57_9, f57_10, f57_13, f57_14, f57_17, f57_18, f57_19, f57_22, f57_23, f57_26, f57_29, f57_30, f57_31, f57_32, f57_33, f57_34, f57_37, f57_38, f57_41, f57_44, f57_45, f57_48, f57_51, f57_52, f57_53, f57_54, f57_57, f57_60, f57_61, f57_62, f57_63, f57_66, f57_69, f57_70, f57_71, f57_72, f57_75, f57_78, f57_80, f57_81, f57_82, f57_85, f57_88, f57_89, f57_92, f57_93, f57_94, f57_95, f57_96, f57_99, f57_100, f57_101, f57_104, f57_106, f57_107, f57_108, f57_111, f57_112, f57_115, f57_117, f57_118, f57_121, f57_122, f57_125, f57_127, f57_128, f57_131, f57_132, f57_135, f57_138, f57_139, f57_140, f57_142, f57_145, f57_146, f57_147, f57_149, f57_151, f57_154, f57_155, v57, pm_Pv_some, pm_Ph_some, pm_B_some, pm_B_none, is_0, fd_0_0, fd_0_1, fd_0_2, fd_0_3, fd_0_4, fd_0_5, is_1, fd_1_0, fd_1_1, fd_1_2, fd_1_3, fd_1_4, ln_2, ln_3, ln_4, is_6, fd_6_0, fd_6_1, fs_6_1, fd_6_2, fs_6_2, ln_7, is_8, fd_8_0, fd_8_1, fs_8_1, fd_8_2, fs_8_2, ln_9, is_10, fd_10_0, fd_10_1, fs_10_1, fd_10_2, fs_10_2, ln_11, is_12, fd_12_0, fd_12_1, fs_12_1, fd_12_2, fs_12_2, ln_13, is_14, fd_14_0, fd_14_1, fs_14_1, fd_14_2, fs_14_2, ln_15, is_16, fd_16_0, fd_16_1, fs_16_1, fd_16_2, fs_16_2, ln_17, is_18, fd_18_0, fd_18_1, fs_18_1, fd_18_2, fs_18_2, ln_19, is_20, fd_20_0, fd_20_1, is_21, fd_21_0, fd_21_1, fs_21_1, ln_22, ln_23, is_24, fd_24_0, fd_24_1, fs_24_1, ln_25, is_26, fd_26_0, fd_26_1, fs_26_1, fd_26_2, fd_26_3, fd_26_4, fd_26_5, fd_26_6, fs_26_6, fd_26_7, fs_26_7, fd_26_8, fs_26_8, ln_27, is_28, fd_28_0, fd_28_1, fs_28_1, ln_29, is_30, fd_30_0, fd_30_1, fd_30_2, ln_31, ln_32, is_33, fd_33_0, fd_33_1, fd_33_2, fd_33_3, fd_33_4, fs_33_4, is_34, fd_34_0, fd_34_1, fs_34_1, ln_35, ln_36, is_37, fd_37_0, fd_37_1, fd_37_2, fd_37_3, is_38, fd_38_0, fd_38_1, fd_38_2, fd_38_3, fd_38_4, fd_38_5, fd_38_6, is_39, fd_39_0, fd_39_1, fd_39_2, fs_39_2, fd_39_3, fs_39_3, is_40, fd_40_0, fd_40_1, fs_40_1, ln_41, ln_42, ln_43, ln_44, is_45, fd_45_0, fd_45_1, fd_45_2, ln_46, ln_47, is_48, fd_48_0, fs_48_0, fd_48_1, fd_48_2, fd_48_3, fd_48_4, fd_48_5, fd_48_6, fd_48_7, fd_48_8, fs_48_8, fd_48_9, fs_48_9, fd_48_10, fd_48_11, fs_48_11, fd_48_12, fd_48_13, fs_48_13, fd_48_14, fs_48_14, fd_48_15, fd_48_16, fd_48_17, fd_48_18, fs_48_18, fd_48_19, fs_48_19, fd_48_20, fd_48_21, fs_48_21, fd_48_22, fs_48_22, fd_48_23, fs_48_23, fd_48_24, fd_48_25, fd_48_26, fd_48_27, fd_48_28, fd_48_29, fd_48_30, fs_48_30, fd_48_31, ln_49, ln_50, ln_51, ln_52, ln_53, ln_54, ln_55, ln_56, ln_57, ln_58, ln_59, ln_60, ln_61, ln_62, ln_63, ln_64, ln_65, ln_66, ln_67, ln_68, aN_2, aL_2, sN_2, sL_2, aN_3, aL_3, sN_3, sL_3, aN_4, aL_4, sN_4, sL_4, aN_7, aL_7, sN_7, sL_7, aN_9, aL_9, sN_9, sL_9, aN_11, aL_11, sN_11, sL_11, aN_13, aL_13, sN_13, sL_13, aN_15, aL_15, sN_15, sL_15, aN_17, aL_17, sN_17, sL_17, aN_19, aL_19, sN_19, sL_19, aN_22, aL_22, sN_22, sL_22, aN_25, aL_25, sN_25, sL_25, aN_27, aL_27, sN_27, sL_27, aN_29, aL_29, sN_29, sL_29, aN_31, aL_31, sN_31, sL_31, aN_32, aL_32, sN_32, sL_32, aN_35, aL_35, sN_35, sL_35, aN_36, aL_36, sN_36, sL_36, aN_41, aL_41, sN_41, sL_41, aN_42, aL_42, sN_42, sL_42, aN_46, aL_46, sN_46, sL_46, aN_47, aL_47, sN_47, sL_47, aN_49, aL_49, sN_49, sL_49, aN_50, aL_50, sN_50, sL_50, aN_51, aL_51, sN_51, sL_51, aN_52, aL_52, sN_52, sL_52, aN_53, aL_53, sN_53, sL_53, aN_54, aL_54, sN_54, sL_54, aN_55, aL_55, sN_55, sL_55, aN_56, aL_56, sN_56, sL_56, aN_57, aL_57, sN_57, sL_57, aN_58, aL_58, sN_58, sL_58, aN_59, aL_59, sN_59, sL_59, aN_60, aL_60, sN_60, sL_60, aN_61, aL_61, sN_61, sL_61, aN_66, aL_66, sN_66, sL_66, aN_67, aL_67, sN_67, sL_67, aN_68, aL_68, sN_68, sL_68, aN_23, sN_23, aN_43, sN_43, aN_44, sN_44, aN_62, sN_62, aN_63, sN_63, aN_64, sN_64, aN_65, sN_65, aN_1001, aN_1002, aq_5_0, aq_5_1, aq_5_2, aq_5_3, aq_5_4, aq_5_5, q_add, q_addl, q_ladd, q_sub, q_subl, q_lsub, q_mul, q_mull, q_lmul, q_le, q_lel, q_lle, q_lt, q_ltl, q_llt, q_eq, q_eql, q_leq, q_m1, q_1m, q_cl, q_nb, q_leT, q_leF, q_ltT, q_ltF, q_eqT, q_eqF, q_10, q_01, q_em, q_bT, q_bF, q_uS, q_uN, q_sA, q_sAn, q_sFn, q_sIn, q_sAF, sF_s, sI_s, sI_sI, sF_sF, nar0, nar1, b1_0, b1_1, b1_or, if_true, if_false, not_true_eq_false, not_false_eq_true, ↓reduceIte, Int32.reduceAdd, Int32.reduceSub, Int32.reduceMul, Int32.reduceLT, Int32.reduceLE, eq_self, Nat.reduceAdd, Nat.reduceSub, Nat.reduceMul, true_or, or_true, false_or, or_false, and_true, true_and, and_false, false_and, V_number, V_x, V_isXRight, cdI_sF, cdI_sI, hc, eX, eq_true hx, h1, cm_35_36, ci_34_33, hwf, eq_true c1, V_localFits orc L g (pm_ol Ls xs) s hn hx _ hxv, eq_true c2, V_isNewStacked orc L g (pm_ol Ls xs) s hn (show p < 48 by omega) h5, eq_false c3, V_givenCount Ls xs orc L g w hw3 hn hx _ hxv, f0, f1, V_drop, hcl, hgv]
          rfl
      · rw [if_pos hf]
        refine ⟨W, nI (tak w n x), ?_⟩
        by_cases c1 : ∀ i, i < tak w n x → wok w (W i) (s (4 + h - tak w n x + i))
        · by_cases c2 : if n = 3 then s x = 1 else if n = 5 then tRef (s x) else True
          · by_cases c3 : n = 14 ∧ ¬ ∀ j, j < h → ¬ s (4 + j) = nI (64 + p)
            · simp (disch := omega) only [f57_0, f57_1, f57_4, f57_5, f57_8, f57_9, f57_10, f57_13, f57_14, f57_17, f57_18, f57_19, f57_22, f57_23, f57_26, f57_29, f57_30, f57_31, f57_32, f57_33, f57_34, f57_37, f57_38, f57_41, f57_44, f57_45, f57_48, f57_51, f57_52, f57_53, f57_54, f57_57, f57_60, f57_61, f57_62, f57_63, f57_66, f57_69, f57_70, f57_71, f57_72, f57_75, f57_78, f57_80, f57_81, f57_82, f57_85, f57_88, f57_89, f57_92, f57_93, f57_94, f57_95, f57_96, f57_99, f57_100, f57_101, f57_104, f57_106, f57_107, f57_108, f57_111, f57_112, f57_115, f57_117, f57_118, f57_121, f57_122, f57_125, f57_127, f57_128, f57_131, f57_132, f57_135, f57_138, f57_139, f57_140, f57_142, f57_145, f57_146, f57_147, f57_149, f57_151, f57_154, f57_155, v57, pm_Pv_some, pm_Ph_some, pm_B_some, pm_B_none, is_0, fd_0_0, fd_0_1, fd_0_2, fd_0_3, fd_0_4, fd_0_5, is_1, fd_1_0, fd_1_1, fd_1_2, fd_1_3, fd_1_4, ln_2, ln_3, ln_4, is_6, fd_6_0, fd_6_1, fs_6_1, fd_6_2, fs_6_2, ln_7, is_8, fd_8_0, fd_8_1, fs_8_1, fd_8_2, fs_8_2, ln_9, is_10, fd_10_0, fd_10_1, fs_10_1, fd_10_2, fs_10_2, ln_11, is_12, fd_12_0, fd_12_1, fs_12_1, fd_12_2, fs_12_2, ln_13, is_14, fd_14_0, fd_14_1, fs_14_1, fd_14_2, fs_14_2, ln_15, is_16, fd_16_0, fd_16_1, fs_16_1, fd_16_2, fs_16_2, ln_17, is_18, fd_18_0, fd_18_1, fs_18_1, fd_18_2, fs_18_2, ln_19, is_20, fd_20_0, fd_20_1, is_21, fd_21_0, fd_21_1, fs_21_1, ln_22, ln_23, is_24, fd_24_0, fd_24_1, fs_24_1, ln_25, is_26, fd_26_0, fd_26_1, fs_26_1, fd_26_2, fd_26_3, fd_26_4, fd_26_5, fd_26_6, fs_26_6, fd_26_7, fs_26_7, fd_26_8, fs_26_8, ln_27, is_28, fd_28_0, fd_28_1, fs_28_1, ln_29, is_30, fd_30_0, fd_30_1, fd_30_2, ln_31, ln_32, is_33, fd_33_0, fd_33_1, fd_33_2, fd_33_3, fd_33_4, fs_33_4, is_34, fd_34_0, fd_34_1, fs_34_1, ln_35, ln_36, is_37, fd_37_0, fd_37_1, fd_37_2, fd_37_3, is_38, fd_38_0, fd_38_1, fd_38_2, fd_38_3, fd_38_4, fd_38_5, fd_38_6, is_39, fd_39_0, fd_39_1, fd_39_2, fs_39_2, fd_39_3, fs_39_3, is_40, fd_40_0, fd_40_1, fs_40_1, ln_41, ln_42, ln_43, ln_44, is_45, fd_45_0, fd_45_1, fd_45_2, ln_46, ln_47, is_48, fd_48_0, fs_48_0, fd_48_1, fd_48_2, fd_48_3, fd_48_4, fd_48_5, fd_48_6, fd_48_7, fd_48_8, fs_48_8, fd_48_9, fs_48_9, fd_48_10, fd_48_11, fs_48_11, fd_48_12, fd_48_13, fs_48_13, fd_48_14, fs_48_14, fd_48_15, fd_48_16, fd_48_17, fd_48_18, fs_48_18, fd_48_19, fs_48_19, fd_48_20, fd_48_21, fs_48_21, fd_48_22, fs_48_22, fd_48_23, fs_48_23, fd_48_24, fd_48_25, fd_48_26, fd_48_27, fd_48_28, fd_48_29, fd_48_30, fs_48_30, fd_48_31, ln_49, ln_50, ln_51, ln_52, ln_53, ln_54, ln_55, ln_56, ln_57, ln_58, ln_59, ln_60, ln_61, ln_62, ln_63, ln_64, ln_65, ln_66, ln_67, ln_68, aN_2, aL_2, sN_2, sL_2, aN_3, aL_3, sN_3, sL_3, aN_4, aL_4, sN_4, sL_4, aN_7, aL_7, sN_7, sL_7, aN_9, aL_9, sN_9, sL_9, aN_11, aL_11, sN_11, sL_11, aN_13, aL_13, sN_13, sL_13, aN_15, aL_15, sN_15, sL_15, aN_17, aL_17, sN_17, sL_17, aN_19, aL_19, sN_19, sL_19, aN_22, aL_22, sN_22, sL_22, aN_25, aL_25, sN_25, sL_25, aN_27, aL_27, sN_27, sL_27, aN_29, aL_29, sN_29, sL_29, aN_31, aL_31, sN_31, sL_31, aN_32, aL_32, sN_32, sL_32, aN_35, aL_35, sN_35, sL_35, aN_36, aL_36, sN_36, sL_36, aN_41, aL_41, sN_41, sL_41, aN_42, aL_42, sN_42, sL_42, aN_46, aL_46, sN_46, sL_46, aN_47, aL_47, sN_47, sL_47, aN_49, aL_49, sN_49, sL_49, aN_50, aL_50, sN_50, sL_50, aN_51, aL_51, sN_51, sL_51, aN_52, aL_52, sN_52, sL_52, aN_53, aL_53, sN_53, sL_53, aN_54, aL_54, sN_54, sL_54, aN_55, aL_55, sN_55, sL_55, aN_56, aL_56, sN_56, sL_56, aN_57, aL_57, sN_57, sL_57, aN_58, aL_58, sN_58, sL_58, aN_59, aL_59, sN_59, sL_59, aN_60, aL_60, sN_60, sL_60, aN_61, aL_61, sN_61, sL_61, aN_66, aL_66, sN_66, sL_66, aN_67, aL_67, sN_67, sL_67, aN_68, aL_68, sN_68, sL_68, aN_23, sN_23, aN_43, sN_43, aN_44, sN_44, aN_62, sN_62, aN_63, sN_63, aN_64, sN_64, aN_65, sN_65, aN_1001, aN_1002, aq_5_0, aq_5_1, aq_5_2, aq_5_3, aq_5_4, aq_5_5, q_add, q_addl, q_ladd, q_sub, q_subl, q_lsub, q_mul, q_mull, q_lmul, q_le, q_lel, q_lle, q_lt, q_ltl, q_llt, q_eq, q_eql, q_leq, q_m1, q_1m, q_cl, q_nb, q_leT, q_leF, q_ltT, q_ltF, q_eqT, q_eqF, q_10, q_01, q_em, q_bT, q_bF, q_uS, q_uN, q_sA, q_sAn, q_sFn, q_sIn, q_sAF, sF_s, sI_s, sI_sI, sF_sF, nar0, nar1, b1_0, b1_1, b1_or, if_true, if_false, not_true_eq_false, not_false_eq_true, ↓reduceIte, Int32.reduceAdd, Int32.reduceSub, Int32.reduceMul, Int32.reduceLT, Int32.reduceLE, eq_self, Nat.reduceAdd, Nat.reduceSub, Nat.reduceMul, true_or, or_true, false_or, or_false, and_true, true_and, and_false, false_and, V_number, V_x, V_isXRight, cdI_sF, cdI_sI, hc, eX, eq_true hx, h1, cm_35_36, ci_34_33, hwf, eq_true c1, V_localFits orc L g (pm_ol Ls xs) s hn hx _ hxv, eq_true c2, V_isNewStacked orc L g (pm_ol Ls xs) s hn (show p < 48 by omega) h5, eq_true c3, eq_true c3.2]
              rfl
            · exact absurd (hci.mp ⟨eW ▸ c1, c2, c3⟩) hf
          · simp (disch := omega) only [f57_0, f57_1, f57_4, f57_5, f57_8, f57_9, f57_10, f57_13, f57_14, f57_17, f57_18, f57_19, f57_22, f57_23, f57_26, f57_29, f57_30, f57_31, f57_32, f57_33, f57_34, f57_37, f57_38, f57_41, f57_44, f57_45, f57_48, f57_51, f57_52, f57_53, f57_54, f57_57, f57_60, f57_61, f57_62, f57_63, f57_66, f57_69, f57_70, f57_71, f57_72, f57_75, f57_78, f57_80, f57_81, f57_82, f57_85, f57_88, f57_89, f57_92, f57_93, f57_94, f57_95, f57_96, f57_99, f57_100, f57_101, f57_104, f57_106, f57_107, f57_108, f57_111, f57_112, f57_115, f57_117, f57_118, f57_121, f57_122, f57_125, f57_127, f57_128, f57_131, f57_132, f57_135, f57_138, f57_139, f57_140, f57_142, f57_145, f57_146, f57_147, f57_149, f57_151, f57_154, f57_155, v57, pm_Pv_some, pm_Ph_some, pm_B_some, pm_B_none, is_0, fd_0_0, fd_0_1, fd_0_2, fd_0_3, fd_0_4, fd_0_5, is_1, fd_1_0, fd_1_1, fd_1_2, fd_1_3, fd_1_4, ln_2, ln_3, ln_4, is_6, fd_6_0, fd_6_1, fs_6_1, fd_6_2, fs_6_2, ln_7, is_8, fd_8_0, fd_8_1, fs_8_1, fd_8_2, fs_8_2, ln_9, is_10, fd_10_0, fd_10_1, fs_10_1, fd_10_2, fs_10_2, ln_11, is_12, fd_12_0, fd_12_1, fs_12_1, fd_12_2, fs_12_2, ln_13, is_14, fd_14_0, fd_14_1, fs_14_1, fd_14_2, fs_14_2, ln_15, is_16, fd_16_0, fd_16_1, fs_16_1, fd_16_2, fs_16_2, ln_17, is_18, fd_18_0, fd_18_1, fs_18_1, fd_18_2, fs_18_2, ln_19, is_20, fd_20_0, fd_20_1, is_21, fd_21_0, fd_21_1, fs_21_1, ln_22, ln_23, is_24, fd_24_0, fd_24_1, fs_24_1, ln_25, is_26, fd_26_0, fd_26_1, fs_26_1, fd_26_2, fd_26_3, fd_26_4, fd_26_5, fd_26_6, fs_26_6, fd_26_7, fs_26_7, fd_26_8, fs_26_8, ln_27, is_28, fd_28_0, fd_28_1, fs_28_1, ln_29, is_30, fd_30_0, fd_30_1, fd_30_2, ln_31, ln_32, is_33, fd_33_0, fd_33_1, fd_33_2, fd_33_3, fd_33_4, fs_33_4, is_34, fd_34_0, fd_34_1, fs_34_1, ln_35, ln_36, is_37, fd_37_0, fd_37_1, fd_37_2, fd_37_3, is_38, fd_38_0, fd_38_1, fd_38_2, fd_38_3, fd_38_4, fd_38_5, fd_38_6, is_39, fd_39_0, fd_39_1, fd_39_2, fs_39_2, fd_39_3, fs_39_3, is_40, fd_40_0, fd_40_1, fs_40_1, ln_41, ln_42, ln_43, ln_44, is_45, fd_45_0, fd_45_1, fd_45_2, ln_46, ln_47, is_48, fd_48_0, fs_48_0, fd_48_1, fd_48_2, fd_48_3, fd_48_4, fd_48_5, fd_48_6, fd_48_7, fd_48_8, fs_48_8, fd_48_9, fs_48_9, fd_48_10, fd_48_11, fs_48_11, fd_48_12, fd_48_13, fs_48_13, fd_48_14, fs_48_14, fd_48_15, fd_48_16, fd_48_17, fd_48_18, fs_48_18, fd_48_19, fs_48_19, fd_48_20, fd_48_21, fs_48_21, fd_48_22, fs_48_22, fd_48_23, fs_48_23, fd_48_24, fd_48_25, fd_48_26, fd_48_27, fd_48_28, fd_48_29, fd_48_30, fs_48_30, fd_48_31, ln_49, ln_50, ln_51, ln_52, ln_53, ln_54, ln_55, ln_56, ln_57, ln_58, ln_59, ln_60, ln_61, ln_62, ln_63, ln_64, ln_65, ln_66, ln_67, ln_68, aN_2, aL_2, sN_2, sL_2, aN_3, aL_3, sN_3, sL_3, aN_4, aL_4, sN_4, sL_4, aN_7, aL_7, sN_7, sL_7, aN_9, aL_9, sN_9, sL_9, aN_11, aL_11, sN_11, sL_11, aN_13, aL_13, sN_13, sL_13, aN_15, aL_15, sN_15, sL_15, aN_17, aL_17, sN_17, sL_17, aN_19, aL_19, sN_19, sL_19, aN_22, aL_22, sN_22, sL_22, aN_25, aL_25, sN_25, sL_25, aN_27, aL_27, sN_27, sL_27, aN_29, aL_29, sN_29, sL_29, aN_31, aL_31, sN_31, sL_31, aN_32, aL_32, sN_32, sL_32, aN_35, aL_35, sN_35, sL_35, aN_36, aL_36, sN_36, sL_36, aN_41, aL_41, sN_41, sL_41, aN_42, aL_42, sN_42, sL_42, aN_46, aL_46, sN_46, sL_46, aN_47, aL_47, sN_47, sL_47, aN_49, aL_49, sN_49, sL_49, aN_50, aL_50, sN_50, sL_50, aN_51, aL_51, sN_51, sL_51, aN_52, aL_52, sN_52, sL_52, aN_53, aL_53, sN_53, sL_53, aN_54, aL_54, sN_54, sL_54, aN_55, aL_55, sN_55, sL_55, aN_56, aL_56, sN_56, sL_56, aN_57, aL_57, sN_57, sL_57, aN_58, aL_58, sN_58, sL_58, aN_59, aL_59, sN_59, sL_59, aN_60, aL_60, sN_60, sL_60, aN_61, aL_61, sN_61, sL_61, aN_66, aL_66, sN_66, sL_66, aN_67, aL_67, sN_67, sL_67, aN_68, aL_68, sN_68, sL_68, aN_23, sN_23, aN_43, sN_43, aN_44, sN_44, aN_62, sN_62, aN_63, sN_63, aN_64, sN_64, aN_65, sN_65, aN_1001, aN_1002, aq_5_0, aq_5_1, aq_5_2, aq_5_3, aq_5_4, aq_5_5, q_add, q_addl, q_ladd, q_sub, q_subl, q_lsub, q_mul, q_mull, q_lmul, q_le, q_lel, q_lle, q_lt, q_ltl, q_llt, q_eq, q_eql, q_leq, q_m1, q_1m, q_cl, q_nb, q_leT, q_leF, q_ltT, q_ltF, q_eqT, q_eqF, q_10, q_01, q_em, q_bT, q_bF, q_uS, q_uN, q_sA, q_sAn, q_sFn, q_sIn, q_sAF, sF_s, sI_s, sI_sI, sF_sF, nar0, nar1, b1_0, b1_1, b1_or, if_true, if_false, not_true_eq_false, not_false_eq_true, ↓reduceIte, Int32.reduceAdd, Int32.reduceSub, Int32.reduceMul, Int32.reduceLT, Int32.reduceLE, eq_self, Nat.reduceAdd, Nat.reduceSub, Nat.reduceMul, true_or, or_true, false_or, or_false, and_true, true_and, and_false, false_and, V_number, V_x, V_isXRight, cdI_sF, cdI_sI, hc, eX, eq_true hx, h1, cm_35_36, ci_34_33, hwf, eq_true c1, V_localFits orc L g (pm_ol Ls xs) s hn hx _ hxv, eq_false c2]
            rfl
        · simp (disch := omega) only [f57_0, f57_1, f57_4, f57_5, f57_8, f57_9, f57_10, f57_13, f57_14, f57_17, f57_18, f57_19, f57_22, f57_23, f57_26, f57_29, f57_30, f57_31, f57_32, f57_33, f57_34, f57_37, f57_38, f57_41, f57_44, f57_45, f57_48, f57_51, f57_52, f57_53, f57_54, f57_57, f57_60, f57_61, f57_62, f57_63, f57_66, f57_69, f57_70, f57_71, f57_72, f57_75, f57_78, f57_80, f57_81, f57_82, f57_85, f57_88, f57_89, f57_92, f57_93, f57_94, f57_95, f57_96, f57_99, f57_100, f57_101, f57_104, f57_106, f57_107, f57_108, f57_111, f57_112, f57_115, f57_117, f57_118, f57_121, f57_122, f57_125, f57_127, f57_128, f57_131, f57_132, f57_135, f57_138, f57_139, f57_140, f57_142, f57_145, f57_146, f57_147, f57_149, f57_151, f57_154, f57_155, v57, pm_Pv_some, pm_Ph_some, pm_B_some, pm_B_none, is_0, fd_0_0, fd_0_1, fd_0_2, fd_0_3, fd_0_4, fd_0_5, is_1, fd_1_0, fd_1_1, fd_1_2, fd_1_3, fd_1_4, ln_2, ln_3, ln_4, is_6, fd_6_0, fd_6_1, fs_6_1, fd_6_2, fs_6_2, ln_7, is_8, fd_8_0, fd_8_1, fs_8_1, fd_8_2, fs_8_2, ln_9, is_10, fd_10_0, fd_10_1, fs_10_1, fd_10_2, fs_10_2, ln_11, is_12, fd_12_0, fd_12_1, fs_12_1, fd_12_2, fs_12_2, ln_13, is_14, fd_14_0, fd_14_1, fs_14_1, fd_14_2, fs_14_2, ln_15, is_16, fd_16_0, fd_16_1, fs_16_1, fd_16_2, fs_16_2, ln_17, is_18, fd_18_0, fd_18_1, fs_18_1, fd_18_2, fs_18_2, ln_19, is_20, fd_20_0, fd_20_1, is_21, fd_21_0, fd_21_1, fs_21_1, ln_22, ln_23, is_24, fd_24_0, fd_24_1, fs_24_1, ln_25, is_26, fd_26_0, fd_26_1, fs_26_1, fd_26_2, fd_26_3, fd_26_4, fd_26_5, fd_26_6, fs_26_6, fd_26_7, fs_26_7, fd_26_8, fs_26_8, ln_27, is_28, fd_28_0, fd_28_1, fs_28_1, ln_29, is_30, fd_30_0, fd_30_1, fd_30_2, ln_31, ln_32, is_33, fd_33_0, fd_33_1, fd_33_2, fd_33_3, fd_33_4, fs_33_4, is_34, fd_34_0, fd_34_1, fs_34_1, ln_35, ln_36, is_37, fd_37_0, fd_37_1, fd_37_2, fd_37_3, is_38, fd_38_0, fd_38_1, fd_38_2, fd_38_3, fd_38_4, fd_38_5, fd_38_6, is_39, fd_39_0, fd_39_1, fd_39_2, fs_39_2, fd_39_3, fs_39_3, is_40, fd_40_0, fd_40_1, fs_40_1, ln_41, ln_42, ln_43, ln_44, is_45, fd_45_0, fd_45_1, fd_45_2, ln_46, ln_47, is_48, fd_48_0, fs_48_0, fd_48_1, fd_48_2, fd_48_3, fd_48_4, fd_48_5, fd_48_6, fd_48_7, fd_48_8, fs_48_8, fd_48_9, fs_48_9, fd_48_10, fd_48_11, fs_48_11, fd_48_12, fd_48_13, fs_48_13, fd_48_14, fs_48_14, fd_48_15, fd_48_16, fd_48_17, fd_48_18, fs_48_18, fd_48_19, fs_48_19, fd_48_20, fd_48_21, fs_48_21, fd_48_22, fs_48_22, fd_48_23, fs_48_23, fd_48_24, fd_48_25, fd_48_26, fd_48_27, fd_48_28, fd_48_29, fd_48_30, fs_48_30, fd_48_31, ln_49, ln_50, ln_51, ln_52, ln_53, ln_54, ln_55, ln_56, ln_57, ln_58, ln_59, ln_60, ln_61, ln_62, ln_63, ln_64, ln_65, ln_66, ln_67, ln_68, aN_2, aL_2, sN_2, sL_2, aN_3, aL_3, sN_3, sL_3, aN_4, aL_4, sN_4, sL_4, aN_7, aL_7, sN_7, sL_7, aN_9, aL_9, sN_9, sL_9, aN_11, aL_11, sN_11, sL_11, aN_13, aL_13, sN_13, sL_13, aN_15, aL_15, sN_15, sL_15, aN_17, aL_17, sN_17, sL_17, aN_19, aL_19, sN_19, sL_19, aN_22, aL_22, sN_22, sL_22, aN_25, aL_25, sN_25, sL_25, aN_27, aL_27, sN_27, sL_27, aN_29, aL_29, sN_29, sL_29, aN_31, aL_31, sN_31, sL_31, aN_32, aL_32, sN_32, sL_32, aN_35, aL_35, sN_35, sL_35, aN_36, aL_36, sN_36, sL_36, aN_41, aL_41, sN_41, sL_41, aN_42, aL_42, sN_42, sL_42, aN_46, aL_46, sN_46, sL_46, aN_47, aL_47, sN_47, sL_47, aN_49, aL_49, sN_49, sL_49, aN_50, aL_50, sN_50, sL_50, aN_51, aL_51, sN_51, sL_51, aN_52, aL_52, sN_52, sL_52, aN_53, aL_53, sN_53, sL_53, aN_54, aL_54, sN_54, sL_54, aN_55, aL_55, sN_55, sL_55, aN_56, aL_56, sN_56, sL_56, aN_57, aL_57, sN_57, sL_57, aN_58, aL_58, sN_58, sL_58, aN_59, aL_59, sN_59, sL_59, aN_60, aL_60, sN_60, sL_60, aN_61, aL_61, sN_61, sL_61, aN_66, aL_66, sN_66, sL_66, aN_67, aL_67, sN_67, sL_67, aN_68, aL_68, sN_68, sL_68, aN_23, sN_23, aN_43, sN_43, aN_44, sN_44, aN_62, sN_62, aN_63, sN_63, aN_64, sN_64, aN_65, sN_65, aN_1001, aN_1002, aq_5_0, aq_5_1, aq_5_2, aq_5_3, aq_5_4, aq_5_5, q_add, q_addl, q_ladd, q_sub, q_subl, q_lsub, q_mul, q_mull, q_lmul, q_le, q_lel, q_lle, q_lt, q_ltl, q_llt, q_eq, q_eql, q_leq, q_m1, q_1m, q_cl, q_nb, q_leT, q_leF, q_ltT, q_ltF, q_eqT, q_eqF, q_10, q_01, q_em, q_bT, q_bF, q_uS, q_uN, q_sA, q_sAn, q_sFn, q_sIn, q_sAF, sF_s, sI_s, sI_sI, sF_sF, nar0, nar1, b1_0, b1_1, b1_or, if_true, if_false, not_true_eq_false, not_false_eq_true, ↓reduceIte, Int32.reduceAdd, Int32.reduceSub, Int32.reduceMul, Int32.reduceLT, Int32.reduceLE, eq_self, Nat.reduceAdd, Nat.reduceSub, Nat.reduceMul, true_or, or_true, false_or, or_false, and_true, true_and, and_false, false_and, V_number, V_x, V_isXRight, cdI_sF, cdI_sI, hc, eX, eq_true hx, h1, cm_35_36, ci_34_33, hwf, eq_false c1]
          rfl
  · rw [if_pos hx]
    refine ⟨A 36, I 33 4, ?_⟩
    rw [sF_id, sI_id]
    simp (disch := omega) only [f57_0, f57_1, f57_4, f57_5, f57_8, f57_9, f57_10, f57_13, f57_14, f57_17, f57_18, f57_19, f57_22, f57_23, f57_26, f57_29, f57_30, f57_31, f57_32, f57_33, f57_34, f57_37, f57_38, f57_41, f57_44, f57_45, f57_48, f57_51, f57_52, f57_53, f57_54, f57_57, f57_60, f57_61, f57_62, f57_63, f57_66, f57_69, f57_70, f57_71, f57_72, f57_75, f57_78, f57_80, f57_81, f57_82, f57_85, f57_88, f57_89, f57_92, f57_93, f57_94, f57_95, f57_96, f57_99, f57_100, f57_101, f57_104, f57_106, f57_107, f57_108, f57_111, f57_112, f57_115, f57_117, f57_118, f57_121, f57_122, f57_125, f57_127, f57_128, f57_131, f57_132, f57_135, f57_138, f57_139, f57_140, f57_142, f57_145, f57_146, f57_147, f57_149, f57_151, f57_154, f57_155, v57, pm_Pv_some, pm_Ph_some, pm_B_some, pm_B_none, is_0, fd_0_0, fd_0_1, fd_0_2, fd_0_3, fd_0_4, fd_0_5, is_1, fd_1_0, fd_1_1, fd_1_2, fd_1_3, fd_1_4, ln_2, ln_3, ln_4, is_6, fd_6_0, fd_6_1, fs_6_1, fd_6_2, fs_6_2, ln_7, is_8, fd_8_0, fd_8_1, fs_8_1, fd_8_2, fs_8_2, ln_9, is_10, fd_10_0, fd_10_1, fs_10_1, fd_10_2, fs_10_2, ln_11, is_12, fd_12_0, fd_12_1, fs_12_1, fd_12_2, fs_12_2, ln_13, is_14, fd_14_0, fd_14_1, fs_14_1, fd_14_2, fs_14_2, ln_15, is_16, fd_16_0, fd_16_1, fs_16_1, fd_16_2, fs_16_2, ln_17, is_18, fd_18_0, fd_18_1, fs_18_1, fd_18_2, fs_18_2, ln_19, is_20, fd_20_0, fd_20_1, is_21, fd_21_0, fd_21_1, fs_21_1, ln_22, ln_23, is_24, fd_24_0, fd_24_1, fs_24_1, ln_25, is_26, fd_26_0, fd_26_1, fs_26_1, fd_26_2, fd_26_3, fd_26_4, fd_26_5, fd_26_6, fs_26_6, fd_26_7, fs_26_7, fd_26_8, fs_26_8, ln_27, is_28, fd_28_0, fd_28_1, fs_28_1, ln_29, is_30, fd_30_0, fd_30_1, fd_30_2, ln_31, ln_32, is_33, fd_33_0, fd_33_1, fd_33_2, fd_33_3, fd_33_4, fs_33_4, is_34, fd_34_0, fd_34_1, fs_34_1, ln_35, ln_36, is_37, fd_37_0, fd_37_1, fd_37_2, fd_37_3, is_38, fd_38_0, fd_38_1, fd_38_2, fd_38_3, fd_38_4, fd_38_5, fd_38_6, is_39, fd_39_0, fd_39_1, fd_39_2, fs_39_2, fd_39_3, fs_39_3, is_40, fd_40_0, fd_40_1, fs_40_1, ln_41, ln_42, ln_43, ln_44, is_45, fd_45_0, fd_45_1, fd_45_2, ln_46, ln_47, is_48, fd_48_0, fs_48_0, fd_48_1, fd_48_2, fd_48_3, fd_48_4, fd_48_5, fd_48_6, fd_48_7, fd_48_8, fs_48_8, fd_48_9, fs_48_9, fd_48_10, fd_48_11, fs_48_11, fd_48_12, fd_48_13, fs_48_13, fd_48_14, fs_48_14, fd_48_15, fd_48_16, fd_48_17, fd_48_18, fs_48_18, fd_48_19, fs_48_19, fd_48_20, fd_48_21, fs_48_21, fd_48_22, fs_48_22, fd_48_23, fs_48_23, fd_48_24, fd_48_25, fd_48_26, fd_48_27, fd_48_28, fd_48_29, fd_48_30, fs_48_30, fd_48_31, ln_49, ln_50, ln_51, ln_52, ln_53, ln_54, ln_55, ln_56, ln_57, ln_58, ln_59, ln_60, ln_61, ln_62, ln_63, ln_64, ln_65, ln_66, ln_67, ln_68, aN_2, aL_2, sN_2, sL_2, aN_3, aL_3, sN_3, sL_3, aN_4, aL_4, sN_4, sL_4, aN_7, aL_7, sN_7, sL_7, aN_9, aL_9, sN_9, sL_9, aN_11, aL_11, sN_11, sL_11, aN_13, aL_13, sN_13, sL_13, aN_15, aL_15, sN_15, sL_15, aN_17, aL_17, sN_17, sL_17, aN_19, aL_19, sN_19, sL_19, aN_22, aL_22, sN_22, sL_22, aN_25, aL_25, sN_25, sL_25, aN_27, aL_27, sN_27, sL_27, aN_29, aL_29, sN_29, sL_29, aN_31, aL_31, sN_31, sL_31, aN_32, aL_32, sN_32, sL_32, aN_35, aL_35, sN_35, sL_35, aN_36, aL_36, sN_36, sL_36, aN_41, aL_41, sN_41, sL_41, aN_42, aL_42, sN_42, sL_42, aN_46, aL_46, sN_46, sL_46, aN_47, aL_47, sN_47, sL_47, aN_49, aL_49, sN_49, sL_49, aN_50, aL_50, sN_50, sL_50, aN_51, aL_51, sN_51, sL_51, aN_52, aL_52, sN_52, sL_52, aN_53, aL_53, sN_53, sL_53, aN_54, aL_54, sN_54, sL_54, aN_55, aL_55, sN_55, sL_55, aN_56, aL_56, sN_56, sL_56, aN_57, aL_57, sN_57, sL_57, aN_58, aL_58, sN_58, sL_58, aN_59, aL_59, sN_59, sL_59, aN_60, aL_60, sN_60, sL_60, aN_61, aL_61, sN_61, sL_61, aN_66, aL_66, sN_66, sL_66, aN_67, aL_67, sN_67, sL_67, aN_68, aL_68, sN_68, sL_68, aN_23, sN_23, aN_43, sN_43, aN_44, sN_44, aN_62, sN_62, aN_63, sN_63, aN_64, sN_64, aN_65, sN_65, aN_1001, aN_1002, aq_5_0, aq_5_1, aq_5_2, aq_5_3, aq_5_4, aq_5_5, q_add, q_addl, q_ladd, q_sub, q_subl, q_lsub, q_mul, q_mull, q_lmul, q_le, q_lel, q_lle, q_lt, q_ltl, q_llt, q_eq, q_eql, q_leq, q_m1, q_1m, q_cl, q_nb, q_leT, q_leF, q_ltT, q_ltF, q_eqT, q_eqF, q_10, q_01, q_em, q_bT, q_bF, q_uS, q_uN, q_sA, q_sAn, q_sFn, q_sIn, q_sAF, sF_s, sI_s, sI_sI, sF_sF, nar0, nar1, b1_0, b1_1, b1_or, if_true, if_false, not_true_eq_false, not_false_eq_true, ↓reduceIte, Int32.reduceAdd, Int32.reduceSub, Int32.reduceMul, Int32.reduceLT, Int32.reduceLE, eq_self, Nat.reduceAdd, Nat.reduceSub, Nat.reduceMul, true_or, or_true, false_or, or_false, and_true, true_and, and_false, false_and, V_number, V_x, V_isXRight, cdI_sF, cdI_sI, hc, eX, eq_false hx]
    rfl
end STQ
