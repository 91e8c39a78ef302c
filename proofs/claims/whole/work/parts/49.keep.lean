/-! a step keeps states good, and looks only at what stands -/
theorem vT_upd {w : Wd} {s : Nat → Int32} {m i : Nat} {t : Int32} (h : ∀ j, j < m → ¬ j = i → vT w (s j)) (ht : vT w t) : ∀ j, j < m → vT w (upd s i t j) := by
  intro j hj
  by_cases e : j = i
  · rw [e, pk_us]; exact ht
  · rw [pk_un e]; exact h j hj e
theorem vT_rpl {w : Wd} {s : Nat → Int32} {m k : Nat} {t u : Int32} (h : ∀ j, j < m → vT w (s j)) (hu : vT w u) : ∀ j, j < m → vT w (rpl s k t u j) := by
  intro j hj
  unfold rpl
  split
  · exact hu
  · exact h j hj
theorem vT_known {w : Wd} {t : Int32} (h : tKnown t) : vT w t := h.elim (fun e => Or.inr (Or.inl e)) (fun e => Or.inr (Or.inr (Or.inr (Or.inl e))))
theorem vT_obj {w : Wd} {c : Nat} (h : c < 8) : vT w (nI (16 + c)) := Or.inr (Or.inr (Or.inr (Or.inl (obj_nI h))))
theorem ft_ok {w : Wd} {p h : Nat} {s : Nat → Int32} (hf : ftS w p h s = 0) : xok (w.cb p) (xof w p) ∧ tak w (w.cb p) (xof w p) ≤ h ∧ fitS w (w.cb p) (xof w p) p h s ∧ phS w (w.cb p) (xof w p) h ≤ 5 := by
  unfold ftS at hf
  by_cases h1 : xok (w.cb p) (xof w p)
  · rw [if_neg (not_not_intro h1)] at hf
    by_cases h2 : h < tak w (w.cb p) (xof w p)
    · rw [if_pos h2] at hf
      omega
    · rw [if_neg h2] at hf
      by_cases h3 : fitS w (w.cb p) (xof w p) p h s
      · rw [if_neg (not_not_intro h3)] at hf
        by_cases h4 : 5 < h - tak w (w.cb p) (xof w p) + giv w (w.cb p) (xof w p)
        · rw [if_pos h4] at hf
          omega
        · exact ⟨h1, by omega, h3, by unfold phS; omega⟩
      · rw [if_pos h3] at hf
        omega
  · rw [if_pos h1] at hf
    omega
theorem ft_le (w : Wd) (p h : Nat) (s : Nat → Int32) : ftS w p h s ≤ 7 := by
  unfold ftS
  repeat (first | omega | split)
theorem ps_val0 {w : Wd} (hk : okW w) {n x p h : Nat} {s : Nat → Int32} (hn : n < 22) (hx : xok n x) (ht : tak w n x ≤ h) (hf : fitS w n x p h s) (hm : n = 14 → p < 48 ∧ mkN w.cs w.cb p) (hv : ∀ j, j < 4 + h → vT w (s j)) : ∀ j, j < 4 + phS w n x h → vT w (psS w n x p h s j) := by
  rcases n22 hn with rfl | rfl | rfl | rfl | rfl | rfl | rfl | rfl | rfl | rfl | rfl | rfl | rfl | rfl | rfl | rfl | rfl | rfl | rfl | rfl | rfl | rfl
  · intro j hj
    have e : phS w 0 x h = h - 0 := rfl
    exact hv j (by omega)
  · exact vT_upd (m := 4 + (h + 1)) (fun j hj hne => hv j (by omega)) (Or.inr (Or.inl rfl))
  · exact vT_upd (m := 4 + (h + 1)) (fun j hj hne => hv j (by omega)) (Or.inr (Or.inr (Or.inl rfl)))
  · exact vT_upd (m := 4 + (h + 1)) (fun j hj hne => hv j (by omega)) (Or.inr (Or.inl rfl))
  · exact vT_upd (m := 4 + (h - 1)) (fun j hj hne => hv j (by omega)) (Or.inr (Or.inl rfl))
  · have h4 : x < 4 := by simpa [xok] using hx
    exact vT_upd (m := 4 + (h + 1)) (fun j hj hne => hv j (by omega)) (hv x (by omega))
  · have ht1 : 1 ≤ h := ht
    exact vT_upd (m := 4 + (h - 1)) (fun j hj hne => hv j (by omega)) (hv (3 + h) (by omega))
  · have ht1 : 2 ≤ h := ht
    exact vT_upd (m := 4 + (h - 2 + 1)) (fun j hj hne => hv j (by omega)) (Or.inr (Or.inl rfl))
  · intro j hj
    have e : phS w 8 x h = h - 1 := rfl
    exact hv j (by omega)
  · have ht1 : 1 ≤ h := ht
    exact vT_upd (m := 4 + (h - 1 + 2)) (fun j hj hne => vT_upd (m := 4 + h) (fun j hj hne => hv j hj) (hv (3 + h) (by omega)) j (by omega)) (hv (3 + h) (by omega))
  · have ht1 : 2 ≤ h := ht
    exact vT_upd (m := 4 + (h - 2 + 2)) (fun j hj hne => vT_upd (m := 4 + h) (fun j hj hne => hv j hj) (hv (3 + h) (by omega)) j (by omega)) (hv (2 + h) (by omega))
  · intro j hj
    have e : phS w 11 x h = h - 0 := rfl
    exact hv j (by omega)
  · intro j hj
    have e : phS w 12 x h = h - 1 := rfl
    exact hv j (by omega)
  · intro j hj
    have e : phS w 13 x h = h - 1 := rfl
    exact hv j (by omega)
  · have hm2 := hm rfl
    exact vT_upd (m := 4 + (h + 1)) (fun j hj hne => vT_rpl (m := 4 + h) (fun j hj => hv j hj) (Or.inl rfl) j (by omega)) (Or.inr (Or.inr (Or.inr (Or.inr ⟨p, hm2.1, hm2.2, rfl⟩))))
  · have ht1 : 1 ≤ h := ht
    have hq : ∃ q, q < 48 ∧ mkN w.cs w.cb q ∧ s (3 + h) = nI (64 + q) := by
      have hf2 : decide (tNew (s (3 + h))) = true := hf
      rw [decide_eq_true_iff] at hf2
      rcases hv (3 + h) (by omega) with q | q | q | q | q
      · rw [q] at hf2; exact absurd hf2 (by decide)
      · rw [q] at hf2; exact absurd hf2 (by decide)
      · rw [q] at hf2; exact absurd hf2 (by decide)
      · grind
      · exact q
    obtain ⟨q, hq, hm2, hs⟩ := hq
    refine vT_rpl (m := 4 + (h - 1)) (fun j hj => hv j (by omega)) ?_
    have e : (s (3 + h) - 64).toNatClampNeg = q := by
      rw [hs]
      simp (disch := omega) only [q_add, q_addl, q_ladd, q_sub, q_subl, q_lsub, q_mul, q_mull, q_lmul, q_le, q_lel, q_lle, q_lt, q_ltl, q_llt, q_eq, q_eql, q_leq, q_m1, q_1m, q_cl, q_nb, q_leT, q_leF, q_ltT, q_ltF, q_eqT, q_eqF, q_10, q_01, q_em, q_bT, q_bF, q_uS, q_uN, q_sA, q_sAn, q_sFn, q_sIn, q_sAF, sF_s, sI_s, sI_sI, sF_sF, nar0, nar1, b1_0, b1_1, b1_or, if_true, if_false, not_true_eq_false, not_false_eq_true, ↓reduceIte, Int32.reduceAdd, Int32.reduceSub, Int32.reduceMul, Int32.reduceLT, Int32.reduceLE, eq_self, Nat.reduceAdd, Nat.reduceSub, Nat.reduceMul, true_or, or_true, false_or, or_false, and_true, true_and, and_false, false_and]
    rw [e]
    exact vT_obj hm2.2.2.2
  · have ht1 : 1 ≤ h := ht
    have h6 : x < 6 := by simpa [xok] using hx
    exact vT_upd (m := 4 + (h - 1 + 1)) (fun j hj hne => hv j (by omega)) (vT_known (hk.ft x h6))
  · intro j hj
    have e : phS w 17 x h = h - 2 := rfl
    exact hv j (by omega)
  · have ht1 : w.rn x ≤ h := ht
    have h6 : x < 6 := by simpa [xok] using hx
    by_cases z : w.rg x = 0
    · have eS : psS w 18 x p h s = s := if_pos z
      have eP : phS w 18 x h = h - w.rn x := by
        show h - w.rn x + (if w.rg x = 0 then 0 else 1) = _
        rw [if_pos z, Nat.add_zero]
      rw [eS, eP]
      exact fun j hj => hv j (by omega)
    · have eS : psS w 18 x p h s = upd s (4 + h - w.rn x) (w.rg x) := if_neg z
      have eP : phS w 18 x h = h - w.rn x + 1 := by
        show h - w.rn x + (if w.rg x = 0 then 0 else 1) = _
        rw [if_neg z]
      rw [eS, eP]
      exact vT_upd (fun j hj hne => hv j (by omega)) (vT_known ((hk.rg x h6).resolve_left z))
  · intro j hj
    have e : phS w 19 x h ≤ h := by
      show h - tak w 19 x + 0 ≤ h
      omega
    exact hv j (by omega)
  · have ht1 : 1 ≤ h := ht
    have h8 : x < 8 := by simpa [xok] using hx
    exact vT_upd (m := 4 + (h - 1 + 1)) (fun j hj hne => hv j (by omega)) (vT_obj h8)
  · intro j hj
    have e : phS w 21 x h = h - 1 := rfl
    exact hv j (by omega)
theorem ps_val {w : Wd} (hk : okW w) {p h : Nat} {s : Nat → Int32} (hb : bgN w.cs w.cb p) (hwl : wlN w.cs w.cb p) (hf : ftS w p h s = 0) (hv : ∀ j, j < 4 + h → vT w (s j)) : ∀ j, j < 4 + phS w (w.cb p) (xof w p) h → vT w (psS w (w.cb p) (xof w p) p h s j) := by
  obtain ⟨h1, h2, h3, h4⟩ := ft_ok hf
  have h48 := hk.cs
  refine ps_val0 hk hwl.1 h1 h2 h3 ?_ hv
  intro e
  have h8 : xof w p < 8 := by
    rw [e] at h1
    simpa [xok] using h1
  have hh : hsN (w.cb p) := by omega
  have : xof w p = w.cb (p + 1) := if_pos hh
  exact ⟨by have := hb.2; omega, hb, hwl, e, by omega⟩
theorem fit_congr {w : Wd} {n x p h : Nat} {s t : Nat → Int32} (hn : n < 22) (hx : xok n x) (ht : tak w n x ≤ h) (hs : ∀ j, j < 4 + h → s j = t j) : fitS w n x p h s ↔ fitS w n x p h t := by
  rcases n22 hn with rfl | rfl | rfl | rfl | rfl | rfl | rfl | rfl | rfl | rfl | rfl | rfl | rfl | rfl | rfl | rfl | rfl | rfl | rfl | rfl | rfl | rfl
  · have e1 : fitB w 0 x p h s = true := rfl
    have e2 : fitB w 0 x p h t = true := rfl
    exact ⟨fun _ => e2, fun _ => e1⟩
  · have e1 : fitB w 1 x p h s = true := rfl
    have e2 : fitB w 1 x p h t = true := rfl
    exact ⟨fun _ => e2, fun _ => e1⟩
  · have e1 : fitB w 2 x p h s = true := rfl
    have e2 : fitB w 2 x p h t = true := rfl
    exact ⟨fun _ => e2, fun _ => e1⟩
  · have h4 : x < 4 := by simpa [xok] using hx
    show decide (s x = 1) = true ↔ decide (t x = 1) = true
    rw [decide_eq_true_iff, decide_eq_true_iff, hs x (by omega)]
  · have ht1 : 1 ≤ h := ht
    show decide (s (3 + h) = 1) = true ↔ decide (t (3 + h) = 1) = true
    rw [decide_eq_true_iff, decide_eq_true_iff, hs (3 + h) (by omega)]
  · have h4 : x < 4 := by simpa [xok] using hx
    show decide (tRef (s x)) = true ↔ decide (tRef (t x)) = true
    rw [decide_eq_true_iff, decide_eq_true_iff, hs x (by omega)]
  · have ht1 : 1 ≤ h := ht
    show decide (tRef (s (3 + h))) = true ↔ decide (tRef (t (3 + h))) = true
    rw [decide_eq_true_iff, decide_eq_true_iff, hs (3 + h) (by omega)]
  · have ht1 : 2 ≤ h := ht
    show decide (s (3 + h) = 1 ∧ s (2 + h) = 1) = true ↔ decide (t (3 + h) = 1 ∧ t (2 + h) = 1) = true
    rw [decide_eq_true_iff, decide_eq_true_iff, hs (3 + h) (by omega), hs (2 + h) (by omega)]
  · have e1 : fitB w 8 x p h s = true := rfl
    have e2 : fitB w 8 x p h t = true := rfl
    exact ⟨fun _ => e2, fun _ => e1⟩
  · have e1 : fitB w 9 x p h s = true := rfl
    have e2 : fitB w 9 x p h t = true := rfl
    exact ⟨fun _ => e2, fun _ => e1⟩
  · have e1 : fitB w 10 x p h s = true := rfl
    have e2 : fitB w 10 x p h t = true := rfl
    exact ⟨fun _ => e2, fun _ => e1⟩
  · have e1 : fitB w 11 x p h s = true := rfl
    have e2 : fitB w 11 x p h t = true := rfl
    exact ⟨fun _ => e2, fun _ => e1⟩
  · have ht1 : 1 ≤ h := ht
    show decide (s (3 + h) = 1) = true ↔ decide (t (3 + h) = 1) = true
    rw [decide_eq_true_iff, decide_eq_true_iff, hs (3 + h) (by omega)]
  · have ht1 : 1 ≤ h := ht
    show decide (tPlain (s (3 + h))) = true ↔ decide (tPlain (t (3 + h))) = true
    rw [decide_eq_true_iff, decide_eq_true_iff, hs (3 + h) (by omega)]
  · show decide (∀ k, k < h → ¬ s (4 + k) = nI (64 + p)) = true ↔ decide (∀ k, k < h → ¬ t (4 + k) = nI (64 + p)) = true
    rw [decide_eq_true_iff, decide_eq_true_iff]
    exact ⟨fun z k q => hs (4 + k) (by omega) ▸ z k q, fun z k q => (hs (4 + k) (by omega)).symm ▸ z k q⟩
  · have ht1 : 1 ≤ h := ht
    show decide (tNew (s (3 + h))) = true ↔ decide (tNew (t (3 + h))) = true
    rw [decide_eq_true_iff, decide_eq_true_iff, hs (3 + h) (by omega)]
  · have ht1 : 1 ≤ h := ht
    show decide (fitsP w.P (s (3 + h)) (nI (16 + w.fc x))) = true ↔ decide (fitsP w.P (t (3 + h)) (nI (16 + w.fc x))) = true
    rw [decide_eq_true_iff, decide_eq_true_iff, hs (3 + h) (by omega)]
  · have ht1 : 2 ≤ h := ht
    show decide (fitsP w.P (s (3 + h)) (w.ft x) ∧ fitsP w.P (s (2 + h)) (nI (16 + w.fc x))) = true ↔ decide (fitsP w.P (t (3 + h)) (w.ft x) ∧ fitsP w.P (t (2 + h)) (nI (16 + w.fc x))) = true
    rw [decide_eq_true_iff, decide_eq_true_iff, hs (3 + h) (by omega), hs (2 + h) (by omega)]
  · have ht1 : w.rn x ≤ h := ht
    show decide (∀ k, k < w.rn x → fitsP w.P (s (4 + h - w.rn x + k)) (w.rt x k)) = true ↔ decide (∀ k, k < w.rn x → fitsP w.P (t (4 + h - w.rn x + k)) (w.rt x k)) = true
    rw [decide_eq_true_iff, decide_eq_true_iff]
    exact ⟨fun z k q => hs (4 + h - w.rn x + k) (by omega) ▸ z k q, fun z k q => (hs (4 + h - w.rn x + k) (by omega)).symm ▸ z k q⟩
  · show decide (w.mg = 0 ∨ fitsP w.P (s (3 + h)) w.mg) = true ↔ decide (w.mg = 0 ∨ fitsP w.P (t (3 + h)) w.mg) = true
    rw [decide_eq_true_iff, decide_eq_true_iff]
    by_cases h0 : w.mg = 0
    · exact ⟨fun _ => Or.inl h0, fun _ => Or.inl h0⟩
    · have e : tak w 19 x = 1 := if_neg h0
      rw [e] at ht
      rw [hs (3 + h) (by omega)]
  · have ht1 : 1 ≤ h := ht
    show decide (tPlain (s (3 + h))) = true ↔ decide (tPlain (t (3 + h))) = true
    rw [decide_eq_true_iff, decide_eq_true_iff, hs (3 + h) (by omega)]
  · have ht1 : 1 ≤ h := ht
    show decide (tPlain (s (3 + h))) = true ↔ decide (tPlain (t (3 + h))) = true
    rw [decide_eq_true_iff, decide_eq_true_iff, hs (3 + h) (by omega)]
theorem ft_congr {w : Wd} {p h : Nat} {s t : Nat → Int32} (hn : w.cb p < 22) (hs : ∀ j, j < 4 + h → s j = t j) : ftS w p h s = ftS w p h t := by
  unfold ftS
  by_cases h1 : xok (w.cb p) (xof w p)
  · rw [if_neg (not_not_intro h1), if_neg (not_not_intro h1)]
    by_cases h2 : h < tak w (w.cb p) (xof w p)
    · rw [if_pos h2, if_pos h2]
    · rw [if_neg h2, if_neg h2]
      have h3 := fit_congr (w := w) (p := p) hn h1 (by omega) hs
      by_cases h4 : fitS w (w.cb p) (xof w p) p h s
      · rw [if_neg (not_not_intro h4), if_neg (not_not_intro (h3.mp h4))]
      · rw [if_pos h4, if_pos (fun z => h4 (h3.mpr z))]
  · rw [if_pos h1, if_pos h1]
theorem up_congr {s t : Nat → Int32} {m m2 i : Nat} {u v : Int32} (hs : ∀ j, j < m → s j = t j) (huv : u = v) (hm : ∀ j, j < m2 → ¬ j = i → j < m) : ∀ j, j < m2 → upd s i u j = upd t i v j := by
  intro j hj
  by_cases e : j = i
  · rw [e, pk_us, pk_us, huv]
  · rw [pk_un e, pk_un e, hs j (hm j hj e)]
theorem rp_congr {s t : Nat → Int32} {m k : Nat} {a b u v : Int32} (hs : ∀ j, j < m → s j = t j) (hab : a = b) (huv : u = v) : ∀ j, j < m → rpl s k a u j = rpl t k b v j := by
  intro j hj
  unfold rpl
  rw [hs j hj, hab, huv]
theorem ps_congr0 {w : Wd} {n x p h : Nat} {s t : Nat → Int32} (hn : n < 22) (hx : xok n x) (ht : tak w n x ≤ h) (hs : ∀ j, j < 4 + h → s j = t j) : ∀ j, j < 4 + phS w n x h → psS w n x p h s j = psS w n x p h t j := by
  rcases n22 hn with rfl | rfl | rfl | rfl | rfl | rfl | rfl | rfl | rfl | rfl | rfl | rfl | rfl | rfl | rfl | rfl | rfl | rfl | rfl | rfl | rfl | rfl
  · intro j hj
    have e : phS w 0 x h = h - 0 := rfl
    exact hs j (by omega)
  · exact up_congr (m2 := 4 + (h + 1)) hs rfl (by omega)
  · exact up_congr (m2 := 4 + (h + 1)) hs rfl (by omega)
  · exact up_congr (m2 := 4 + (h + 1)) hs rfl (by omega)
  · exact up_congr (m2 := 4 + (h - 1)) hs rfl (by omega)
  · have h4 : x < 4 := by simpa [xok] using hx
    exact up_congr (m2 := 4 + (h + 1)) hs (hs x (by omega)) (by omega)
  · have ht1 : 1 ≤ h := ht
    exact up_congr (m2 := 4 + (h - 1)) hs (hs (3 + h) (by omega)) (by omega)
  · have ht1 : 2 ≤ h := ht
    exact up_congr (m2 := 4 + (h - 2 + 1)) hs rfl (by omega)
  · intro j hj
    have e : phS w 8 x h = h - 1 := rfl
    exact hs j (by omega)
  · have ht1 : 1 ≤ h := ht
    exact up_congr (m := 4 + h) (m2 := 4 + (h - 1 + 2)) (up_congr (m2 := 4 + h) hs (hs (3 + h) (by omega)) (by omega)) (hs (3 + h) (by omega)) (by omega)
  · have ht1 : 2 ≤ h := ht
    exact up_congr (m := 4 + h) (m2 := 4 + (h - 2 + 2)) (up_congr (m2 := 4 + h) hs (hs (3 + h) (by omega)) (by omega)) (hs (2 + h) (by omega)) (by omega)
  · intro j hj
    have e : phS w 11 x h = h - 0 := rfl
    exact hs j (by omega)
  · intro j hj
    have e : phS w 12 x h = h - 1 := rfl
    exact hs j (by omega)
  · intro j hj
    have e : phS w 13 x h = h - 1 := rfl
    exact hs j (by omega)
  · exact up_congr (m := 4 + h) (m2 := 4 + (h + 1)) (rp_congr hs rfl rfl) rfl (by omega)
  · have ht1 : 1 ≤ h := ht
    exact rp_congr (m := 4 + (h - 1)) (fun j hj => hs j (by omega)) (hs (3 + h) (by omega)) (by rw [hs (3 + h) (by omega)])
  · have ht1 : 1 ≤ h := ht
    exact up_congr (m2 := 4 + (h - 1 + 1)) hs rfl (by omega)
  · intro j hj
    have e : phS w 17 x h = h - 2 := rfl
    exact hs j (by omega)
  · have ht1 : w.rn x ≤ h := ht
    by_cases z : w.rg x = 0
    · have eS : psS w 18 x p h s = s := if_pos z
      have eT : psS w 18 x p h t = t := if_pos z
      have eP : phS w 18 x h = h - w.rn x := by
        show h - w.rn x + (if w.rg x = 0 then 0 else 1) = _
        rw [if_pos z, Nat.add_zero]
      rw [eS, eT, eP]
      exact fun j hj => hs j (by omega)
    · have eS : psS w 18 x p h s = upd s (4 + h - w.rn x) (w.rg x) := if_neg z
      have eT : psS w 18 x p h t = upd t (4 + h - w.rn x) (w.rg x) := if_neg z
      have eP : phS w 18 x h = h - w.rn x + 1 := by
        show h - w.rn x + (if w.rg x = 0 then 0 else 1) = _
        rw [if_neg z]
      rw [eS, eT, eP]
      exact up_congr hs rfl (by omega)
  · intro j hj
    have e : phS w 19 x h ≤ h := by
      show h - tak w 19 x + 0 ≤ h
      omega
    exact hs j (by omega)
  · have ht1 : 1 ≤ h := ht
    exact up_congr (m2 := 4 + (h - 1 + 1)) hs rfl (by omega)
  · intro j hj
    have e : phS w 21 x h = h - 1 := rfl
    exact hs j (by omega)
theorem ps_congr {w : Wd} {p h : Nat} {s t : Nat → Int32} (hn : w.cb p < 22) (hf : ftS w p h s = 0) (hs : ∀ j, j < 4 + h → s j = t j) : ∀ j, j < 4 + phS w (w.cb p) (xof w p) h → psS w (w.cb p) (xof w p) p h s j = psS w (w.cb p) (xof w p) p h t j := by
  obtain ⟨h1, h2, h3, h4⟩ := ft_ok hf
  exact ps_congr0 hn h1 h2 hs
