/-! code, clear, table, tableAt of both sides -/
section OPS
variable (ol : pm_O) (orc : pm_Q) (L : Nat → Int64) (g : pm_H) {w : Wd} {ts : Nat} {tb : Nat → Nat} {A I : Nat → Nat → Int32}
/-- n bytes of a long behind sz bytes -/
def apN (bs : Int64) (n sz : Nat) (f : Nat → Nat) : Nat → Nat := fun j => if sz ≤ j ∧ j < sz + n then (byM bs (nI (n - 1 - (j - sz)))).toNatClampNeg else f j
theorem apN_lt {bs : Int64} {n sz : Nat} {f : Nat → Nat} {j : Nat} (h : j < sz → f j < 256) (hj : j < sz + n) : apN bs n sz f j < 256 := by
  unfold apN
  split
  · obtain ⟨x, hx, e⟩ := byM_nI bs (nI (n - 1 - (j - sz)))
    rw [e, clampN (by omega)]
    exact hx
  · exact h (by omega)
theorem apM_at {bs : Int64} {n sz : Nat} {f : Nat → Int32} {c : Nat → Nat} (h : ∀ j, j < sz → f j = nI (c j)) {j : Nat} (hj : j < sz + n) : apF (fun k => byM bs (nI k)) n f sz j = nI (apN bs n sz c j) := by
  rw [apF_at]
  unfold apN
  by_cases e : sz ≤ j ∧ j < sz + n
  · rw [if_pos e, if_pos e]
    obtain ⟨x, hx, e2⟩ := byM_nI bs (nI (n - 1 - (j - sz)))
    rw [e2, clampN (by omega)]
  · rw [if_neg e, if_neg e]
    exact h j (by omega)
theorem apC_at {bs : Int64} {n sz : Nat} (hn : n ≤ 8) {f : Nat → Int32} {c : Nat → Nat} (h : ∀ j, j < sz → f j = nI (c j)) {j : Nat} (hj : j < sz + n) : apF (fun k => byC bs (nI k)) n f sz j = nI (apN bs n sz c j) := by
  rw [apF_eq (fun k => byC bs (nI k)) (fun k => byM bs (nI k)) n (fun k hk => by_eq bs k (by omega))]
  exact apM_at h hj
theorem B_code (h : Inv w ts tb A I) (bs : Int64) (i : Int32) : both ol orc L g 103 124 [.long bs, .int i] A I := by
  obtain ⟨k, hw, hr, ht, hm⟩ := h
  have h1 : I 21 1 = nI w.cs := hw.c.2.2.1
  have h2 : I 48 11 = nI w.cs := hr.c.2.2.1
  by_cases e : ∃ n, 0 < n ∧ n ≤ 8 ∧ i = nI n ∧ w.cs + n ≤ 48
  · obtain ⟨n, n0, n8, ei, n48⟩ := e
    subst ei
    have r1 := V_code ol orc A I L g (nI n) bs _ (V_appendY21 ol orc A I L g bs h1 n0 n8 n48) ⟨_, _, rfl⟩
    have r2 := M_codeY ol orc (sF A 22 (apF (fun k => byC bs (nI k)) n (A 22) w.cs)) (sI I 21 1 (nI (w.cs + n))) L g bs (sz := w.cs) (n := n) (by rw [sI_n _ _ (by decide)]; exact h2) n0 n8 n48
    refine ⟨nI (w.cs + n), _, _, _, _, r1, r2, mkW w.P w.fc w.ft w.rt w.rn w.rg w.mt w.mn w.mg (w.cs + n) (apN bs n w.cs w.cb), ts, tb, ?_⟩
    have hb : ∀ j, j < w.cs + n → apN bs n w.cs w.cb j < 256 := fun j hj => apN_lt (fun h => k.cb j h) hj
    refine ⟨⟨k.P, k.fc, k.ft, k.rn, k.rt, k.rg, k.mn, k.mt, k.mg, n48, hb⟩, ⟨hw.P, hw.fc, hw.ft, ?_, ?_, ?_, hw.mt, hw.mn, hw.mg, ⟨n48, hb, rfl, ?_⟩⟩, ⟨hr.P, hr.fc, hr.ft, hr.rt, hr.rn, hr.rg, hr.mt, hr.mn, hr.mg, ⟨n48, hb, rfl, ?_⟩⟩, hTab_fr ht rfl rfl, hTaM_fr hm rfl rfl⟩
    · intro r hr1 k1 hk1
      rw [sF_n _ _ (by omega), sF_n _ _ (by omega)]
      exact hw.rt r hr1 k1 hk1
    · intro r hr1
      rw [sI_n _ _ (by omega), sI_n _ _ (by omega), sI_n _ _ (by omega)]
      exact hw.rn r hr1
    · intro r hr1
      rw [sI_n _ _ (by omega), sI_n _ _ (by omega), sI_n _ _ (by omega)]
      exact hw.rg r hr1
    · intro j hj
      exact apC_at n8 (fun j hj => hw.c.2.2.2 j hj) hj
    · intro j hj
      exact apM_at (fun j hj => hr.c.2.2.2 j hj) hj
  · have r1 := V_code ol orc A I L g i bs _ (V_appendN21 ol orc A I L g i bs h1 k.cs e) ⟨_, _, rfl⟩
    have r2 := M_codeN ol orc A I L g i bs h2 k.cs e
    exact ⟨-1, _, _, _, _, r1, r2, w, ts, tb, Inv_thr ⟨k, hw, hr, ht, hm⟩ 0⟩
theorem B_clear (h : Inv w ts tb A I) : both ol orc L g 104 125 [] A I := by
  obtain ⟨k, hw, hr, ht, hm⟩ := h
  have h1 : I 21 1 = nI w.cs := hw.c.2.2.1
  have h2 : I 48 11 = nI w.cs := hr.c.2.2.1
  have r1 := V_clear ol orc A I L g
  have r2 := M_clear ol orc A (sI I 21 1 0) L g
  rw [h1] at r1
  rw [sI_n _ _ (by decide), h2] at r2
  refine ⟨nI w.cs, _, _, _, _, r1, r2, mkW w.P w.fc w.ft w.rt w.rn w.rg w.mt w.mn w.mg 0 w.cb, ts, tb, ?_⟩
  refine ⟨⟨k.P, k.fc, k.ft, k.rn, k.rt, k.rg, k.mn, k.mt, k.mg, Nat.zero_le _, fun j hj => absurd hj (Nat.not_lt_zero _)⟩, ⟨hw.P, hw.fc, hw.ft, hw.rt, ?_, ?_, hw.mt, hw.mn, hw.mg, ⟨Nat.zero_le _, fun j hj => absurd hj (Nat.not_lt_zero _), rfl, fun j hj => absurd hj (Nat.not_lt_zero _)⟩⟩, ⟨hr.P, hr.fc, hr.ft, hr.rt, hr.rn, hr.rg, hr.mt, hr.mn, hr.mg, ⟨Nat.zero_le _, fun j hj => absurd hj (Nat.not_lt_zero _), rfl, fun j hj => absurd hj (Nat.not_lt_zero _)⟩⟩, hTab_fr ht rfl rfl, hTaM_fr hm rfl rfl⟩
  · intro r hr1
    rw [sI_n _ _ (by omega), sI_n _ _ (by omega), sI_n _ _ (by omega)]
    exact hw.rn r hr1
  · intro r hr1
    rw [sI_n _ _ (by omega), sI_n _ _ (by omega), sI_n _ _ (by omega)]
    exact hw.rg r hr1
/-- the tables alone change -/
theorem Inv_tab {A' I' : Nat → Nat → Int32} (h : Inv w ts tb A I) {ts' : Nat} {tb' : Nat → Nat} (hA : ∀ a, ¬ a = 25 → ¬ a = 57 → A' a = A a) (hI : ∀ a j, ¬ (a = 24 ∧ j = 1) → ¬ (a = 48 ∧ (j = 0 ∨ j = 13)) → I' a j = I a j) (h1 : hTab ts' tb' A' I') (h2 : hTaM ts' tb' A' I') : Inv w ts' tb' A' I' := by
  obtain ⟨k, hw, hr, ht, hm⟩ := h
  refine ⟨k, hw.fr (fun a ha => hA a (by omega) (by omega)) (fun a j ha => hI a j (by omega) (by omega)), ?_, h1, h2⟩
  have q : hR w A' (sI I' 48 0 (I 48 0)) := hr.fr (fun a ha hb => hA a (by omega) (by omega)) (fun j hj => by
    by_cases e : j = 0
    · rw [e, sI_s]
    · rw [sI_n _ _ (by omega)]
      exact hI 48 j (by omega) (by omega))
  have := hR_thr q (I' 48 0)
  rw [sI_sI, sI_self] at this
  exact this
theorem B_table (h : Inv w ts tb A I) (bs : Int64) (i : Int32) : both ol orc L g 105 126 [.long bs, .int i] A I := by
  have ht := h.2.2.2.1
  have hm := h.2.2.2.2
  have h1 : I 24 1 = nI ts := ht.2.2.1
  have h2 : I 48 13 = nI ts := hm.2.2.1
  by_cases e0 : i = 0
  · subst e0
    refine ⟨0, _, _, _, _, V_table0 ol orc A I L g bs, M_table0 ol orc A (sI I 24 1 0) L g bs, w, 0, tb, Inv_tab h (fun _ _ _ => rfl) ?_ ⟨Nat.zero_le _, fun j hj => absurd hj (Nat.not_lt_zero _), rfl, fun j hj => absurd hj (Nat.not_lt_zero _)⟩ ⟨Nat.zero_le _, fun j hj => absurd hj (Nat.not_lt_zero _), rfl, fun j hj => absurd hj (Nat.not_lt_zero _)⟩⟩
    intro a j h3 h4
    rw [sI_n _ _ (by omega), sI_n _ _ (by omega), sI_n _ _ (by omega)]
  · by_cases e : ∃ n, 0 < n ∧ n ≤ 8 ∧ i = nI n ∧ ts + n ≤ 120
    · obtain ⟨n, n0, n8, ei, n48⟩ := e
      subst ei
      have r1 := V_table ol orc A I L g (nI n) bs e0 _ (V_appendY24 ol orc A I L g bs h1 n0 n8 n48) ⟨_, _, rfl⟩
      have r2 := M_tableY ol orc (sF A 25 (apF (fun k => byC bs (nI k)) n (A 25) ts)) (sI I 24 1 (nI (ts + n))) L g bs (sz := ts) (n := n) (by rw [sI_n _ _ (by decide)]; exact h2) n0 n8 n48
      have hb : ∀ j, j < ts + n → apN bs n ts tb j < 256 := fun j hj => apN_lt (fun h => ht.2.1 j h) hj
      refine ⟨nI (ts + n), _, _, _, _, r1, r2, w, ts + n, apN bs n ts tb, Inv_tab h ?_ ?_ ⟨n48, hb, rfl, ?_⟩ ⟨n48, hb, rfl, ?_⟩⟩
      · intro a h3 h4
        rw [sF_n _ _ h4, sF_n _ _ h3]
      · intro a j h3 h4
        rw [sI_n _ _ (by omega), sI_n _ _ (by omega), sI_n _ _ (by omega)]
      · intro j hj
        exact apC_at n8 (fun j hj => ht.2.2.2 j hj) hj
      · intro j hj
        exact apM_at (fun j hj => hm.2.2.2 j hj) hj
    · have r1 := V_table ol orc A I L g i bs e0 _ (V_appendN24 ol orc A I L g i bs h1 ht.1 e) ⟨_, _, rfl⟩
      have r2 := M_tableN ol orc A I L g i bs h2 ht.1 e0 e
      exact ⟨-1, _, _, _, _, r1, r2, w, ts, tb, Inv_thr h 0⟩
theorem B_tableAt (h : Inv w ts tb A I) (i : Int32) : both ol orc L g 106 127 [.int i] A I := by
  have ht := h.2.2.2.1
  have hm := h.2.2.2.2
  have h120 := ht.1
  have h1 : I 24 1 = nI ts := ht.2.2.1
  have h2 : I 48 13 = nI ts := hm.2.2.1
  have r1 := V_tableAt ol orc A I L g i
  have r2 := M_tableAt ol orc A I L g i (by rw [h2]; exact nI_le (a := ts) (b := 120) h120 (by decide))
  rw [h1] at r1
  rw [h2] at r2
  have ev : (if 0 ≤ i ∧ i < nI ts ∧ i < 120 then A 25 i.toNatClampNeg else -1) = if 0 ≤ i ∧ i < nI ts then A 57 i.toNatClampNeg else -1 := by
    by_cases e : 0 ≤ i ∧ i < nI ts
    · obtain ⟨j, hj, ej⟩ := nI_ofN (n := ts) (by omega) e.1 e.2
      have : i < 120 := by
        rw [ej]
        exact nI_lt (b := 120) (by omega) (by decide)
      rw [if_pos e, if_pos ⟨e.1, e.2, this⟩, ej, clampN (by omega), ht.2.2.2 j hj, hm.2.2.2 j hj]
    · rw [if_neg e, if_neg (fun y => e ⟨y.1, y.2.1⟩)]
  rw [ev] at r1
  exact ⟨_, _, _, _, _, r1, r2, w, ts, tb, Inv_thr h 0⟩
end OPS
