/-! the class makes a table -/
abbrev okB (b : Bf) : Prop := ∀ i, i < b.1 → ∃ x, x < 256 ∧ b.2 i = nI x
theorem psh_ok {b : Bf} {x : Nat} (h : okB b) (hx : x < 256) : okB (psh b (nI x)) := by
  intro i hi
  have hi : i < b.1 + 1 := hi
  by_cases e : i = b.1
  · refine ⟨x, hx, ?_⟩
    show upd b.2 b.1 (nI x) i = nI x
    rw [e, pk_us]
  · obtain ⟨y, hy, h2⟩ := h i (by omega)
    refine ⟨y, hy, ?_⟩
    show upd b.2 b.1 (nI x) i = nI y
    rw [pk_un e]
    exact h2
theorem psT_ok {w : Wd} {b : Bf} {t : Int32} (h : okB b) (ht : vT w t) : okB (psT b t) := by
  unfold psT
  by_cases c1 : tObj t
  · rw [if_pos c1]
    obtain ⟨c, hc, e, -⟩ := obj_of c1
    rw [e]
    exact psh_ok (psh_ok (x := 7) h (by decide)) (by omega)
  · rw [if_neg c1]
    rcases ht with e | e | e | e | ⟨q, hq, -, e⟩
    · subst e
      rw [if_neg (by decide)]
      exact psh_ok (x := 0) h (by decide)
    · subst e
      rw [if_neg (by decide)]
      exact psh_ok (x := 1) h (by decide)
    · subst e
      rw [if_neg (by decide)]
      exact psh_ok (x := 2) h (by decide)
    · exact absurd e c1
    · have e2 : t - 64 = nI q := by
        have : nI (64 + q) = 64 + nI q := by
          rw [← nI_add]
          rfl
        rw [e, this]
        grind
      split
      · rw [e2]
        exact psh_ok (psh_ok (x := 8) h (by decide)) (by omega)
      · rw [e]
        exact psh_ok h (by omega)
theorem psL_ok {w : Wd} {s : Nat → Int32} : ∀ (k i : Nat) (b : Bf), okB b → (∀ j, i ≤ j → j < i + k → vT w (s j)) → okB (psL s k i b) := by
  intro k
  induction k with
  | zero => exact fun _ _ h _ => h
  | succ k ih =>
    intro i b h hv
    exact ih (i + 1) (psT b (s i)) (psT_ok h (hv i (by omega) (by omega))) (fun j h1 h2 => hv j (by omega) (by omega))
theorem psF_ok {w : Wd} {b : Bf} {d n had : Nat} {v : Nat → Int32} {h : Nat} {s : Nat → Int32} (hb : okB b) (hd : d < 48) (hn : n ≤ 4) (hh : h ≤ 5) (hv : ∀ j, j < 4 + h → vT w (s j)) : okB (psF b d n had v h s) := by
  unfold psF
  split
  · exact psh_ok hb (by omega)
  · split
    · rename_i y
      exact psT_ok (psh_ok hb (by omega)) (hv 4 (by omega))
    · split
      · rename_i y
        exact psL_ok _ _ _ (psh_ok (psh_ok hb (by omega)) (by omega)) (fun j h1 h2 => hv j (by omega))
      · exact psL_ok (s := fun i => s (4 + i)) _ _ _ (psh_ok (psL_ok _ _ _ (psh_ok (psh_ok (psh_ok (x := 255) hb (by decide)) (by omega)) (by omega)) (fun j h1 h2 => hv j (by omega))) (by omega)) (fun j h1 h2 => hv _ (by omega))
theorem pk_props {w : Wd} (hk : okW w) {z : St} (hF : Fin w z) : ∀ (n p nb had : Nat) (v : Nat → Int32) (b : Bf), n + p = w.cs → nb ≤ p → okB b → b.1 ≤ 1 + 22 * ctS w p → 1 ≤ b.1 → okB (pkS w z n p nb had v b) ∧ (pkS w z n p nb had v b).1 ≤ 1 + 22 * ctS w w.cs ∧ 1 ≤ (pkS w z n p nb had v b).1 := by
  intro n
  have h48 := hk.cs
  induction n with
  | zero =>
    intro p nb had v b hn _ hb hl h1
    rw [show p = w.cs by omega] at hl
    exact ⟨hb, hl, h1⟩
  | succ n ih =>
    intro p nb had v b hn hnb hb hl h1
    unfold pkS
    have ec : ctS w (p + 1) = ctS w p + (if frS w p then 1 else 0) := rfl
    by_cases e : frS w p
    · rw [if_pos e]
      rw [if_pos e] at ec
      obtain ⟨-, h, eh, h5, hv⟩ := hF.at (by omega) (hF.fr (by omega) e)
      rw [eh]
      have hcn := cn_le (z.tt p)
      have hle := psF_le (b := b) (d := p - nb) (n := cnS (z.tt p)) (had := had) (v := v) (h := h) (s := z.tt p) hcn h5
      exact ih (p + 1) (p + 1) _ _ _ (by omega) (by omega) (psF_ok hb (by omega) hcn h5 hv) (by show (psF b (p - nb) (cnS (z.tt p)) had v h (z.tt p)).1 ≤ _; omega) (by show 1 ≤ (psF b (p - nb) (cnS (z.tt p)) had v h (z.tt p)).1; omega)
    · rw [if_neg e]
      rw [if_neg e] at ec
      exact ih (p + 1) nb had v b (by omega) (by omega) hb (by omega) h1
theorem b0_ok {w : Wd} (hk : okW w) {z : St} (hF : Fin w z) : okB (psh (0, fun _ => 0) (nI (ctS w w.cs))) := psh_ok (b := (0, fun _ => 0)) (fun i hi => absurd hi (Nat.not_lt_zero _)) (by have := ct_24 hk hF; omega)
theorem pkA_props {w : Wd} (hk : okW w) {z : St} (hF : Fin w z) : okB (pkA w z) ∧ (pkA w z).1 ≤ 529 ∧ 1 ≤ (pkA w z).1 := by
  have := pk_props hk hF w.cs 0 0 w.mn w.mt (psh (0, fun _ => 0) (nI (ctS w w.cs))) (by omega) (by omega) (b0_ok hk hF) (by show 0 + 1 ≤ 1 + 22 * 0; omega) (by show 1 ≤ 0 + 1; omega)
  have h24 := ct_24 hk hF
  refine ⟨this.1, ?_, this.2.2⟩
  have h2 := this.2.1
  show (pkS w z w.cs 0 0 w.mn w.mt (psh (0, fun _ => 0) (nI (ctS w w.cs)))).1 ≤ 529
  omega
theorem ur_bd {w : Wd} {z : St} : ∀ n q, urS w z n q ≤ 200 + (q + n) := by
  intro n
  induction n with
  | zero => exact fun q => Nat.zero_le _
  | succ n ih =>
    intro q
    unfold urS
    split
    · omega
    · have := ih (q + 1)
      omega
theorem fd_bd {w : Wd} (hk : okW w) : ∀ n z, fdS w (wlS w n z) ≤ 1000 := by
  have h48 := hk.cs
  have hu : ∀ z, urS w z w.cs 0 ≤ 1000 := fun z => by
    have := ur_bd (w := w) (z := z) w.cs 0
    omega
  intro n
  induction n with
  | zero =>
    intro z
    exact hu z
  | succ n ih =>
    intro z
    unfold wlS
    split
    · rename_i c1
      split
      · rename_i c2
        have : fdS w (wkS w z (loS z (w.cs + 1) 0)) = (wkS w z (loS z (w.cs + 1) 0)).1 := if_pos c2
        rw [this]
        exact wk_bd hk c1
      · exact ih _
    · exact hu z
/-- what a find of 0 says -/
theorem fd_0 {w : Wd} {r : Nat × St} (h : fdS w r = 0) : r.1 = 0 ∧ ∀ q, q < w.cs → bgN w.cs w.cb q → ¬ r.2.ht q = none := by
  unfold fdS at h
  by_cases e : r.1 = 0
  · rw [if_neg (not_not_intro e)] at h
    exact ⟨e, fun q hq => ur_0 w.cs 0 h q (by omega) (by omega)⟩
  · rw [if_pos e] at h
    exact absurd h e
section MK2
variable (Ls : Nat) (xs : Nat → Int32) (orc : pm_Q) (L : Nat → Int64) (g : pm_H) {w : Wd} {A I : Nat → Nat → Int32} {z : St}
def frC (w : Wd) (p : Nat) (f : Nat → Int32) : Nat → Int32 := if ¬ gonN (w.cb p) ∧ nxN w.cb p < w.cs then upd (if goN (w.cb p) then upd f (tgN w p) 1 else f) (nxN w.cb p) 1 else if goN (w.cb p) then upd f (tgN w p) 1 else f
theorem V_markFrom (hw : hW w A I) (hk : okW w) (hB : ∀ j, j < 48 → A 23 j = b1 (bgN w.cs w.cb j)) {p : Nat} (hb : bgN w.cs w.cb p) (hd : dnS w p) (f : Nat → Int32) : pm_V (pm_ol Ls xs) orc 36 [.ref 38, .int (nI p)] (mk (sF A 44 f) I L g) = some (none, mk (sF A 44 (frC w p f)) I L g) := by
  have h48 := hk.cs
  obtain ⟨c1, hwl, hg⟩ := hd
  have hw2 : ∀ f, hW w (sF A 44 f) I := fun f => hw.sF (by decide) _
  have hB2 : ∀ f, ∀ j, j < 48 → sF A 44 f 23 j = b1 (bgN w.cs w.cb j) := fun f => hB
  have hc := fun f => cd_in (hw2 f).c c1
  have rbe := fun f => V_behN Ls xs orc I L g (hw2 f).c c1
  have hle := hwl.2
  have hgo := nxF_go hb.1 c1 hwl
  unfold frC
  have part2 : ∀ f, pm_F (pm_ol Ls xs) orc 36 43 [(0, .ref 38), (1, .int (nI p))] [] (mk (sF A 44 f) I L g) = some (none, mk (sF A 44 (if ¬ gonN (w.cb p) ∧ nxN w.cb p < w.cs then upd f (nxN w.cb p) 1 else f)) I L g) := by
    intro f
    have rb := V_bgN (pm_ol Ls xs) orc I L g hk.cs (hB2 f) (q := nxN w.cb p) (by omega)
    have rbe := rbe f
    have hc := hc f
    by_cases g2 : gonN (w.cb p)
    · have g3 := g2
      rw [← gon_nI hwl.1] at g3
      rw [if_neg (fun y => y.1 g2)]
      simp (disch := omega) only [f36_0, f36_1, f36_4, f36_5, f36_8, f36_11, f36_12, f36_15, f36_16, f36_19, f36_20, f36_23, f36_26, f36_29, f36_30, f36_33, f36_34, f36_37, f36_38, f36_41, f36_42, f36_43, f36_44, f36_47, f36_48, f36_51, f36_54, f36_55, f36_58, f36_59, f36_62, f36_63, f36_66, f36_69, f36_72, f36_73, f36_76, f36_77, f36_80, f36_81, f36_84, f36_85, f36_86, v36, pm_Pv_some, pm_Ph_some, pm_B_some, pm_B_none, is_0, fd_0_0, fd_0_1, fd_0_2, fd_0_3, fd_0_4, fd_0_5, is_1, fd_1_0, fd_1_1, fd_1_2, fd_1_3, fd_1_4, ln_2, ln_3, ln_4, is_6, fd_6_0, fd_6_1, fs_6_1, fd_6_2, fs_6_2, ln_7, is_8, fd_8_0, fd_8_1, fs_8_1, fd_8_2, fs_8_2, ln_9, is_10, fd_10_0, fd_10_1, fs_10_1, fd_10_2, fs_10_2, ln_11, is_12, fd_12_0, fd_12_1, fs_12_1, fd_12_2, fs_12_2, ln_13, is_14, fd_14_0, fd_14_1, fs_14_1, fd_14_2, fs_14_2, ln_15, is_16, fd_16_0, fd_16_1, fs_16_1, fd_16_2, fs_16_2, ln_17, is_18, fd_18_0, fd_18_1, fs_18_1, fd_18_2, fs_18_2, ln_19, is_20, fd_20_0, fd_20_1, is_21, fd_21_0, fd_21_1, fs_21_1, ln_22, ln_23, is_24, fd_24_0, fd_24_1, fs_24_1, ln_25, is_26, fd_26_0, fd_26_1, fs_26_1, fd_26_2, fd_26_3, fd_26_4, fd_26_5, fd_26_6, fs_26_6, fd_26_7, fs_26_7, fd_26_8, fs_26_8, ln_27, is_28, fd_28_0, fd_28_1, fs_28_1, ln_29, is_30, fd_30_0, fd_30_1, fd_30_2, ln_31, ln_32, is_33, fd_33_0, fd_33_1, fd_33_2, fd_33_3, fd_33_4, fs_33_4, is_34, fd_34_0, fd_34_1, fs_34_1, ln_35, ln_36, is_37, fd_37_0, fd_37_1, fd_37_2, fd_37_3, is_38, fd_38_0, fd_38_1, fd_38_2, fd_38_3, fd_38_4, fd_38_5, fd_38_6, is_39, fd_39_0, fd_39_1, fd_39_2, fs_39_2, fd_39_3, fs_39_3, is_40, fd_40_0, fd_40_1, fs_40_1, ln_41, ln_42, ln_43, ln_44, is_45, fd_45_0, fd_45_1, fd_45_2, ln_46, ln_47, is_48, fd_48_0, fs_48_0, fd_48_1, fd_48_2, fd_48_3, fd_48_4, fd_48_5, fd_48_6, fd_48_7, fd_48_8, fs_48_8, fd_48_9, fs_48_9, fd_48_10, fd_48_11, fs_48_11, fd_48_12, fd_48_13, fs_48_13, fd_48_14, fs_48_14, fd_48_15, fd_48_16, fd_48_17, fd_48_18, fs_48_18, fd_48_19, fs_48_19, fd_48_20, fd_48_21, fs_48_21, fd_48_22, fs_48_22, fd_48_23, fs_48_23, fd_48_24, fd_48_25, fd_48_26, fd_48_27, fd_48_28, fd_48_29, fd_48_30, fs_48_30, fd_48_31, ln_49, ln_50, ln_51, ln_52, ln_53, ln_54, ln_55, ln_56, ln_57, ln_58, ln_59, ln_60, ln_61, ln_62, ln_63, ln_64, ln_65, ln_66, ln_67, ln_68, aN_2, aL_2, sN_2, sL_2, aN_3, aL_3, sN_3, sL_3, aN_4, aL_4, sN_4, sL_4, aN_7, aL_7, sN_7, sL_7, aN_9, aL_9, sN_9, sL_9, aN_11, aL_11, sN_11, sL_11, aN_13, aL_13, sN_13, sL_13, aN_15, aL_15, sN_15, sL_15, aN_17, aL_17, sN_17, sL_17, aN_19, aL_19, sN_19, sL_19, aN_22, aL_22, sN_22, sL_22, aN_25, aL_25, sN_25, sL_25, aN_27, aL_27, sN_27, sL_27, aN_29, aL_29, sN_29, sL_29, aN_31, aL_31, sN_31, sL_31, aN_32, aL_32, sN_32, sL_32, aN_35, aL_35, sN_35, sL_35, aN_36, aL_36, sN_36, sL_36, aN_41, aL_41, sN_41, sL_41, aN_42, aL_42, sN_42, sL_42, aN_46, aL_46, sN_46, sL_46, aN_47, aL_47, sN_47, sL_47, aN_49, aL_49, sN_49, sL_49, aN_50, aL_50, sN_50, sL_50, aN_51, aL_51, sN_51, sL_51, aN_52, aL_52, sN_52, sL_52, aN_53, aL_53, sN_53, sL_53, aN_54, aL_54, sN_54, sL_54, aN_55, aL_55, sN_55, sL_55, aN_56, aL_56, sN_56, sL_56, aN_57, aL_57, sN_57, sL_57, aN_58, aL_58, sN_58, sL_58, aN_59, aL_59, sN_59, sL_59, aN_60, aL_60, sN_60, sL_60, aN_61, aL_61, sN_61, sL_61, aN_66, aL_66, sN_66, sL_66, aN_67, aL_67, sN_67, sL_67, aN_68, aL_68, sN_68, sL_68, aN_23, sN_23, aN_43, sN_43, aN_44, sN_44, aN_62, sN_62, aN_63, sN_63, aN_64, sN_64, aN_65, sN_65, aN_1001, aN_1002, aq_5_0, aq_5_1, aq_5_2, aq_5_3, aq_5_4, aq_5_5, q_add, q_addl, q_ladd, q_sub, q_subl, q_lsub, q_mul, q_mull, q_lmul, q_le, q_lel, q_lle, q_lt, q_ltl, q_llt, q_eq, q_eql, q_leq, q_m1, q_1m, q_cl, q_nb, q_leT, q_leF, q_ltT, q_ltF, q_eqT, q_eqF, q_10, q_01, q_em, q_bT, q_bF, q_uS, q_uN, q_sA, q_sAn, q_sFn, q_sIn, q_sAF, sF_s, sI_s, sI_sI, sF_sF, nar0, nar1, b1_0, b1_1, b1_or, if_true, if_false, not_true_eq_false, not_false_eq_true, ↓reduceIte, Int32.reduceAdd, Int32.reduceSub, Int32.reduceMul, Int32.reduceLT, Int32.reduceLE, eq_self, Nat.reduceAdd, Nat.reduceSub, Nat.reduceMul, true_or, or_true, false_or, or_false, and_true, true_and, and_false, false_and, V_goesOn, hc]
    · have g3 := g2
      rw [← gon_nI hwl.1] at g3
      by_cases g4 : nxN w.cb p < w.cs
      · rw [if_pos ⟨g2, g4⟩]
        rw [b1_t (show bgN w.cs w.cb (nxN w.cb p) from ⟨hgo.2, g4⟩)] at rb
        generalize nxN w.cb p = y at rb rbe g4 ⊢
        simp (disch := omega) only [f36_0, f36_1, f36_4, f36_5, f36_8, f36_11, f36_12, f36_15, f36_16, f36_19, f36_20, f36_23, f36_26, f36_29, f36_30, f36_33, f36_34, f36_37, f36_38, f36_41, f36_42, f36_43, f36_44, f36_47, f36_48, f36_51, f36_54, f36_55, f36_58, f36_59, f36_62, f36_63, f36_66, f36_69, f36_72, f36_73, f36_76, f36_77, f36_80, f36_81, f36_84, f36_85, f36_86, v36, pm_Pv_some, pm_Ph_some, pm_B_some, pm_B_none, is_0, fd_0_0, fd_0_1, fd_0_2, fd_0_3, fd_0_4, fd_0_5, is_1, fd_1_0, fd_1_1, fd_1_2, fd_1_3, fd_1_4, ln_2, ln_3, ln_4, is_6, fd_6_0, fd_6_1, fs_6_1, fd_6_2, fs_6_2, ln_7, is_8, fd_8_0, fd_8_1, fs_8_1, fd_8_2, fs_8_2, ln_9, is_10, fd_10_0, fd_10_1, fs_10_1, fd_10_2, fs_10_2, ln_11, is_12, fd_12_0, fd_12_1, fs_12_1, fd_12_2, fs_12_2, ln_13, is_14, fd_14_0, fd_14_1, fs_14_1, fd_14_2, fs_14_2, ln_15, is_16, fd_16_0, fd_16_1, fs_16_1, fd_16_2, fs_16_2, ln_17, is_18, fd_18_0, fd_18_1, fs_18_1, fd_18_2, fs_18_2, ln_19, is_20, fd_20_0, fd_20_1, is_21, fd_21_0, fd_21_1, fs_21_1, ln_22, ln_23, is_24, fd_24_0, fd_24_1, fs_24_1, ln_25, is_26, fd_26_0, fd_26_1, fs_26_1, fd_26_2, fd_26_3, fd_26_4, fd_26_5, fd_26_6, fs_26_6, fd_26_7, fs_26_7, fd_26_8, fs_26_8, ln_27, is_28, fd_28_0, fd_28_1, fs_28_1, ln_29, is_30, fd_30_0, fd_30_1, fd_30_2, ln_31, ln_32, is_33, fd_33_0, fd_33_1, fd_33_2, fd_33_3, fd_33_4, fs_33_4, is_34, fd_34_0, fd_34_1, fs_34_1, ln_35, ln_36, is_37, fd_37_0, fd_37_1, fd_37_2, fd_37_3, is_38, fd_38_0, fd_38_1, fd_38_2, fd_38_3, fd_38_4, fd_38_5, fd_38_6, is_39, fd_39_0, fd_39_1, fd_39_2, fs_39_2, fd_39_3, fs_39_3, is_40, fd_40_0, fd_40_1, fs_40_1, ln_41, ln_42, ln_43, ln_44, is_45, fd_45_0, fd_45_1, fd_45_2, ln_46, ln_47, is_48, fd_48_0, fs_48_0, fd_48_1, fd_48_2, fd_48_3, fd_48_4, fd_48_5, fd_48_6, fd_48_7, fd_48_8, fs_48_8, fd_48_9, fs_48_9, fd_48_10, fd_48_11, fs_48_11, fd_48_12, fd_48_13, fs_48_13, fd_48_14, fs_48_14, fd_48_15, fd_48_16, fd_48_17, fd_48_18, fs_48_18, fd_48_19, fs_48_19, fd_48_20, fd_48_21, fs_48_21, fd_48_22, fs_48_22, fd_48_23, fs_48_23, fd_48_24, fd_48_25, fd_48_26, fd_48_27, fd_48_28, fd_48_29, fd_48_30, fs_48_30, fd_48_31, ln_49, ln_50, ln_51, ln_52, ln_53, ln_54, ln_55, ln_56, ln_57, ln_58, ln_59, ln_60, ln_61, ln_62, ln_63, ln_64, ln_65, ln_66, ln_67, ln_68, aN_2, aL_2, sN_2, sL_2, aN_3, aL_3, sN_3, sL_3, aN_4, aL_4, sN_4, sL_4, aN_7, aL_7, sN_7, sL_7, aN_9, aL_9, sN_9, sL_9, aN_11, aL_11, sN_11, sL_11, aN_13, aL_13, sN_13, sL_13, aN_15, aL_15, sN_15, sL_15, aN_17, aL_17, sN_17, sL_17, aN_19, aL_19, sN_19, sL_19, aN_22, aL_22, sN_22, sL_22, aN_25, aL_25, sN_25, sL_25, aN_27, aL_27, sN_27, sL_27, aN_29, aL_29, sN_29, sL_29, aN_31, aL_31, sN_31, sL_31, aN_32, aL_32, sN_32, sL_32, aN_35, aL_35, sN_35, sL_35, aN_36, aL_36, sN_36, sL_36, aN_41, aL_41, sN_41, sL_41, aN_42, aL_42, sN_42, sL_42, aN_46, aL_46, sN_46, sL_46, aN_47, aL_47, sN_47, sL_47, aN_49, aL_49, sN_49, sL_49, aN_50, aL_50, sN_50, sL_50, aN_51, aL_51, sN_51, sL_51, aN_52, aL_52, sN_52, sL_52, aN_53, aL_53, sN_53, sL_53, aN_54, aL_54, sN_54, sL_54, aN_55, aL_55, sN_55, sL_55, aN_56, aL_56, sN_56, sL_56, aN_57, aL_57, sN_57, sL_57, aN_58, aL_58, sN_58, sL_58, aN_59, aL_59, sN_59, sL_59, aN_60, aL_60, sN_60, sL_60, aN_61, aL_61, sN_61, sL_61, aN_66, aL_66, sN_66, sL_66, aN_67, aL_67, sN_67, sL_67, aN_68, aL_68, sN_68, sL_68, aN_23, sN_23, aN_43, sN_43, aN_44, sN_44, aN_62, sN_62, aN_63, sN_63, aN_64, sN_64, aN_65, sN_65, aN_1001, aN_1002, aq_5_0, aq_5_1, aq_5_2, aq_5_3, aq_5_4, aq_5_5, q_add, q_addl, q_ladd, q_sub, q_subl, q_lsub, q_mul, q_mull, q_lmul, q_le, q_lel, q_lle, q_lt, q_ltl, q_llt, q_eq, q_eql, q_leq, q_m1, q_1m, q_cl, q_nb, q_leT, q_leF, q_ltT, q_ltF, q_eqT, q_eqF, q_10, q_01, q_em, q_bT, q_bF, q_uS, q_uN, q_sA, q_sAn, q_sFn, q_sIn, q_sAF, sF_s, sI_s, sI_sI, sF_sF, nar0, nar1, b1_0, b1_1, b1_or, if_true, if_false, not_true_eq_false, not_false_eq_true, ↓reduceIte, Int32.reduceAdd, Int32.reduceSub, Int32.reduceMul, Int32.reduceLT, Int32.reduceLE, eq_self, Nat.reduceAdd, Nat.reduceSub, Nat.reduceMul, true_or, or_true, false_or, or_false, and_true, true_and, and_false, false_and, V_goesOn, hc, rbe, rb, nar1]
        rw [if_neg (fun y => y g2)]
      · rw [if_neg (fun y => g4 y.2)]
        rw [b1_f (show ¬ bgN w.cs w.cb (nxN w.cb p) from fun y => g4 y.2)] at rb
        generalize nxN w.cb p = y at rb rbe g4 ⊢
        simp (disch := omega) only [f36_0, f36_1, f36_4, f36_5, f36_8, f36_11, f36_12, f36_15, f36_16, f36_19, f36_20, f36_23, f36_26, f36_29, f36_30, f36_33, f36_34, f36_37, f36_38, f36_41, f36_42, f36_43, f36_44, f36_47, f36_48, f36_51, f36_54, f36_55, f36_58, f36_59, f36_62, f36_63, f36_66, f36_69, f36_72, f36_73, f36_76, f36_77, f36_80, f36_81, f36_84, f36_85, f36_86, v36, pm_Pv_some, pm_Ph_some, pm_B_some, pm_B_none, is_0, fd_0_0, fd_0_1, fd_0_2, fd_0_3, fd_0_4, fd_0_5, is_1, fd_1_0, fd_1_1, fd_1_2, fd_1_3, fd_1_4, ln_2, ln_3, ln_4, is_6, fd_6_0, fd_6_1, fs_6_1, fd_6_2, fs_6_2, ln_7, is_8, fd_8_0, fd_8_1, fs_8_1, fd_8_2, fs_8_2, ln_9, is_10, fd_10_0, fd_10_1, fs_10_1, fd_10_2, fs_10_2, ln_11, is_12, fd_12_0, fd_12_1, fs_12_1, fd_12_2, fs_12_2, ln_13, is_14, fd_14_0, fd_14_1, fs_14_1, fd_14_2, fs_14_2, ln_15, is_16, fd_16_0, fd_16_1, fs_16_1, fd_16_2, fs_16_2, ln_17, is_18, fd_18_0, fd_18_1, fs_18_1, fd_18_2, fs_18_2, ln_19, is_20, fd_20_0, fd_20_1, is_21, fd_21_0, fd_21_1, fs_21_1, ln_22, ln_23, is_24, fd_24_0, fd_24_1, fs_24_1, ln_25, is_26, fd_26_0, fd_26_1, fs_26_1, fd_26_2, fd_26_3, fd_26_4, fd_26_5, fd_26_6, fs_26_6, fd_26_7, fs_26_7, fd_26_8, fs_26_8, ln_27, is_28, fd_28_0, fd_28_1, fs_28_1, ln_29, is_30, fd_30_0, fd_30_1, fd_30_2, ln_31, ln_32, is_33, fd_33_0, fd_33_1, fd_33_2, fd_33_3, fd_33_4, fs_33_4, is_34, fd_34_0, fd_34_1, fs_34_1, ln_35, ln_36, is_37, fd_37_0, fd_37_1, fd_37_2, fd_37_3, is_38, fd_38_0, fd_38_1, fd_38_2, fd_38_3, fd_38_4, fd_38_5, fd_38_6, is_39, fd_39_0, fd_39_1, fd_39_2, fs_39_2, fd_39_3, fs_39_3, is_40, fd_40_0, fd_40_1, fs_40_1, ln_41, ln_42, ln_43, ln_44, is_45, fd_45_0, fd_45_1, fd_45_2, ln_46, ln_47, is_48, fd_48_0, fs_48_0, fd_48_1, fd_48_2, fd_48_3, fd_48_4, fd_48_5, fd_48_6, fd_48_7, fd_48_8, fs_48_8, fd_48_9, fs_48_9, fd_48_10, fd_48_11, fs_48_11, fd_48_12, fd_48_13, fs_48_13, fd_48_14, fs_48_14, fd_48_15, fd_48_16, fd_48_17, fd_48_18, fs_48_18, fd_48_19, fs_48_19, fd_48_20, fd_48_21, fs_48_21, fd_48_22, fs_48_22, fd_48_23, fs_48_23, fd_48_24, fd_48_25, fd_48_26, fd_48_27, fd_48_28, fd_48_29, fd_48_30, fs_48_30, fd_48_31, ln_49, ln_50, ln_51, ln_52, ln_53, ln_54, ln_55, ln_56, ln_57, ln_58, ln_59, ln_60, ln_61, ln_62, ln_63, ln_64, ln_65, ln_66, ln_67, ln_68, aN_2, aL_2, sN_2, sL_2, aN_3, aL_3, sN_3, sL_3, aN_4, aL_4, sN_4, sL_4, aN_7, aL_7, sN_7, sL_7, aN_9, aL_9, sN_9, sL_9, aN_11, aL_11, sN_11, sL_11, aN_13, aL_13, sN_13, sL_13, aN_15, aL_15, sN_15, sL_15, aN_17, aL_17, sN_17, sL_17, aN_19, aL_19, sN_19, sL_19, aN_22, aL_22, sN_22, sL_22, aN_25, aL_25, sN_25, sL_25, aN_27, aL_27, sN_27, sL_27, aN_29, aL_29, sN_29, sL_29, aN_31, aL_31, sN_31, sL_31, aN_32, aL_32, sN_32, sL_32, aN_35, aL_35, sN_35, sL_35, aN_36, aL_36, sN_36, sL_36, aN_41, aL_41, sN_41, sL_41, aN_42, aL_42, sN_42, sL_42, aN_46, aL_46, sN_46, sL_46, aN_47, aL_47, sN_47, sL_47, aN_49, aL_49, sN_49, sL_49, aN_50, aL_50, sN_50, sL_50, aN_51, aL_51, sN_51, sL_51, aN_52, aL_52, sN_52, sL_52, aN_53, aL_53, sN_53, sL_53, aN_54, aL_54, sN_54, sL_54, aN_55, aL_55, sN_55, sL_55, aN_56, aL_56, sN_56, sL_56, aN_57, aL_57, sN_57, sL_57, aN_58, aL_58, sN_58, sL_58, aN_59, aL_59, sN_59, sL_59, aN_60, aL_60, sN_60, sL_60, aN_61, aL_61, sN_61, sL_61, aN_66, aL_66, sN_66, sL_66, aN_67, aL_67, sN_67, sL_67, aN_68, aL_68, sN_68, sL_68, aN_23, sN_23, aN_43, sN_43, aN_44, sN_44, aN_62, sN_62, aN_63, sN_63, aN_64, sN_64, aN_65, sN_65, aN_1001, aN_1002, aq_5_0, aq_5_1, aq_5_2, aq_5_3, aq_5_4, aq_5_5, q_add, q_addl, q_ladd, q_sub, q_subl, q_lsub, q_mul, q_mull, q_lmul, q_le, q_lel, q_lle, q_lt, q_ltl, q_llt, q_eq, q_eql, q_leq, q_m1, q_1m, q_cl, q_nb, q_leT, q_leF, q_ltT, q_ltF, q_eqT, q_eqF, q_10, q_01, q_em, q_bT, q_bF, q_uS, q_uN, q_sA, q_sAn, q_sFn, q_sIn, q_sAF, sF_s, sI_s, sI_sI, sF_sF, nar0, nar1, b1_0, b1_1, b1_or, if_true, if_false, not_true_eq_false, not_false_eq_true, ↓reduceIte, Int32.reduceAdd, Int32.reduceSub, Int32.reduceMul, Int32.reduceLT, Int32.reduceLE, eq_self, Nat.reduceAdd, Nat.reduceSub, Nat.reduceMul, true_or, or_true, false_or, or_false, and_true, true_and, and_false, false_and, V_goesOn, hc, rbe, rb]
        rw [if_neg (fun y => y g2)]
  by_cases g1 : goN (w.cb p)
  · obtain ⟨hp1, hx, hx2⟩ := go_x hk c1 hwl g1
    have hc1 := fun f => cd_in (hw2 f).c hp1
    have ht : nI p + (nI (w.cb (p + 1))).toInt8.toInt32 = tgI p (xof w p) := by
      unfold tgI
      rw [hx, tgt8 _ (hk.cb _ hp1)]
    obtain ⟨y, hy, e1, e2, e3⟩ := bgI_nI (hg g1)
    have et : tgN w p = y := e2
    rw [e1] at ht
    have rb := V_bgN (pm_ol Ls xs) orc I L g hk.cs (hB2 f) (q := y) (by omega)
    rw [b1_t e3] at rb
    have hc := hc f
    have hc1 := hc1 f
    have hq1 : nI p + 1 = nI (p + 1) := nI_1 p
    have s1 : pm_V (pm_ol Ls xs) orc 36 [.ref 38, .int (nI p)] (mk (sF A 44 f) I L g) = pm_F (pm_ol Ls xs) orc 36 43 [(0, .ref 38), (1, .int (nI p))] [] (mk (sF A 44 (upd f y 1)) I L g) := by
      simp (disch := omega) only [f36_0, f36_1, f36_4, f36_5, f36_8, f36_11, f36_12, f36_15, f36_16, f36_19, f36_20, f36_23, f36_26, f36_29, f36_30, f36_33, f36_34, f36_37, f36_38, f36_41, f36_42, f36_44, f36_47, f36_48, f36_51, f36_54, f36_55, f36_58, f36_59, f36_62, f36_63, f36_66, f36_69, f36_72, f36_73, f36_76, f36_77, f36_80, f36_81, f36_84, f36_85, f36_86, v36, pm_Pv_some, pm_Ph_some, pm_B_some, pm_B_none, is_0, fd_0_0, fd_0_1, fd_0_2, fd_0_3, fd_0_4, fd_0_5, is_1, fd_1_0, fd_1_1, fd_1_2, fd_1_3, fd_1_4, ln_2, ln_3, ln_4, is_6, fd_6_0, fd_6_1, fs_6_1, fd_6_2, fs_6_2, ln_7, is_8, fd_8_0, fd_8_1, fs_8_1, fd_8_2, fs_8_2, ln_9, is_10, fd_10_0, fd_10_1, fs_10_1, fd_10_2, fs_10_2, ln_11, is_12, fd_12_0, fd_12_1, fs_12_1, fd_12_2, fs_12_2, ln_13, is_14, fd_14_0, fd_14_1, fs_14_1, fd_14_2, fs_14_2, ln_15, is_16, fd_16_0, fd_16_1, fs_16_1, fd_16_2, fs_16_2, ln_17, is_18, fd_18_0, fd_18_1, fs_18_1, fd_18_2, fs_18_2, ln_19, is_20, fd_20_0, fd_20_1, is_21, fd_21_0, fd_21_1, fs_21_1, ln_22, ln_23, is_24, fd_24_0, fd_24_1, fs_24_1, ln_25, is_26, fd_26_0, fd_26_1, fs_26_1, fd_26_2, fd_26_3, fd_26_4, fd_26_5, fd_26_6, fs_26_6, fd_26_7, fs_26_7, fd_26_8, fs_26_8, ln_27, is_28, fd_28_0, fd_28_1, fs_28_1, ln_29, is_30, fd_30_0, fd_30_1, fd_30_2, ln_31, ln_32, is_33, fd_33_0, fd_33_1, fd_33_2, fd_33_3, fd_33_4, fs_33_4, is_34, fd_34_0, fd_34_1, fs_34_1, ln_35, ln_36, is_37, fd_37_0, fd_37_1, fd_37_2, fd_37_3, is_38, fd_38_0, fd_38_1, fd_38_2, fd_38_3, fd_38_4, fd_38_5, fd_38_6, is_39, fd_39_0, fd_39_1, fd_39_2, fs_39_2, fd_39_3, fs_39_3, is_40, fd_40_0, fd_40_1, fs_40_1, ln_41, ln_42, ln_43, ln_44, is_45, fd_45_0, fd_45_1, fd_45_2, ln_46, ln_47, is_48, fd_48_0, fs_48_0, fd_48_1, fd_48_2, fd_48_3, fd_48_4, fd_48_5, fd_48_6, fd_48_7, fd_48_8, fs_48_8, fd_48_9, fs_48_9, fd_48_10, fd_48_11, fs_48_11, fd_48_12, fd_48_13, fs_48_13, fd_48_14, fs_48_14, fd_48_15, fd_48_16, fd_48_17, fd_48_18, fs_48_18, fd_48_19, fs_48_19, fd_48_20, fd_48_21, fs_48_21, fd_48_22, fs_48_22, fd_48_23, fs_48_23, fd_48_24, fd_48_25, fd_48_26, fd_48_27, fd_48_28, fd_48_29, fd_48_30, fs_48_30, fd_48_31, ln_49, ln_50, ln_51, ln_52, ln_53, ln_54, ln_55, ln_56, ln_57, ln_58, ln_59, ln_60, ln_61, ln_62, ln_63, ln_64, ln_65, ln_66, ln_67, ln_68, aN_2, aL_2, sN_2, sL_2, aN_3, aL_3, sN_3, sL_3, aN_4, aL_4, sN_4, sL_4, aN_7, aL_7, sN_7, sL_7, aN_9, aL_9, sN_9, sL_9, aN_11, aL_11, sN_11, sL_11, aN_13, aL_13, sN_13, sL_13, aN_15, aL_15, sN_15, sL_15, aN_17, aL_17, sN_17, sL_17, aN_19, aL_19, sN_19, sL_19, aN_22, aL_22, sN_22, sL_22, aN_25, aL_25, sN_25, sL_25, aN_27, aL_27, sN_27, sL_27, aN_29, aL_29, sN_29, sL_29, aN_31, aL_31, sN_31, sL_31, aN_32, aL_32, sN_32, sL_32, aN_35, aL_35, sN_35, sL_35, aN_36, aL_36, sN_36, sL_36, aN_41, aL_41, sN_41, sL_41, aN_42, aL_42, sN_42, sL_42, aN_46, aL_46, sN_46, sL_46, aN_47, aL_47, sN_47, sL_47, aN_49, aL_49, sN_49, sL_49, aN_50, aL_50, sN_50, sL_50, aN_51, aL_51, sN_51, sL_51, aN_52, aL_52, sN_52, sL_52, aN_53, aL_53, sN_53, sL_53, aN_54, aL_54, sN_54, sL_54, aN_55, aL_55, sN_55, sL_55, aN_56, aL_56, sN_56, sL_56, aN_57, aL_57, sN_57, sL_57, aN_58, aL_58, sN_58, sL_58, aN_59, aL_59, sN_59, sL_59, aN_60, aL_60, sN_60, sL_60, aN_61, aL_61, sN_61, sL_61, aN_66, aL_66, sN_66, sL_66, aN_67, aL_67, sN_67, sL_67, aN_68, aL_68, sN_68, sL_68, aN_23, sN_23, aN_43, sN_43, aN_44, sN_44, aN_62, sN_62, aN_63, sN_63, aN_64, sN_64, aN_65, sN_65, aN_1001, aN_1002, aq_5_0, aq_5_1, aq_5_2, aq_5_3, aq_5_4, aq_5_5, q_add, q_addl, q_ladd, q_sub, q_subl, q_lsub, q_mul, q_mull, q_lmul, q_le, q_lel, q_lle, q_lt, q_ltl, q_llt, q_eq, q_eql, q_leq, q_m1, q_1m, q_cl, q_nb, q_leT, q_leF, q_ltT, q_ltF, q_eqT, q_eqF, q_10, q_01, q_em, q_bT, q_bF, q_uS, q_uN, q_sA, q_sAn, q_sFn, q_sIn, q_sAF, sF_s, sI_s, sI_sI, sF_sF, nar0, nar1, b1_0, b1_1, b1_or, if_true, if_false, not_true_eq_false, not_false_eq_true, ↓reduceIte, Int32.reduceAdd, Int32.reduceSub, Int32.reduceMul, Int32.reduceLT, Int32.reduceLE, eq_self, Nat.reduceAdd, Nat.reduceSub, Nat.reduceMul, true_or, or_true, false_or, or_false, and_true, true_and, and_false, false_and, V_goes, V_target, hc, hc1, ht, rb, nar1]
      try simp only [if_neg (not_not_intro g1), if_pos g1]
    rw [s1, part2, if_pos g1, et]
  · have hc := hc f
    have s1 : pm_V (pm_ol Ls xs) orc 36 [.ref 38, .int (nI p)] (mk (sF A 44 f) I L g) = pm_F (pm_ol Ls xs) orc 36 43 [(0, .ref 38), (1, .int (nI p))] [] (mk (sF A 44 f) I L g) := by
      simp (disch := omega) only [f36_0, f36_1, f36_4, f36_5, f36_8, f36_11, f36_12, f36_15, f36_16, f36_19, f36_20, f36_23, f36_26, f36_29, f36_30, f36_33, f36_34, f36_37, f36_38, f36_41, f36_42, f36_44, f36_47, f36_48, f36_51, f36_54, f36_55, f36_58, f36_59, f36_62, f36_63, f36_66, f36_69, f36_72, f36_73, f36_76, f36_77, f36_80, f36_81, f36_84, f36_85, f36_86, v36, pm_Pv_some, pm_Ph_some, pm_B_some, pm_B_none, is_0, fd_0_0, fd_0_1, fd_0_2, fd_0_3, fd_0_4, fd_0_5, is_1, fd_1_0, fd_1_1, fd_1_2, fd_1_3, fd_1_4, ln_2, ln_3, ln_4, is_6, fd_6_0, fd_6_1, fs_6_1, fd_6_2, fs_6_2, ln_7, is_8, fd_8_0, fd_8_1, fs_8_1, fd_8_2, fs_8_2, ln_9, is_10, fd_10_0, fd_10_1, fs_10_1, fd_10_2, fs_10_2, ln_11, is_12, fd_12_0, fd_12_1, fs_12_1, fd_12_2, fs_12_2, ln_13, is_14, fd_14_0, fd_14_1, fs_14_1, fd_14_2, fs_14_2, ln_15, is_16, fd_16_0, fd_16_1, fs_16_1, fd_16_2, fs_16_2, ln_17, is_18, fd_18_0, fd_18_1, fs_18_1, fd_18_2, fs_18_2, ln_19, is_20, fd_20_0, fd_20_1, is_21, fd_21_0, fd_21_1, fs_21_1, ln_22, ln_23, is_24, fd_24_0, fd_24_1, fs_24_1, ln_25, is_26, fd_26_0, fd_26_1, fs_26_1, fd_26_2, fd_26_3, fd_26_4, fd_26_5, fd_26_6, fs_26_6, fd_26_7, fs_26_7, fd_26_8, fs_26_8, ln_27, is_28, fd_28_0, fd_28_1, fs_28_1, ln_29, is_30, fd_30_0, fd_30_1, fd_30_2, ln_31, ln_32, is_33, fd_33_0, fd_33_1, fd_33_2, fd_33_3, fd_33_4, fs_33_4, is_34, fd_34_0, fd_34_1, fs_34_1, ln_35, ln_36, is_37, fd_37_0, fd_37_1, fd_37_2, fd_37_3, is_38, fd_38_0, fd_38_1, fd_38_2, fd_38_3, fd_38_4, fd_38_5, fd_38_6, is_39, fd_39_0, fd_39_1, fd_39_2, fs_39_2, fd_39_3, fs_39_3, is_40, fd_40_0, fd_40_1, fs_40_1, ln_41, ln_42, ln_43, ln_44, is_45, fd_45_0, fd_45_1, fd_45_2, ln_46, ln_47, is_48, fd_48_0, fs_48_0, fd_48_1, fd_48_2, fd_48_3, fd_48_4, fd_48_5, fd_48_6, fd_48_7, fd_48_8, fs_48_8, fd_48_9, fs_48_9, fd_48_10, fd_48_11, fs_48_11, fd_48_12, fd_48_13, fs_48_13, fd_48_14, fs_48_14, fd_48_15, fd_48_16, fd_48_17, fd_48_18, fs_48_18, fd_48_19, fs_48_19, fd_48_20, fd_48_21, fs_48_21, fd_48_22, fs_48_22, fd_48_23, fs_48_23, fd_48_24, fd_48_25, fd_48_26, fd_48_27, fd_48_28, fd_48_29, fd_48_30, fs_48_30, fd_48_31, ln_49, ln_50, ln_51, ln_52, ln_53, ln_54, ln_55, ln_56, ln_57, ln_58, ln_59, ln_60, ln_61, ln_62, ln_63, ln_64, ln_65, ln_66, ln_67, ln_68, aN_2, aL_2, sN_2, sL_2, aN_3, aL_3, sN_3, sL_3, aN_4, aL_4, sN_4, sL_4, aN_7, aL_7, sN_7, sL_7, aN_9, aL_9, sN_9, sL_9, aN_11, aL_11, sN_11, sL_11, aN_13, aL_13, sN_13, sL_13, aN_15, aL_15, sN_15, sL_15, aN_17, aL_17, sN_17, sL_17, aN_19, aL_19, sN_19, sL_19, aN_22, aL_22, sN_22, sL_22, aN_25, aL_25, sN_25, sL_25, aN_27, aL_27, sN_27, sL_27, aN_29, aL_29, sN_29, sL_29, aN_31, aL_31, sN_31, sL_31, aN_32, aL_32, sN_32, sL_32, aN_35, aL_35, sN_35, sL_35, aN_36, aL_36, sN_36, sL_36, aN_41, aL_41, sN_41, sL_41, aN_42, aL_42, sN_42, sL_42, aN_46, aL_46, sN_46, sL_46, aN_47, aL_47, sN_47, sL_47, aN_49, aL_49, sN_49, sL_49, aN_50, aL_50, sN_50, sL_50, aN_51, aL_51, sN_51, sL_51, aN_52, aL_52, sN_52, sL_52, aN_53, aL_53, sN_53, sL_53, aN_54, aL_54, sN_54, sL_54, aN_55, aL_55, sN_55, sL_55, aN_56, aL_56, sN_56, sL_56, aN_57, aL_57, sN_57, sL_57, aN_58, aL_58, sN_58, sL_58, aN_59, aL_59, sN_59, sL_59, aN_60, aL_60, sN_60, sL_60, aN_61, aL_61, sN_61, sL_61, aN_66, aL_66, sN_66, sL_66, aN_67, aL_67, sN_67, sL_67, aN_68, aL_68, sN_68, sL_68, aN_23, sN_23, aN_43, sN_43, aN_44, sN_44, aN_62, sN_62, aN_63, sN_63, aN_64, sN_64, aN_65, sN_65, aN_1001, aN_1002, aq_5_0, aq_5_1, aq_5_2, aq_5_3, aq_5_4, aq_5_5, q_add, q_addl, q_ladd, q_sub, q_subl, q_lsub, q_mul, q_mull, q_lmul, q_le, q_lel, q_lle, q_lt, q_ltl, q_llt, q_eq, q_eql, q_leq, q_m1, q_1m, q_cl, q_nb, q_leT, q_leF, q_ltT, q_ltF, q_eqT, q_eqF, q_10, q_01, q_em, q_bT, q_bF, q_uS, q_uN, q_sA, q_sAn, q_sFn, q_sIn, q_sAF, sF_s, sI_s, sI_sI, sF_sF, nar0, nar1, b1_0, b1_1, b1_or, if_true, if_false, not_true_eq_false, not_false_eq_true, ↓reduceIte, Int32.reduceAdd, Int32.reduceSub, Int32.reduceMul, Int32.reduceLT, Int32.reduceLE, eq_self, Nat.reduceAdd, Nat.reduceSub, Nat.reduceMul, true_or, or_true, false_or, or_false, and_true, true_and, and_false, false_and, V_goes, hc]
      try simp only [if_neg g1, if_pos g1]
    rw [s1, part2, if_neg g1]
end MK2
