/-! what a read frame is; the class reads it and stores it -/
abbrev tyV (t : Int32) : Prop := t = 0 ∨ t = 1 ∨ t = 2 ∨ tObj t ∨ tNew t
theorem tyT_V {ts : Nat} {tb : Nat → Nat} {a : Nat} {q : Int32 × Nat} (h : tyT ts tb a = some q) : tyV q.1 := by
  unfold tyT at h
  rw [Option.bind_eq_some_iff] at h
  obtain ⟨v, -, h⟩ := h
  split at h
  · rename_i c
    obtain rfl := Option.some.inj h
    show tyV (nI v.1)
    have : v.1 = 0 ∨ v.1 = 1 ∨ v.1 = 2 := by omega
    rcases this with e | e | e <;> rw [e]
    · exact Or.inl rfl
    · exact Or.inr (Or.inl rfl)
    · exact Or.inr (Or.inr (Or.inl rfl))
  · split at h
    · rw [Option.bind_eq_some_iff] at h
      obtain ⟨u, -, h⟩ := h
      split at h
      · rename_i c
        obtain rfl := Option.some.inj h
        exact Or.inr (Or.inr (Or.inr (Or.inl (obj_nI c))))
      · cases h
    · split at h
      · rw [Option.bind_eq_some_iff] at h
        obtain ⟨u, -, h⟩ := h
        split at h
        · rename_i c
          obtain rfl := Option.some.inj h
          exact Or.inr (Or.inr (Or.inr (Or.inr ⟨nI_le (a := 64) (by omega) (by omega), nI_lt (b := 112) (by omega) (by decide)⟩)))
        · cases h
      · cases h
theorem tyR_V {ts : Nat} {tb : Nat → Nat} {a : Nat} : ∀ (m : Nat) (q : (Nat → Int32) × Nat), tyR ts tb a m = some q → ∀ j, tyV (q.1 j) := by
  intro m
  induction m with
  | zero =>
    intro q h j
    obtain rfl := Option.some.inj h
    exact Or.inl rfl
  | succ m ih =>
    intro q h j
    unfold tyR at h
    rw [Option.bind_eq_some_iff] at h
    obtain ⟨v, h1, h⟩ := h
    rw [Option.bind_eq_some_iff] at h
    obtain ⟨u, h2, h⟩ := h
    obtain rfl := Option.some.inj h
    show tyV (upd v.1 m u.1 j)
    by_cases e : j = m
    · rw [e, pk_us]
      exact tyT_V h2
    · rw [pk_un e]
      exact ih v h1 j
theorem wrt_V {s r : Nat → Int32} {i m j : Nat} (hs : tyV (s j)) (hr : ∀ j, tyV (r j)) : tyV (wrt s i m r j) := by
  unfold wrt
  split
  · exact hr _
  · exact hs
theorem mid_props {ts : Nat} {tb : Nat → Nat} {b l : Nat} {loc : Nat → Int32} {tg d a : Nat} {f : Fr} (h : midT ts tb b l loc tg d a = some f) (hl : l ≤ 4) (hz : ∀ j, l ≤ j → j < 4 → loc j = 0) (hv : ∀ j, j < 4 → tyV (loc j)) : f.1 = b + d ∧ f.2.1 ≤ 4 ∧ f.2.2.2.1 ≤ 5 ∧ (∀ j, f.2.1 ≤ j → j < 4 → f.2.2.1 j = 0) ∧ (∀ j, j < 4 → tyV (f.2.2.1 j)) ∧ (∀ j, tyV (f.2.2.2.2.1 j)) := by
  unfold midT at h
  split at h
  · obtain rfl := Option.some.inj h
    exact ⟨rfl, hl, Nat.zero_le _, hz, hv, fun _ => Or.inl rfl⟩
  · split at h
    · rw [Option.bind_eq_some_iff] at h
      obtain ⟨v, h1, h⟩ := h
      obtain rfl := Option.some.inj h
      exact ⟨rfl, hl, by show 1 ≤ 5; decide, hz, hv, tyR_V _ _ h1⟩
    · split at h
      · split at h
        · cases h
        · obtain rfl := Option.some.inj h
          refine ⟨rfl, by show l - _ ≤ 4; omega, Nat.zero_le _, ?_, ?_, fun _ => Or.inl rfl⟩
          · intro j h1 h2
            exact if_neg (Nat.not_lt.mpr h1)
          · intro j hj
            show tyV (cut loc _ j)
            unfold cut
            split
            · exact hv j hj
            · exact Or.inl rfl
      · split at h
        · split at h
          · cases h
          · rename_i c
            rw [Option.bind_eq_some_iff] at h
            obtain ⟨v, h1, h⟩ := h
            obtain rfl := Option.some.inj h
            refine ⟨rfl, Nat.not_lt.mp c, Nat.zero_le _, ?_, ?_, fun _ => Or.inl rfl⟩
            · intro j h1 h2
              have h1 : l + (tg - 251) ≤ j := h1
              show wrt loc l (tg - 251) v.1 j = 0
              unfold wrt
              rw [if_neg (by omega)]
              exact hz j (by omega) h2
            · intro j hj
              exact wrt_V (hv j hj) (tyR_V _ _ h1)
        · rw [Option.bind_eq_some_iff] at h
          obtain ⟨m, -, h⟩ := h
          split at h
          · cases h
          · rename_i c
            rw [Option.bind_eq_some_iff] at h
            obtain ⟨r, h1, h⟩ := h
            rw [Option.bind_eq_some_iff] at h
            obtain ⟨hh, -, h⟩ := h
            split at h
            · cases h
            · rename_i c2
              rw [Option.bind_eq_some_iff] at h
              obtain ⟨q, h2, h⟩ := h
              obtain rfl := Option.some.inj h
              refine ⟨rfl, Nat.not_lt.mp c, Nat.not_lt.mp c2, ?_, ?_, tyR_V _ _ h2⟩
              · intro j h3 h4
                have h3 : m.1 ≤ j := h3
                show wrt (fun _ => 0) 0 m.1 r.1 j = 0
                unfold wrt
                rw [if_neg (by omega)]
              · intro j hj
                exact wrt_V (s := fun _ => 0) (Or.inl rfl) (tyR_V _ _ h1)
theorem fr_props {ts : Nat} {tb : Nat → Nat} {b l : Nat} {loc : Nat → Int32} {a : Nat} {f : Fr} (h : frT ts tb b l loc a = some f) (hl : l ≤ 4) (hz : ∀ j, l ≤ j → j < 4 → loc j = 0) (hv : ∀ j, j < 4 → tyV (loc j)) : b ≤ f.1 ∧ f.1 < 48 ∧ f.2.1 ≤ 4 ∧ f.2.2.2.1 ≤ 5 ∧ (∀ j, f.2.1 ≤ j → j < 4 → f.2.2.1 j = 0) ∧ (∀ j, j < 4 → tyV (f.2.2.1 j)) ∧ (∀ j, tyV (f.2.2.2.2.1 j)) := by
  rw [frT_eq, Option.bind_eq_some_iff] at h
  obtain ⟨tg, -, h⟩ := h
  split at h
  · cases h
  · rw [Option.bind_eq_some_iff] at h
    obtain ⟨d, -, h⟩ := h
    rw [Option.bind_eq_some_iff] at h
    obtain ⟨f2, h1, h⟩ := h
    split at h
    · cases h
    · rename_i c
      obtain rfl := Option.some.inj h
      obtain ⟨e1, e2⟩ := mid_props h1 hl hz hv
      exact ⟨by omega, by omega, e2⟩
section RFD
variable (ol : pm_O) (orc : pm_Q) (L : Nat → Int64) (g : pm_H) {ts : Nat} {tb : Nat → Nat}
theorem V_readFrame {A I : Nat → Nat → Int32} (hT : hTab ts tb A I) (Pl s T H : Nat → Int32) (h m bx : Int32) {b a l c : Nat} (loc : Nat → Int32) (hbx : bx + 1 = nI b) (ha : a ≤ ts) (hm : m = 0 ∨ m = 1) (hl : l ≤ 4) (hb : b ≤ 48) (hc : c ≤ b) (hs : ∀ j, j < 4 → s j = loc j) (hz : ∀ j, l ≤ j → j < 4 → loc j = 0) : ∃ v Pl' s' T' H' h' c' l' a' m', ∃ f : Fr, pm_V ol orc 72 [.ref 26, .int bx] (mk (rdA A Pl s T H) (rdI I h (nI c) (nI l) (nI a) m) L g) = some (some (.int v), mk (rdA A Pl' s' T' H') (rdI I h' (nI c') (nI l') (nI a') m') L g) ∧ a' ≤ ts ∧ l' ≤ 4 ∧ post m m' (frT ts tb b l loc a) f ∧ (m' = 0 → v = nI f.1 ∧ f.1 < 48 ∧ f.2.1 = l' ∧ f.2.2.2.2.2 = a' ∧ c' = c + 1 ∧ Pl' = upd Pl c (nI f.1) ∧ H' = upd H f.1 (nI f.2.2.2.1) ∧ T' = stT T f.1 s' ∧ (∀ j, j < 4 → s' j = f.2.2.1 j) ∧ (∀ k, k < f.2.2.2.1 → s' (4 + k) = f.2.2.2.2.1 k)) := by
  obtain ⟨v, a1, m1, r1, hv, ha1, p1⟩ := V_next ol orc L g hT Pl s T H h (nI c) (nI l) m ha hm
  have hm1 := post_m p1
  have e255 : ∀ x : Int32, bx + 1 + x = nI b + x := fun x => by rw [hbx]
  by_cases c1 : 127 < v ∧ v < 247
  · refine ⟨bx, Pl, s, T, H, h, c, l, a1, 1, (0, 0, loc, 0, loc, 0), ?_, ha1, hl, ?_, fun z => absurd z (by decide)⟩
    · simp (disch := omega) only [f72_0, f72_1, f72_4, f72_5, f72_6, f72_9, f72_12, f72_13, f72_16, f72_19, f72_20, f72_21, f72_24, f72_25, f72_26, f72_27, f72_30, f72_33, f72_34, f72_36, f72_37, f72_40, f72_41, f72_44, f72_45, f72_46, f72_47, f72_48, f72_49, f72_50, f72_52, f72_53, f72_56, f72_57, f72_60, f72_61, f72_63, f72_66, f72_67, f72_70, f72_73, f72_74, f72_75, f72_78, f72_81, f72_82, f72_85, f72_88, f72_89, f72_90, f72_93, f72_94, f72_95, f72_98, f72_101, f72_102, f72_103, f72_106, f72_109, f72_112, f72_113, f72_116, f72_119, f72_120, f72_121, f72_124, f72_125, f72_128, f72_131, f72_132, f72_135, f72_138, f72_139, f72_140, f72_143, f72_146, f72_147, f72_148, f72_149, f72_152, f72_154, f72_156, f72_159, f72_160, f72_163, f72_166, f72_167, f72_168, f72_171, f72_172, f72_173, f72_174, f72_177, f72_179, f72_180, f72_183, f72_186, f72_187, f72_190, f72_191, f72_194, f72_196, f72_197, f72_198, f72_199, f72_202, f72_203, f72_204, f72_207, f72_209, v72, pm_Pv_some, pm_Ph_some, pm_B_some, pm_B_none, is_0, fd_0_0, fd_0_1, fd_0_2, fd_0_3, fd_0_4, fd_0_5, is_1, fd_1_0, fd_1_1, fd_1_2, fd_1_3, fd_1_4, ln_2, ln_3, ln_4, is_6, fd_6_0, fd_6_1, fs_6_1, fd_6_2, fs_6_2, ln_7, is_8, fd_8_0, fd_8_1, fs_8_1, fd_8_2, fs_8_2, ln_9, is_10, fd_10_0, fd_10_1, fs_10_1, fd_10_2, fs_10_2, ln_11, is_12, fd_12_0, fd_12_1, fs_12_1, fd_12_2, fs_12_2, ln_13, is_14, fd_14_0, fd_14_1, fs_14_1, fd_14_2, fs_14_2, ln_15, is_16, fd_16_0, fd_16_1, fs_16_1, fd_16_2, fs_16_2, ln_17, is_18, fd_18_0, fd_18_1, fs_18_1, fd_18_2, fs_18_2, ln_19, is_20, fd_20_0, fd_20_1, is_21, fd_21_0, fd_21_1, fs_21_1, ln_22, ln_23, is_24, fd_24_0, fd_24_1, fs_24_1, ln_25, is_26, fd_26_0, fd_26_1, fs_26_1, fd_26_2, fd_26_3, fd_26_4, fd_26_5, fd_26_6, fs_26_6, fd_26_7, fs_26_7, fd_26_8, fs_26_8, ln_27, is_28, fd_28_0, fd_28_1, fs_28_1, ln_29, is_30, fd_30_0, fd_30_1, fd_30_2, ln_31, ln_32, is_33, fd_33_0, fd_33_1, fd_33_2, fd_33_3, fd_33_4, fs_33_4, is_34, fd_34_0, fd_34_1, fs_34_1, ln_35, ln_36, is_37, fd_37_0, fd_37_1, fd_37_2, fd_37_3, is_38, fd_38_0, fd_38_1, fd_38_2, fd_38_3, fd_38_4, fd_38_5, fd_38_6, is_39, fd_39_0, fd_39_1, fd_39_2, fs_39_2, fd_39_3, fs_39_3, is_40, fd_40_0, fd_40_1, fs_40_1, ln_41, ln_42, ln_43, ln_44, is_45, fd_45_0, fd_45_1, fd_45_2, ln_46, ln_47, is_48, fd_48_0, fs_48_0, fd_48_1, fd_48_2, fd_48_3, fd_48_4, fd_48_5, fd_48_6, fd_48_7, fd_48_8, fs_48_8, fd_48_9, fs_48_9, fd_48_10, fd_48_11, fs_48_11, fd_48_12, fd_48_13, fs_48_13, fd_48_14, fs_48_14, fd_48_15, fd_48_16, fd_48_17, fd_48_18, fs_48_18, fd_48_19, fs_48_19, fd_48_20, fd_48_21, fs_48_21, fd_48_22, fs_48_22, fd_48_23, fs_48_23, fd_48_24, fd_48_25, fd_48_26, fd_48_27, fd_48_28, fd_48_29, fd_48_30, fs_48_30, fd_48_31, ln_49, ln_50, ln_51, ln_52, ln_53, ln_54, ln_55, ln_56, ln_57, ln_58, ln_59, ln_60, ln_61, ln_62, ln_63, ln_64, ln_65, ln_66, ln_67, ln_68, aN_2, aL_2, sN_2, sL_2, aN_3, aL_3, sN_3, sL_3, aN_4, aL_4, sN_4, sL_4, aN_7, aL_7, sN_7, sL_7, aN_9, aL_9, sN_9, sL_9, aN_11, aL_11, sN_11, sL_11, aN_13, aL_13, sN_13, sL_13, aN_15, aL_15, sN_15, sL_15, aN_17, aL_17, sN_17, sL_17, aN_19, aL_19, sN_19, sL_19, aN_22, aL_22, sN_22, sL_22, aN_25, aL_25, sN_25, sL_25, aN_27, aL_27, sN_27, sL_27, aN_29, aL_29, sN_29, sL_29, aN_31, aL_31, sN_31, sL_31, aN_32, aL_32, sN_32, sL_32, aN_35, aL_35, sN_35, sL_35, aN_36, aL_36, sN_36, sL_36, aN_41, aL_41, sN_41, sL_41, aN_42, aL_42, sN_42, sL_42, aN_46, aL_46, sN_46, sL_46, aN_47, aL_47, sN_47, sL_47, aN_49, aL_49, sN_49, sL_49, aN_50, aL_50, sN_50, sL_50, aN_51, aL_51, sN_51, sL_51, aN_52, aL_52, sN_52, sL_52, aN_53, aL_53, sN_53, sL_53, aN_54, aL_54, sN_54, sL_54, aN_55, aL_55, sN_55, sL_55, aN_56, aL_56, sN_56, sL_56, aN_57, aL_57, sN_57, sL_57, aN_58, aL_58, sN_58, sL_58, aN_59, aL_59, sN_59, sL_59, aN_60, aL_60, sN_60, sL_60, aN_61, aL_61, sN_61, sL_61, aN_66, aL_66, sN_66, sL_66, aN_67, aL_67, sN_67, sL_67, aN_68, aL_68, sN_68, sL_68, aN_23, sN_23, aN_43, sN_43, aN_44, sN_44, aN_62, sN_62, aN_63, sN_63, aN_64, sN_64, aN_65, sN_65, aN_1001, aN_1002, aq_5_0, aq_5_1, aq_5_2, aq_5_3, aq_5_4, aq_5_5, q_add, q_addl, q_ladd, q_sub, q_subl, q_lsub, q_mul, q_mull, q_lmul, q_le, q_lel, q_lle, q_lt, q_ltl, q_llt, q_eq, q_eql, q_leq, q_m1, q_1m, q_cl, q_nb, q_leT, q_leF, q_ltT, q_ltF, q_eqT, q_eqF, q_10, q_01, q_em, q_bT, q_bF, q_uS, q_uN, q_sA, q_sAn, q_sFn, q_sIn, q_sAF, sF_s, sI_s, sI_sI, sF_sF, nar0, nar1, b1_0, b1_1, b1_or, if_true, if_false, not_true_eq_false, not_false_eq_true, ↓reduceIte, Int32.reduceAdd, Int32.reduceSub, Int32.reduceMul, Int32.reduceLT, Int32.reduceLE, eq_self, Nat.reduceAdd, Nat.reduceSub, Nat.reduceMul, true_or, or_true, false_or, or_false, and_true, true_and, and_false, false_and, rdr_h, rdr_c, rdr_l, rdr_a, rdr_m, rdr_o, rdw_h, rdw_c, rdw_l, rdw_a, rdw_m, rda_P, rda_s, rda_T, rda_H, rda_o, rdu_P, rdu_s, rdu_T, rdu_H, rdf_s, rdf_T, rdf_H, r1]
    · rw [frT_eq]
      refine post_bind p1 ?_
      show post m1 1 (if 127 < v ∧ v < 247 then none else _) _
      rw [if_pos c1]
      exact post_bad _ _
  · have hd : ∃ d a2 m2, pm_V ol orc 72 [.ref 26, .int bx] (mk (rdA A Pl s T H) (rdI I h (nI c) (nI l) (nI a) m) L g) = pm_F ol orc 72 60 [(0, .ref 26), (1, .int bx), (2, .int (nI v)), (4, .int (nI (b + d)))] [] (mk (rdA A Pl s T H) (rdI I 0 (nI c) (nI l) (nI a2) m2) L g) ∧ d < 256 ∧ a2 ≤ ts ∧ post m1 m2 (if v < 128 then some (v % 64, a1) else nxT ts tb a1) (d, a2) := by
      by_cases c2 : v < 128
      · refine ⟨v % 64, a1, m1, ?_, by omega, ha1, ?_⟩
        · have := rem64 v c2
          have n64 : ((64 : Int32) = 0) = False := by decide
          simp (disch := omega) only [f72_0, f72_1, f72_4, f72_5, f72_6, f72_9, f72_12, f72_13, f72_16, f72_19, f72_20, f72_21, f72_24, f72_25, f72_26, f72_27, f72_30, f72_33, f72_34, f72_36, f72_37, f72_40, f72_41, f72_44, f72_45, f72_46, f72_47, f72_48, f72_49, f72_50, f72_52, f72_53, f72_56, f72_57, f72_61, f72_63, f72_66, f72_67, f72_70, f72_73, f72_74, f72_75, f72_78, f72_81, f72_82, f72_85, f72_88, f72_89, f72_90, f72_93, f72_94, f72_95, f72_98, f72_101, f72_102, f72_103, f72_106, f72_109, f72_112, f72_113, f72_116, f72_119, f72_120, f72_121, f72_124, f72_125, f72_128, f72_131, f72_132, f72_135, f72_138, f72_139, f72_140, f72_143, f72_146, f72_147, f72_148, f72_149, f72_152, f72_154, f72_156, f72_159, f72_160, f72_163, f72_166, f72_167, f72_168, f72_171, f72_172, f72_173, f72_174, f72_177, f72_179, f72_180, f72_183, f72_186, f72_187, f72_190, f72_191, f72_194, f72_196, f72_197, f72_198, f72_199, f72_202, f72_203, f72_204, f72_207, f72_209, v72, pm_Pv_some, pm_Ph_some, pm_B_some, pm_B_none, is_0, fd_0_0, fd_0_1, fd_0_2, fd_0_3, fd_0_4, fd_0_5, is_1, fd_1_0, fd_1_1, fd_1_2, fd_1_3, fd_1_4, ln_2, ln_3, ln_4, is_6, fd_6_0, fd_6_1, fs_6_1, fd_6_2, fs_6_2, ln_7, is_8, fd_8_0, fd_8_1, fs_8_1, fd_8_2, fs_8_2, ln_9, is_10, fd_10_0, fd_10_1, fs_10_1, fd_10_2, fs_10_2, ln_11, is_12, fd_12_0, fd_12_1, fs_12_1, fd_12_2, fs_12_2, ln_13, is_14, fd_14_0, fd_14_1, fs_14_1, fd_14_2, fs_14_2, ln_15, is_16, fd_16_0, fd_16_1, fs_16_1, fd_16_2, fs_16_2, ln_17, is_18, fd_18_0, fd_18_1, fs_18_1, fd_18_2, fs_18_2, ln_19, is_20, fd_20_0, fd_20_1, is_21, fd_21_0, fd_21_1, fs_21_1, ln_22, ln_23, is_24, fd_24_0, fd_24_1, fs_24_1, ln_25, is_26, fd_26_0, fd_26_1, fs_26_1, fd_26_2, fd_26_3, fd_26_4, fd_26_5, fd_26_6, fs_26_6, fd_26_7, fs_26_7, fd_26_8, fs_26_8, ln_27, is_28, fd_28_0, fd_28_1, fs_28_1, ln_29, is_30, fd_30_0, fd_30_1, fd_30_2, ln_31, ln_32, is_33, fd_33_0, fd_33_1, fd_33_2, fd_33_3, fd_33_4, fs_33_4, is_34, fd_34_0, fd_34_1, fs_34_1, ln_35, ln_36, is_37, fd_37_0, fd_37_1, fd_37_2, fd_37_3, is_38, fd_38_0, fd_38_1, fd_38_2, fd_38_3, fd_38_4, fd_38_5, fd_38_6, is_39, fd_39_0, fd_39_1, fd_39_2, fs_39_2, fd_39_3, fs_39_3, is_40, fd_40_0, fd_40_1, fs_40_1, ln_41, ln_42, ln_43, ln_44, is_45, fd_45_0, fd_45_1, fd_45_2, ln_46, ln_47, is_48, fd_48_0, fs_48_0, fd_48_1, fd_48_2, fd_48_3, fd_48_4, fd_48_5, fd_48_6, fd_48_7, fd_48_8, fs_48_8, fd_48_9, fs_48_9, fd_48_10, fd_48_11, fs_48_11, fd_48_12, fd_48_13, fs_48_13, fd_48_14, fs_48_14, fd_48_15, fd_48_16, fd_48_17, fd_48_18, fs_48_18, fd_48_19, fs_48_19, fd_48_20, fd_48_21, fs_48_21, fd_48_22, fs_48_22, fd_48_23, fs_48_23, fd_48_24, fd_48_25, fd_48_26, fd_48_27, fd_48_28, fd_48_29, fd_48_30, fs_48_30, fd_48_31, ln_49, ln_50, ln_51, ln_52, ln_53, ln_54, ln_55, ln_56, ln_57, ln_58, ln_59, ln_60, ln_61, ln_62, ln_63, ln_64, ln_65, ln_66, ln_67, ln_68, aN_2, aL_2, sN_2, sL_2, aN_3, aL_3, sN_3, sL_3, aN_4, aL_4, sN_4, sL_4, aN_7, aL_7, sN_7, sL_7, aN_9, aL_9, sN_9, sL_9, aN_11, aL_11, sN_11, sL_11, aN_13, aL_13, sN_13, sL_13, aN_15, aL_15, sN_15, sL_15, aN_17, aL_17, sN_17, sL_17, aN_19, aL_19, sN_19, sL_19, aN_22, aL_22, sN_22, sL_22, aN_25, aL_25, sN_25, sL_25, aN_27, aL_27, sN_27, sL_27, aN_29, aL_29, sN_29, sL_29, aN_31, aL_31, sN_31, sL_31, aN_32, aL_32, sN_32, sL_32, aN_35, aL_35, sN_35, sL_35, aN_36, aL_36, sN_36, sL_36, aN_41, aL_41, sN_41, sL_41, aN_42, aL_42, sN_42, sL_42, aN_46, aL_46, sN_46, sL_46, aN_47, aL_47, sN_47, sL_47, aN_49, aL_49, sN_49, sL_49, aN_50, aL_50, sN_50, sL_50, aN_51, aL_51, sN_51, sL_51, aN_52, aL_52, sN_52, sL_52, aN_53, aL_53, sN_53, sL_53, aN_54, aL_54, sN_54, sL_54, aN_55, aL_55, sN_55, sL_55, aN_56, aL_56, sN_56, sL_56, aN_57, aL_57, sN_57, sL_57, aN_58, aL_58, sN_58, sL_58, aN_59, aL_59, sN_59, sL_59, aN_60, aL_60, sN_60, sL_60, aN_61, aL_61, sN_61, sL_61, aN_66, aL_66, sN_66, sL_66, aN_67, aL_67, sN_67, sL_67, aN_68, aL_68, sN_68, sL_68, aN_23, sN_23, aN_43, sN_43, aN_44, sN_44, aN_62, sN_62, aN_63, sN_63, aN_64, sN_64, aN_65, sN_65, aN_1001, aN_1002, aq_5_0, aq_5_1, aq_5_2, aq_5_3, aq_5_4, aq_5_5, q_add, q_addl, q_ladd, q_sub, q_subl, q_lsub, q_mul, q_mull, q_lmul, q_le, q_lel, q_lle, q_lt, q_ltl, q_llt, q_eq, q_eql, q_leq, q_m1, q_1m, q_cl, q_nb, q_leT, q_leF, q_ltT, q_ltF, q_eqT, q_eqF, q_10, q_01, q_em, q_bT, q_bF, q_uS, q_uN, q_sA, q_sAn, q_sFn, q_sIn, q_sAF, sF_s, sI_s, sI_sI, sF_sF, nar0, nar1, b1_0, b1_1, b1_or, if_true, if_false, not_true_eq_false, not_false_eq_true, ↓reduceIte, Int32.reduceAdd, Int32.reduceSub, Int32.reduceMul, Int32.reduceLT, Int32.reduceLE, eq_self, Nat.reduceAdd, Nat.reduceSub, Nat.reduceMul, true_or, or_true, false_or, or_false, and_true, true_and, and_false, false_and, rdr_h, rdr_c, rdr_l, rdr_a, rdr_m, rdr_o, rdw_h, rdw_c, rdw_l, rdw_a, rdw_m, rda_P, rda_s, rda_T, rda_H, rda_o, rdu_P, rdu_s, rdu_T, rdu_H, rdf_s, rdf_T, rdf_H, r1, hbx, this, n64]
        · rw [if_pos c2]
          exact post_ret hm1 _
      · obtain ⟨d, a2, m2, r2, hd, ha2, p2⟩ := V_next ol orc L g hT Pl s T H h (nI c) (nI l) m1 ha1 hm1
        refine ⟨d, a2, m2, ?_, hd, ha2, ?_⟩
        · simp (disch := omega) only [f72_0, f72_1, f72_4, f72_5, f72_6, f72_9, f72_12, f72_13, f72_16, f72_19, f72_20, f72_21, f72_24, f72_25, f72_26, f72_27, f72_30, f72_33, f72_34, f72_36, f72_37, f72_40, f72_41, f72_44, f72_45, f72_46, f72_47, f72_48, f72_49, f72_50, f72_52, f72_53, f72_56, f72_57, f72_61, f72_63, f72_66, f72_67, f72_70, f72_73, f72_74, f72_75, f72_78, f72_81, f72_82, f72_85, f72_88, f72_89, f72_90, f72_93, f72_94, f72_95, f72_98, f72_101, f72_102, f72_103, f72_106, f72_109, f72_112, f72_113, f72_116, f72_119, f72_120, f72_121, f72_124, f72_125, f72_128, f72_131, f72_132, f72_135, f72_138, f72_139, f72_140, f72_143, f72_146, f72_147, f72_148, f72_149, f72_152, f72_154, f72_156, f72_159, f72_160, f72_163, f72_166, f72_167, f72_168, f72_171, f72_172, f72_173, f72_174, f72_177, f72_179, f72_180, f72_183, f72_186, f72_187, f72_190, f72_191, f72_194, f72_196, f72_197, f72_198, f72_199, f72_202, f72_203, f72_204, f72_207, f72_209, v72, pm_Pv_some, pm_Ph_some, pm_B_some, pm_B_none, is_0, fd_0_0, fd_0_1, fd_0_2, fd_0_3, fd_0_4, fd_0_5, is_1, fd_1_0, fd_1_1, fd_1_2, fd_1_3, fd_1_4, ln_2, ln_3, ln_4, is_6, fd_6_0, fd_6_1, fs_6_1, fd_6_2, fs_6_2, ln_7, is_8, fd_8_0, fd_8_1, fs_8_1, fd_8_2, fs_8_2, ln_9, is_10, fd_10_0, fd_10_1, fs_10_1, fd_10_2, fs_10_2, ln_11, is_12, fd_12_0, fd_12_1, fs_12_1, fd_12_2, fs_12_2, ln_13, is_14, fd_14_0, fd_14_1, fs_14_1, fd_14_2, fs_14_2, ln_15, is_16, fd_16_0, fd_16_1, fs_16_1, fd_16_2, fs_16_2, ln_17, is_18, fd_18_0, fd_18_1, fs_18_1, fd_18_2, fs_18_2, ln_19, is_20, fd_20_0, fd_20_1, is_21, fd_21_0, fd_21_1, fs_21_1, ln_22, ln_23, is_24, fd_24_0, fd_24_1, fs_24_1, ln_25, is_26, fd_26_0, fd_26_1, fs_26_1, fd_26_2, fd_26_3, fd_26_4, fd_26_5, fd_26_6, fs_26_6, fd_26_7, fs_26_7, fd_26_8, fs_26_8, ln_27, is_28, fd_28_0, fd_28_1, fs_28_1, ln_29, is_30, fd_30_0, fd_30_1, fd_30_2, ln_31, ln_32, is_33, fd_33_0, fd_33_1, fd_33_2, fd_33_3, fd_33_4, fs_33_4, is_34, fd_34_0, fd_34_1, fs_34_1, ln_35, ln_36, is_37, fd_37_0, fd_37_1, fd_37_2, fd_37_3, is_38, fd_38_0, fd_38_1, fd_38_2, fd_38_3, fd_38_4, fd_38_5, fd_38_6, is_39, fd_39_0, fd_39_1, fd_39_2, fs_39_2, fd_39_3, fs_39_3, is_40, fd_40_0, fd_40_1, fs_40_1, ln_41, ln_42, ln_43, ln_44, is_45, fd_45_0, fd_45_1, fd_45_2, ln_46, ln_47, is_48, fd_48_0, fs_48_0, fd_48_1, fd_48_2, fd_48_3, fd_48_4, fd_48_5, fd_48_6, fd_48_7, fd_48_8, fs_48_8, fd_48_9, fs_48_9, fd_48_10, fd_48_11, fs_48_11, fd_48_12, fd_48_13, fs_48_13, fd_48_14, fs_48_14, fd_48_15, fd_48_16, fd_48_17, fd_48_18, fs_48_18, fd_48_19, fs_48_19, fd_48_20, fd_48_21, fs_48_21, fd_48_22, fs_48_22, fd_48_23, fs_48_23, fd_48_24, fd_48_25, fd_48_26, fd_48_27, fd_48_28, fd_48_29, fd_48_30, fs_48_30, fd_48_31, ln_49, ln_50, ln_51, ln_52, ln_53, ln_54, ln_55, ln_56, ln_57, ln_58, ln_59, ln_60, ln_61, ln_62, ln_63, ln_64, ln_65, ln_66, ln_67, ln_68, aN_2, aL_2, sN_2, sL_2, aN_3, aL_3, sN_3, sL_3, aN_4, aL_4, sN_4, sL_4, aN_7, aL_7, sN_7, sL_7, aN_9, aL_9, sN_9, sL_9, aN_11, aL_11, sN_11, sL_11, aN_13, aL_13, sN_13, sL_13, aN_15, aL_15, sN_15, sL_15, aN_17, aL_17, sN_17, sL_17, aN_19, aL_19, sN_19, sL_19, aN_22, aL_22, sN_22, sL_22, aN_25, aL_25, sN_25, sL_25, aN_27, aL_27, sN_27, sL_27, aN_29, aL_29, sN_29, sL_29, aN_31, aL_31, sN_31, sL_31, aN_32, aL_32, sN_32, sL_32, aN_35, aL_35, sN_35, sL_35, aN_36, aL_36, sN_36, sL_36, aN_41, aL_41, sN_41, sL_41, aN_42, aL_42, sN_42, sL_42, aN_46, aL_46, sN_46, sL_46, aN_47, aL_47, sN_47, sL_47, aN_49, aL_49, sN_49, sL_49, aN_50, aL_50, sN_50, sL_50, aN_51, aL_51, sN_51, sL_51, aN_52, aL_52, sN_52, sL_52, aN_53, aL_53, sN_53, sL_53, aN_54, aL_54, sN_54, sL_54, aN_55, aL_55, sN_55, sL_55, aN_56, aL_56, sN_56, sL_56, aN_57, aL_57, sN_57, sL_57, aN_58, aL_58, sN_58, sL_58, aN_59, aL_59, sN_59, sL_59, aN_60, aL_60, sN_60, sL_60, aN_61, aL_61, sN_61, sL_61, aN_66, aL_66, sN_66, sL_66, aN_67, aL_67, sN_67, sL_67, aN_68, aL_68, sN_68, sL_68, aN_23, sN_23, aN_43, sN_43, aN_44, sN_44, aN_62, sN_62, aN_63, sN_63, aN_64, sN_64, aN_65, sN_65, aN_1001, aN_1002, aq_5_0, aq_5_1, aq_5_2, aq_5_3, aq_5_4, aq_5_5, q_add, q_addl, q_ladd, q_sub, q_subl, q_lsub, q_mul, q_mull, q_lmul, q_le, q_lel, q_lle, q_lt, q_ltl, q_llt, q_eq, q_eql, q_leq, q_m1, q_1m, q_cl, q_nb, q_leT, q_leF, q_ltT, q_ltF, q_eqT, q_eqF, q_10, q_01, q_em, q_bT, q_bF, q_uS, q_uN, q_sA, q_sAn, q_sFn, q_sIn, q_sAF, sF_s, sI_s, sI_sI, sF_sF, nar0, nar1, b1_0, b1_1, b1_or, if_true, if_false, not_true_eq_false, not_false_eq_true, ↓reduceIte, Int32.reduceAdd, Int32.reduceSub, Int32.reduceMul, Int32.reduceLT, Int32.reduceLE, eq_self, Nat.reduceAdd, Nat.reduceSub, Nat.reduceMul, true_or, or_true, false_or, or_false, and_true, true_and, and_false, false_and, rdr_h, rdr_c, rdr_l, rdr_a, rdr_m, rdr_o, rdw_h, rdw_c, rdw_l, rdw_a, rdw_m, rda_P, rda_s, rda_T, rda_H, rda_o, rdu_P, rdu_s, rdu_T, rdu_H, rdf_s, rdf_T, rdf_H, r1, r2, hbx]
        · rw [if_neg c2]
          exact p2
    obtain ⟨d, a2, m2, r2, hd, ha2, p2⟩ := hd
    obtain ⟨m3, s3, h3, l3, a3, r3, ha3, hl3, hh3, f, p3, hf1, hf⟩ := V_rfM ol orc L g hT Pl s T H (nI c) m2 bx (b := b) (d := d) loc ha2 (post_m p2) hl hv c1 hs hz
    rw [r2, r3, frT_eq]
    by_cases c3 : 48 ≤ b + d ∨ m3 = 1
    · refine ⟨bx, Pl, s3, T, H, nI h3, c, l3, a3, 1, f, V_rfB ol orc L g Pl s3 T H _ _ _ _ m3 bx (by omega) c3, ha3, hl3, ?_, fun z => absurd z (by decide)⟩
      refine post_bind p1 ?_
      show post m1 1 (if 127 < v ∧ v < 247 then none else _) _
      rw [if_neg c1]
      refine post_bind p2 (post_bind p3 ?_)
      rcases c3 with c3 | c3
      · rw [if_pos (by omega)]
        exact post_bad _ _
      · rw [c3]
        exact post_one _
    · have hm3 : m3 = 0 := (post_m p3).resolve_right (fun z => c3 (Or.inr z))
      have hlt : b + d < 48 := Nat.not_le.mp (fun z => c3 (Or.inl z))
      subst hm3
      obtain ⟨g1, g2, g3, g4, g5⟩ := hf rfl
      refine ⟨nI (b + d), upd Pl c (nI (b + d)), s3, stT T (b + d) s3, upd H (b + d) (nI h3), nI h3, c + 1, l3, a3, 0, f, V_rfG ol orc L g Pl s3 T H _ _ _ bx hlt (by omega), ha3, hl3, ?_, ?_⟩
      · refine post_bind p1 ?_
        show post m1 0 (if 127 < v ∧ v < 247 then none else _) _
        rw [if_neg c1]
        refine post_bind p2 (post_bind p3 ?_)
        rw [if_neg (by omega)]
        exact post_ret (Or.inl rfl) _
      · intro _
        rw [hf1, g2]
        exact ⟨rfl, hlt, g1, g3, rfl, rfl, rfl, rfl, g4, g5⟩
end RFD
