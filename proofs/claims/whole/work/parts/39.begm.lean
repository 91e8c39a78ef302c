/-! where instructions begin: the reference -/
section BEM
variable (ol : pm_O) (orc : pm_Q) (I : Nat → Nat → Int32) (L : Nat → Int64) (g : pm_H)
theorem M_whN {A : Nat → Nat → Int32} {cs : Nat} {cb : Nat → Nat} (h : hCodM cs cb A I) {q : Nat} (hq : q < cs) : pm_V ol orc 137 [.ref 48, .int (nI q)] (mk A I L g) = some (some (.int (b1 (wlN cs cb q))), mk A I L g) := by
  obtain ⟨h1, h2, h3, h4⟩ := h
  have hb := h2 q hq
  rw [M_isWhole ol orc A I L g (nI q) (nI_pos' (by omega)) (by rw [h3]; exact nI_lt hq (by omega)) (by rw [h3]; exact nI_le (b := 48) h1 (by decide))]
  have e : (A 56 (nI q).toNatClampNeg ≤ 21 ∧ (¬ hsP (A 56 (nI q).toNatClampNeg) ∨ nI q + 1 < I 48 11)) = wlN cs cb q := by
    rw [clampN (by omega), h4 q hq, h3, hs_nI _ hb]
    simp (disch := omega) only [q_add, q_addl, q_ladd, q_sub, q_subl, q_lsub, q_mul, q_mull, q_lmul, q_le, q_lel, q_lle, q_lt, q_ltl, q_llt, q_eq, q_eql, q_leq, q_m1, q_1m, q_cl, q_nb, q_leT, q_leF, q_ltT, q_ltF, q_eqT, q_eqF, q_10, q_01, q_em, q_bT, q_bF, q_uS, q_uN, q_sA, q_sAn, q_sFn, q_sIn, q_sAF, sF_s, sI_s, sI_sI, sF_sF, nar0, nar1, b1_0, b1_1, b1_or, if_true, if_false, not_true_eq_false, not_false_eq_true, ↓reduceIte, Int32.reduceAdd, Int32.reduceSub, Int32.reduceMul, Int32.reduceLT, Int32.reduceLE, eq_self, Nat.reduceAdd, Nat.reduceSub, Nat.reduceMul, true_or, or_true, false_or, or_false, and_true, true_and, and_false, false_and]
    unfold wlN nxN
    apply propext
    by_cases hh : hsN (cb q)
    · rw [if_pos hh]
      have : (¬ hsN (cb q)) = False := by simp [hh]
      rw [this]
      simp only [false_or, true_or, and_true]; omega
    · rw [if_neg hh]
      have : (¬ hsN (cb q)) = True := by simp [hh]
      rw [this]
      simp only [false_or, true_or, and_true]; omega
  simp only [e]
theorem M_hsN {A : Nat → Nat → Int32} {n : Nat} (h : n < 256) : pm_V ol orc 136 [.int (nI n)] (mk A I L g) = some (some (.int (b1 (hsN n))), mk A I L g) := by
  rw [M_hasSecond]
  simp only [hs_nI _ h]
def clF (N : Nat) (f : Nat → Int32) : Nat → Int32 := fun j => if j < N then 0 else f j
theorem M_fbc {R : Option (Option Value × pm_H)} : ∀ (n k : Nat) (A : Nat → Nat → Int32), n + k = 49 → (∀ j, j < k → A 62 j = 0) → (pm_F ol orc 138 21 [(0, .ref 48)] [] (mk (sF A 62 (clF 49 (A 62))) I L g) = R) → pm_F ol orc 138 2 [(0, .ref 48), (1, .int (nI k))] [] (mk A I L g) = R := by
  intro n
  induction n with
  | zero =>
    intro k A hk h0 hR
    have e : sF A 62 (clF 49 (A 62)) = A := by
      have : clF 49 (A 62) = A 62 := by
        funext j
        unfold clF
        split
        · exact (h0 j (by omega)).symm
        · rfl
      rw [this, sF_id]
    rw [e] at hR
    simp (disch := omega) only [f138_0, f138_1, f138_2, f138_3, f138_5, f138_8, f138_9, f138_12, f138_13, f138_14, f138_15, f138_18, f138_22, f138_23, f138_24, f138_27, f138_30, f138_31, f138_34, f138_35, f138_37, f138_40, f138_41, f138_44, f138_45, f138_46, f138_47, f138_48, f138_49, f138_52, f138_53, f138_54, f138_55, f138_58, f138_59, f138_60, f138_63, f138_66, f138_67, f138_70, f138_71, f138_72, f138_73, f138_74, f138_77, f138_78, f138_79, f138_82, f138_85, f138_86, f138_89, f138_90, f138_91, f138_94, v138, pm_Pv_some, pm_Ph_some, pm_B_some, pm_B_none, q_add, q_addl, q_ladd, q_sub, q_subl, q_lsub, q_mul, q_mull, q_lmul, q_le, q_lel, q_lle, q_lt, q_ltl, q_llt, q_eq, q_eql, q_leq, q_m1, q_1m, q_cl, q_nb, q_leT, q_leF, q_ltT, q_ltF, q_eqT, q_eqF, q_10, q_01, q_em, q_bT, q_bF, q_uS, q_uN, q_sA, q_sAn, q_sFn, q_sIn, q_sAF, sF_s, sI_s, sI_sI, sF_sF, nar0, nar1, b1_0, b1_1, b1_or, if_true, if_false, not_true_eq_false, not_false_eq_true, ↓reduceIte, Int32.reduceAdd, Int32.reduceSub, Int32.reduceMul, Int32.reduceLT, Int32.reduceLE, eq_self, Nat.reduceAdd, Nat.reduceSub, Nat.reduceMul, true_or, or_true, false_or, or_false, and_true, true_and, and_false, false_and]
    exact hR
  | succ n ih =>
    intro k A hk h0 hR
    rw [f138_2]
    simp (disch := omega) only [f138_0, f138_1, f138_3, f138_5, f138_8, f138_9, f138_12, f138_13, f138_14, f138_15, f138_18, f138_22, f138_23, f138_24, f138_27, f138_30, f138_31, f138_34, f138_35, f138_37, f138_40, f138_41, f138_44, f138_45, f138_46, f138_47, f138_48, f138_49, f138_52, f138_53, f138_54, f138_55, f138_58, f138_59, f138_60, f138_63, f138_66, f138_67, f138_70, f138_71, f138_72, f138_73, f138_74, f138_77, f138_78, f138_79, f138_82, f138_85, f138_86, f138_89, f138_90, f138_91, f138_94, v138, pm_Pv_some, pm_Ph_some, pm_B_some, pm_B_none, is_0, fd_0_0, fd_0_1, fd_0_2, fd_0_3, fd_0_4, fd_0_5, is_1, fd_1_0, fd_1_1, fd_1_2, fd_1_3, fd_1_4, ln_2, ln_3, ln_4, is_6, fd_6_0, fd_6_1, fs_6_1, fd_6_2, fs_6_2, ln_7, is_8, fd_8_0, fd_8_1, fs_8_1, fd_8_2, fs_8_2, ln_9, is_10, fd_10_0, fd_10_1, fs_10_1, fd_10_2, fs_10_2, ln_11, is_12, fd_12_0, fd_12_1, fs_12_1, fd_12_2, fs_12_2, ln_13, is_14, fd_14_0, fd_14_1, fs_14_1, fd_14_2, fs_14_2, ln_15, is_16, fd_16_0, fd_16_1, fs_16_1, fd_16_2, fs_16_2, ln_17, is_18, fd_18_0, fd_18_1, fs_18_1, fd_18_2, fs_18_2, ln_19, is_20, fd_20_0, fd_20_1, is_21, fd_21_0, fd_21_1, fs_21_1, ln_22, ln_23, is_24, fd_24_0, fd_24_1, fs_24_1, ln_25, is_26, fd_26_0, fd_26_1, fs_26_1, fd_26_2, fd_26_3, fd_26_4, fd_26_5, fd_26_6, fs_26_6, fd_26_7, fs_26_7, fd_26_8, fs_26_8, ln_27, is_28, fd_28_0, fd_28_1, fs_28_1, ln_29, is_30, fd_30_0, fd_30_1, fd_30_2, ln_31, ln_32, is_33, fd_33_0, fd_33_1, fd_33_2, fd_33_3, fd_33_4, fs_33_4, is_34, fd_34_0, fd_34_1, fs_34_1, ln_35, ln_36, is_37, fd_37_0, fd_37_1, fd_37_2, fd_37_3, is_38, fd_38_0, fd_38_1, fd_38_2, fd_38_3, fd_38_4, fd_38_5, fd_38_6, is_39, fd_39_0, fd_39_1, fd_39_2, fs_39_2, fd_39_3, fs_39_3, is_40, fd_40_0, fd_40_1, fs_40_1, ln_41, ln_42, ln_43, ln_44, is_45, fd_45_0, fd_45_1, fd_45_2, ln_46, ln_47, is_48, fd_48_0, fs_48_0, fd_48_1, fd_48_2, fd_48_3, fd_48_4, fd_48_5, fd_48_6, fd_48_7, fd_48_8, fs_48_8, fd_48_9, fs_48_9, fd_48_10, fd_48_11, fs_48_11, fd_48_12, fd_48_13, fs_48_13, fd_48_14, fs_48_14, fd_48_15, fd_48_16, fd_48_17, fd_48_18, fs_48_18, fd_48_19, fs_48_19, fd_48_20, fd_48_21, fs_48_21, fd_48_22, fs_48_22, fd_48_23, fs_48_23, fd_48_24, fd_48_25, fd_48_26, fd_48_27, fd_48_28, fd_48_29, fd_48_30, fs_48_30, fd_48_31, ln_49, ln_50, ln_51, ln_52, ln_53, ln_54, ln_55, ln_56, ln_57, ln_58, ln_59, ln_60, ln_61, ln_62, ln_63, ln_64, ln_65, ln_66, ln_67, ln_68, aN_2, aL_2, sN_2, sL_2, aN_3, aL_3, sN_3, sL_3, aN_4, aL_4, sN_4, sL_4, aN_7, aL_7, sN_7, sL_7, aN_9, aL_9, sN_9, sL_9, aN_11, aL_11, sN_11, sL_11, aN_13, aL_13, sN_13, sL_13, aN_15, aL_15, sN_15, sL_15, aN_17, aL_17, sN_17, sL_17, aN_19, aL_19, sN_19, sL_19, aN_22, aL_22, sN_22, sL_22, aN_25, aL_25, sN_25, sL_25, aN_27, aL_27, sN_27, sL_27, aN_29, aL_29, sN_29, sL_29, aN_31, aL_31, sN_31, sL_31, aN_32, aL_32, sN_32, sL_32, aN_35, aL_35, sN_35, sL_35, aN_36, aL_36, sN_36, sL_36, aN_41, aL_41, sN_41, sL_41, aN_42, aL_42, sN_42, sL_42, aN_46, aL_46, sN_46, sL_46, aN_47, aL_47, sN_47, sL_47, aN_49, aL_49, sN_49, sL_49, aN_50, aL_50, sN_50, sL_50, aN_51, aL_51, sN_51, sL_51, aN_52, aL_52, sN_52, sL_52, aN_53, aL_53, sN_53, sL_53, aN_54, aL_54, sN_54, sL_54, aN_55, aL_55, sN_55, sL_55, aN_56, aL_56, sN_56, sL_56, aN_57, aL_57, sN_57, sL_57, aN_58, aL_58, sN_58, sL_58, aN_59, aL_59, sN_59, sL_59, aN_60, aL_60, sN_60, sL_60, aN_61, aL_61, sN_61, sL_61, aN_66, aL_66, sN_66, sL_66, aN_67, aL_67, sN_67, sL_67, aN_68, aL_68, sN_68, sL_68, aN_23, sN_23, aN_43, sN_43, aN_44, sN_44, aN_62, sN_62, aN_63, sN_63, aN_64, sN_64, aN_65, sN_65, aN_1001, aN_1002, aq_5_0, aq_5_1, aq_5_2, aq_5_3, aq_5_4, aq_5_5, q_add, q_addl, q_ladd, q_sub, q_subl, q_lsub, q_mul, q_mull, q_lmul, q_le, q_lel, q_lle, q_lt, q_ltl, q_llt, q_eq, q_eql, q_leq, q_m1, q_1m, q_cl, q_nb, q_leT, q_leF, q_ltT, q_ltF, q_eqT, q_eqF, q_10, q_01, q_em, q_bT, q_bF, q_uS, q_uN, q_sA, q_sAn, q_sFn, q_sIn, q_sAF, sF_s, sI_s, sI_sI, sF_sF, nar0, nar1, b1_0, b1_1, b1_or, if_true, if_false, not_true_eq_false, not_false_eq_true, ↓reduceIte, Int32.reduceAdd, Int32.reduceSub, Int32.reduceMul, Int32.reduceLT, Int32.reduceLE, eq_self, Nat.reduceAdd, Nat.reduceSub, Nat.reduceMul, true_or, or_true, false_or, or_false, and_true, true_and, and_false, false_and]
    apply ih (k + 1) _ (by omega)
    · intro j hj
      rw [q_sA]
      by_cases e : j = k
      · rw [e, pk_us]
      · rw [pk_un e]
        exact h0 j (by omega)
    · rw [← hR]
      congr 2
      unfold sA
      rw [sF_sF, sF_s]
      congr 1
      funext j
      unfold clF
      split
      · rfl
      · rw [pk_un (by omega)]
theorem bg_next {cs : Nat} {cb : Nat → Nat} {p : Nat} (h : nxF cs cb p = p) (h1 : p < cs) (h2 : wlN cs cb p) {j : Nat} (hj : j < nxN cb p) (hb : bgN cs cb j) : j ≤ p := by
  have := nxF_go h h1 h2
  unfold nxN at hj this
  split at hj
  · rename_i q
    rw [if_pos q] at this
    have : ¬ j = p + 1 := by
      intro e
      have hb := hb.1
      rw [e] at hb
      omega
    omega
  · omega
theorem M_fb0 (x : Int32) (h : pm_H) : pm_F ol orc 138 36 [(0, .ref 48), (1, .int x), (2, .int 0)] [] h = some (none, h) := by
  simp only [f138_36, f138_37, f138_94, if_true]
theorem M_fbl {cs : Nat} {cb : Nat → Nat} (A : Nat → Nat → Int32) (hC : hCodM cs cb A I) : ∀ (n p : Nat), 48 ≤ n + p → p < cs → nxF cs cb p = p → pm_F ol orc 138 36 [(0, .ref 48), (1, .int (nI p)), (2, .int 1)] [] (mk (sF A 62 (fun j => if j < 49 then b1 (bgN cs cb j ∧ j < p) else A 62 j)) I L g) = some (none, mk (sF A 62 (fun j => if j < 49 then b1 (bgN cs cb j) else A 62 j)) I L g) := by
  intro n
  have h48 := hC.1
  have hI := hC.2.2.1
  have c10 : ((1 : Int32) = 0) = False := by decide
  induction n with
  | zero =>
    intro p h1 h2 h3
    omega
  | succ n ih =>
    intro p h1 h2 h3
    rw [f138_36]
    have hcb := hC.2.1 p h2
    have eA : A 56 p = nI (cb p) := hC.2.2.2 p h2
    have fin : (∀ j, j < 49 → bgN cs cb j → j ≤ p) → sF A 62 (upd (fun j => if j < 49 then b1 (bgN cs cb j ∧ j < p) else A 62 j) p 1) = sF A 62 (fun j => if j < 49 then b1 (bgN cs cb j) else A 62 j) := by
      intro hh
      congr 1
      funext j
      by_cases e : j = p
      · subst e
        rw [pk_us, if_pos (by omega), b1_t ⟨h3, h2⟩]
      · rw [pk_un e]
        split
        · rename_i hj
          by_cases hb : bgN cs cb j
          · have := hh j hj hb
            rw [b1_t hb, b1_t ⟨hb, by omega⟩]
          · rw [b1_f hb, b1_f (fun q => hb q.1)]
        · rfl
    have hC2 := hC.sA (a := 62) (by decide) (upd (fun j => if j < 49 then b1 (bgN cs cb j ∧ j < p) else A 62 j) p 1)
    by_cases hw : wlN cs cb p
    · have hgo := nxF_go h3 h2 hw
      have hnx : nxN cb p = if hsN (cb p) then p + 2 else p + 1 := rfl
      have key : (if nxN cb p < cs then pm_F ol orc 138 36 [(0, .ref 48), (1, .int (nI (nxN cb p))), (2, .int 1)] [] (mk (sF A 62 (upd (fun j => if j < 49 then b1 (bgN cs cb j ∧ j < p) else A 62 j) p 1)) I L g) else some (none, mk (sF A 62 (upd (fun j => if j < 49 then b1 (bgN cs cb j ∧ j < p) else A 62 j) p 1)) I L g)) = some (none, mk (sF A 62 (fun j => if j < 49 then b1 (bgN cs cb j) else A 62 j)) I L g) := by
        split
        · rename_i hlt
          rw [← ih (nxN cb p) (by rw [hnx]; split <;> omega) hlt hgo.2]
          congr 3
          funext j
          by_cases e : j = p
          · subst e
            rw [pk_us, if_pos (by omega), b1_t ⟨⟨h3, h2⟩, by rw [hnx]; split <;> omega⟩]
          · rw [pk_un e]
            split
            · by_cases hb : bgN cs cb j
              · by_cases hj : j < p
                · rw [b1_t ⟨hb, hj⟩, b1_t ⟨hb, by rw [hnx]; split <;> omega⟩]
                · rw [b1_f (fun q => hj q.2), b1_f]
                  rintro ⟨-, q⟩
                  have := bg_next h3 h2 hw q hb
                  omega
              · rw [b1_f (fun q => hb q.1), b1_f (fun q => hb q.1)]
            · rfl
        · rename_i hlt
          rw [fin]
          intro j hj hb
          exact bg_next h3 h2 hw (by have := hb.2; omega) hb
      rw [hnx] at key
      simp (disch := omega) only [f138_0, f138_1, f138_2, f138_3, f138_5, f138_8, f138_9, f138_12, f138_13, f138_14, f138_15, f138_18, f138_21, f138_22, f138_23, f138_24, f138_27, f138_30, f138_31, f138_34, f138_35, f138_37, f138_40, f138_41, f138_44, f138_45, f138_46, f138_47, f138_48, f138_49, f138_52, f138_53, f138_54, f138_55, f138_58, f138_59, f138_60, f138_63, f138_66, f138_67, f138_70, f138_71, f138_72, f138_73, f138_74, f138_77, f138_78, f138_79, f138_82, f138_85, f138_86, f138_89, f138_90, f138_91, f138_94, v138, pm_Pv_some, pm_Ph_some, pm_B_some, pm_B_none, is_0, fd_0_0, fd_0_1, fd_0_2, fd_0_3, fd_0_4, fd_0_5, is_1, fd_1_0, fd_1_1, fd_1_2, fd_1_3, fd_1_4, ln_2, ln_3, ln_4, is_6, fd_6_0, fd_6_1, fs_6_1, fd_6_2, fs_6_2, ln_7, is_8, fd_8_0, fd_8_1, fs_8_1, fd_8_2, fs_8_2, ln_9, is_10, fd_10_0, fd_10_1, fs_10_1, fd_10_2, fs_10_2, ln_11, is_12, fd_12_0, fd_12_1, fs_12_1, fd_12_2, fs_12_2, ln_13, is_14, fd_14_0, fd_14_1, fs_14_1, fd_14_2, fs_14_2, ln_15, is_16, fd_16_0, fd_16_1, fs_16_1, fd_16_2, fs_16_2, ln_17, is_18, fd_18_0, fd_18_1, fs_18_1, fd_18_2, fs_18_2, ln_19, is_20, fd_20_0, fd_20_1, is_21, fd_21_0, fd_21_1, fs_21_1, ln_22, ln_23, is_24, fd_24_0, fd_24_1, fs_24_1, ln_25, is_26, fd_26_0, fd_26_1, fs_26_1, fd_26_2, fd_26_3, fd_26_4, fd_26_5, fd_26_6, fs_26_6, fd_26_7, fs_26_7, fd_26_8, fs_26_8, ln_27, is_28, fd_28_0, fd_28_1, fs_28_1, ln_29, is_30, fd_30_0, fd_30_1, fd_30_2, ln_31, ln_32, is_33, fd_33_0, fd_33_1, fd_33_2, fd_33_3, fd_33_4, fs_33_4, is_34, fd_34_0, fd_34_1, fs_34_1, ln_35, ln_36, is_37, fd_37_0, fd_37_1, fd_37_2, fd_37_3, is_38, fd_38_0, fd_38_1, fd_38_2, fd_38_3, fd_38_4, fd_38_5, fd_38_6, is_39, fd_39_0, fd_39_1, fd_39_2, fs_39_2, fd_39_3, fs_39_3, is_40, fd_40_0, fd_40_1, fs_40_1, ln_41, ln_42, ln_43, ln_44, is_45, fd_45_0, fd_45_1, fd_45_2, ln_46, ln_47, is_48, fd_48_0, fs_48_0, fd_48_1, fd_48_2, fd_48_3, fd_48_4, fd_48_5, fd_48_6, fd_48_7, fd_48_8, fs_48_8, fd_48_9, fs_48_9, fd_48_10, fd_48_11, fs_48_11, fd_48_12, fd_48_13, fs_48_13, fd_48_14, fs_48_14, fd_48_15, fd_48_16, fd_48_17, fd_48_18, fs_48_18, fd_48_19, fs_48_19, fd_48_20, fd_48_21, fs_48_21, fd_48_22, fs_48_22, fd_48_23, fs_48_23, fd_48_24, fd_48_25, fd_48_26, fd_48_27, fd_48_28, fd_48_29, fd_48_30, fs_48_30, fd_48_31, ln_49, ln_50, ln_51, ln_52, ln_53, ln_54, ln_55, ln_56, ln_57, ln_58, ln_59, ln_60, ln_61, ln_62, ln_63, ln_64, ln_65, ln_66, ln_67, ln_68, aN_2, aL_2, sN_2, sL_2, aN_3, aL_3, sN_3, sL_3, aN_4, aL_4, sN_4, sL_4, aN_7, aL_7, sN_7, sL_7, aN_9, aL_9, sN_9, sL_9, aN_11, aL_11, sN_11, sL_11, aN_13, aL_13, sN_13, sL_13, aN_15, aL_15, sN_15, sL_15, aN_17, aL_17, sN_17, sL_17, aN_19, aL_19, sN_19, sL_19, aN_22, aL_22, sN_22, sL_22, aN_25, aL_25, sN_25, sL_25, aN_27, aL_27, sN_27, sL_27, aN_29, aL_29, sN_29, sL_29, aN_31, aL_31, sN_31, sL_31, aN_32, aL_32, sN_32, sL_32, aN_35, aL_35, sN_35, sL_35, aN_36, aL_36, sN_36, sL_36, aN_41, aL_41, sN_41, sL_41, aN_42, aL_42, sN_42, sL_42, aN_46, aL_46, sN_46, sL_46, aN_47, aL_47, sN_47, sL_47, aN_49, aL_49, sN_49, sL_49, aN_50, aL_50, sN_50, sL_50, aN_51, aL_51, sN_51, sL_51, aN_52, aL_52, sN_52, sL_52, aN_53, aL_53, sN_53, sL_53, aN_54, aL_54, sN_54, sL_54, aN_55, aL_55, sN_55, sL_55, aN_56, aL_56, sN_56, sL_56, aN_57, aL_57, sN_57, sL_57, aN_58, aL_58, sN_58, sL_58, aN_59, aL_59, sN_59, sL_59, aN_60, aL_60, sN_60, sL_60, aN_61, aL_61, sN_61, sL_61, aN_66, aL_66, sN_66, sL_66, aN_67, aL_67, sN_67, sL_67, aN_68, aL_68, sN_68, sL_68, aN_23, sN_23, aN_43, sN_43, aN_44, sN_44, aN_62, sN_62, aN_63, sN_63, aN_64, sN_64, aN_65, sN_65, aN_1001, aN_1002, aq_5_0, aq_5_1, aq_5_2, aq_5_3, aq_5_4, aq_5_5, q_add, q_addl, q_ladd, q_sub, q_subl, q_lsub, q_mul, q_mull, q_lmul, q_le, q_lel, q_lle, q_lt, q_ltl, q_llt, q_eq, q_eql, q_leq, q_m1, q_1m, q_cl, q_nb, q_leT, q_leF, q_ltT, q_ltF, q_eqT, q_eqF, q_10, q_01, q_em, q_bT, q_bF, q_uS, q_uN, q_sA, q_sAn, q_sFn, q_sIn, q_sAF, sF_s, sI_s, sI_sI, sF_sF, nar0, nar1, b1_0, b1_1, b1_or, if_true, if_false, not_true_eq_false, not_false_eq_true, ↓reduceIte, Int32.reduceAdd, Int32.reduceSub, Int32.reduceMul, Int32.reduceLT, Int32.reduceLE, eq_self, Nat.reduceAdd, Nat.reduceSub, Nat.reduceMul, true_or, or_true, false_or, or_false, and_true, true_and, and_false, false_and, c10, M_whN ol orc I L g hC2 h2, eA, hI, M_hsN ol orc I L g hcb, eq_true hw, M_fb0]
      by_cases hh : hsN (cb p)
      · rw [if_neg (not_not_intro hh)]
        rw [if_pos hh] at key
        by_cases hc : p + 2 < cs
        · rw [if_pos hc] at key
          rw [if_neg (by omega), key]
        · rw [if_neg hc] at key
          rw [if_pos (by omega), key]
      · rw [if_pos hh]
        rw [if_neg hh] at key
        by_cases hc : p + 1 < cs
        · rw [if_pos hc] at key
          rw [if_neg (by omega), key]
        · rw [if_neg hc] at key
          rw [if_pos (by omega), key]
    · have hs := nxF_stay h3 (fun q => hw q.2)
      simp (disch := omega) only [f138_0, f138_1, f138_2, f138_3, f138_5, f138_8, f138_9, f138_12, f138_13, f138_14, f138_15, f138_18, f138_21, f138_22, f138_23, f138_24, f138_27, f138_30, f138_31, f138_34, f138_35, f138_37, f138_40, f138_41, f138_44, f138_45, f138_46, f138_47, f138_48, f138_49, f138_52, f138_53, f138_54, f138_55, f138_58, f138_59, f138_60, f138_63, f138_66, f138_67, f138_70, f138_71, f138_72, f138_73, f138_74, f138_77, f138_78, f138_79, f138_82, f138_85, f138_86, f138_89, f138_90, f138_91, f138_94, v138, pm_Pv_some, pm_Ph_some, pm_B_some, pm_B_none, is_0, fd_0_0, fd_0_1, fd_0_2, fd_0_3, fd_0_4, fd_0_5, is_1, fd_1_0, fd_1_1, fd_1_2, fd_1_3, fd_1_4, ln_2, ln_3, ln_4, is_6, fd_6_0, fd_6_1, fs_6_1, fd_6_2, fs_6_2, ln_7, is_8, fd_8_0, fd_8_1, fs_8_1, fd_8_2, fs_8_2, ln_9, is_10, fd_10_0, fd_10_1, fs_10_1, fd_10_2, fs_10_2, ln_11, is_12, fd_12_0, fd_12_1, fs_12_1, fd_12_2, fs_12_2, ln_13, is_14, fd_14_0, fd_14_1, fs_14_1, fd_14_2, fs_14_2, ln_15, is_16, fd_16_0, fd_16_1, fs_16_1, fd_16_2, fs_16_2, ln_17, is_18, fd_18_0, fd_18_1, fs_18_1, fd_18_2, fs_18_2, ln_19, is_20, fd_20_0, fd_20_1, is_21, fd_21_0, fd_21_1, fs_21_1, ln_22, ln_23, is_24, fd_24_0, fd_24_1, fs_24_1, ln_25, is_26, fd_26_0, fd_26_1, fs_26_1, fd_26_2, fd_26_3, fd_26_4, fd_26_5, fd_26_6, fs_26_6, fd_26_7, fs_26_7, fd_26_8, fs_26_8, ln_27, is_28, fd_28_0, fd_28_1, fs_28_1, ln_29, is_30, fd_30_0, fd_30_1, fd_30_2, ln_31, ln_32, is_33, fd_33_0, fd_33_1, fd_33_2, fd_33_3, fd_33_4, fs_33_4, is_34, fd_34_0, fd_34_1, fs_34_1, ln_35, ln_36, is_37, fd_37_0, fd_37_1, fd_37_2, fd_37_3, is_38, fd_38_0, fd_38_1, fd_38_2, fd_38_3, fd_38_4, fd_38_5, fd_38_6, is_39, fd_39_0, fd_39_1, fd_39_2, fs_39_2, fd_39_3, fs_39_3, is_40, fd_40_0, fd_40_1, fs_40_1, ln_41, ln_42, ln_43, ln_44, is_45, fd_45_0, fd_45_1, fd_45_2, ln_46, ln_47, is_48, fd_48_0, fs_48_0, fd_48_1, fd_48_2, fd_48_3, fd_48_4, fd_48_5, fd_48_6, fd_48_7, fd_48_8, fs_48_8, fd_48_9, fs_48_9, fd_48_10, fd_48_11, fs_48_11, fd_48_12, fd_48_13, fs_48_13, fd_48_14, fs_48_14, fd_48_15, fd_48_16, fd_48_17, fd_48_18, fs_48_18, fd_48_19, fs_48_19, fd_48_20, fd_48_21, fs_48_21, fd_48_22, fs_48_22, fd_48_23, fs_48_23, fd_48_24, fd_48_25, fd_48_26, fd_48_27, fd_48_28, fd_48_29, fd_48_30, fs_48_30, fd_48_31, ln_49, ln_50, ln_51, ln_52, ln_53, ln_54, ln_55, ln_56, ln_57, ln_58, ln_59, ln_60, ln_61, ln_62, ln_63, ln_64, ln_65, ln_66, ln_67, ln_68, aN_2, aL_2, sN_2, sL_2, aN_3, aL_3, sN_3, sL_3, aN_4, aL_4, sN_4, sL_4, aN_7, aL_7, sN_7, sL_7, aN_9, aL_9, sN_9, sL_9, aN_11, aL_11, sN_11, sL_11, aN_13, aL_13, sN_13, sL_13, aN_15, aL_15, sN_15, sL_15, aN_17, aL_17, sN_17, sL_17, aN_19, aL_19, sN_19, sL_19, aN_22, aL_22, sN_22, sL_22, aN_25, aL_25, sN_25, sL_25, aN_27, aL_27, sN_27, sL_27, aN_29, aL_29, sN_29, sL_29, aN_31, aL_31, sN_31, sL_31, aN_32, aL_32, sN_32, sL_32, aN_35, aL_35, sN_35, sL_35, aN_36, aL_36, sN_36, sL_36, aN_41, aL_41, sN_41, sL_41, aN_42, aL_42, sN_42, sL_42, aN_46, aL_46, sN_46, sL_46, aN_47, aL_47, sN_47, sL_47, aN_49, aL_49, sN_49, sL_49, aN_50, aL_50, sN_50, sL_50, aN_51, aL_51, sN_51, sL_51, aN_52, aL_52, sN_52, sL_52, aN_53, aL_53, sN_53, sL_53, aN_54, aL_54, sN_54, sL_54, aN_55, aL_55, sN_55, sL_55, aN_56, aL_56, sN_56, sL_56, aN_57, aL_57, sN_57, sL_57, aN_58, aL_58, sN_58, sL_58, aN_59, aL_59, sN_59, sL_59, aN_60, aL_60, sN_60, sL_60, aN_61, aL_61, sN_61, sL_61, aN_66, aL_66, sN_66, sL_66, aN_67, aL_67, sN_67, sL_67, aN_68, aL_68, sN_68, sL_68, aN_23, sN_23, aN_43, sN_43, aN_44, sN_44, aN_62, sN_62, aN_63, sN_63, aN_64, sN_64, aN_65, sN_65, aN_1001, aN_1002, aq_5_0, aq_5_1, aq_5_2, aq_5_3, aq_5_4, aq_5_5, q_add, q_addl, q_ladd, q_sub, q_subl, q_lsub, q_mul, q_mull, q_lmul, q_le, q_lel, q_lle, q_lt, q_ltl, q_llt, q_eq, q_eql, q_leq, q_m1, q_1m, q_cl, q_nb, q_leT, q_leF, q_ltT, q_ltF, q_eqT, q_eqF, q_10, q_01, q_em, q_bT, q_bF, q_uS, q_uN, q_sA, q_sAn, q_sFn, q_sIn, q_sAF, sF_s, sI_s, sI_sI, sF_sF, nar0, nar1, b1_0, b1_1, b1_or, if_true, if_false, not_true_eq_false, not_false_eq_true, ↓reduceIte, Int32.reduceAdd, Int32.reduceSub, Int32.reduceMul, Int32.reduceLT, Int32.reduceLE, eq_self, Nat.reduceAdd, Nat.reduceSub, Nat.reduceMul, true_or, or_true, false_or, or_false, and_true, true_and, and_false, false_and, c10, M_whN ol orc I L g hC2 h2, eA, hI, M_hsN ol orc I L g hcb, eq_false hw, M_fb0]
      rw [fin, ite_self]
      intro j hj hb
      by_cases q : j ≤ p
      · exact q
      · have := hs (j - p)
        rw [show p + (j - p) = j by omega] at this
        have := hb.1
        omega
theorem M_findBegins {A : Nat → Nat → Int32} {cs : Nat} {cb : Nat → Nat} (hC : hCodM cs cb A I) : pm_V ol orc 138 [.ref 48] (mk A I L g) = some (none, mk (sF A 62 (fun j => if j < 49 then b1 (bgN cs cb j) else A 62 j)) I L g) := by
  have h48 := hC.1
  have hI := hC.2.2.1
  rw [v138, f138_0, f138_1]
  refine M_fbc ol orc I L g 49 0 A (by omega) (by omega) ?_
  have eF : sF (sF A 62 (clF 49 (A 62))) 62 (fun j => if j < 49 then b1 (bgN cs cb j) else sF A 62 (clF 49 (A 62)) 62 j) = sF A 62 (fun j => if j < 49 then b1 (bgN cs cb j) else A 62 j) := by
    rw [sF_sF]
    congr 1
    funext j
    rw [sF_s]
    unfold clF
    split <;> rfl
  by_cases h0 : 0 < cs
  · have hl := M_fbl ol orc I L g (sF A 62 (clF 49 (A 62))) (hC.sA (by decide) _) 48 0 (by omega) h0 rfl
    have e1 : sF (sF A 62 (clF 49 (A 62))) 62 (fun j => if j < 49 then b1 (bgN cs cb j ∧ j < 0) else sF A 62 (clF 49 (A 62)) 62 j) = sF A 62 (clF 49 (A 62)) := by
      rw [sF_sF]
      congr 1
      funext j
      rw [sF_s]
      unfold clF
      split
      · exact b1_f (fun q => absurd q.2 (by omega))
      · rfl
    rw [e1, eF] at hl
    simp (disch := omega) only [f138_0, f138_1, f138_2, f138_3, f138_5, f138_8, f138_9, f138_12, f138_13, f138_14, f138_15, f138_18, f138_21, f138_22, f138_23, f138_24, f138_27, f138_30, f138_31, f138_34, f138_35, f138_37, f138_40, f138_41, f138_44, f138_45, f138_46, f138_47, f138_48, f138_49, f138_52, f138_53, f138_54, f138_55, f138_58, f138_59, f138_60, f138_63, f138_66, f138_67, f138_70, f138_71, f138_72, f138_73, f138_74, f138_77, f138_78, f138_79, f138_82, f138_85, f138_86, f138_89, f138_90, f138_91, f138_94, v138, pm_Pv_some, pm_Ph_some, pm_B_some, pm_B_none, is_0, fd_0_0, fd_0_1, fd_0_2, fd_0_3, fd_0_4, fd_0_5, is_1, fd_1_0, fd_1_1, fd_1_2, fd_1_3, fd_1_4, ln_2, ln_3, ln_4, is_6, fd_6_0, fd_6_1, fs_6_1, fd_6_2, fs_6_2, ln_7, is_8, fd_8_0, fd_8_1, fs_8_1, fd_8_2, fs_8_2, ln_9, is_10, fd_10_0, fd_10_1, fs_10_1, fd_10_2, fs_10_2, ln_11, is_12, fd_12_0, fd_12_1, fs_12_1, fd_12_2, fs_12_2, ln_13, is_14, fd_14_0, fd_14_1, fs_14_1, fd_14_2, fs_14_2, ln_15, is_16, fd_16_0, fd_16_1, fs_16_1, fd_16_2, fs_16_2, ln_17, is_18, fd_18_0, fd_18_1, fs_18_1, fd_18_2, fs_18_2, ln_19, is_20, fd_20_0, fd_20_1, is_21, fd_21_0, fd_21_1, fs_21_1, ln_22, ln_23, is_24, fd_24_0, fd_24_1, fs_24_1, ln_25, is_26, fd_26_0, fd_26_1, fs_26_1, fd_26_2, fd_26_3, fd_26_4, fd_26_5, fd_26_6, fs_26_6, fd_26_7, fs_26_7, fd_26_8, fs_26_8, ln_27, is_28, fd_28_0, fd_28_1, fs_28_1, ln_29, is_30, fd_30_0, fd_30_1, fd_30_2, ln_31, ln_32, is_33, fd_33_0, fd_33_1, fd_33_2, fd_33_3, fd_33_4, fs_33_4, is_34, fd_34_0, fd_34_1, fs_34_1, ln_35, ln_36, is_37, fd_37_0, fd_37_1, fd_37_2, fd_37_3, is_38, fd_38_0, fd_38_1, fd_38_2, fd_38_3, fd_38_4, fd_38_5, fd_38_6, is_39, fd_39_0, fd_39_1, fd_39_2, fs_39_2, fd_39_3, fs_39_3, is_40, fd_40_0, fd_40_1, fs_40_1, ln_41, ln_42, ln_43, ln_44, is_45, fd_45_0, fd_45_1, fd_45_2, ln_46, ln_47, is_48, fd_48_0, fs_48_0, fd_48_1, fd_48_2, fd_48_3, fd_48_4, fd_48_5, fd_48_6, fd_48_7, fd_48_8, fs_48_8, fd_48_9, fs_48_9, fd_48_10, fd_48_11, fs_48_11, fd_48_12, fd_48_13, fs_48_13, fd_48_14, fs_48_14, fd_48_15, fd_48_16, fd_48_17, fd_48_18, fs_48_18, fd_48_19, fs_48_19, fd_48_20, fd_48_21, fs_48_21, fd_48_22, fs_48_22, fd_48_23, fs_48_23, fd_48_24, fd_48_25, fd_48_26, fd_48_27, fd_48_28, fd_48_29, fd_48_30, fs_48_30, fd_48_31, ln_49, ln_50, ln_51, ln_52, ln_53, ln_54, ln_55, ln_56, ln_57, ln_58, ln_59, ln_60, ln_61, ln_62, ln_63, ln_64, ln_65, ln_66, ln_67, ln_68, aN_2, aL_2, sN_2, sL_2, aN_3, aL_3, sN_3, sL_3, aN_4, aL_4, sN_4, sL_4, aN_7, aL_7, sN_7, sL_7, aN_9, aL_9, sN_9, sL_9, aN_11, aL_11, sN_11, sL_11, aN_13, aL_13, sN_13, sL_13, aN_15, aL_15, sN_15, sL_15, aN_17, aL_17, sN_17, sL_17, aN_19, aL_19, sN_19, sL_19, aN_22, aL_22, sN_22, sL_22, aN_25, aL_25, sN_25, sL_25, aN_27, aL_27, sN_27, sL_27, aN_29, aL_29, sN_29, sL_29, aN_31, aL_31, sN_31, sL_31, aN_32, aL_32, sN_32, sL_32, aN_35, aL_35, sN_35, sL_35, aN_36, aL_36, sN_36, sL_36, aN_41, aL_41, sN_41, sL_41, aN_42, aL_42, sN_42, sL_42, aN_46, aL_46, sN_46, sL_46, aN_47, aL_47, sN_47, sL_47, aN_49, aL_49, sN_49, sL_49, aN_50, aL_50, sN_50, sL_50, aN_51, aL_51, sN_51, sL_51, aN_52, aL_52, sN_52, sL_52, aN_53, aL_53, sN_53, sL_53, aN_54, aL_54, sN_54, sL_54, aN_55, aL_55, sN_55, sL_55, aN_56, aL_56, sN_56, sL_56, aN_57, aL_57, sN_57, sL_57, aN_58, aL_58, sN_58, sL_58, aN_59, aL_59, sN_59, sL_59, aN_60, aL_60, sN_60, sL_60, aN_61, aL_61, sN_61, sL_61, aN_66, aL_66, sN_66, sL_66, aN_67, aL_67, sN_67, sL_67, aN_68, aL_68, sN_68, sL_68, aN_23, sN_23, aN_43, sN_43, aN_44, sN_44, aN_62, sN_62, aN_63, sN_63, aN_64, sN_64, aN_65, sN_65, aN_1001, aN_1002, aq_5_0, aq_5_1, aq_5_2, aq_5_3, aq_5_4, aq_5_5, q_add, q_addl, q_ladd, q_sub, q_subl, q_lsub, q_mul, q_mull, q_lmul, q_le, q_lel, q_lle, q_lt, q_ltl, q_llt, q_eq, q_eql, q_leq, q_m1, q_1m, q_cl, q_nb, q_leT, q_leF, q_ltT, q_ltF, q_eqT, q_eqF, q_10, q_01, q_em, q_bT, q_bF, q_uS, q_uN, q_sA, q_sAn, q_sFn, q_sIn, q_sAF, sF_s, sI_s, sI_sI, sF_sF, nar0, nar1, b1_0, b1_1, b1_or, if_true, if_false, not_true_eq_false, not_false_eq_true, ↓reduceIte, Int32.reduceAdd, Int32.reduceSub, Int32.reduceMul, Int32.reduceLT, Int32.reduceLE, eq_self, Nat.reduceAdd, Nat.reduceSub, Nat.reduceMul, true_or, or_true, false_or, or_false, and_true, true_and, and_false, false_and, hI]
    exact hl
  · simp (disch := omega) only [f138_0, f138_1, f138_2, f138_3, f138_5, f138_8, f138_9, f138_12, f138_13, f138_14, f138_15, f138_18, f138_21, f138_22, f138_23, f138_24, f138_27, f138_30, f138_31, f138_34, f138_35, f138_37, f138_40, f138_41, f138_44, f138_45, f138_46, f138_47, f138_48, f138_49, f138_52, f138_53, f138_54, f138_55, f138_58, f138_59, f138_60, f138_63, f138_66, f138_67, f138_70, f138_71, f138_72, f138_73, f138_74, f138_77, f138_78, f138_79, f138_82, f138_85, f138_86, f138_89, f138_90, f138_91, f138_94, v138, pm_Pv_some, pm_Ph_some, pm_B_some, pm_B_none, is_0, fd_0_0, fd_0_1, fd_0_2, fd_0_3, fd_0_4, fd_0_5, is_1, fd_1_0, fd_1_1, fd_1_2, fd_1_3, fd_1_4, ln_2, ln_3, ln_4, is_6, fd_6_0, fd_6_1, fs_6_1, fd_6_2, fs_6_2, ln_7, is_8, fd_8_0, fd_8_1, fs_8_1, fd_8_2, fs_8_2, ln_9, is_10, fd_10_0, fd_10_1, fs_10_1, fd_10_2, fs_10_2, ln_11, is_12, fd_12_0, fd_12_1, fs_12_1, fd_12_2, fs_12_2, ln_13, is_14, fd_14_0, fd_14_1, fs_14_1, fd_14_2, fs_14_2, ln_15, is_16, fd_16_0, fd_16_1, fs_16_1, fd_16_2, fs_16_2, ln_17, is_18, fd_18_0, fd_18_1, fs_18_1, fd_18_2, fs_18_2, ln_19, is_20, fd_20_0, fd_20_1, is_21, fd_21_0, fd_21_1, fs_21_1, ln_22, ln_23, is_24, fd_24_0, fd_24_1, fs_24_1, ln_25, is_26, fd_26_0, fd_26_1, fs_26_1, fd_26_2, fd_26_3, fd_26_4, fd_26_5, fd_26_6, fs_26_6, fd_26_7, fs_26_7, fd_26_8, fs_26_8, ln_27, is_28, fd_28_0, fd_28_1, fs_28_1, ln_29, is_30, fd_30_0, fd_30_1, fd_30_2, ln_31, ln_32, is_33, fd_33_0, fd_33_1, fd_33_2, fd_33_3, fd_33_4, fs_33_4, is_34, fd_34_0, fd_34_1, fs_34_1, ln_35, ln_36, is_37, fd_37_0, fd_37_1, fd_37_2, fd_37_3, is_38, fd_38_0, fd_38_1, fd_38_2, fd_38_3, fd_38_4, fd_38_5, fd_38_6, is_39, fd_39_0, fd_39_1, fd_39_2, fs_39_2, fd_39_3, fs_39_3, is_40, fd_40_0, fd_40_1, fs_40_1, ln_41, ln_42, ln_43, ln_44, is_45, fd_45_0, fd_45_1, fd_45_2, ln_46, ln_47, is_48, fd_48_0, fs_48_0, fd_48_1, fd_48_2, fd_48_3, fd_48_4, fd_48_5, fd_48_6, fd_48_7, fd_48_8, fs_48_8, fd_48_9, fs_48_9, fd_48_10, fd_48_11, fs_48_11, fd_48_12, fd_48_13, fs_48_13, fd_48_14, fs_48_14, fd_48_15, fd_48_16, fd_48_17, fd_48_18, fs_48_18, fd_48_19, fs_48_19, fd_48_20, fd_48_21, fs_48_21, fd_48_22, fs_48_22, fd_48_23, fs_48_23, fd_48_24, fd_48_25, fd_48_26, fd_48_27, fd_48_28, fd_48_29, fd_48_30, fs_48_30, fd_48_31, ln_49, ln_50, ln_51, ln_52, ln_53, ln_54, ln_55, ln_56, ln_57, ln_58, ln_59, ln_60, ln_61, ln_62, ln_63, ln_64, ln_65, ln_66, ln_67, ln_68, aN_2, aL_2, sN_2, sL_2, aN_3, aL_3, sN_3, sL_3, aN_4, aL_4, sN_4, sL_4, aN_7, aL_7, sN_7, sL_7, aN_9, aL_9, sN_9, sL_9, aN_11, aL_11, sN_11, sL_11, aN_13, aL_13, sN_13, sL_13, aN_15, aL_15, sN_15, sL_15, aN_17, aL_17, sN_17, sL_17, aN_19, aL_19, sN_19, sL_19, aN_22, aL_22, sN_22, sL_22, aN_25, aL_25, sN_25, sL_25, aN_27, aL_27, sN_27, sL_27, aN_29, aL_29, sN_29, sL_29, aN_31, aL_31, sN_31, sL_31, aN_32, aL_32, sN_32, sL_32, aN_35, aL_35, sN_35, sL_35, aN_36, aL_36, sN_36, sL_36, aN_41, aL_41, sN_41, sL_41, aN_42, aL_42, sN_42, sL_42, aN_46, aL_46, sN_46, sL_46, aN_47, aL_47, sN_47, sL_47, aN_49, aL_49, sN_49, sL_49, aN_50, aL_50, sN_50, sL_50, aN_51, aL_51, sN_51, sL_51, aN_52, aL_52, sN_52, sL_52, aN_53, aL_53, sN_53, sL_53, aN_54, aL_54, sN_54, sL_54, aN_55, aL_55, sN_55, sL_55, aN_56, aL_56, sN_56, sL_56, aN_57, aL_57, sN_57, sL_57, aN_58, aL_58, sN_58, sL_58, aN_59, aL_59, sN_59, sL_59, aN_60, aL_60, sN_60, sL_60, aN_61, aL_61, sN_61, sL_61, aN_66, aL_66, sN_66, sL_66, aN_67, aL_67, sN_67, sL_67, aN_68, aL_68, sN_68, sL_68, aN_23, sN_23, aN_43, sN_43, aN_44, sN_44, aN_62, sN_62, aN_63, sN_63, aN_64, sN_64, aN_65, sN_65, aN_1001, aN_1002, aq_5_0, aq_5_1, aq_5_2, aq_5_3, aq_5_4, aq_5_5, q_add, q_addl, q_ladd, q_sub, q_subl, q_lsub, q_mul, q_mull, q_lmul, q_le, q_lel, q_lle, q_lt, q_ltl, q_llt, q_eq, q_eql, q_leq, q_m1, q_1m, q_cl, q_nb, q_leT, q_leF, q_ltT, q_ltF, q_eqT, q_eqF, q_10, q_01, q_em, q_bT, q_bF, q_uS, q_uN, q_sA, q_sAn, q_sFn, q_sIn, q_sAF, sF_s, sI_s, sI_sI, sF_sF, nar0, nar1, b1_0, b1_1, b1_or, if_true, if_false, not_true_eq_false, not_false_eq_true, ↓reduceIte, Int32.reduceAdd, Int32.reduceSub, Int32.reduceMul, Int32.reduceLT, Int32.reduceLE, eq_self, Nat.reduceAdd, Nat.reduceSub, Nat.reduceMul, true_or, or_true, false_or, or_false, and_true, true_and, and_false, false_and, hI, M_fb0]
    congr 4
    funext j
    unfold clF
    split
    · exact (b1_f (fun q => absurd q.2 (by omega))).symm
    · rfl
abbrev mkN (cs : Nat) (cb : Nat → Nat) (q : Nat) : Prop := bgN cs cb q ∧ wlN cs cb q ∧ cb q = 14 ∧ cb (q + 1) < 8
theorem M_makes {A : Nat → Nat → Int32} {cs : Nat} {cb : Nat → Nat} (hC : hCodM cs cb A I) (hB : ∀ j, j < 49 → A 62 j = b1 (bgN cs cb j)) {q : Nat} (hq : q < 48) : pm_V ol orc 139 [.ref 48, .int (nI q)] (mk A I L g) = some (some (.int (b1 (mkN cs cb q))), mk A I L g) := by
  have h48 := hC.1
  have hI := hC.2.2.1
  have c10 : ((1 : Int32) = 0) = False := by decide
  by_cases h1 : bgN cs cb q
  · by_cases h2 : wlN cs cb q
    · have e1 : A 56 q = nI (cb q) := hC.2.2.2 q h1.2
      have hcb := hC.2.1 q h1.2
      by_cases h3 : cb q = 14
      · have hq1 : q + 1 < cs := by
          have := h2.2
          unfold nxN at this
          rw [if_pos (by omega)] at this
          omega
        have e2 : A 56 (q + 1) = nI (cb (q + 1)) := hC.2.2.2 _ hq1
        have hcb2 := hC.2.1 _ hq1
        simp (disch := omega) only [f139_0, f139_1, f139_2, f139_5, f139_8, f139_9, f139_12, f139_13, f139_14, f139_17, f139_18, f139_19, f139_22, f139_25, f139_26, f139_29, f139_30, f139_31, f139_33, f139_36, f139_37, f139_40, f139_41, f139_42, f139_43, f139_44, f139_46, f139_49, f139_50, f139_53, f139_54, v139, pm_Pv_some, pm_Ph_some, pm_B_some, pm_B_none, is_0, fd_0_0, fd_0_1, fd_0_2, fd_0_3, fd_0_4, fd_0_5, is_1, fd_1_0, fd_1_1, fd_1_2, fd_1_3, fd_1_4, ln_2, ln_3, ln_4, is_6, fd_6_0, fd_6_1, fs_6_1, fd_6_2, fs_6_2, ln_7, is_8, fd_8_0, fd_8_1, fs_8_1, fd_8_2, fs_8_2, ln_9, is_10, fd_10_0, fd_10_1, fs_10_1, fd_10_2, fs_10_2, ln_11, is_12, fd_12_0, fd_12_1, fs_12_1, fd_12_2, fs_12_2, ln_13, is_14, fd_14_0, fd_14_1, fs_14_1, fd_14_2, fs_14_2, ln_15, is_16, fd_16_0, fd_16_1, fs_16_1, fd_16_2, fs_16_2, ln_17, is_18, fd_18_0, fd_18_1, fs_18_1, fd_18_2, fs_18_2, ln_19, is_20, fd_20_0, fd_20_1, is_21, fd_21_0, fd_21_1, fs_21_1, ln_22, ln_23, is_24, fd_24_0, fd_24_1, fs_24_1, ln_25, is_26, fd_26_0, fd_26_1, fs_26_1, fd_26_2, fd_26_3, fd_26_4, fd_26_5, fd_26_6, fs_26_6, fd_26_7, fs_26_7, fd_26_8, fs_26_8, ln_27, is_28, fd_28_0, fd_28_1, fs_28_1, ln_29, is_30, fd_30_0, fd_30_1, fd_30_2, ln_31, ln_32, is_33, fd_33_0, fd_33_1, fd_33_2, fd_33_3, fd_33_4, fs_33_4, is_34, fd_34_0, fd_34_1, fs_34_1, ln_35, ln_36, is_37, fd_37_0, fd_37_1, fd_37_2, fd_37_3, is_38, fd_38_0, fd_38_1, fd_38_2, fd_38_3, fd_38_4, fd_38_5, fd_38_6, is_39, fd_39_0, fd_39_1, fd_39_2, fs_39_2, fd_39_3, fs_39_3, is_40, fd_40_0, fd_40_1, fs_40_1, ln_41, ln_42, ln_43, ln_44, is_45, fd_45_0, fd_45_1, fd_45_2, ln_46, ln_47, is_48, fd_48_0, fs_48_0, fd_48_1, fd_48_2, fd_48_3, fd_48_4, fd_48_5, fd_48_6, fd_48_7, fd_48_8, fs_48_8, fd_48_9, fs_48_9, fd_48_10, fd_48_11, fs_48_11, fd_48_12, fd_48_13, fs_48_13, fd_48_14, fs_48_14, fd_48_15, fd_48_16, fd_48_17, fd_48_18, fs_48_18, fd_48_19, fs_48_19, fd_48_20, fd_48_21, fs_48_21, fd_48_22, fs_48_22, fd_48_23, fs_48_23, fd_48_24, fd_48_25, fd_48_26, fd_48_27, fd_48_28, fd_48_29, fd_48_30, fs_48_30, fd_48_31, ln_49, ln_50, ln_51, ln_52, ln_53, ln_54, ln_55, ln_56, ln_57, ln_58, ln_59, ln_60, ln_61, ln_62, ln_63, ln_64, ln_65, ln_66, ln_67, ln_68, aN_2, aL_2, sN_2, sL_2, aN_3, aL_3, sN_3, sL_3, aN_4, aL_4, sN_4, sL_4, aN_7, aL_7, sN_7, sL_7, aN_9, aL_9, sN_9, sL_9, aN_11, aL_11, sN_11, sL_11, aN_13, aL_13, sN_13, sL_13, aN_15, aL_15, sN_15, sL_15, aN_17, aL_17, sN_17, sL_17, aN_19, aL_19, sN_19, sL_19, aN_22, aL_22, sN_22, sL_22, aN_25, aL_25, sN_25, sL_25, aN_27, aL_27, sN_27, sL_27, aN_29, aL_29, sN_29, sL_29, aN_31, aL_31, sN_31, sL_31, aN_32, aL_32, sN_32, sL_32, aN_35, aL_35, sN_35, sL_35, aN_36, aL_36, sN_36, sL_36, aN_41, aL_41, sN_41, sL_41, aN_42, aL_42, sN_42, sL_42, aN_46, aL_46, sN_46, sL_46, aN_47, aL_47, sN_47, sL_47, aN_49, aL_49, sN_49, sL_49, aN_50, aL_50, sN_50, sL_50, aN_51, aL_51, sN_51, sL_51, aN_52, aL_52, sN_52, sL_52, aN_53, aL_53, sN_53, sL_53, aN_54, aL_54, sN_54, sL_54, aN_55, aL_55, sN_55, sL_55, aN_56, aL_56, sN_56, sL_56, aN_57, aL_57, sN_57, sL_57, aN_58, aL_58, sN_58, sL_58, aN_59, aL_59, sN_59, sL_59, aN_60, aL_60, sN_60, sL_60, aN_61, aL_61, sN_61, sL_61, aN_66, aL_66, sN_66, sL_66, aN_67, aL_67, sN_67, sL_67, aN_68, aL_68, sN_68, sL_68, aN_23, sN_23, aN_43, sN_43, aN_44, sN_44, aN_62, sN_62, aN_63, sN_63, aN_64, sN_64, aN_65, sN_65, aN_1001, aN_1002, aq_5_0, aq_5_1, aq_5_2, aq_5_3, aq_5_4, aq_5_5, q_add, q_addl, q_ladd, q_sub, q_subl, q_lsub, q_mul, q_mull, q_lmul, q_le, q_lel, q_lle, q_lt, q_ltl, q_llt, q_eq, q_eql, q_leq, q_m1, q_1m, q_cl, q_nb, q_leT, q_leF, q_ltT, q_ltF, q_eqT, q_eqF, q_10, q_01, q_em, q_bT, q_bF, q_uS, q_uN, q_sA, q_sAn, q_sFn, q_sIn, q_sAF, sF_s, sI_s, sI_sI, sF_sF, nar0, nar1, b1_0, b1_1, b1_or, if_true, if_false, not_true_eq_false, not_false_eq_true, ↓reduceIte, Int32.reduceAdd, Int32.reduceSub, Int32.reduceMul, Int32.reduceLT, Int32.reduceLE, eq_self, Nat.reduceAdd, Nat.reduceSub, Nat.reduceMul, true_or, or_true, false_or, or_false, and_true, true_and, and_false, false_and, hI, hB q (by omega), M_whN ol orc I L g hC h1.2, e1, e2, eq_true h2, eq_true h1, h3, c10, true_or, or_true]
        by_cases h4 : cb (q + 1) < 8
        · rw [if_neg (by omega), b1_t ⟨h1, h2, h3, h4⟩]
        · rw [if_pos (by omega), b1_f (fun z => h4 z.2.2.2)]
      · simp (disch := omega) only [f139_0, f139_1, f139_2, f139_5, f139_8, f139_9, f139_12, f139_13, f139_14, f139_17, f139_18, f139_19, f139_22, f139_25, f139_26, f139_29, f139_30, f139_31, f139_33, f139_36, f139_37, f139_40, f139_41, f139_42, f139_43, f139_44, f139_46, f139_49, f139_50, f139_53, f139_54, v139, pm_Pv_some, pm_Ph_some, pm_B_some, pm_B_none, is_0, fd_0_0, fd_0_1, fd_0_2, fd_0_3, fd_0_4, fd_0_5, is_1, fd_1_0, fd_1_1, fd_1_2, fd_1_3, fd_1_4, ln_2, ln_3, ln_4, is_6, fd_6_0, fd_6_1, fs_6_1, fd_6_2, fs_6_2, ln_7, is_8, fd_8_0, fd_8_1, fs_8_1, fd_8_2, fs_8_2, ln_9, is_10, fd_10_0, fd_10_1, fs_10_1, fd_10_2, fs_10_2, ln_11, is_12, fd_12_0, fd_12_1, fs_12_1, fd_12_2, fs_12_2, ln_13, is_14, fd_14_0, fd_14_1, fs_14_1, fd_14_2, fs_14_2, ln_15, is_16, fd_16_0, fd_16_1, fs_16_1, fd_16_2, fs_16_2, ln_17, is_18, fd_18_0, fd_18_1, fs_18_1, fd_18_2, fs_18_2, ln_19, is_20, fd_20_0, fd_20_1, is_21, fd_21_0, fd_21_1, fs_21_1, ln_22, ln_23, is_24, fd_24_0, fd_24_1, fs_24_1, ln_25, is_26, fd_26_0, fd_26_1, fs_26_1, fd_26_2, fd_26_3, fd_26_4, fd_26_5, fd_26_6, fs_26_6, fd_26_7, fs_26_7, fd_26_8, fs_26_8, ln_27, is_28, fd_28_0, fd_28_1, fs_28_1, ln_29, is_30, fd_30_0, fd_30_1, fd_30_2, ln_31, ln_32, is_33, fd_33_0, fd_33_1, fd_33_2, fd_33_3, fd_33_4, fs_33_4, is_34, fd_34_0, fd_34_1, fs_34_1, ln_35, ln_36, is_37, fd_37_0, fd_37_1, fd_37_2, fd_37_3, is_38, fd_38_0, fd_38_1, fd_38_2, fd_38_3, fd_38_4, fd_38_5, fd_38_6, is_39, fd_39_0, fd_39_1, fd_39_2, fs_39_2, fd_39_3, fs_39_3, is_40, fd_40_0, fd_40_1, fs_40_1, ln_41, ln_42, ln_43, ln_44, is_45, fd_45_0, fd_45_1, fd_45_2, ln_46, ln_47, is_48, fd_48_0, fs_48_0, fd_48_1, fd_48_2, fd_48_3, fd_48_4, fd_48_5, fd_48_6, fd_48_7, fd_48_8, fs_48_8, fd_48_9, fs_48_9, fd_48_10, fd_48_11, fs_48_11, fd_48_12, fd_48_13, fs_48_13, fd_48_14, fs_48_14, fd_48_15, fd_48_16, fd_48_17, fd_48_18, fs_48_18, fd_48_19, fs_48_19, fd_48_20, fd_48_21, fs_48_21, fd_48_22, fs_48_22, fd_48_23, fs_48_23, fd_48_24, fd_48_25, fd_48_26, fd_48_27, fd_48_28, fd_48_29, fd_48_30, fs_48_30, fd_48_31, ln_49, ln_50, ln_51, ln_52, ln_53, ln_54, ln_55, ln_56, ln_57, ln_58, ln_59, ln_60, ln_61, ln_62, ln_63, ln_64, ln_65, ln_66, ln_67, ln_68, aN_2, aL_2, sN_2, sL_2, aN_3, aL_3, sN_3, sL_3, aN_4, aL_4, sN_4, sL_4, aN_7, aL_7, sN_7, sL_7, aN_9, aL_9, sN_9, sL_9, aN_11, aL_11, sN_11, sL_11, aN_13, aL_13, sN_13, sL_13, aN_15, aL_15, sN_15, sL_15, aN_17, aL_17, sN_17, sL_17, aN_19, aL_19, sN_19, sL_19, aN_22, aL_22, sN_22, sL_22, aN_25, aL_25, sN_25, sL_25, aN_27, aL_27, sN_27, sL_27, aN_29, aL_29, sN_29, sL_29, aN_31, aL_31, sN_31, sL_31, aN_32, aL_32, sN_32, sL_32, aN_35, aL_35, sN_35, sL_35, aN_36, aL_36, sN_36, sL_36, aN_41, aL_41, sN_41, sL_41, aN_42, aL_42, sN_42, sL_42, aN_46, aL_46, sN_46, sL_46, aN_47, aL_47, sN_47, sL_47, aN_49, aL_49, sN_49, sL_49, aN_50, aL_50, sN_50, sL_50, aN_51, aL_51, sN_51, sL_51, aN_52, aL_52, sN_52, sL_52, aN_53, aL_53, sN_53, sL_53, aN_54, aL_54, sN_54, sL_54, aN_55, aL_55, sN_55, sL_55, aN_56, aL_56, sN_56, sL_56, aN_57, aL_57, sN_57, sL_57, aN_58, aL_58, sN_58, sL_58, aN_59, aL_59, sN_59, sL_59, aN_60, aL_60, sN_60, sL_60, aN_61, aL_61, sN_61, sL_61, aN_66, aL_66, sN_66, sL_66, aN_67, aL_67, sN_67, sL_67, aN_68, aL_68, sN_68, sL_68, aN_23, sN_23, aN_43, sN_43, aN_44, sN_44, aN_62, sN_62, aN_63, sN_63, aN_64, sN_64, aN_65, sN_65, aN_1001, aN_1002, aq_5_0, aq_5_1, aq_5_2, aq_5_3, aq_5_4, aq_5_5, q_add, q_addl, q_ladd, q_sub, q_subl, q_lsub, q_mul, q_mull, q_lmul, q_le, q_lel, q_lle, q_lt, q_ltl, q_llt, q_eq, q_eql, q_leq, q_m1, q_1m, q_cl, q_nb, q_leT, q_leF, q_ltT, q_ltF, q_eqT, q_eqF, q_10, q_01, q_em, q_bT, q_bF, q_uS, q_uN, q_sA, q_sAn, q_sFn, q_sIn, q_sAF, sF_s, sI_s, sI_sI, sF_sF, nar0, nar1, b1_0, b1_1, b1_or, if_true, if_false, not_true_eq_false, not_false_eq_true, ↓reduceIte, Int32.reduceAdd, Int32.reduceSub, Int32.reduceMul, Int32.reduceLT, Int32.reduceLE, eq_self, Nat.reduceAdd, Nat.reduceSub, Nat.reduceMul, true_or, or_true, false_or, or_false, and_true, true_and, and_false, false_and, hI, hB q (by omega), M_whN ol orc I L g hC h1.2, e1, eq_true h2, eq_true h1, c10, true_or, or_true]
        rw [b1_f (fun z => h3 z.2.2.1)]
    · rw [b1_f (fun z => h2 z.2.1)]
      have := h1.2
      simp (disch := omega) only [f139_0, f139_1, f139_2, f139_5, f139_8, f139_9, f139_12, f139_13, f139_14, f139_17, f139_18, f139_19, f139_22, f139_25, f139_26, f139_29, f139_30, f139_31, f139_33, f139_36, f139_37, f139_40, f139_41, f139_42, f139_43, f139_44, f139_46, f139_49, f139_50, f139_53, f139_54, v139, pm_Pv_some, pm_Ph_some, pm_B_some, pm_B_none, is_0, fd_0_0, fd_0_1, fd_0_2, fd_0_3, fd_0_4, fd_0_5, is_1, fd_1_0, fd_1_1, fd_1_2, fd_1_3, fd_1_4, ln_2, ln_3, ln_4, is_6, fd_6_0, fd_6_1, fs_6_1, fd_6_2, fs_6_2, ln_7, is_8, fd_8_0, fd_8_1, fs_8_1, fd_8_2, fs_8_2, ln_9, is_10, fd_10_0, fd_10_1, fs_10_1, fd_10_2, fs_10_2, ln_11, is_12, fd_12_0, fd_12_1, fs_12_1, fd_12_2, fs_12_2, ln_13, is_14, fd_14_0, fd_14_1, fs_14_1, fd_14_2, fs_14_2, ln_15, is_16, fd_16_0, fd_16_1, fs_16_1, fd_16_2, fs_16_2, ln_17, is_18, fd_18_0, fd_18_1, fs_18_1, fd_18_2, fs_18_2, ln_19, is_20, fd_20_0, fd_20_1, is_21, fd_21_0, fd_21_1, fs_21_1, ln_22, ln_23, is_24, fd_24_0, fd_24_1, fs_24_1, ln_25, is_26, fd_26_0, fd_26_1, fs_26_1, fd_26_2, fd_26_3, fd_26_4, fd_26_5, fd_26_6, fs_26_6, fd_26_7, fs_26_7, fd_26_8, fs_26_8, ln_27, is_28, fd_28_0, fd_28_1, fs_28_1, ln_29, is_30, fd_30_0, fd_30_1, fd_30_2, ln_31, ln_32, is_33, fd_33_0, fd_33_1, fd_33_2, fd_33_3, fd_33_4, fs_33_4, is_34, fd_34_0, fd_34_1, fs_34_1, ln_35, ln_36, is_37, fd_37_0, fd_37_1, fd_37_2, fd_37_3, is_38, fd_38_0, fd_38_1, fd_38_2, fd_38_3, fd_38_4, fd_38_5, fd_38_6, is_39, fd_39_0, fd_39_1, fd_39_2, fs_39_2, fd_39_3, fs_39_3, is_40, fd_40_0, fd_40_1, fs_40_1, ln_41, ln_42, ln_43, ln_44, is_45, fd_45_0, fd_45_1, fd_45_2, ln_46, ln_47, is_48, fd_48_0, fs_48_0, fd_48_1, fd_48_2, fd_48_3, fd_48_4, fd_48_5, fd_48_6, fd_48_7, fd_48_8, fs_48_8, fd_48_9, fs_48_9, fd_48_10, fd_48_11, fs_48_11, fd_48_12, fd_48_13, fs_48_13, fd_48_14, fs_48_14, fd_48_15, fd_48_16, fd_48_17, fd_48_18, fs_48_18, fd_48_19, fs_48_19, fd_48_20, fd_48_21, fs_48_21, fd_48_22, fs_48_22, fd_48_23, fs_48_23, fd_48_24, fd_48_25, fd_48_26, fd_48_27, fd_48_28, fd_48_29, fd_48_30, fs_48_30, fd_48_31, ln_49, ln_50, ln_51, ln_52, ln_53, ln_54, ln_55, ln_56, ln_57, ln_58, ln_59, ln_60, ln_61, ln_62, ln_63, ln_64, ln_65, ln_66, ln_67, ln_68, aN_2, aL_2, sN_2, sL_2, aN_3, aL_3, sN_3, sL_3, aN_4, aL_4, sN_4, sL_4, aN_7, aL_7, sN_7, sL_7, aN_9, aL_9, sN_9, sL_9, aN_11, aL_11, sN_11, sL_11, aN_13, aL_13, sN_13, sL_13, aN_15, aL_15, sN_15, sL_15, aN_17, aL_17, sN_17, sL_17, aN_19, aL_19, sN_19, sL_19, aN_22, aL_22, sN_22, sL_22, aN_25, aL_25, sN_25, sL_25, aN_27, aL_27, sN_27, sL_27, aN_29, aL_29, sN_29, sL_29, aN_31, aL_31, sN_31, sL_31, aN_32, aL_32, sN_32, sL_32, aN_35, aL_35, sN_35, sL_35, aN_36, aL_36, sN_36, sL_36, aN_41, aL_41, sN_41, sL_41, aN_42, aL_42, sN_42, sL_42, aN_46, aL_46, sN_46, sL_46, aN_47, aL_47, sN_47, sL_47, aN_49, aL_49, sN_49, sL_49, aN_50, aL_50, sN_50, sL_50, aN_51, aL_51, sN_51, sL_51, aN_52, aL_52, sN_52, sL_52, aN_53, aL_53, sN_53, sL_53, aN_54, aL_54, sN_54, sL_54, aN_55, aL_55, sN_55, sL_55, aN_56, aL_56, sN_56, sL_56, aN_57, aL_57, sN_57, sL_57, aN_58, aL_58, sN_58, sL_58, aN_59, aL_59, sN_59, sL_59, aN_60, aL_60, sN_60, sL_60, aN_61, aL_61, sN_61, sL_61, aN_66, aL_66, sN_66, sL_66, aN_67, aL_67, sN_67, sL_67, aN_68, aL_68, sN_68, sL_68, aN_23, sN_23, aN_43, sN_43, aN_44, sN_44, aN_62, sN_62, aN_63, sN_63, aN_64, sN_64, aN_65, sN_65, aN_1001, aN_1002, aq_5_0, aq_5_1, aq_5_2, aq_5_3, aq_5_4, aq_5_5, q_add, q_addl, q_ladd, q_sub, q_subl, q_lsub, q_mul, q_mull, q_lmul, q_le, q_lel, q_lle, q_lt, q_ltl, q_llt, q_eq, q_eql, q_leq, q_m1, q_1m, q_cl, q_nb, q_leT, q_leF, q_ltT, q_ltF, q_eqT, q_eqF, q_10, q_01, q_em, q_bT, q_bF, q_uS, q_uN, q_sA, q_sAn, q_sFn, q_sIn, q_sAF, sF_s, sI_s, sI_sI, sF_sF, nar0, nar1, b1_0, b1_1, b1_or, if_true, if_false, not_true_eq_false, not_false_eq_true, ↓reduceIte, Int32.reduceAdd, Int32.reduceSub, Int32.reduceMul, Int32.reduceLT, Int32.reduceLE, eq_self, Nat.reduceAdd, Nat.reduceSub, Nat.reduceMul, true_or, or_true, false_or, or_false, and_true, true_and, and_false, false_and, hI, hB q (by omega), M_whN ol orc I L g hC h1.2, eq_false h2, eq_true h1, c10, true_or, or_true]
  · rw [b1_f (fun z => h1 z.1)]
    simp (disch := omega) only [f139_0, f139_1, f139_2, f139_5, f139_8, f139_9, f139_12, f139_13, f139_14, f139_17, f139_18, f139_19, f139_22, f139_25, f139_26, f139_29, f139_30, f139_31, f139_33, f139_36, f139_37, f139_40, f139_41, f139_42, f139_43, f139_44, f139_46, f139_49, f139_50, f139_53, f139_54, v139, pm_Pv_some, pm_Ph_some, pm_B_some, pm_B_none, is_0, fd_0_0, fd_0_1, fd_0_2, fd_0_3, fd_0_4, fd_0_5, is_1, fd_1_0, fd_1_1, fd_1_2, fd_1_3, fd_1_4, ln_2, ln_3, ln_4, is_6, fd_6_0, fd_6_1, fs_6_1, fd_6_2, fs_6_2, ln_7, is_8, fd_8_0, fd_8_1, fs_8_1, fd_8_2, fs_8_2, ln_9, is_10, fd_10_0, fd_10_1, fs_10_1, fd_10_2, fs_10_2, ln_11, is_12, fd_12_0, fd_12_1, fs_12_1, fd_12_2, fs_12_2, ln_13, is_14, fd_14_0, fd_14_1, fs_14_1, fd_14_2, fs_14_2, ln_15, is_16, fd_16_0, fd_16_1, fs_16_1, fd_16_2, fs_16_2, ln_17, is_18, fd_18_0, fd_18_1, fs_18_1, fd_18_2, fs_18_2, ln_19, is_20, fd_20_0, fd_20_1, is_21, fd_21_0, fd_21_1, fs_21_1, ln_22, ln_23, is_24, fd_24_0, fd_24_1, fs_24_1, ln_25, is_26, fd_26_0, fd_26_1, fs_26_1, fd_26_2, fd_26_3, fd_26_4, fd_26_5, fd_26_6, fs_26_6, fd_26_7, fs_26_7, fd_26_8, fs_26_8, ln_27, is_28, fd_28_0, fd_28_1, fs_28_1, ln_29, is_30, fd_30_0, fd_30_1, fd_30_2, ln_31, ln_32, is_33, fd_33_0, fd_33_1, fd_33_2, fd_33_3, fd_33_4, fs_33_4, is_34, fd_34_0, fd_34_1, fs_34_1, ln_35, ln_36, is_37, fd_37_0, fd_37_1, fd_37_2, fd_37_3, is_38, fd_38_0, fd_38_1, fd_38_2, fd_38_3, fd_38_4, fd_38_5, fd_38_6, is_39, fd_39_0, fd_39_1, fd_39_2, fs_39_2, fd_39_3, fs_39_3, is_40, fd_40_0, fd_40_1, fs_40_1, ln_41, ln_42, ln_43, ln_44, is_45, fd_45_0, fd_45_1, fd_45_2, ln_46, ln_47, is_48, fd_48_0, fs_48_0, fd_48_1, fd_48_2, fd_48_3, fd_48_4, fd_48_5, fd_48_6, fd_48_7, fd_48_8, fs_48_8, fd_48_9, fs_48_9, fd_48_10, fd_48_11, fs_48_11, fd_48_12, fd_48_13, fs_48_13, fd_48_14, fs_48_14, fd_48_15, fd_48_16, fd_48_17, fd_48_18, fs_48_18, fd_48_19, fs_48_19, fd_48_20, fd_48_21, fs_48_21, fd_48_22, fs_48_22, fd_48_23, fs_48_23, fd_48_24, fd_48_25, fd_48_26, fd_48_27, fd_48_28, fd_48_29, fd_48_30, fs_48_30, fd_48_31, ln_49, ln_50, ln_51, ln_52, ln_53, ln_54, ln_55, ln_56, ln_57, ln_58, ln_59, ln_60, ln_61, ln_62, ln_63, ln_64, ln_65, ln_66, ln_67, ln_68, aN_2, aL_2, sN_2, sL_2, aN_3, aL_3, sN_3, sL_3, aN_4, aL_4, sN_4, sL_4, aN_7, aL_7, sN_7, sL_7, aN_9, aL_9, sN_9, sL_9, aN_11, aL_11, sN_11, sL_11, aN_13, aL_13, sN_13, sL_13, aN_15, aL_15, sN_15, sL_15, aN_17, aL_17, sN_17, sL_17, aN_19, aL_19, sN_19, sL_19, aN_22, aL_22, sN_22, sL_22, aN_25, aL_25, sN_25, sL_25, aN_27, aL_27, sN_27, sL_27, aN_29, aL_29, sN_29, sL_29, aN_31, aL_31, sN_31, sL_31, aN_32, aL_32, sN_32, sL_32, aN_35, aL_35, sN_35, sL_35, aN_36, aL_36, sN_36, sL_36, aN_41, aL_41, sN_41, sL_41, aN_42, aL_42, sN_42, sL_42, aN_46, aL_46, sN_46, sL_46, aN_47, aL_47, sN_47, sL_47, aN_49, aL_49, sN_49, sL_49, aN_50, aL_50, sN_50, sL_50, aN_51, aL_51, sN_51, sL_51, aN_52, aL_52, sN_52, sL_52, aN_53, aL_53, sN_53, sL_53, aN_54, aL_54, sN_54, sL_54, aN_55, aL_55, sN_55, sL_55, aN_56, aL_56, sN_56, sL_56, aN_57, aL_57, sN_57, sL_57, aN_58, aL_58, sN_58, sL_58, aN_59, aL_59, sN_59, sL_59, aN_60, aL_60, sN_60, sL_60, aN_61, aL_61, sN_61, sL_61, aN_66, aL_66, sN_66, sL_66, aN_67, aL_67, sN_67, sL_67, aN_68, aL_68, sN_68, sL_68, aN_23, sN_23, aN_43, sN_43, aN_44, sN_44, aN_62, sN_62, aN_63, sN_63, aN_64, sN_64, aN_65, sN_65, aN_1001, aN_1002, aq_5_0, aq_5_1, aq_5_2, aq_5_3, aq_5_4, aq_5_5, q_add, q_addl, q_ladd, q_sub, q_subl, q_lsub, q_mul, q_mull, q_lmul, q_le, q_lel, q_lle, q_lt, q_ltl, q_llt, q_eq, q_eql, q_leq, q_m1, q_1m, q_cl, q_nb, q_leT, q_leF, q_ltT, q_ltF, q_eqT, q_eqF, q_10, q_01, q_em, q_bT, q_bF, q_uS, q_uN, q_sA, q_sAn, q_sFn, q_sIn, q_sAF, sF_s, sI_s, sI_sI, sF_sF, nar0, nar1, b1_0, b1_1, b1_or, if_true, if_false, not_true_eq_false, not_false_eq_true, ↓reduceIte, Int32.reduceAdd, Int32.reduceSub, Int32.reduceMul, Int32.reduceLT, Int32.reduceLE, eq_self, Nat.reduceAdd, Nat.reduceSub, Nat.reduceMul, true_or, or_true, false_or, or_false, and_true, true_and, and_false, false_and, hI, hB q (by omega), eq_false h1, c10, true_or, or_true, ite_self]
theorem V_makes {A : Nat → Nat → Int32} {cs : Nat} {cb : Nat → Nat} (hC : hCode cs cb A I) (hB : ∀ j, j < 48 → A 23 j = b1 (bgN cs cb j)) {q : Nat} (hq : q < 48) : pm_V ol orc 23 [.ref 20, .int (nI q)] (mk A I L g) = some (some (.int (b1 (mkN cs cb q))), mk A I L g) := by
  rw [V_isNewOfClass]
  have h48 := hC.1
  have e : (((0 ≤ nI q ∧ nI q < 48) ∧ ¬ A 23 (nI q).toNatClampNeg = 0) ∧ cdI A I (nI q) = 14 ∧ 0 ≤ cdI A I (nI q + 1) ∧ cdI A I (nI q + 1) < 8) = mkN cs cb q := by
    rw [nI_1]
    simp (disch := omega) only [q_add, q_addl, q_ladd, q_sub, q_subl, q_lsub, q_mul, q_mull, q_lmul, q_le, q_lel, q_lle, q_lt, q_ltl, q_llt, q_eq, q_eql, q_leq, q_m1, q_1m, q_cl, q_nb, q_leT, q_leF, q_ltT, q_ltF, q_eqT, q_eqF, q_10, q_01, q_em, q_bT, q_bF, q_uS, q_uN, q_sA, q_sAn, q_sFn, q_sIn, q_sAF, sF_s, sI_s, sI_sI, sF_sF, nar0, nar1, b1_0, b1_1, b1_or, if_true, if_false, not_true_eq_false, not_false_eq_true, ↓reduceIte, Int32.reduceAdd, Int32.reduceSub, Int32.reduceMul, Int32.reduceLT, Int32.reduceLE, eq_self, Nat.reduceAdd, Nat.reduceSub, Nat.reduceMul, true_or, or_true, false_or, or_false, and_true, true_and, and_false, false_and, hB q hq, Decidable.not_not]
    apply propext
    by_cases h1 : bgN cs cb q
    · have hcb := hC.2.1 q h1.2
      rw [cd_in hC h1.2]
      by_cases h3 : cb q = 14
      · by_cases hq1 : q + 1 < cs
        · have hcb2 := hC.2.1 _ hq1
          rw [cd_in hC hq1]
          have h2 : wlN cs cb q := ⟨by omega, by unfold nxN; rw [if_pos (by omega)]; omega⟩
          have a1 : nI (cb q) = 14 := by rw [h3]; rfl
          have a2 : 0 ≤ nI (cb (q + 1)) := nI_pos' (by omega)
          have a3 : nI (cb (q + 1)) < 8 ↔ cb (q + 1) < 8 := nI_ltI (b := 8) (by omega) (by decide)
          exact ⟨fun z => ⟨h1, h2, h3, a3.mp z.2.2.2⟩, fun z => ⟨h1, a1, a2, a3.mpr z.2.2.2⟩⟩
        · rw [cd_out hC (by omega) (by omega)]
          constructor
          · intro z
            exact absurd z.2.2.1 (by decide)
          · intro z
            have := z.2.1.2
            unfold nxN at this
            rw [if_pos (by omega)] at this
            omega
      · exact ⟨fun z => absurd ((nI_eq (b := 14) (by omega) (by decide)).mp z.2.1) h3, fun z => absurd z.2.2.1 h3⟩
    · exact ⟨fun z => absurd z.1 h1, fun z => absurd z.1 h1⟩
  simp only [e]
theorem V_bgN {A : Nat → Nat → Int32} {cs : Nat} {cb : Nat → Nat} (h48 : cs ≤ 48) (hB : ∀ j, j < 48 → A 23 j = b1 (bgN cs cb j)) {q : Nat} (hq : q < 2 ^ 30) : pm_V ol orc 22 [.ref 20, .int (nI q)] (mk A I L g) = some (some (.int (b1 (bgN cs cb q))), mk A I L g) := by
  rw [V_begins]
  have e : ((0 ≤ nI q ∧ nI q < 48) ∧ ¬ A 23 (nI q).toNatClampNeg = 0) = bgN cs cb q := by
    by_cases h1 : q < 48
    · simp (disch := omega) only [q_add, q_addl, q_ladd, q_sub, q_subl, q_lsub, q_mul, q_mull, q_lmul, q_le, q_lel, q_lle, q_lt, q_ltl, q_llt, q_eq, q_eql, q_leq, q_m1, q_1m, q_cl, q_nb, q_leT, q_leF, q_ltT, q_ltF, q_eqT, q_eqF, q_10, q_01, q_em, q_bT, q_bF, q_uS, q_uN, q_sA, q_sAn, q_sFn, q_sIn, q_sAF, sF_s, sI_s, sI_sI, sF_sF, nar0, nar1, b1_0, b1_1, b1_or, if_true, if_false, not_true_eq_false, not_false_eq_true, ↓reduceIte, Int32.reduceAdd, Int32.reduceSub, Int32.reduceMul, Int32.reduceLT, Int32.reduceLE, eq_self, Nat.reduceAdd, Nat.reduceSub, Nat.reduceMul, true_or, or_true, false_or, or_false, and_true, true_and, and_false, false_and, hB q h1, Decidable.not_not]
    · simp (disch := omega) only [q_add, q_addl, q_ladd, q_sub, q_subl, q_lsub, q_mul, q_mull, q_lmul, q_le, q_lel, q_lle, q_lt, q_ltl, q_llt, q_eq, q_eql, q_leq, q_m1, q_1m, q_cl, q_nb, q_leT, q_leF, q_ltT, q_ltF, q_eqT, q_eqF, q_10, q_01, q_em, q_bT, q_bF, q_uS, q_uN, q_sA, q_sAn, q_sFn, q_sIn, q_sAF, sF_s, sI_s, sI_sI, sF_sF, nar0, nar1, b1_0, b1_1, b1_or, if_true, if_false, not_true_eq_false, not_false_eq_true, ↓reduceIte, Int32.reduceAdd, Int32.reduceSub, Int32.reduceMul, Int32.reduceLT, Int32.reduceLE, eq_self, Nat.reduceAdd, Nat.reduceSub, Nat.reduceMul, true_or, or_true, false_or, or_false, and_true, true_and, and_false, false_and]
      exact (eq_false (fun z => absurd z.2 (by omega))).symm
  simp only [e]
end BEM
