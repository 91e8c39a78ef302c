/-! fits and meet: the class's and the reference's -/
abbrev fitsP (P : Nat → Nat) (t u : Int32) : Prop := u = 0 ∨ t = u ∨ (tObj u ∧ (t = 2 ∨ tObj t ∧ bel P (t - 16).toNatClampNeg (u - 16).toNatClampNeg))
abbrev meetP (P : Nat → Nat) (t u : Int32) : Int32 := if t = u then t else if t = 2 ∧ tObj u then u else if u = 2 ∧ tObj t then t else if tObj t ∧ tObj u then 16 + nI (lca P 16 (t - 16).toNatClampNeg (u - 16).toNatClampNeg) else 0
theorem obj_of {t : Int32} (h : tObj t) : ∃ c, c < 8 ∧ t - 16 = nI c ∧ (t - 16).toNatClampNeg = c := by
  rcases pk_ix (t - 16) (n := 8) (by decide) with q | q | ⟨j, hj, e⟩
  · grind
  · have : (8 : Int32) ≤ t - 16 := q
    grind
  · exact ⟨j, hj, e, by rw [e]; exact clampN (by omega)⟩
section LAT
variable (ol : pm_O) (orc : pm_Q) (A I : Nat → Nat → Int32) (L : Nat → Int64) (g : pm_H) (t u : Int32)
theorem V_shl {P : Nat → Nat} (hP : okP P) (hA : ∀ c, c < 8 → A 2 c = nI (P c)) : ∀ (n a b : Nat), a < 8 → b < 8 → n ≤ 16 → pm_F ol orc 95 2 [(0, .ref 1), (1, .int (nI a)), (2, .int (nI b)), (3, .int (nI (16 - n)))] [] (mk A I L g) = some (some (.int (nI (lca P n a b))), mk A I L g) := by
  intro n
  induction n with
  | zero =>
    intro a b ha hb hn
    have e : ((16 : Int32) ≤ nI (16 - 0)) = True := by decide
    simp only [f95_0, f95_1, f95_2, f95_3, f95_5, f95_8, f95_9, f95_10, f95_13, f95_14, f95_15, f95_18, f95_19, f95_22, f95_23, f95_24, f95_25, f95_28, f95_29, f95_32, f95_33, f95_34, f95_35, f95_38, f95_41, f95_42, v95, e, if_true]
    rfl
  | succ n ih =>
    intro a b ha hb hn
    have e : ((16 : Int32) ≤ nI (16 - (n + 1))) = False := eq_false (nI_ge (a := 16 - (n + 1)) (b := 16) (by omega) (by decide))
    have e1 : (nI a = nI b) = (a = b) := propext (nI_eq (by omega) (by omega))
    have e2 : (nI a ≤ nI b) = (a ≤ b) := propext (nI_leI (by omega) (by omega))
    have e3 : nI (16 - (n + 1)) + 1 = nI (16 - n) := by rw [nI_1]; congr 1; omega
    have hPa : P a < 8 := by
      rcases Nat.eq_zero_or_pos a with rfl | q
      · rw [hP.1]; omega
      · have := hP.2 a q ha; omega
    have hPb : P b < 8 := by
      rcases Nat.eq_zero_or_pos b with rfl | q
      · rw [hP.1]; omega
      · have := hP.2 b q hb; omega
    rw [f95_2]
    simp only [f95_0, f95_1, f95_3, f95_5, f95_8, f95_9, f95_10, f95_13, f95_14, f95_15, f95_18, f95_19, f95_22, f95_23, f95_24, f95_25, f95_28, f95_29, f95_32, f95_33, f95_34, f95_35, f95_38, f95_41, f95_42, v95, pm_Pv_some, pm_Ph_some, pm_B_some, pm_B_none, e, if_false, e1, e2, fd_1_0, ai_2 _ _ _ _ _ _ (inb_nI ha (by decide)), ai_2 _ _ _ _ _ _ (inb_nI hb (by decide)), clampN (show a < 2 ^ 31 by omega), clampN (show b < 2 ^ 31 by omega), hA a ha, hA b hb, e3]
    unfold lca
    by_cases h : a = b
    · rw [if_pos h, if_pos h]
    · rw [if_neg h, if_neg h]
      by_cases h2 : b < a
      · rw [if_pos h2, if_neg (by omega), ih (P a) b hPa hb (by omega)]
      · rw [if_neg h2, if_pos (by omega), ih a (P b) ha hPb (by omega)]
theorem V_shared {P : Nat → Nat} (hP : okP P) (hA : ∀ c, c < 8 → A 2 c = nI (P c)) {a b : Nat} (ha : a < 8) (hb : b < 8) : pm_V ol orc 95 [.ref 1, .int (nI a), .int (nI b)] (mk A I L g) = some (some (.int (nI (lca P 16 a b))), mk A I L g) := by
  rw [v95, f95_0, f95_1]
  exact V_shl ol orc A I L g hP hA 16 a b ha hb (by omega)
theorem M_bl {P : Nat → Nat} (hP : okP P) (hA : ∀ c, c < 8 → A 49 c = nI (P c)) {d : Nat} (hd : d < 8) : ∀ (n a : Nat), a < 8 → a ≤ n → pm_F ol orc 116 2 [(0, .ref 48), (2, .int (nI d)), (3, .int (nI a))] [] (mk A I L g) = some (some (.int (b1 (dn P d n a = d))), mk A I L g) := by
  intro n
  induction n with
  | zero =>
    intro a ha hn
    have : a = 0 := by omega
    subst this
    have e2 : (nI 0 ≤ nI d) = True := eq_true (nI_le (by omega) (by omega))
    have e3 : (nI 0 = nI d) = (0 = d) := propext (nI_eq (by omega) (by omega))
    simp only [f116_0, f116_1, f116_2, f116_3, f116_4, f116_7, f116_8, f116_11, f116_12, f116_13, f116_14, f116_17, f116_18, f116_19, f116_22, f116_23, f116_26, f116_27, v116, e2, if_true, e3]
    show _ = some (some (Value.int (b1 (0 = d))), mk A I L g)
    grind [b1]
  | succ n ih =>
    intro a ha hn
    have e2 : (nI a ≤ nI d) = (a ≤ d) := propext (nI_leI (by omega) (by omega))
    have e3 : (nI a = nI d) = (a = d) := propext (nI_eq (by omega) (by omega))
    rw [f116_2]
    simp only [f116_0, f116_1, f116_3, f116_4, f116_7, f116_8, f116_11, f116_12, f116_13, f116_14, f116_17, f116_18, f116_19, f116_22, f116_23, f116_26, f116_27, v116, pm_Pv_some, pm_Ph_some, pm_B_some, pm_B_none, e2, e3, fd_48_1, ai_49 _ _ _ _ _ _ (inb_nI ha (by decide)), clampN (show a < 2 ^ 31 by omega), hA a ha]
    unfold dn
    by_cases h : d < a
    · have := hP.2 a (by omega) ha
      rw [if_neg (by omega), ih (P a) (by omega) (by omega)]
      simp only [if_pos h]
    · rw [if_pos (by omega)]
      simp only [if_neg h]
      grind [b1]
theorem M_isBelow {P : Nat → Nat} (hP : okP P) (hA : ∀ c, c < 8 → A 49 c = nI (P c)) {a d : Nat} (ha : a < 8) (hd : d < 8) : pm_V ol orc 116 [.ref 48, .int (nI a), .int (nI d)] (mk A I L g) = some (some (.int (b1 (bel P a d))), mk A I L g) := by
  rw [v116, f116_0, f116_1]
  exact M_bl ol orc A I L g hP hA hd 8 a ha (by omega)
theorem V_fits {P : Nat → Nat} (hP : okP P) (hA : ∀ c, c < 8 → A 2 c = nI (P c)) : pm_V ol orc 96 [.ref 1, .int t, .int u] (mk A I L g) = some (some (.int (b1 (fitsP P t u))), mk A I L g) := by
  simp only [f96_0, f96_1, f96_4, f96_5, f96_6, f96_9, f96_10, f96_11, f96_12, f96_15, f96_18, f96_19, f96_20, f96_21, f96_22, f96_25, f96_26, f96_27, f96_28, f96_31, f96_34, f96_35, f96_36, f96_38, f96_39, f96_40, f96_42, f96_43, f96_46, f96_47, f96_49, f96_50, f96_53, f96_54, f96_57, f96_58, v96, pm_Pv_some, pm_Ph_some, pm_B_some, pm_B_none, V_isObject, b1_0, is_1, if_true]
  by_cases h : tObj t ∧ tObj u
  · obtain ⟨a, ha, ea, eb⟩ := obj_of h.1
    obtain ⟨b, hb, ec, ed⟩ := obj_of h.2
    have hv := V_shared ol orc A I L g hP hA ha hb
    rw [← ea, ← ec] at hv
    simp only [hv, f96_0, f96_1, f96_4, f96_5, f96_6, f96_9, f96_10, f96_11, f96_12, f96_15, f96_18, f96_19, f96_20, f96_21, f96_22, f96_25, f96_26, f96_27, f96_28, f96_31, f96_34, f96_35, f96_36, f96_38, f96_39, f96_40, f96_42, f96_43, f96_46, f96_47, f96_49, f96_50, f96_53, f96_54, f96_57, f96_58, v96, pm_Pv_some, pm_Ph_some, pm_B_some, pm_B_none]
    have e := lca_bel hP 16 a b ha hb (by omega)
    have e2 : (nI (lca P 16 a b) = nI b) = bel P a b := by
      rw [← propext e]
      have := lca_le hP 16 a b ha hb
      exact propext (nI_eq (by omega) (by omega))
    have ef : fitsP P t u = (u = 0 ∨ t = u ∨ (tObj u ∧ (t = 2 ∨ tObj t ∧ bel P a b))) := by unfold fitsP; rw [eb, ed]
    simp only [e2, ec, ef]
    grind [b1]
  · unfold fitsP
    grind [b1]
theorem M_fits {P : Nat → Nat} (hP : okP P) (hA : ∀ c, c < 8 → A 49 c = nI (P c)) : pm_V ol orc 117 [.ref 48, .int t, .int u] (mk A I L g) = some (some (.int (b1 (fitsP P t u))), mk A I L g) := by
  simp only [f117_0, f117_1, f117_4, f117_5, f117_6, f117_9, f117_10, f117_11, f117_14, f117_15, f117_18, f117_21, f117_22, f117_25, f117_28, f117_29, f117_32, f117_35, f117_36, f117_37, f117_39, f117_40, f117_41, f117_43, f117_44, f117_47, f117_50, f117_51, f117_54, f117_55, v117, pm_Pv_some, pm_Ph_some, pm_B_some, pm_B_none, M_isObject, b1_0, is_48, if_true]
  by_cases h : tObj t ∧ tObj u
  · obtain ⟨a, ha, ea, eb⟩ := obj_of h.1
    obtain ⟨b, hb, ec, ed⟩ := obj_of h.2
    have hv := M_isBelow ol orc A I L g hP hA ha hb
    rw [← ea, ← ec] at hv
    have ef : fitsP P t u = (u = 0 ∨ t = u ∨ (tObj u ∧ (t = 2 ∨ tObj t ∧ bel P a b))) := by unfold fitsP; rw [eb, ed]
    simp only [hv, f117_0, f117_1, f117_4, f117_5, f117_6, f117_9, f117_10, f117_11, f117_14, f117_15, f117_18, f117_21, f117_22, f117_25, f117_28, f117_29, f117_32, f117_35, f117_36, f117_37, f117_39, f117_40, f117_41, f117_43, f117_44, f117_47, f117_50, f117_51, f117_54, f117_55, v117, pm_Pv_some, pm_Ph_some, pm_B_some, pm_B_none, b1_0, ef]
    grind [b1]
  · unfold fitsP
    grind [b1]
theorem V_meet {P : Nat → Nat} (hP : okP P) (hA : ∀ c, c < 8 → A 2 c = nI (P c)) : pm_V ol orc 97 [.ref 1, .int t, .int u] (mk A I L g) = some (some (.int (meetP P t u)), mk A I L g) := by
  simp only [f97_0, f97_1, f97_2, f97_5, f97_6, f97_7, f97_8, f97_9, f97_12, f97_13, f97_16, f97_19, f97_20, f97_21, f97_22, f97_23, f97_26, f97_27, f97_30, f97_33, f97_34, f97_35, f97_36, f97_39, f97_42, f97_43, f97_46, f97_49, f97_51, f97_52, f97_53, f97_55, f97_56, f97_57, f97_59, f97_60, f97_63, f97_64, f97_65, f97_66, v97, pm_Pv_some, pm_Ph_some, pm_B_some, pm_B_none, V_isObject, b1_0, is_1, if_true]
  by_cases h : tObj t ∧ tObj u
  · obtain ⟨a, ha, ea, eb⟩ := obj_of h.1
    obtain ⟨b, hb, ec, ed⟩ := obj_of h.2
    have hv := V_shared ol orc A I L g hP hA ha hb
    rw [← ea, ← ec] at hv
    simp only [hv, f97_0, f97_1, f97_2, f97_5, f97_6, f97_7, f97_8, f97_9, f97_12, f97_13, f97_16, f97_19, f97_20, f97_21, f97_22, f97_23, f97_26, f97_27, f97_30, f97_33, f97_34, f97_35, f97_36, f97_39, f97_42, f97_43, f97_46, f97_49, f97_51, f97_52, f97_53, f97_55, f97_56, f97_57, f97_59, f97_60, f97_63, f97_64, f97_65, f97_66, v97, pm_Pv_some, pm_Ph_some, pm_B_some, pm_B_none]
    unfold meetP
    rw [eb, ed]
    grind
  · unfold meetP
    grind
theorem M_mtl {P : Nat → Nat} (hP : okP P) (hA : ∀ c, c < 8 → A 49 c = nI (P c)) {b : Nat} (hb : b < 8) (hu : u - 16 = nI b) : ∀ (n c : Nat), c < 8 → c < n → pm_F ol orc 118 56 [(0, .ref 48), (2, .int u), (3, .int (nI c))] [] (mk A I L g) = some (some (.int (16 + nI (mtM P b n c))), mk A I L g) := by
  intro n
  induction n with
  | zero => intro c _ h; omega
  | succ n ih =>
    intro c hc hn
    rw [f118_56]
    simp only [f118_0, f118_1, f118_2, f118_5, f118_6, f118_7, f118_8, f118_9, f118_12, f118_13, f118_16, f118_19, f118_20, f118_21, f118_22, f118_23, f118_26, f118_27, f118_30, f118_33, f118_34, f118_35, f118_36, f118_39, f118_42, f118_43, f118_46, f118_49, f118_50, f118_51, f118_52, f118_54, f118_55, f118_57, f118_58, f118_60, f118_61, f118_62, f118_65, f118_68, f118_69, f118_72, f118_73, f118_74, f118_75, f118_78, f118_80, f118_81, f118_82, v118, pm_Pv_some, pm_Ph_some, pm_B_some, pm_B_none, is_48, if_true, hu, M_isBelow ol orc A I L g hP hA hb hc, b1_0, fd_48_1, ai_49 _ _ _ _ _ _ (inb_nI hc (by decide)), clampN (show c < 2 ^ 31 by omega), hA c hc]
    unfold mtM
    by_cases h : bel P b c
    · rw [if_pos (by simpa using h), if_pos h]
    · rw [if_neg (by simpa using h), if_neg h]
      rcases Nat.eq_zero_or_pos c with rfl | q
      · exfalso
        apply h
        have key : ∀ (n a : Nat), a < 8 → a ≤ n → dn P 0 n a = 0 := by
          intro n
          induction n with
          | zero =>
            intro a _ h
            have : a = 0 := by omega
            subst this; rfl
          | succ n ih2 =>
            intro a ha h
            show (if 0 < a then dn P 0 n (P a) else a) = 0
            split
            · rename_i q
              have := hP.2 a q ha
              exact ih2 (P a) (by omega) (by omega)
            · omega
        exact key 8 b hb (by omega)
      · have := hP.2 c q hc
        exact ih (P c) (by omega) (by omega)
theorem M_meet {P : Nat → Nat} (hP : okP P) (hA : ∀ c, c < 8 → A 49 c = nI (P c)) : pm_V ol orc 118 [.ref 48, .int t, .int u] (mk A I L g) = some (some (.int (meetP P t u)), mk A I L g) := by
  simp only [f118_0, f118_1, f118_2, f118_5, f118_6, f118_7, f118_8, f118_9, f118_12, f118_13, f118_16, f118_19, f118_20, f118_21, f118_22, f118_23, f118_26, f118_27, f118_30, f118_33, f118_34, f118_35, f118_36, f118_39, f118_42, f118_43, f118_46, f118_49, f118_50, f118_51, f118_52, f118_54, f118_55, f118_57, f118_58, f118_60, f118_61, f118_62, f118_65, f118_68, f118_69, f118_72, f118_73, f118_74, f118_75, f118_78, f118_80, f118_81, f118_82, v118, pm_Pv_some, pm_Ph_some, pm_B_some, pm_B_none, M_isObject, b1_0]
  by_cases h : tObj t ∧ tObj u
  · obtain ⟨a, ha, ea, eb⟩ := obj_of h.1
    obtain ⟨b, hb, ec, ed⟩ := obj_of h.2
    rw [ea, M_mtl ol orc A I L g u hP hA hb ec 8 a ha (by omega), mtM_lca hP 16 a b ha hb (by omega)]
    unfold meetP
    rw [eb, ed]
    grind
  · unfold meetP
    grind
end LAT
