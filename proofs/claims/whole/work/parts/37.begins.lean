/-! where instructions begin: both sides -/
abbrev hsN (n : Nat) : Prop := n = 1 ∨ (3 ≤ n ∧ n ≤ 6) ∨ (11 ≤ n ∧ n ≤ 14) ∨ (16 ≤ n ∧ n ≤ 18) ∨ n = 20
theorem hs_nI : ∀ n, n < 256 → hsP (nI n) = hsN n := by
  have : ∀ n, n < 256 → decide (hsP (nI n)) = decide (hsN n) := by decide +kernel
  intro n hn
  have h := this n hn
  rw [decide_eq_decide] at h
  exact propext h
abbrev nxN (cb : Nat → Nat) (q : Nat) : Nat := if hsN (cb q) then q + 2 else q + 1
abbrev wlN (cs : Nat) (cb : Nat → Nat) (q : Nat) : Prop := cb q < 22 ∧ nxN cb q ≤ cs
def hCode (cs : Nat) (cb : Nat → Nat) (A I : Nat → Nat → Int32) : Prop := cs ≤ 48 ∧ (∀ j, j < cs → cb j < 256) ∧ I 21 1 = nI cs ∧ ∀ j, j < cs → A 22 j = nI (cb j)
def hCodM (cs : Nat) (cb : Nat → Nat) (A I : Nat → Nat → Int32) : Prop := cs ≤ 48 ∧ (∀ j, j < cs → cb j < 256) ∧ I 48 11 = nI cs ∧ ∀ j, j < cs → A 56 j = nI (cb j)
theorem cd_in {cs : Nat} {cb : Nat → Nat} {A I : Nat → Nat → Int32} (h : hCode cs cb A I) {q : Nat} (hq : q < cs) : cdI A I (nI q) = nI (cb q) := by
  obtain ⟨h1, h2, h3, h4⟩ := h
  unfold cdI
  rw [h3, if_pos ⟨nI_pos' (by omega), nI_lt hq (by omega), nI_lt (b := 48) (by omega) (by decide)⟩, clampN (by omega), h4 q hq]
theorem cd_out {cs : Nat} {cb : Nat → Nat} {A I : Nat → Nat → Int32} (h : hCode cs cb A I) {q : Nat} (hq : cs ≤ q) (hq2 : q < 2 ^ 31) : cdI A I (nI q) = -1 := by
  obtain ⟨h1, h2, h3, h4⟩ := h
  unfold cdI
  rw [h3, if_neg]
  rintro ⟨-, g, -⟩
  exact nI_nlt hq (by omega) g
def nxF (cs : Nat) (cb : Nat → Nat) : Nat → Nat
  | 0 => 0
  | k + 1 => if nxF cs cb k = k ∧ k < cs ∧ wlN cs cb k then nxN cb k else nxF cs cb k
abbrev bgN (cs : Nat) (cb : Nat → Nat) (k : Nat) : Prop := nxF cs cb k = k ∧ k < cs
theorem nxF_le (cs : Nat) (cb : Nat → Nat) : ∀ k, nxF cs cb k ≤ k + 1 := by
  intro k
  induction k with
  | zero => exact Nat.zero_le _
  | succ k ih =>
    unfold nxF
    split
    · unfold nxN
      split <;> omega
    · omega
theorem nxF_stay {cs : Nat} {cb : Nat → Nat} {p : Nat} (h : nxF cs cb p = p) (hn : ¬ (p < cs ∧ wlN cs cb p)) : ∀ d, nxF cs cb (p + d) = p := by
  intro d
  induction d with
  | zero => exact h
  | succ d ih =>
    show (if nxF cs cb (p + d) = p + d ∧ p + d < cs ∧ wlN cs cb (p + d) then _ else _) = p
    rw [if_neg]
    · exact ih
    rintro ⟨g1, g2, g3⟩
    have : d = 0 := by omega
    subst this
    exact hn ⟨g2, g3⟩
theorem nxF_go {cs : Nat} {cb : Nat → Nat} {p : Nat} (h : nxF cs cb p = p) (h1 : p < cs) (h2 : wlN cs cb p) : nxF cs cb (p + 1) = nxN cb p ∧ nxF cs cb (nxN cb p) = nxN cb p := by
  have e : nxF cs cb (p + 1) = nxN cb p := by
    show (if nxF cs cb p = p ∧ p < cs ∧ wlN cs cb p then _ else _) = _
    rw [if_pos ⟨h, h1, h2⟩]
  refine ⟨e, ?_⟩
  unfold nxN at e ⊢
  split
  · rename_i q
    rw [if_pos q] at e
    show (if nxF cs cb (p + 1) = p + 1 ∧ p + 1 < cs ∧ wlN cs cb (p + 1) then _ else nxF cs cb (p + 1)) = _
    rw [e, if_neg (by omega)]
  · rename_i q
    rw [if_neg q] at e
    exact e
theorem sA_s (A : Nat → Nat → Int32) (a i : Nat) (x : Int32) : sA A a i x a i = x := by unfold sA; rw [sF_s]; exact pk_us
theorem sA_o (A : Nat → Nat → Int32) {a b : Nat} (i : Nat) (x : Int32) (h : ¬ b = a) : sA A a i x b = A b := sF_n _ _ h
theorem hCode.sA {cs : Nat} {cb : Nat → Nat} {A I : Nat → Nat → Int32} (h : hCode cs cb A I) {a : Nat} (ha : ¬ 22 = a) (f : Nat → Int32) : hCode cs cb (sF A a f) I := ⟨h.1, h.2.1, h.2.2.1, fun j hj => by rw [sF_n _ _ ha]; exact h.2.2.2 j hj⟩
theorem hCodM.sA {cs : Nat} {cb : Nat → Nat} {A I : Nat → Nat → Int32} (h : hCodM cs cb A I) {a : Nat} (ha : ¬ 56 = a) (f : Nat → Int32) : hCodM cs cb (sF A a f) I := ⟨h.1, h.2.1, h.2.2.1, fun j hj => by rw [sF_n _ _ ha]; exact h.2.2.2 j hj⟩
theorem nar1 : vp_nar .boolean 1 = 1 := rfl
theorem nar0 : vp_nar .boolean 0 = 0 := rfl
section BEG
variable (Ls : Nat) (xs : Nat → Int32) (ol : pm_O) (orc : pm_Q) (I : Nat → Nat → Int32) (L : Nat → Int64) (g : pm_H)
theorem V_behN {A : Nat → Nat → Int32} {cs : Nat} {cb : Nat → Nat} (h : hCode cs cb A I) {q : Nat} (hq : q < cs) : pm_V (pm_ol Ls xs) orc 18 [.ref 20, .int (nI q)] (mk A I L g) = some (some (.int (nI (nxN cb q))), mk A I L g) := by
  rw [V_behind, cd_in h hq]
  unfold nxN
  simp only [hs_nI _ (h.2.1 q hq)]
  split
  · exact congrArg (fun z => some (some (Value.int z), mk A I L g)) (nI_add q 2)
  · exact congrArg (fun z => some (some (Value.int z), mk A I L g)) (nI_add q 1)
theorem V_whN {A : Nat → Nat → Int32} {cs : Nat} {cb : Nat → Nat} (h : hCode cs cb A I) {q : Nat} (hq : q < cs) : pm_V (pm_ol Ls xs) orc 19 [.ref 20, .int (nI q)] (mk A I L g) = some (some (.int (b1 (wlN cs cb q))), mk A I L g) := by
  rw [V_isWhole, cd_in h hq]
  have hb := h.2.1 q hq
  have e : ((0 ≤ nI (cb q) ∧ nI (cb q) < 22) ∧ (if hsP (nI (cb q)) then nI q + 2 else nI q + 1) ≤ I 21 1) = wlN cs cb q := by
    rw [h.2.2.1]
    have a1 : (0 ≤ nI (cb q)) = True := eq_true (nI_pos' (by omega))
    have a2 : (nI (cb q) < 22) = (cb q < 22) := propext (nI_ltI (b := 22) (by omega) (by decide))
    have a3 : (if hsP (nI (cb q)) then nI q + 2 else nI q + 1) = nI (nxN cb q) := by
      unfold nxN
      simp only [hs_nI _ hb]
      split
      · exact nI_add q 2
      · exact nI_add q 1
    have h48 := h.1
    have hnx : nxN cb q ≤ q + 2 := by unfold nxN; split <;> omega
    have a4 : (nI (nxN cb q) ≤ nI cs) = (nxN cb q ≤ cs) := propext (nI_leI (by omega) (by omega))
    rw [a3, a4, a2]
    simp [a1]
  simp only [e]
theorem V_fbl {cs : Nat} {cb : Nat → Nat} : ∀ (n k : Nat) (A : Nat → Nat → Int32), n + k = 48 → hCode cs cb A I → pm_F (pm_ol Ls xs) orc 21 4 [(0, .ref 20), (1, .int (nI (nxF cs cb k))), (2, .int (nI k))] [] (mk A I L g) = some (none, mk (sF A 23 (fun j => if k ≤ j ∧ j < 48 then b1 (bgN cs cb j) else A 23 j)) I L g) := by
  intro n
  induction n with
  | zero =>
    intro k A hk hC
    have e : ((48 : Int32) ≤ nI k) = True := eq_true (nI_le (a := 48) (by omega) (by omega))
    simp only [f21_0, f21_1, f21_2, f21_3, f21_4, f21_5, f21_7, f21_10, f21_11, f21_14, f21_15, f21_16, f21_17, f21_20, f21_21, f21_22, f21_25, f21_28, f21_29, f21_32, f21_33, f21_34, f21_35, f21_38, f21_39, f21_40, f21_43, f21_44, f21_45, f21_48, f21_51, f21_52, f21_53, f21_56, f21_57, f21_60, f21_63, v21, e, if_true]
    have : (fun j => if k ≤ j ∧ j < 48 then b1 (bgN cs cb j) else A 23 j) = A 23 := by
      funext j
      rw [if_neg (by omega)]
    rw [this, sF_id]
  | succ n ih =>
    intro k A hk hC
    have hle := nxF_le cs cb k
    have h48 := hC.1
    have e : ((48 : Int32) ≤ nI k) = False := eq_false (nI_ge (b := 48) (by omega) (by decide))
    have e1 : (nI k = nI (nxF cs cb k)) = (nxF cs cb k = k) := propext ((nI_eq (by omega) (by omega)).trans eq_comm)
    have e2 : (nI cs ≤ nI k) = (cs ≤ k) := propext (nI_leI (by omega) (by omega))
    have e3 : nI k + 1 = nI (k + 1) := nI_1 k
    have hib : inb (nI k) 48 := inb_nI (by omega) (by decide)
    have hck : (nI k).toNatClampNeg = k := clampN (by omega)
    have fin : ∀ v : Int32, v = b1 (bgN cs cb k) → sF (sA A 23 k v) 23 (fun j => if k + 1 ≤ j ∧ j < 48 then b1 (bgN cs cb j) else sA A 23 k v 23 j) = sF A 23 (fun j => if k ≤ j ∧ j < 48 then b1 (bgN cs cb j) else A 23 j) := by
      intro v hv
      unfold sA
      rw [sF_sF]
      congr 1
      funext j
      rw [sF_s]
      by_cases hj : j = k
      · subst hj
        rw [if_neg (by omega), if_pos (by omega), pk_us, hv]
      · rw [pk_un hj]
        by_cases h2 : k + 1 ≤ j ∧ j < 48
        · rw [if_pos h2, if_pos (by omega)]
        · rw [if_neg h2, if_neg (by omega)]
    rw [f21_4]
    by_cases hb : bgN cs cb k
    · have c1 : (¬ nxF cs cb k = k) = False := by simp [hb.1]
      have c2 : (cs ≤ k) = False := eq_false (by omega)
      have hC2 : hCode cs cb (sA A 23 k 1) I := hC.sA (by decide) _
      have c10 : ((1 : Int32) = 0) = False := by decide
      simp only [f21_0, f21_1, f21_2, f21_3, f21_5, f21_7, f21_10, f21_11, f21_14, f21_15, f21_16, f21_17, f21_20, f21_21, f21_22, f21_25, f21_28, f21_29, f21_32, f21_33, f21_34, f21_35, f21_38, f21_39, f21_40, f21_43, f21_44, f21_45, f21_48, f21_51, f21_52, f21_53, f21_56, f21_57, f21_60, f21_63, v21, pm_Pv_some, pm_Ph_some, pm_B_some, pm_B_none, e, if_false, fd_20_1, is_20, if_true, V_size, hC.2.2.1, e1, e2, c1, c2, sb_23 _ _ _ _ _ _ hib, hck, nar1, az_23 _ _ _ _ _ hib, sA_s, c10, V_whN Ls xs orc I L g hC2 hb.2, b1_0, V_behN Ls xs orc I L g hC2 hb.2, e3]
      by_cases hw : wlN cs cb k
      · rw [if_neg (by simpa using hw)]
        have en : nxN cb k = nxF cs cb (k + 1) := (nxF_go hb.1 hb.2 hw).1.symm
        rw [en, ih (k + 1) _ (by omega) hC2, fin 1 (b1_t hb).symm]
      · rw [if_pos hw]
        have en : nxF cs cb k = nxF cs cb (k + 1) := by
          show _ = (if nxF cs cb k = k ∧ k < cs ∧ wlN cs cb k then _ else _)
          rw [if_neg (fun q => hw q.2.2)]
        rw [en, ih (k + 1) _ (by omega) hC2, fin 1 (b1_t hb).symm]
    · have hC2 : hCode cs cb (sA A 23 k 0) I := hC.sA (by decide) _
      have en : nxF cs cb k = nxF cs cb (k + 1) := by
        show _ = (if nxF cs cb k = k ∧ k < cs ∧ wlN cs cb k then _ else _)
        rw [if_neg (fun q => hb ⟨q.1, q.2.1⟩)]
      simp only [f21_0, f21_1, f21_2, f21_3, f21_5, f21_7, f21_10, f21_11, f21_14, f21_15, f21_16, f21_17, f21_20, f21_21, f21_22, f21_25, f21_28, f21_29, f21_32, f21_33, f21_34, f21_35, f21_38, f21_39, f21_40, f21_43, f21_44, f21_45, f21_48, f21_51, f21_52, f21_53, f21_56, f21_57, f21_60, f21_63, v21, pm_Pv_some, pm_Ph_some, pm_B_some, pm_B_none, e, if_false, fd_20_1, is_20, if_true, V_size, hC.2.2.1, e1, e2, sb_23 _ _ _ _ _ _ hib, hck, nar1, nar0, az_23 _ _ _ _ _ hib, sA_s, e3]
      have key : pm_F (pm_ol Ls xs) orc 21 4 [(0, .ref 20), (1, .int (nI (nxF cs cb k))), (2, .int (nI (k + 1)))] [] (mk (sA A 23 k 0) I L g) = some (none, mk (sF A 23 (fun j => if k ≤ j ∧ j < 48 then b1 (bgN cs cb j) else A 23 j)) I L g) := by
        rw [en, ih (k + 1) _ (by omega) hC2, fin 0 (b1_f hb).symm]
      rw [key]
      by_cases d1 : nxF cs cb k = k
      · have d2 : cs ≤ k := Nat.not_lt.mp (fun q => hb ⟨d1, q⟩)
        simp [d1, d2]
      · simp [d1]
theorem V_findBegins {A : Nat → Nat → Int32} {cs : Nat} {cb : Nat → Nat} (hC : hCode cs cb A I) : pm_V (pm_ol Ls xs) orc 21 [.ref 20] (mk A I L g) = some (none, mk (sF A 23 (fun j => if j < 48 then b1 (bgN cs cb j) else A 23 j)) I L g) := by
  rw [v21, f21_0, f21_1, f21_2, f21_3]
  have h := V_fbl Ls xs orc I L g 48 0 A (by omega) hC
  have e : (fun j => if 0 ≤ j ∧ j < 48 then b1 (bgN cs cb j) else A 23 j) = (fun j => if j < 48 then b1 (bgN cs cb j) else A 23 j) := by
    funext j
    simp
  rw [e] at h
  exact h
end BEG
