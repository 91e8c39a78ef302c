/-! A RUN of the pure machine is a run of the real one: what the steps do -/
theorem pm_mk_grow {x : pm_C} {pc pc' : Nat} {lo lo' : pm_L} {st st' : List Value} {h h' : pm_H} (ho : pm_mk x pc lo st h = some (.inl (pc', lo', st', h'))) : h.length ≤ h'.length ∧ pm_sz h ≤ pm_sz h' := by
  unfold pm_mk at ho
  split at ho
  · simp only [pm_nx, Option.some.injEq, Sum.inl.injEq, Prod.mk.injEq] at ho
    obtain ⟨-, -, -, rfl⟩ := ho
    rw [List.length_append, pm_sz_app]
    omega
  · cases ho
theorem pm_nx_grow {pc pc' : Nat} {lo lo' : pm_L} {st st' : List Value} {h h' : pm_H} (ho : pm_nx pc lo st h = some (.inl (pc', lo', st', h'))) : h.length ≤ h'.length ∧ pm_sz h ≤ pm_sz h' := by
  simp only [pm_nx, Option.some.injEq, Sum.inl.injEq, Prod.mk.injEq] at ho
  obtain ⟨-, -, -, rfl⟩ := ho
  exact ⟨Nat.le_refl _, Nat.le_refl _⟩
theorem pm_st_grow {a : Nat} {x y : pm_C} {pc pc' : Nat} {lo lo' : pm_L} {st st' : List Value} {h h' : pm_H} (hx : h[a]? = some x) (he : pm_csz y = pm_csz x) (ho : pm_nx pc lo st (h.set a y) = some (.inl (pc', lo', st', h'))) : h.length ≤ h'.length ∧ pm_sz h ≤ pm_sz h' := by
  simp only [pm_nx, Option.some.injEq, Sum.inl.injEq, Prod.mk.injEq] at ho
  obtain ⟨-, -, -, rfl⟩ := ho
  rw [List.length_set, pm_sz_set hx he]
  exact ⟨Nat.le_refl _, Nat.le_refl _⟩
set_option maxHeartbeats 4000000 in
theorem pm_one_grow {ol : pm_O} {i : Instr} {len pc pc' : Nat} {lo lo' : pm_L} {st st' : List Value} {h h' : pm_H} (ho : pm_one ol i len pc lo st h = some (.inl (pc', lo', st', h'))) : h.length ≤ h'.length ∧ pm_sz h ≤ pm_sz h' := by
  cases i with
  | iastore =>
    simp only [pm_one] at ho
    split at ho
    · split at ho
      · rename_i n f hg
        split at ho
        · exact pm_st_grow (pm_gi_at hg).2 (by rfl) ho
        · cases ho
      · cases ho
    · cases ho
  | bastore =>
    simp only [pm_one] at ho
    split at ho
    · split at ho
      · rename_i n f hg
        split at ho
        · exact pm_st_grow (pm_gi_at hg).2 (by rfl) ho
        · cases ho
      · cases ho
    · cases ho
  | lastore =>
    simp only [pm_one] at ho
    split at ho
    · split at ho
      · rename_i n f hg
        split at ho
        · exact pm_st_grow (pm_gl_at hg).2 (by rfl) ho
        · cases ho
      · cases ho
    · cases ho
  | aastore =>
    simp only [pm_one] at ho
    split at ho
    · split at ho
      · rename_i n f hg
        split at ho
        · split at ho
          · exact pm_st_grow (pm_gq_at hg).2 (by rfl) ho
          · cases ho
        · cases ho
      · cases ho
    · cases ho
  | putfield x =>
    simp only [pm_one] at ho
    split at ho
    · split at ho
      · rename_i ci fs hg
        split at ho
        · exact pm_st_grow (pm_go_at hg).2 (by simp [pm_csz]) ho
        · cases ho
      · cases ho
    · cases ho
  | putstatic x =>
    simp only [pm_one] at ho
    split at ho
    · split at ho
      · rename_i ci fs hg
        split at ho
        · exact pm_st_grow (pm_go_at hg).2 (by simp [pm_csz]) ho
        · cases ho
      · cases ho
    · cases ho
  | checkcast x =>
    simp only [pm_one] at ho
    split at ho
    · split at ho
      · rename_i ci fs hg
        split at ho
        · exact pm_st_grow (pm_go_at hg).2 (by simp [pm_csz]) ho
        · cases ho
      · cases ho
    · cases ho
  | invokedynamic x =>
    simp only [pm_one] at ho
    split at ho
    · split at ho
      · split at ho
        · rename_i n1 g hg
          split at ho
          · exact pm_st_grow (pm_gi_at hg).2 (by rfl) ho
          · cases ho
        · cases ho
      · cases ho
    · cases ho
  | _ => first
    | (cases ho; done)
    | exact pm_nx_grow ho
    | (simp only [pm_one, pm_i2, pm_l2, pm_sh, pm_jmp, pm_call] at ho
       repeat' (split at ho)
       all_goals first
         | (cases ho; done)
         | exact pm_nx_grow ho
         | exact pm_mk_grow ho)
/-- where a step is a call -/
theorem pm_one_call {ol : pm_O} {i : Instr} {len pc k' : Nat} {lo : pm_L} {st as rest : List Value} {h : pm_H} (ho : pm_one ol i len pc lo st h = some (.inr (.inr (k', as, rest)))) :
    pm_cat rest ≤ 8 ∧ (500 ≤ k' ∨ pm_cat as ≤ pm_mL k') ∧ ((∃ (x n b : Nat) (a1 fs : List Value), i = .invokeinterface x n ∧ k' = x % 1000 ∧ as = .ref b :: a1 ∧ pm_pop n st [] = some (as, rest) ∧ pm_go h b = some (x / 1000, fs)) ∨ ∃ n : Nat, i = .multianewarray k' n ∧ pm_pop n st [] = some (as, rest)) := by
  cases i with
  | invokeinterface x n =>
    simp only [pm_one] at ho
    split at ho
    · rename_i b a1 r1 hp
      split at ho
      · rename_i ci fs hg
        split at ho
        · rename_i hci
          unfold pm_call at ho
          split at ho
          · rename_i hcd
            simp only [Option.some.injEq, Sum.inr.injEq, Prod.mk.injEq] at ho
            obtain ⟨rfl, rfl, rfl⟩ := ho
            subst hci
            exact ⟨hcd.1, hcd.2, Or.inl ⟨x, n, b, a1, fs, rfl, rfl, rfl, hp, hg⟩⟩
          · cases ho
        · cases ho
      · cases ho
    · cases ho
  | multianewarray k2 n =>
    simp only [pm_one] at ho
    split at ho
    · rename_i a1 r1 hp
      unfold pm_call at ho
      split at ho
      · rename_i hcd
        simp only [Option.some.injEq, Sum.inr.injEq, Prod.mk.injEq] at ho
        obtain ⟨rfl, rfl, rfl⟩ := ho
        exact ⟨hcd.1, hcd.2, Or.inr ⟨n, rfl, hp⟩⟩
      · cases ho
    · cases ho
  | _ => exfalso; first
    | (cases ho; done)
    | (simp only [pm_one, pm_i2, pm_l2, pm_sh, pm_jmp, pm_mk, pm_nx] at ho
       repeat' (split at ho)
       all_goals (cases ho; done))
/-- where a step is the end -/
theorem pm_one_ret {ol : pm_O} {i : Instr} {len pc : Nat} {lo : pm_L} {st : List Value} {h : pm_H} {v : Option Value} (ho : pm_one ol i len pc lo st h = some (.inr (.inl v))) :
    (∃ x : Int32, i = .ireturn ∧ st = [.int x] ∧ v = some (.int x)) ∨ (∃ x : Int32, i = .freturn ∧ st = [.int x] ∧ v = some (.int x) ∧ (x = 0 ∨ x = 1)) ∨ (∃ x : Nat, i = .areturn ∧ st = [.ref x] ∧ v = some (.ref x)) ∨ (i = .return_ ∧ st = [] ∧ v = none) := by
  cases i with
  | ireturn =>
    simp only [pm_one] at ho
    split at ho
    · rename_i x
      cases ho
      exact Or.inl ⟨x, rfl, rfl, rfl⟩
    · cases ho
  | freturn =>
    simp only [pm_one] at ho
    split at ho
    · rename_i x
      split at ho
      · rename_i hx
        cases ho
        exact Or.inr (Or.inl ⟨x, rfl, rfl, rfl, hx⟩)
      · cases ho
    · cases ho
  | areturn =>
    simp only [pm_one] at ho
    split at ho
    · rename_i x
      cases ho
      exact Or.inr (Or.inr (Or.inl ⟨x, rfl, rfl, rfl⟩))
    · cases ho
  | return_ =>
    simp only [pm_one] at ho
    split at ho
    · cases ho
      exact Or.inr (Or.inr (Or.inr ⟨rfl, rfl, rfl⟩))
    · cases ho
  | _ => exfalso; first
    | (cases ho; done)
    | (simp only [pm_one, pm_i2, pm_l2, pm_sh, pm_jmp, pm_mk, pm_nx, pm_call] at ho
       repeat' (split at ho)
       all_goals (cases ho; done))
theorem pm_pop_spec : ∀ (n : Nat) (st acc as rest : List Value), pm_pop n st acc = some (as, rest) → ∃ a1 : List Value, as = a1 ++ acc ∧ st = a1.reverse ++ rest ∧ a1.length = n := by
  intro n
  induction n with
  | zero => intro st acc as rest h; cases h; exact ⟨[], rfl, rfl, rfl⟩
  | succ n ih =>
    intro st acc as rest h
    cases st with
    | nil => cases h
    | cons v st =>
      obtain ⟨a1, h1, h2, h3⟩ := ih st (v :: acc) as rest h
      refine ⟨a1 ++ [v], by rw [h1]; simp, by rw [h2]; simp, by simp [h3]⟩
theorem pm_lv_mem {L : List Nat} {lo : pm_L} {q : Nat × Value} : q ∈ pm_lv L lo → pm_lg lo q.1 = some q.2 := by
  induction L with
  | nil => intro h; cases h
  | cons j r ih =>
    intro h
    unfold pm_lv at h
    split at h
    · rename_i v hv
      rcases List.mem_cons.mp h with rfl | h
      · exact hv
      · exact ih h
    · exact ih h
theorem pm_lv_has {ad : Nat → Nat} {L : List Nat} {lo : pm_L} {nL : Nat} {ls : Array Slot} (hl : lv_has ls nL (pm_tl ad lo)) : lv_has ls nL (pm_tl ad (pm_lv L lo)) := by
  refine ⟨hl.1, hl.2.1, fun q hq => ?_⟩
  obtain ⟨z, hz, rfl⟩ := List.mem_map.mp hq
  exact pm_lg_at hl (pm_lv_mem hz)
theorem pm_X_grow {ol : pm_O} {orc : pm_Q} (horc : ∀ k as h v h', orc k as h = some (v, h') → h.length ≤ h'.length ∧ pm_sz h ≤ pm_sz h') : ∀ (n k pc : Nat) (lo : pm_L) (st : List Value) (h : pm_H) (v : Option Value) (h' : pm_H), pm_X ol orc n k pc lo st h = some (v, h') → h.length ≤ h'.length ∧ pm_sz h ≤ pm_sz h' := by
  intro n
  induction n with
  | zero => intro k pc lo st h v h' hr; cases hr
  | succ n ih =>
    intro k pc lo st h v h' hr
    rw [pm_X] at hr
    cases hi : pm_ins k pc with
    | none => rw [hi] at hr; cases hr
    | some x =>
      obtain ⟨i, len, q⟩ := x
      rw [hi] at hr
      dsimp only at hr
      cases ho : pm_one ol i len pc (pm_lv (pm_liv k pc) lo) st h with
      | none => rw [ho] at hr; cases hr
      | some y =>
        rw [ho] at hr
        rcases y with ⟨pc', lo', st', h2⟩ | v2 | ⟨k', as, rest⟩
        · have h1 := pm_one_grow ho
          have h3 := ih _ _ _ _ _ _ _ hr
          omega
        · cases hr; exact ⟨Nat.le_refl _, Nat.le_refl _⟩
        · dsimp only at hr
          by_cases hk : k' < 500
          · simp only [if_pos hk] at hr
            cases hc : pm_X ol orc n k' 0 (lv_args 0 as) [] h with
            | none => rw [hc] at hr; cases hr
            | some z =>
              obtain ⟨v3, h3⟩ := z
              rw [hc] at hr
              have g1 := ih _ _ _ _ _ _ _ hc
              have g2 := ih _ _ _ _ _ _ _ hr
              omega
          · simp only [if_neg hk] at hr
            cases hc : orc k' as h with
            | none => rw [hc] at hr; cases hr
            | some z =>
              obtain ⟨v3, h3⟩ := z
              rw [hc] at hr
              have g1 := horc _ _ _ _ _ hc
              have g2 := ih _ _ _ _ _ _ _ hr
              omega
theorem pm_lgsl (ad : Nat → Nat) : ∀ as : List Value, (lg_sl (as.map (pm_tv ad))).length = pm_cat as := by
  intro as
  induction as with
  | nil => rfl
  | cons v r ih =>
    show (lg_sl (pm_tv ad v :: r.map (pm_tv ad))).length = pm_cat (v :: r)
    unfold lg_sl at ih ⊢
    rw [List.flatMap_cons, List.length_append, ih, pm_tv_cat]
    unfold pm_cat
    rw [List.map_cons, List.sum_cons]
    rcases lv_cat v with q | q <;> rw [q] <;> rfl
theorem pm_largs (ad : Nat → Nat) : ∀ (as : List Value) (i : Nat), lv_args i (as.map (pm_tv ad)) = pm_tl ad (lv_args i as) := by
  intro as
  induction as with
  | nil => intro i; rfl
  | cons v r ih =>
    intro i
    show (i, pm_tv ad v) :: lv_args (if (pm_tv ad v).category = 2 then i + 2 else i + 1) (r.map (pm_tv ad)) = (i, pm_tv ad v) :: pm_tl ad (lv_args (if v.category = 2 then i + 2 else i + 1) r)
    rw [pm_tv_cat, ih]
theorem pm_good {ws : List Jvm.Cond} (h : ∀ w ∈ ws, w ∈ pm_ws) : GoodIn pm_ws ws := fun w hw => ⟨h w hw, good_of_word (List.mem_filter.mp (h w hw)).2⟩
set_option maxHeartbeats 4000000 in
/-- the instruction under a pure call -/
theorem pm_okcall {k pc x n len pos : Nat} {i0 : Instr} (hj : pm_okJ k pc i0 (.invokeinterface x n) len pos = true) : len = 3 ∧ ((∃ idx, i0 = .invokevirtual idx ∧ pm_okc k idx pos (x % 1000) n 0 (x / 1000) = true) ∨ ∃ idx, i0 = .invokespecial idx ∧ pm_okc k idx pos (x % 1000) n 2 (x / 1000) = true) := by
  cases i0 with
  | invokevirtual idx =>
    simp only [pm_okJ, Bool.and_eq_true, decide_eq_true_eq] at hj
    exact ⟨hj.1, Or.inl ⟨idx, rfl, hj.2⟩⟩
  | invokespecial idx =>
    simp only [pm_okJ, Bool.and_eq_true, decide_eq_true_eq] at hj
    exact ⟨hj.1, Or.inr ⟨idx, rfl, hj.2⟩⟩
  | _ => exfalso; simp [pm_okJ, pm_plain] at hj
set_option maxHeartbeats 4000000 in
theorem pm_okcalls {k pc k' n len pos : Nat} {i0 : Instr} (hj : pm_okJ k pc i0 (.multianewarray k' n) len pos = true) : len = 3 ∧ ∃ idx, i0 = .invokestatic idx ∧ ((500 ≤ k' ∧ k = 168) ∨ pm_okc k idx pos k' n 1 (pm_mi k').2.2.1 = true) := by
  cases i0 with
  | invokestatic idx =>
    simp only [pm_okJ, Bool.and_eq_true, Bool.or_eq_true, decide_eq_true_eq] at hj
    exact ⟨hj.1, idx, rfl, hj.2⟩
  | _ => exfalso; simp [pm_okJ, pm_plain] at hj
theorem pm_okc_spec {k idx pos k' n kind ci : Nat} (h : pm_okc k idx pos k' n kind ci = true) : k' < 168 ∧ Jvm.Cond.methodLink (pm_y k).cls idx (pm_y k') ∈ pm_ws ∧ (pm_mi k').1 = kind ∧ (pm_mi k').2.2.1 = ci ∧ n = (pm_mi k').2.1 + (if kind = 1 then 0 else 1) ∧ pm_rf k' + 1 ≤ pm_rf k ∧ 8 + (pm_mL k' + 11) + pm_rl k' ≤ pm_rl k := by
  simp only [pm_okc, Bool.and_eq_true, decide_eq_true_eq] at h
  obtain ⟨⟨⟨⟨⟨⟨h1, h2⟩, h3⟩, h4⟩, h5⟩, h6⟩, h7⟩ := h
  exact ⟨h1, pm_wd_in h2 rfl, h3, h4, h5, h6, h7⟩
set_option maxHeartbeats 4000000 in
theorem pm_okret {k pc len pos : Nat} {i0 pi : Instr} (hj : pm_okJ k pc i0 pi len pos = true) : (pi = .ireturn → i0 = .ireturn ∧ len = 1 ∧ pm_rt k = some .int) ∧ (pi = .freturn → i0 = .ireturn ∧ len = 1 ∧ pm_rt k = some .boolean) ∧ (pi = .areturn → i0 = .areturn ∧ len = 1 ∧ ∃ C, pm_rt k = some (.object C)) ∧ (pi = .return_ → i0 = .return_ ∧ len = 1 ∧ pm_rt k = none) := by
  refine ⟨?_, ?_, ?_, ?_⟩ <;> (intro hp; subst hp)
  · cases i0 with
    | ireturn => simp [pm_okJ] at hj; exact ⟨rfl, hj.2, hj.1⟩
    | _ => exfalso; simp [pm_okJ, pm_plain] at hj
  · cases i0 with
    | ireturn => simp [pm_okJ] at hj; exact ⟨rfl, hj.2, hj.1⟩
    | _ => exfalso; simp [pm_okJ, pm_plain] at hj
  · cases i0 with
    | areturn =>
      simp only [pm_okJ, Bool.and_eq_true, decide_eq_true_eq] at hj
      obtain ⟨⟨-, h1⟩, h2⟩ := hj
      split at h2
      · rename_i C hC
        exact ⟨rfl, h1, C, hC⟩
      · cases h2
    | _ => exfalso; simp [pm_okJ, pm_plain] at hj
  · cases i0 with
    | return_ => simp [pm_okJ] at hj; exact ⟨rfl, hj.1, hj.2⟩
    | _ => exfalso; simp [pm_okJ, pm_plain] at hj
