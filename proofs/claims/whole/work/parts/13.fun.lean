/-! THE PURE MACHINE AS A FUNCTION: what a method, or the rest of one, comes to -/
noncomputable def pm_F (ol : pm_O) (orc : pm_Q) (k pc : Nat) (lo : pm_L) (st : List Value) (h : pm_H) : Option (Option Value × pm_H) :=
  @dite _ (∃ r, ∃ n, pm_X ol orc n k pc lo st h = some r) (Classical.propDecidable _) (fun H => some (Classical.choose H)) (fun _ => none)
theorem pm_F_of {ol : pm_O} {orc : pm_Q} {n k pc : Nat} {lo : pm_L} {st : List Value} {h : pm_H} {r : Option Value × pm_H} (hx : pm_X ol orc n k pc lo st h = some r) : pm_F ol orc k pc lo st h = some r := by
  have H : ∃ r, ∃ n, pm_X ol orc n k pc lo st h = some r := ⟨r, n, hx⟩
  unfold pm_F
  rw [dif_pos H]
  obtain ⟨m, hm⟩ := Classical.choose_spec H
  have h1 := pm_X_le ol orc (Nat.le_max_left n m) hx
  have h2 := pm_X_le ol orc (Nat.le_max_right n m) hm
  exact h2.symm.trans h1
theorem pm_F_to {ol : pm_O} {orc : pm_Q} {k pc : Nat} {lo : pm_L} {st : List Value} {h : pm_H} {r : Option Value × pm_H} (hx : pm_F ol orc k pc lo st h = some r) : ∃ n, pm_X ol orc n k pc lo st h = some r := by
  by_cases H : ∃ r, ∃ n, pm_X ol orc n k pc lo st h = some r
  · obtain ⟨r2, n, hn⟩ := H
    have := pm_F_of hn
    rw [hx] at this
    cases this
    exact ⟨n, hn⟩
  · unfold pm_F at hx
    rw [dif_neg H] at hx
    cases hx
theorem pm_F_ext {ol : pm_O} {orc : pm_Q} {k pc k2 pc2 : Nat} {lo lo2 : pm_L} {st st2 : List Value} {h h2 : pm_H} (h1 : ∀ r n, pm_X ol orc n k pc lo st h = some r → ∃ m, pm_X ol orc m k2 pc2 lo2 st2 h2 = some r) (h3 : ∀ r n, pm_X ol orc n k2 pc2 lo2 st2 h2 = some r → ∃ m, pm_X ol orc m k pc lo st h = some r) : pm_F ol orc k pc lo st h = pm_F ol orc k2 pc2 lo2 st2 h2 := by
  cases hx : pm_F ol orc k pc lo st h with
  | some r =>
    obtain ⟨n, hn⟩ := pm_F_to hx
    obtain ⟨m, hm⟩ := h1 r n hn
    exact (pm_F_of hm).symm
  | none =>
    cases hy : pm_F ol orc k2 pc2 lo2 st2 h2 with
    | none => rfl
    | some r =>
      obtain ⟨n, hn⟩ := pm_F_to hy
      obtain ⟨m, hm⟩ := h3 r n hn
      rw [pm_F_of hm] at hx
      cases hx
/-- a call -/
noncomputable def pm_V (ol : pm_O) (orc : pm_Q) (k : Nat) (as : List Value) (h : pm_H) : Option (Option Value × pm_H) := if k < 500 then pm_F ol orc k 0 (lv_args 0 as) [] h else orc k as h
/-- what is behind a call -/
noncomputable def pm_B (ol : pm_O) (orc : pm_Q) (k pc : Nat) (lo : pm_L) (rest : List Value) (r : Option (Option Value × pm_H)) : Option (Option Value × pm_H) := match r with
  | none => none
  | some (v, h) => pm_F ol orc k pc lo (v.toList ++ rest) h
noncomputable def pm_S (ol : pm_O) (orc : pm_Q) (k pn : Nat) (lo : pm_L) (h : pm_H) (r : pm_R) : Option (Option Value × pm_H) := match r with
  | none => none
  | some (.inl (pc', lo', st', h')) => pm_F ol orc k pc' lo' st' h'
  | some (.inr (.inl v)) => some (v, h)
  | some (.inr (.inr (k', as, rest))) => pm_B ol orc k pn lo rest (pm_V ol orc k' as h)
theorem pm_F_unf {ol : pm_O} {orc : pm_Q} {k pc : Nat} {lo lo1 : pm_L} {st : List Value} {h : pm_H} {i : Instr} {len q : Nat} (hi : pm_ins k pc = some (i, len, q)) (hl : pm_lv (pm_liv k pc) lo = lo1) : pm_F ol orc k pc lo st h = pm_S ol orc k (pc + len) lo1 h (pm_one ol i len pc lo1 st h) := by
  subst hl
  cases ho : pm_one ol i len pc (pm_lv (pm_liv k pc) lo) st h with
  | none =>
    show pm_F ol orc k pc lo st h = none
    cases hx : pm_F ol orc k pc lo st h with
    | none => rfl
    | some r =>
      obtain ⟨n, hn⟩ := pm_F_to hx
      cases n with
      | zero => cases hn
      | succ n =>
        rw [pm_X, hi] at hn
        dsimp only at hn
        rw [ho] at hn
        cases hn
  | some y =>
    rcases y with ⟨pc', lo', st', h2⟩ | v2 | ⟨k', as, rest⟩
    · show pm_F ol orc k pc lo st h = pm_F ol orc k pc' lo' st' h2
      refine pm_F_ext (fun r n hn => ?_) (fun r n hn => ⟨n + 1, ?_⟩)
      · cases n with
        | zero => cases hn
        | succ n =>
          rw [pm_X, hi] at hn
          dsimp only at hn
          rw [ho] at hn
          exact ⟨n, hn⟩
      · rw [pm_X, hi]
        dsimp only
        rw [ho]
        exact hn
    · show pm_F ol orc k pc lo st h = some (v2, h)
      refine pm_F_of (n := 1) ?_
      rw [pm_X, hi]
      dsimp only
      rw [ho]
    · show pm_F ol orc k pc lo st h = pm_B ol orc k (pc + len) (pm_lv (pm_liv k pc) lo) rest (pm_V ol orc k' as h)
      by_cases hk : k' < 500
      · have hV : pm_V ol orc k' as h = pm_F ol orc k' 0 (lv_args 0 as) [] h := by unfold pm_V; rw [if_pos hk]
        cases hx : pm_F ol orc k pc lo st h with
        | some r =>
          obtain ⟨n, hn⟩ := pm_F_to hx
          cases n with
          | zero => cases hn
          | succ n =>
            rw [pm_X, hi] at hn
            dsimp only at hn
            rw [ho] at hn
            dsimp only at hn
            rw [if_pos hk] at hn
            cases hc : pm_X ol orc n k' 0 (lv_args 0 as) [] h with
            | none => rw [hc] at hn; cases hn
            | some z =>
              obtain ⟨v3, h3⟩ := z
              rw [hc] at hn
              rw [hV, pm_F_of hc]
              exact (pm_F_of hn).symm
        | none =>
          cases hy : pm_B ol orc k (pc + len) (pm_lv (pm_liv k pc) lo) rest (pm_V ol orc k' as h) with
          | none => rfl
          | some r =>
            rw [hV] at hy
            cases hc : pm_F ol orc k' 0 (lv_args 0 as) [] h with
            | none => rw [hc] at hy; cases hy
            | some z =>
              obtain ⟨v3, h3⟩ := z
              rw [hc] at hy
              obtain ⟨n1, h1⟩ := pm_F_to hc
              obtain ⟨n2, h2⟩ := pm_F_to (show pm_F ol orc k (pc + len) (pm_lv (pm_liv k pc) lo) (v3.toList ++ rest) h3 = some r from hy)
              have hz : pm_X ol orc (max n1 n2 + 1) k pc lo st h = some r := by
                rw [pm_X, hi]
                dsimp only
                rw [ho]
                dsimp only
                rw [if_pos hk, pm_X_le ol orc (Nat.le_max_left n1 n2) h1]
                exact pm_X_le ol orc (Nat.le_max_right n1 n2) h2
              rw [pm_F_of hz] at hx
              cases hx
      · have hV : pm_V ol orc k' as h = orc k' as h := by unfold pm_V; rw [if_neg hk]
        cases hx : pm_F ol orc k pc lo st h with
        | some r =>
          obtain ⟨n, hn⟩ := pm_F_to hx
          cases n with
          | zero => cases hn
          | succ n =>
            rw [pm_X, hi] at hn
            dsimp only at hn
            rw [ho] at hn
            dsimp only at hn
            rw [if_neg hk] at hn
            cases hc : orc k' as h with
            | none => rw [hc] at hn; cases hn
            | some z =>
              obtain ⟨v3, h3⟩ := z
              rw [hc] at hn
              rw [hV, hc]
              exact (pm_F_of hn).symm
        | none =>
          cases hy : pm_B ol orc k (pc + len) (pm_lv (pm_liv k pc) lo) rest (pm_V ol orc k' as h) with
          | none => rfl
          | some r =>
            rw [hV] at hy
            cases hc : orc k' as h with
            | none => rw [hc] at hy; cases hy
            | some z =>
              obtain ⟨v3, h3⟩ := z
              rw [hc] at hy
              obtain ⟨n2, h2⟩ := pm_F_to (show pm_F ol orc k (pc + len) (pm_lv (pm_liv k pc) lo) (v3.toList ++ rest) h3 = some r from hy)
              have hz : pm_X ol orc (n2 + 1) k pc lo st h = some r := by
                rw [pm_X, hi]
                dsimp only
                rw [ho]
                dsimp only
                rw [if_neg hk, hc]
                exact h2
              rw [pm_F_of hz] at hx
              cases hx
theorem pm_S_next (ol : pm_O) (orc : pm_Q) (k pn : Nat) (lo : pm_L) (h : pm_H) (pc' : Nat) (lo' : pm_L) (st' : List Value) (h' : pm_H) : pm_S ol orc k pn lo h (pm_nx pc' lo' st' h') = pm_F ol orc k pc' lo' st' h' := rfl
theorem pm_S_jmp (ol : pm_O) (orc : pm_Q) (k pn : Nat) (lo : pm_L) (h : pm_H) (t : Int) (lo' : pm_L) (st' : List Value) (h' : pm_H) : pm_S ol orc k pn lo h (pm_jmp t lo' st' h') = pm_F ol orc k t.toNat lo' st' h' := rfl
theorem pm_S_ret (ol : pm_O) (orc : pm_Q) (k pn : Nat) (lo : pm_L) (h : pm_H) (v : Option Value) : pm_S ol orc k pn lo h (some (.inr (.inl v))) = some (v, h) := rfl
theorem pm_S_call (ol : pm_O) (orc : pm_Q) (k pn : Nat) (lo : pm_L) (h : pm_H) (k' : Nat) (as rest : List Value) (hc : pm_cat rest ≤ 8 ∧ (500 ≤ k' ∨ pm_cat as ≤ pm_mL k')) : pm_S ol orc k pn lo h (pm_call k' as rest) = pm_B ol orc k pn lo rest (pm_V ol orc k' as h) := by
  unfold pm_call
  rw [if_pos hc]
  rfl
theorem pm_S_ite (ol : pm_O) (orc : pm_Q) (k pn : Nat) (lo : pm_L) (h : pm_H) (c : Prop) [Decidable c] (a b : pm_R) : pm_S ol orc k pn lo h (if c then a else b) = if c then pm_S ol orc k pn lo h a else pm_S ol orc k pn lo h b := by
  split <;> rfl
theorem pm_B_some (ol : pm_O) (orc : pm_Q) (k pc : Nat) (lo : pm_L) (rest : List Value) (v : Value) (h : pm_H) : pm_B ol orc k pc lo rest (some (some v, h)) = pm_F ol orc k pc lo (v :: rest) h := rfl
theorem pm_B_none (ol : pm_O) (orc : pm_Q) (k pc : Nat) (lo : pm_L) (rest : List Value) (h : pm_H) : pm_B ol orc k pc lo rest (some (none, h)) = pm_F ol orc k pc lo rest h := rfl
theorem pm_B_ite (ol : pm_O) (orc : pm_Q) (k pc : Nat) (lo : pm_L) (rest : List Value) (c : Prop) [Decidable c] (a b : Option (Option Value × pm_H)) : pm_B ol orc k pc lo rest (if c then a else b) = if c then pm_B ol orc k pc lo rest a else pm_B ol orc k pc lo rest b := by
  split <;> rfl
