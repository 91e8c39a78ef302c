/-! THE SOUNDNESS of the pure machine -/
def pm_Pc (D : va_G) (cA : Nat → ClassId) (ad : Nat → Nat) (base : Nat) (ol : pm_O) (as : List Value) (h : pm_H) : Array Value → State → Prop := fun a U =>
  a = (as.map (pm_tv ad)).toArray ∧ pm_cx D cA ad base ol U ∧ va_P D vwCl (pm_w ad cA 0 (h.take pm_M)) U.heap ∧ va_D (pm_A base) (pm_w ad cA 0 (h.take pm_M)) ∧ (h.length < pm_M → U.heap.size = base + h.length)
def pm_Qc (D : va_G) (cA : Nat → ClassId) (ad : Nat → Nat) (base : Nat) (v : Option Value) (h : pm_H) : Array Value → State → Outcome → State → Prop := fun _ st o t =>
  o = .returned (v.map (pm_tv ad)) ∧ va_P D vwCl (pm_w ad cA 0 (h.take pm_M)) t.heap ∧ va_D (pm_A base) (pm_w ad cA 0 (h.take pm_M)) ∧ va_F (pm_A base) st t
theorem pm_blind {D : va_G} {cA : Nat → ClassId} {ad : Nat → Nat} {base : Nat} {ol : pm_O} {as : List Value} {h : pm_H} : FrameBlind (pm_Pc D cA ad base ol as h) := by
  intro a U g mk hh
  obtain ⟨h1, h2, h3, h4, h5⟩ := hh
  exact ⟨h1, pm_cx.moved (locs := []) h2 (State.WarmedH.refl U) rfl va_S.rf, h3, h4, h5⟩
section PMT
variable {p : Program} {l : Launch} {e : Env} {R : Room} {s : State} {m : MethodId} {args : Array Value} {below : List Frame} {meth : Method} {c : Code} {Q : State → Prop}
variable {D : va_G} {cA : Nat → ClassId} {ad : Nat → Nat} {base : Nat} {ol : pm_O} {k l0 z0 pc : Nat} {lo : pm_L} {st : List Value} {h : pm_H}
/-- behind a call -/
theorem pm_after {rest : List Value} {As : Array Value} {v : Option Value} {h1 : pm_H} {H : Heap} {locs : List Loc} {ls : Array Slot} (hrun : va_Run p l e R s m args below meth c H locs (h.length - l0) (pm_sz h - z0) (h1.length - h.length) (pm_sz h1 - pm_sz h) (F0 m pc ls (st.map (pm_tv ad))) (rest.map (pm_tv ad)) (pm_Qc D cA ad base v h1 As) (pm_A base)) (hl0 : l0 ≤ h.length) (hz0 : z0 ≤ pm_sz h) (hg : h.length ≤ h1.length) (hgz : pm_sz h ≤ pm_sz h1) (hr : pm_hr D cA ad base s h H locs) (hl : lv_has ls (pm_mL k) (pm_tl ad lo))
    (K : pm_U p l e R s m args below meth c Q D cA ad base k l0 z0 (pc + 3) lo (v.toList ++ rest) h1) : W p l e R s m args below meth c H locs (h.length - l0) (pm_sz h - z0) Q (F0 m pc ls (st.map (pm_tv ad))) := by
  intro T hT X
  obtain ⟨v', st₀, t, T', L, h0, X', hL, e1, e2, ⟨hv, hP1, hD1, hF⟩, go⟩ := hrun T hT X
  cases hv
  obtain ⟨hF1, hF2⟩ := hF
  rw [h0] at hF1 hF2
  have hS := hr.2.2
  have hS1 : va_S (pm_A base) s.heap T'.heap (locs ++ L) := by
    refine ⟨Nat.le_trans hS.1 (by rw [e1]; exact hF1), fun q g1 g2 => ?_, fun q hq => ?_⟩
    · rw [e1, hF2 q (Nat.lt_of_lt_of_le g1 hS.1) g2]
      exact hS.2.1 q g1 g2
    · rcases List.mem_append.mp hq with g | g
      · exact hS.2.2 q g
      · exact hL q g
  have hK := K T'.heap (locs ++ L) ls ⟨by rw [e1]; exact hP1, hD1, hS1⟩ hl
  have ec : h1.length - l0 = h.length - l0 + (h1.length - h.length) := by omega
  have ez : pm_sz h1 - z0 = pm_sz h - z0 + (pm_sz h1 - pm_sz h) := by omega
  have es : (v.toList ++ rest).map (pm_tv ad) = (v.map (pm_tv ad)).toList ++ rest.map (pm_tv ad) := by
    rw [List.map_append]
    cases v <;> rfl
  rw [ec, ez, es] at hK
  obtain ⟨t2, a1, b1⟩ := hK T' rfl X'
  exact ⟨t2, go t2 a1, b1⟩
/-- the contract of a method out of its body -/
theorem pm_metOf {k' : Nat} (hk : k' < 168) {as : List Value} {h1 : pm_H} {v : Option Value} (hcat : pm_cat as ≤ pm_mL k')
    (body : ∀ (p : Program) (e : Env) (R : Room) (s : State) (m : MethodId) (args : Array Value) (below : List Frame) (meth : Method) (c : Code), pm_fx k' p R s m args meth c → pm_cx D cA ad base ol s → (h.length < pm_M → s.heap.size = base + h.length) → h1.length - h.length ≤ R.cells → pm_sz h1 - pm_sz h ≤ R.slots → pm_U p l e R s m args below meth c (MQ below (pm_Qc D cA ad base v h1) args s (h1.length - h.length) (pm_sz h1 - pm_sz h) (pm_A base)) D cA ad base k' h.length (pm_sz h) 0 (lv_args 0 as) [] h) :
    Met l (pm_y k') (Jvm.Cond.code (pm_y k') (pm_b k') (pm_mL k') (pm_rt k') :: pm_ws) { frames := pm_rf k', cells := h1.length - h.length, slots := pm_sz h1 - pm_sz h, locals := pm_rl k' } (pm_Pc D cA ad base ol as h) (pm_Qc D cA ad base v h1) (h1.length - h.length) (pm_sz h1 - pm_sz h) (pm_A base) := by
  obtain ⟨m1, m2, m3, m4, m5, m6⟩ := pm_mok k' hk
  refine Met.ofW (cc := pm_b k') (maxL := pm_mL k') (ret := pm_rt k') m3 rfl ?_
  intro p e s m args below meth c s₁ B hml hv
  obtain ⟨rfl, hcx, hP, hD, hsz⟩ := hv
  have hts := atoms_spec (ws := Jvm.Cond.code (pm_y k') (pm_b k') (pm_mL k') (pm_rt k') :: pm_ws) B.pre
  have hF : pm_fx k' p { frames := pm_rf k', cells := h1.length - h.length, slots := pm_sz h1 - pm_sz h, locals := pm_rl k' } s m (as.map (pm_tv ad)).toArray meth c := ⟨B.exec, B.bytes, hml, B.returns, B.notSynchronized, fun g => (name_of_methodNamed B.named B.method).1.trans g, findClass_of_methodNamed B.named, fun w hw => hts w (List.mem_cons_of_mem _ hw), Nat.le_refl _, Nat.le_refl _⟩
  have hU := body p e _ s m _ below meth c hF hcx hsz (Nat.le_refl _) (Nat.le_refl _)
  have hl := lv_entry (as.map (pm_tv ad)) (n := pm_mL k') (by rw [pm_lgsl]; exact hcat)
  rw [pm_largs] at hl
  have hW := hU s.heap [] _ ⟨hP, hD, va_S.rf⟩ hl
  rw [Nat.sub_self, Nat.sub_self] at hW
  rw [lg_entry_eq]
  exact hW
/-- the call of a method whose contract is known -/
theorem pm_callRun {i0 : Instr} {k' idx pos n : Nat} {as a0 rest : List Value} {v : Option Value} {h1 : pm_H} {H : Heap} {locs : List Loc} {ls : Array Slot} {kind ci : Nat} (F : pm_fx k p R s m args meth c) (X : pm_cx D cA ad base ol s) (hE : l0 < pm_M → s.heap.size = base + l0) (hAd : ∀ i, i < 1000 → ad i = base + i) (hl0 : l0 ≤ h.length)
    (hM : Met l (pm_y k') (Jvm.Cond.code (pm_y k') (pm_b k') (pm_mL k') (pm_rt k') :: pm_ws) { frames := pm_rf k', cells := h1.length - h.length, slots := pm_sz h1 - pm_sz h, locals := pm_rl k' } (pm_Pc D cA ad base ol as h) (pm_Qc D cA ad base v h1) (h1.length - h.length) (pm_sz h1 - pm_sz h) (pm_A base))
    (hok : pm_okc k idx pos k' n kind ci = true) (hpop : pm_pop n st [] = some (as, rest)) (hcat : pm_cat rest ≤ 8) (hd : decode (pm_b k) pc = .ok (i0, 3))
    (hkd : (kind = 0 ∧ i0 = .invokevirtual idx) ∨ (kind = 1 ∧ i0 = .invokestatic idx) ∨ (kind = 2 ∧ i0 = .invokespecial idx))
    (hrec : kind ≠ 1 → ∃ (b : Nat) (a1 fs : List Value), as = .ref b :: a1 ∧ pm_go h b = some (ci, fs))
    (hr : pm_hr D cA ad base s h H locs) (hl : lv_has ls (pm_mL k) (pm_tl ad lo)) (hf1 : h.length - l0 + (h1.length - h.length) ≤ R.cells) (hf2 : pm_sz h - z0 + (pm_sz h1 - pm_sz h) ≤ R.slots)
    (K : va_Run p l e R s m args below meth c H locs (h.length - l0) (pm_sz h - z0) (h1.length - h.length) (pm_sz h1 - pm_sz h) (F0 m pc ls (st.map (pm_tv ad))) (rest.map (pm_tv ad)) (pm_Qc D cA ad base v h1 (as.map (pm_tv ad)).toArray) (pm_A base) → W p l e R s m args below meth c H locs (h.length - l0) (pm_sz h - z0) Q (F0 m pc ls (st.map (pm_tv ad)))) : W p l e R s m args below meth c H locs (h.length - l0) (pm_sz h - z0) Q (F0 m pc ls (st.map (pm_tv ad))) := by
  obtain ⟨hx, hb, hml, hrt, hlk, hnm, hown, hts, hrf, hrl⟩ := id F
  obtain ⟨c1, c2, c3, c4, c5, c6, c7⟩ := pm_okc_spec hok
  obtain ⟨m1, m2, m3, m4, m5, m6⟩ := pm_mok k' c1
  obtain ⟨a1, rfl, hst, hln⟩ := pm_pop_spec _ _ _ _ _ hpop
  rw [List.append_nil] at hrec hM K
  rw [List.append_nil] at hpop
  intro T hT X0
  have hpre : ∀ U : State, U.heap = H → s.WarmedH U.vm → pm_Pc D cA ad base ol a1 h (a1.map (pm_tv ad)).toArray U := fun U hU hW =>
    ⟨rfl, pm_cx.moved X hW hU hr.2.2, by rw [hU]; exact hr.1, hr.2.1, fun g => by rw [hU]; exact pm_size hE hAd g hl0 hr hT X0⟩
  have hbm : ∀ w ∈ (Jvm.Cond.code (pm_y k') (pm_b k') (pm_mL k') (pm_rt k') :: pm_ws), w ∈ pm_ws := fun w hw => by
    rcases List.mem_cons.mp hw with rfl | hw
    · exact m1
    · exact hw
  have hwr : 2 * (F0 m pc ls (st.map (pm_tv ad))).monitorRoom + ((rest.map (pm_tv ad)).map fun v => v.category).sum ≤ 8 := by
    rw [pm_cat_tv]
    show 2 * 0 + pm_cat rest ≤ 8
    omega
  have hR2 : pm_rf k' + 1 ≤ R.frames ∧ 8 + (pm_mL k' + 11) + pm_rl k' ≤ R.locals := ⟨by omega, by omega⟩
  have hCF : CallFix p m c (pm_b k) (pm_mL k) s args pm_ws (pm_y k).cls := ⟨hx, hb, hml, hown, hts⟩
  rcases hkd with ⟨rfl, rfl⟩ | ⟨rfl, rfl⟩ | ⟨rfl, rfl⟩
  · -- virtual
    obtain ⟨b, a2, fs, rfl, hgo⟩ := hrec (by decide)
    obtain ⟨hb1, hb2⟩ := pm_go_at hgo
    rcases m6 with ⟨-, q1, q2, q3⟩ | ⟨q, -⟩ | ⟨q, -⟩
    · rw [c4] at q3
      cases hvc : vwCl[ci]? with
      | none => rw [hvc] at q3; cases q3
      | some r =>
        rw [hvc] at q3
        have hC : r.1 = (pm_y k').cls := Option.some.inj q3
        have hrv := va_recv X.1 hr.1 hvc (pm_t_at hb1 hb2)
        rw [hC] at hrv
        refine K ?_ T hT X0
        refine va_runV (As := a2.map (pm_tv ad)) (b := ad b) (n := (pm_mi k').2.1) (C := (pm_y k').cls) (own := (pm_y k).cls) (index := idx) (y := pm_y k') (Ts := pm_ws) hCF hM (cwV (pm_mi k').2.1 hts (pm_good (fun w hw => ?_)) rfl rfl rfl ⟨rfl, m4.1, m4.2, m5⟩ hR2) ⟨pm_blind, hrv, fun U hU hW => hpre U hU hW⟩ rfl ?_ (by rw [hl.1]) ?_ hwr hd ⟨hf1, hf2⟩
        · unfold wsV at hw
          rcases List.mem_append.mp hw with hw | hw
          · simp only [List.mem_cons, List.not_mem_nil, or_false] at hw
            rcases hw with rfl | rfl | rfl | rfl
            · exact c2
            · exact q1
            · exact q2
            · exact m2
          · exact hbm w hw
        · rw [List.length_map]
          simp at hln c5
          omega
        · show st.map (pm_tv ad) = _
          rw [hst]
          simp [pm_tv]
    · rw [c3] at q; cases q
    · rw [c3] at q; cases q
  · -- static
    rcases m6 with ⟨q, -⟩ | ⟨-, q1⟩ | ⟨q, -⟩
    · rw [c3] at q; cases q
    · refine K ?_ T hT X0
      refine va_runS (As := a1.map (pm_tv ad)) (n := (pm_mi k').2.1) (own := (pm_y k).cls) (index := idx) (y := pm_y k') (Ts := pm_ws) hCF hM ⟨callB_of (pm_mi k').2.1 hts (pm_good hbm) rfl rfl rfl (hts _ m2) (hts _ c2) ⟨m4.1, m4.2, m5⟩ hR2, hts _ q1⟩ ⟨pm_blind, fun U hU hW => hpre U hU hW⟩ rfl ?_ (by rw [hl.1]) ?_ hwr hd ⟨hf1, hf2⟩
      · rw [List.length_map]
        simp at c5
        omega
      · show st.map (pm_tv ad) = _
        rw [hst]
        simp
    · rw [c3] at q; cases q
  · -- a constructor
    obtain ⟨b, a2, fs, rfl, hgo⟩ := hrec (by decide)
    rcases m6 with ⟨q, -⟩ | ⟨q, -⟩ | ⟨-, q1, q2, q3⟩
    · rw [c3] at q; cases q
    · rw [c3] at q; cases q
    · refine K ?_ T hT X0
      rw [q3] at hM hbm m1
      refine va_runI (As := a2.map (pm_tv ad)) (b := ad b) (n := (pm_mi k').2.1) (own := (pm_y k).cls) (index := idx) (y := pm_y k') (Ts := pm_ws) hCF hM ⟨callB_of (pm_mi k').2.1 hts (pm_good hbm) rfl rfl rfl (hts _ m2) (hts _ c2) ⟨m4.1, m4.2, m5⟩ hR2, q2, hts _ q1⟩ ⟨pm_blind, fun U hU hW => hpre U hU hW⟩ rfl ?_ (by rw [hl.1]) ?_ hwr hd ⟨hf1, hf2⟩
      · rw [List.length_map]
        simp at hln c5
        omega
      · show st.map (pm_tv ad) = _
        rw [hst]
        simp [pm_tv]
end PMT
