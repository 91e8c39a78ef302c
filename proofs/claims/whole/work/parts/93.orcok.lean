/-! the oracle is sound: the law's calls of its four helpers -/
section XO
variable {l : Launch} {D : va_G} {cA : Nat → ClassId} {ad : Nat → Nat} {base : Nat} {ol : pm_O} {p : Program} {e : Env} {R : Room} {s : State} {m : MethodId} {args : Array Value} {below : List Frame} {meth : Method} {c : Code} {H : Heap} {locs : List Loc}
theorem x_go {y : MethodName} {bts : ByteArray} {nL n idx pc cells slots mc ms rf rl : Nat} {hh : List (Nat × Nat × Nat × Nat)} {as rest st : List Value} {ls : Array Slot} {h : pm_H} {Qc : Array Value → State → Outcome → State → Prop} (F : pm_fx 168 p R s m args meth c) (X : pm_cx D cA ad base ol s) (hZ : xF base s) (h70 : ¬ h.length < pm_M) (hr : pm_hr D cA ad base s h H locs)
    (hM : Met l y (Jvm.Cond.codeWith y bts nL (some .int) hh :: pm_ws) { frames := rf, cells := mc, slots := ms, locals := rl } (x_Pc D cA ad base ol as h) Qc mc ms (pm_A base))
    (hlk : Cond.methodLink xL idx y ∈ pm_ws) (hst : Cond.static y ∈ pm_ws) (hin : Cond.initialized y.cls ∈ pm_ws) (hcw : Cond.codeWith y bts nL (some .int) hh ∈ pm_ws)
    (hy : y.cls ≠ "java/lang/invoke/MethodHandle" ∧ y.cls ≠ "java/lang/invoke/VarHandle" ∧ (parseMethodDescriptor y.desc).map (fun d => d.parameters.length) = some n)
    (hR : rf + 1 ≤ pm_rf 168 ∧ 8 + (nL + 11) + rl ≤ pm_rl 168) (hd : decode (pm_b 168) pc = .ok (.invokestatic idx, 3)) (hpop : pm_pop n st [] = some (as, rest)) (hcat : pm_cat rest ≤ 8) (hls : ls.size = pm_mL 168) (hf : cells + mc ≤ R.cells ∧ slots + ms ≤ R.slots) :
    va_Run p l e R s m args below meth c H locs cells slots mc ms (F0 m pc ls (st.map (pm_tv ad))) (rest.map (pm_tv ad)) (Qc (as.map (pm_tv ad)).toArray) (pm_A base) := by
  obtain ⟨hx, hb, hml, hrt, hlk2, hnm, hown, hts, hrf, hrl⟩ := id F
  obtain ⟨a1, e1, e2, e3⟩ := pm_pop_spec _ _ _ _ _ hpop
  rw [List.append_nil] at e1
  subst e1
  rw [show (pm_y 168).cls = xL from rfl] at hown
  have hw2 : ((rest.map (pm_tv ad)).map fun v => v.category).sum ≤ 8 := by
    rw [pm_cat_tv]
    exact hcat
  refine vx_runSW (As := as.map (pm_tv ad)) (n := n) (own := xL) (index := idx) (y := y) (bytes := bts) (maxL := nL) (ret := some .int) (hh := hh) (Ts := pm_ws) (cc := pm_b 168) (nL := pm_mL 168) ⟨hx, hb, hml, hown, hts⟩ hM (vx_cwSW n hts (pm_good (fun w hw => ?_)) rfl rfl rfl hy ⟨by show rf + 1 ≤ _; omega, by show 8 + (nL + 11) + rl ≤ _; omega⟩) ⟨x_blind, fun U hU hW => ⟨⟨rfl, pm_cx.moved X hW hU hr.2.2, by rw [hU]; exact hr.1, hr.2.1, fun g => absurd g h70⟩, xF.moved hZ hW hU hr.2.2⟩⟩ rfl ?_ hls ?_ (by show 2 * 0 + _ ≤ 8; omega) hd hf
  · unfold va_wsS at hw
    rcases List.mem_append.mp hw with hw | hw
    · simp only [List.mem_cons, List.not_mem_nil, or_false] at hw
      rcases hw with rfl | rfl | rfl
      · exact hlk
      · exact hst
      · exact hin
    · rcases List.mem_cons.mp hw with rfl | hw
      · exact hcw
      · exact hw
  · rw [List.length_map]
    exact e3
  · show st.map (pm_tv ad) = _
    rw [e2]
    simp
end XO
theorem x_in70 : Cond.initialized xL ∈ pm_ws := x_pm 70 (by decide +kernel) rfl
set_option maxHeartbeats 2000000 in
theorem x_OK {l : Launch} {D : va_G} {cA : Nat → ClassId} {ad : Nat → Nat} {base : Nat} {ol : pm_O} (hl : l.stackTraces = false) (hAd : ∀ i, i < 1000 → ad i = base + i) : pm_orcOK2 (fun _ _ s => xF base s) l D cA ad base ol (o_q ol) := by
  intro k' n idx pos pc l0 z0 as rest st lo h h1 v p e R s m args below meth c H locs ls hq hk F X hEx hE hl0 hz0 hi hd hpop hcat hr hls hc hz
  have hix := x_ix hi hk hd
  unfold o_q at hq
  split at hq
  · cases hq
  · rename_i h70
    split at hq
    · simp at hix
      obtain ⟨rfl, rfl⟩ := hix
      exact x_go F X hEx h70 hr (x_H500 hl hAd h70 hq) (x_pm 458 (by decide +kernel) rfl) (x_pm 459 (by decide +kernel) rfl) x_in70 (x_pm 460 (by decide +kernel) rfl) ⟨by decide, by decide, by decide +kernel⟩ ⟨by decide +kernel, by decide +kernel⟩ hd hpop hcat hls.1 ⟨hc, hz⟩
    · simp at hix
      obtain ⟨rfl, rfl⟩ := hix
      exact x_go F X hEx h70 hr (x_H501 hl hAd h70 hq) (x_pm 583 (by decide +kernel) rfl) (x_pm 584 (by decide +kernel) rfl) x_in70 (x_pm 585 (by decide +kernel) rfl) ⟨by decide, by decide, by decide +kernel⟩ ⟨by decide +kernel, by decide +kernel⟩ hd hpop hcat hls.1 ⟨hc, hz⟩
    · simp at hix
      obtain ⟨rfl, rfl⟩ := hix
      exact x_go F X hEx h70 hr (x_H502 hl hAd h70 hq) (x_pm 606 (by decide +kernel) rfl) (x_pm 607 (by decide +kernel) rfl) x_in70 (x_pm 608 (by decide +kernel) rfl) ⟨by decide, by decide, by decide +kernel⟩ ⟨by decide +kernel, by decide +kernel⟩ hd hpop hcat hls.1 ⟨hc, hz⟩
    · simp at hix
      obtain ⟨rfl, rfl⟩ := hix
      exact x_go F X hEx h70 hr (x_H503 hl hAd h70 hq) (x_pm 794 (by decide +kernel) rfl) (x_pm 795 (by decide +kernel) rfl) x_in70 (x_pm 796 (by decide +kernel) rfl) ⟨by decide, by decide, by decide +kernel⟩ ⟨by decide +kernel, by decide +kernel⟩ hd hpop hcat hls.1 ⟨hc, hz⟩
    · cases hq
