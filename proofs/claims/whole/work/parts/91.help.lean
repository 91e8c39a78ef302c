/-! the law's four helpers: a call of the face, caught -/
abbrev xL : String := "FrameTyperLaw"
def x_fx (bts : ByteArray) (nL : Nat) (hh : List (Nat × Nat × Nat × Nat)) (kf : Nat) (p : Program) (R : Room) (s : State) (m : MethodId) (args : Array Value) (meth : Method) (c : Code) : Prop :=
  p.tables.exec = Jvm.exec ∧ c.code = bts ∧ c.maxLocals = nL ∧ meth.sig.returnType = some .int ∧ meth.locks = false ∧ s.vm.findClass xL = some m.cls ∧ (∀ w ∈ pm_ws, w.before args s = true) ∧ c.exceptionTable.toList = tableOf hh ∧ pm_rf kf + 1 ≤ R.frames ∧ 8 + (pm_mL kf + 11) + pm_rl kf ≤ R.locals
theorem x_szd (h : pm_H) : pm_sz (h ++ [o_d]) = pm_sz h + 6 ∧ (h ++ [o_d]).length = h.length + 1 := by
  refine ⟨?_, by simp⟩
  unfold pm_sz
  rw [List.map_append, List.sum_append]
  rfl
theorem x_tkd {h : pm_H} (g : pm_M ≤ h.length) : (h ++ [o_d]).take pm_M = h.take pm_M := List.take_append_of_le_length g
section XH
variable {p : Program} {l : Launch} {e : Env} {R : Room} {s : State} {m : MethodId} {args : Array Value} {below : List Frame} {meth : Method} {c : Code}
variable {D : va_G} {cA : Nat → ClassId} {ad : Nat → Nat} {base : Nat} {ol : pm_O} {h : pm_H} {bts : ByteArray} {nL kf idx : Nat} {hh : List (Nat × Nat × Nat × Nat)}
theorem x_run {x pc cells slots mc ms : Nat} {as rest fs : List Value} {H : Heap} {locs : List Loc} {ls : Array Slot} {Qc : Array Value → State → Outcome → State → Prop} {XC : String → State → State → Prop} (F : x_fx bts nL hh kf p R s m args meth c) (hk : kf < 168) (hkd : (pm_mi kf).1 = 0) (hci : (pm_mi kf).2.2.1 = 11) (hlk : Cond.methodLink xL idx (pm_y kf) ∈ pm_ws)
    (hM : vx_Met l (pm_y kf) (Jvm.Cond.code (pm_y kf) (pm_b kf) (pm_mL kf) (pm_rt kf) :: pm_ws) { frames := pm_rf kf, cells := mc, slots := ms, locals := pm_rl kf } (x_Pc D cA ad base ol (.ref x :: as) h) Qc XC mc ms (pm_A base))
    (X : pm_cx D cA ad base ol s) (hZ : xF base s) (hgo : pm_go h x = some (11, fs)) (has : as.length = (pm_mi kf).2.1) (h70 : ¬ h.length < pm_M) (hr : pm_hr D cA ad base s h H locs) (hls : ls.size = nL) (hcat : (rest.map fun v => v.category).sum ≤ 8) (hd : decode bts pc = .ok (.invokevirtual idx, 3)) (hf : cells + mc ≤ R.cells ∧ slots + ms ≤ R.slots) :
    vx_Run p l e R s m args below meth c H locs cells slots mc ms (F0 m pc ls ((as.map (pm_tv ad)).reverse ++ .ref (ad x) :: rest)) rest (Qc (Value.ref (ad x) :: as.map (pm_tv ad)).toArray) XC (pm_A base) := by
  obtain ⟨hx, hb, hml, hrt, hlk2, hown, hts, htab, hrf, hrl⟩ := id F
  obtain ⟨m1, m2, m3, m4, m5, m6⟩ := pm_mok kf hk
  obtain ⟨hb1, hb2⟩ := pm_go_at hgo
  rcases m6 with ⟨-, q1, q2, q3⟩ | ⟨q, -⟩ | ⟨q, -⟩
  · rw [hci] at q3
    cases hvc : vwCl[11]? with
    | none => rw [hvc] at q3; cases q3
    | some r =>
      rw [hvc] at q3
      have hC : r.1 = (pm_y kf).cls := Option.some.inj q3
      have hrv := va_recv X.1 hr.1 hvc (pm_t_at hb1 hb2)
      rw [hC] at hrv
      refine vx_runV (As := as.map (pm_tv ad)) (b := ad x) (n := (pm_mi kf).2.1) (C := (pm_y kf).cls) (own := xL) (index := idx) (y := pm_y kf) (Ts := pm_ws) ⟨hx, hb, hml, hown, hts⟩ hM (cwV (pm_mi kf).2.1 hts (pm_good (fun w hw => ?_)) rfl rfl rfl ⟨rfl, m4.1, m4.2, m5⟩ ⟨hrf, hrl⟩) ⟨x_blind, hrv, fun U hU hW => ⟨⟨rfl, pm_cx.moved X hW hU hr.2.2, by rw [hU]; exact hr.1, hr.2.1, fun g => absurd g h70⟩, xF.moved hZ hW hU hr.2.2⟩⟩ rfl ?_ hls rfl (by show 2 * 0 + _ ≤ 8; omega) hd hf
      · unfold wsV at hw
        rcases List.mem_append.mp hw with hw | hw
        · simp only [List.mem_cons, List.not_mem_nil, or_false] at hw
          rcases hw with rfl | rfl | rfl | rfl
          · exact hlk
          · exact q1
          · exact q2
          · exact m2
        · rcases List.mem_cons.mp hw with rfl | hw
          · exact m1
          · exact hw
      · rw [List.length_map]
        exact has
  · rw [hkd] at q; cases q
  · rw [hkd] at q; cases q
/-- the face answers -/
theorem x_norm {x o pc tgt : Nat} {off : Int} {v : Int32} {as fs : List Value} {h1 h2 : pm_H} {ls : Array Slot} (F : x_fx bts nL hh kf p R s m args meth c) (hk : kf < 168) (hkd : (pm_mi kf).1 = 0) (hci : (pm_mi kf).2.2.1 = 11) (hlk : Cond.methodLink xL idx (pm_y kf) ∈ pm_ws) (hAd : ∀ i, i < 1000 → ad i = base + i)
    (hV : pm_V ol o_n kf (.ref x :: as) h = some (some (.int v), h1)) (hcatA : pm_cat (.ref x :: as) ≤ pm_mL kf) (hs : pm_sj h1 o 0 v.toInt64 = some h2)
    (X : pm_cx D cA ad base ol s) (hZ : xF base s) (hgo : pm_go h x = some (11, fs)) (has : as.length = (pm_mi kf).2.1) (h70 : ¬ h.length < pm_M) (hP : va_P D vwCl (pm_w ad cA 0 (h.take pm_M)) s.heap) (hD : va_D (pm_A base) (pm_w ad cA 0 (h.take pm_M))) (hls : ls.size = nL)
    (hc : (h2 ++ [o_d]).length - h.length ≤ R.cells) (hz : pm_sz (h2 ++ [o_d]) - pm_sz h ≤ R.slots)
    (d0 : decode bts pc = .ok (.invokevirtual idx, 3)) (d3 : decode bts (pc + 3) = .ok (.i2l, 1)) (d4 : decode bts (pc + 3 + 1) = .ok (.lastore, 1)) (d5 : decode bts (pc + 3 + 1 + 1) = .ok (.goto off, 3)) (ht : ((pc + 3 + 1 + 1 : Nat) : Int) + off = (tgt : Int)) (d6 : decode bts tgt = .ok (.iconst 0, 1)) (d7 : decode bts (tgt + 1) = .ok (.ireturn, 1)) :
    W p l e R s m args below meth c s.heap [] 0 0 (MQ below (pm_Qc D cA ad base (some (.int 0)) (h2 ++ [o_d])) args s ((h2 ++ [o_d]).length - h.length) (pm_sz (h2 ++ [o_d]) - pm_sz h) (pm_A base)) (F0 m pc ls ((as.map (pm_tv ad)).reverse ++ .ref (ad x) :: [.int 0, .ref (ad o)])) := by
  have g1 := o_V (by omega) hV
  have g2 := o_sj hs
  obtain ⟨z1, z2⟩ := x_szd h2
  obtain ⟨hx, hb, hml, hrt, hlk2, hown, hts, htab, hrf, hrl⟩ := id F
  have hrun := x_run (cells := 0) (slots := 0) (e := e) (below := below) (rest := [.int 0, .ref (ad o)]) F hk hkd hci hlk (x_metR (l := l) (XC := fun _ _ _ => False) hAd hk hcatA hV) X hZ hgo has h70 (⟨hP, hD, va_S.rf⟩ : pm_hr D cA ad base s h s.heap []) hls (Nat.le_of_ble_eq_true rfl) d0 ⟨by omega, by omega⟩
  intro T hT X0
  rcases hrun T hT X0 with ⟨v', st₀, t, T', L, h0, X', hL, e1, e2, ⟨hv, hP1, hD1, hF⟩, go⟩ | ⟨q, st₀, t, T', L, E, ce, h0, X', hL, e1, e2, hbad, -⟩
  · cases hv
    obtain ⟨hF1, hF2⟩ := hF
    rw [h0] at hF1 hF2
    have hS1 : va_S (pm_A base) s.heap T'.heap ([] ++ L) := by
      refine ⟨by rw [e1]; exact hF1, fun q g1 g2 => ?_, fun q hq => hL q hq⟩
      rw [e1]
      exact hF2 q g1 g2
    rw [← e1] at hP1
    have hsj := hs
    unfold pm_sj at hsj
    split at hsj
    · rename_i n f hg
      split at hsj
      · rename_i hin
        obtain rfl := Option.some.inj hsj
        obtain ⟨ha, hat⟩ := pm_gl_at hg
        have hW : W p l e R s m args below meth c T'.heap ([] ++ L) (0 + (h1.length - h.length)) (0 + (pm_sz h1 - pm_sz h)) (MQ below (pm_Qc D cA ad base (some (.int 0)) (h1.set o (.inl (2, n, .inr (.inl (vp_updL f (0 : Int32).toNatClampNeg v.toInt64)))) ++ [o_d])) args s ((h1.set o (.inl (2, n, .inr (.inl (vp_updL f (0 : Int32).toNatClampNeg v.toInt64)))) ++ [o_d]).length - h.length) (pm_sz (h1.set o (.inl (2, n, .inr (.inl (vp_updL f (0 : Int32).toNatClampNeg v.toInt64)))) ++ [o_d]) - pm_sz h) (pm_A base)) (F0 m (pc + 3) ls [.int v, .int 0, .ref (ad o)]) := by
          refine lv_i2l hx hb d3 rfl ?_
          refine va_last hx hb X.1 hP1 hD1 hS1 o 2 (pm_t_at ha hat) rfl hin d4 (fun H1 locs1 hP2 hD2 hS2 => ?_)
          obtain ⟨hP3, hD3, hS3⟩ := pm_put (s := s) (ad := ad) (cA := cA) (h := h1) (y := .inl (2, n, .inr (.inl (vp_updL f (0 : Int32).toNatClampNeg v.toInt64)))) ha hP2 hD2 hS2
          refine lv_goto hx hb d5 ht (lv_iconst hx hb d6 rfl ?_)
          refine W.widen (by omega) (by omega) (W.iret hx hb hrt (fun t2 ht2 _ => ?_) hS3.2.2 d7 hlk2)
          refine ⟨rfl, ?_, ?_, va_S.F hS3 ht2⟩
          · rw [x_tkd (by omega), ht2]
            exact hP3
          · rw [x_tkd (by omega)]
            exact hD3
        obtain ⟨t2, a1, b1⟩ := hW T' rfl X'
        exact ⟨t2, go t2 a1, b1⟩
      · cases hsj
    · cases hsj
  · exact hbad.elim
/-- the face throws -/
theorem x_caught {x o pc hp ep ct pc2 i : Nat} {cls : String} {as fs : List Value} {h1 : pm_H} {ls : Array Slot} {lv : List (Nat × Value)} (F : x_fx bts nL hh kf p R s m args meth c) (hk : kf < 168) (hkd : (pm_mi kf).1 = 0) (hci : (pm_mi kf).2.2.1 = 11) (hlk : Cond.methodLink xL idx (pm_y kf) ∈ pm_ws)
    (hM : vx_Met l (pm_y kf) (Jvm.Cond.code (pm_y kf) (pm_b kf) (pm_mL kf) (pm_rt kf) :: pm_ws) { frames := pm_rf kf, cells := h1.length + 1 - h.length, slots := pm_sz h1 + 6 - pm_sz h, locals := pm_rl kf } (x_Pc D cA ad base ol (.ref x :: as) h) (fun _ _ _ _ => False) (x_X D cA ad base cls h1) (h1.length + 1 - h.length) (pm_sz h1 + 6 - pm_sz h) (pm_A base)) (hg : h.length ≤ h1.length)
    (X : pm_cx D cA ad base ol s) (hZ : xF base s) (hgo : pm_go h x = some (11, fs)) (has : as.length = (pm_mi kf).2.1) (h70 : ¬ h.length < pm_M) (hP : va_P D vwCl (pm_w ad cA 0 (h.take pm_M)) s.heap) (hD : va_D (pm_A base) (pm_w ad cA 0 (h.take pm_M))) (hls : lv_has ls nL lv)
    (hc : (h1 ++ [o_d]).length - h.length ≤ R.cells) (hz : pm_sz (h1 ++ [o_d]) - pm_sz h ≤ R.slots) (hhh : hh = [(0, ep, hp, ct)]) (hep : pc < ep) (hct : ct ≠ 0) (hln : Cond.classLink xL ct cls ∈ pm_ws) (hcast : va_Nw (.castable cls cls) s)
    (d0 : decode bts pc = .ok (.invokevirtual idx, 3)) (d1 : (∃ k2 : _root_.Fin 4, decode bts hp = .ok (.astore_n k2, 1) ∧ (k2 : Nat) = i ∧ pc2 = hp + 1) ∨ (decode bts hp = .ok (.astore i, 2) ∧ pc2 = hp + 2)) (hi : i < nL) (d6 : decode bts pc2 = .ok (.iconst 1, 1)) (d7 : decode bts (pc2 + 1) = .ok (.ireturn, 1)) :
    W p l e R s m args below meth c s.heap [] 0 0 (MQ below (pm_Qc D cA ad base (some (.int 1)) (h1 ++ [o_d])) args s ((h1 ++ [o_d]).length - h.length) (pm_sz (h1 ++ [o_d]) - pm_sz h) (pm_A base)) (F0 m pc ls ((as.map (pm_tv ad)).reverse ++ .ref (ad x) :: [.int 0, .ref (ad o)])) := by
  obtain ⟨z1, z2⟩ := x_szd h1
  rw [z2] at hc
  rw [z1] at hz
  rw [z1, z2]
  obtain ⟨hx, hb, hml, hrt, hlk2, hown, hts, htab, hrf, hrl⟩ := id F
  have hrun := x_run (cells := 0) (slots := 0) (e := e) (below := below) (rest := [.int 0, .ref (ad o)]) F hk hkd hci hlk hM X hZ hgo has h70 (⟨hP, hD, va_S.rf⟩ : pm_hr D cA ad base s h s.heap []) hls.1 (Nat.le_of_ble_eq_true rfl) d0 ⟨by omega, by omega⟩
  intro T hT X0
  rcases hrun T hT X0 with ⟨v', st₀, t, T', L, h0, X', hL, e1, e2, hbad, -⟩ | ⟨q, st₀, t, T', L, E, ce, h0, X', hL, e1, e2, ⟨rfl, hP1, hD1, hF⟩, hce, hcv, hcl, go⟩
  · exact hbad.elim
  · obtain ⟨hF1, hF2⟩ := hF
    rw [h0] at hF1 hF2
    have hS1 : va_S (pm_A base) s.heap T'.heap ([] ++ L) := by
      refine ⟨by rw [e1]; exact hF1, fun q g1 g2 => ?_, fun q hq => hL q hq⟩
      rw [e1]
      exact hF2 q g1 g2
    rw [← e1] at hP1 hce
    subst hhh
    have hfin : ∀ ls' : Array Slot, W p l e R s m args below meth c T'.heap ([] ++ L) (0 + (h1.length + 1 - h.length)) (0 + (pm_sz h1 + 6 - pm_sz h)) (MQ below (pm_Qc D cA ad base (some (.int 1)) (h1 ++ [o_d])) args s (h1.length + 1 - h.length) (pm_sz h1 + 6 - pm_sz h) (pm_A base)) (F0 m pc2 ls' []) := by
      intro ls'
      refine lv_iconst hx hb d6 rfl ?_
      rw [Nat.zero_add, Nat.zero_add]
      refine W.iret hx hb hrt (fun t2 ht2 _ => ?_) hS1.2.2 d7 hlk2
      refine ⟨rfl, ?_, ?_, va_S.F hS1 ht2⟩
      · rw [x_tkd (by omega), ht2]
        exact hP1
      · rw [x_tkd (by omega)]
        exact hD1
    have hK : vx_W p l e R s m args below meth c T'.heap ([] ++ L) (0 + (h1.length + 1 - h.length)) (0 + (pm_sz h1 + 6 - pm_sz h)) (MQ below (pm_Qc D cA ad base (some (.int 1)) (h1 ++ [o_d])) args s (h1.length + 1 - h.length) (pm_sz h1 + 6 - pm_sz h) (pm_A base)) (F0 m pc ls [.int 0, .ref (ad o)]) q := by
      refine vx_catch (own := xL) (name := E) (E := E) hown [] ⟨0, ep, hp, ct⟩ [] htab (fun z hz => by cases hz) (by simp [covers, hep]) hct (hts _ hln) (va_tabs rfl rfl hcast) hce hcv hcl ?_
      rcases d1 with ⟨k2, dd, hk2, rfl⟩ | ⟨dd, rfl⟩
      · exact lv_astore_n hx hb dd hk2 hls hi rfl (fun ls' _ => hfin ls')
      · exact lv_astore hx hb dd hls hi rfl (fun ls' _ => hfin ls')
    obtain ⟨t2, a1, b1⟩ := hK T' rfl X'
    exact ⟨t2, go.trans a1, b1⟩
end XH
