/-! the soundness again, where the oracle may ask more of the start -/
/-- what the machine does where the law calls a method from 500 on -/
def pm_orcOK2 (Ex : Room → Array Value → State → Prop) (l : Launch) (D : va_G) (cA : Nat → ClassId) (ad : Nat → Nat) (base : Nat) (ol : pm_O) (orc : pm_Q) : Prop :=
  ∀ (k' n idx pos pc l0 z0 : Nat) (as rest st : List Value) (lo : pm_L) (h h1 : pm_H) (v : Option Value) (p : Program) (e : Env) (R : Room) (s : State) (m : MethodId) (args : Array Value) (below : List Frame) (meth : Method) (c : Code) (H : Heap) (locs : List Loc) (ls : Array Slot),
    orc k' as h = some (v, h1) → 500 ≤ k' → pm_fx 168 p R s m args meth c → pm_cx D cA ad base ol s → Ex R args s → (l0 < pm_M → s.heap.size = base + l0) → l0 ≤ h.length → z0 ≤ pm_sz h → pm_ins 168 pc = some (.multianewarray k' n, 3, pos) → decode (pm_b 168) pc = .ok (.invokestatic idx, 3) → pm_pop n st [] = some (as, rest) → pm_cat rest ≤ 8 →
    pm_hr D cA ad base s h H locs → lv_has ls (pm_mL 168) (pm_tl ad lo) → h.length - l0 + (h1.length - h.length) ≤ R.cells → pm_sz h - z0 + (pm_sz h1 - pm_sz h) ≤ R.slots →
    va_Run p l e R s m args below meth c H locs (h.length - l0) (pm_sz h - z0) (h1.length - h.length) (pm_sz h1 - pm_sz h) (F0 m pc ls (st.map (pm_tv ad))) (rest.map (pm_tv ad)) (pm_Qc D cA ad base v h1 (as.map (pm_tv ad)).toArray) (pm_A base)
set_option maxHeartbeats 4000000 in
theorem pm_sound2 {Ex : Room → Array Value → State → Prop} {l : Launch} {D : va_G} {cA : Nat → ClassId} {ad : Nat → Nat} {base : Nat} {ol : pm_O} {orc : pm_Q} (hAd : ∀ i, i < 1000 → ad i = base + i) (hG : pm_orcG orc) (hO : pm_orcOK2 Ex l D cA ad base ol orc) :
    ∀ (n k pc : Nat) (lo : pm_L) (st : List Value) (h : pm_H) (v : Option Value) (h' : pm_H), pm_X ol orc n k pc lo st h = some (v, h') → k < 169 →
    ∀ (p : Program) (e : Env) (R : Room) (s : State) (m : MethodId) (args : Array Value) (below : List Frame) (meth : Method) (c : Code) (l0 z0 : Nat), pm_fx k p R s m args meth c → pm_cx D cA ad base ol s → (k = 168 → Ex R args s) → (l0 < pm_M → s.heap.size = base + l0) → l0 ≤ h.length → z0 ≤ pm_sz h → h'.length - l0 ≤ R.cells → pm_sz h' - z0 ≤ R.slots →
    pm_U p l e R s m args below meth c (MQ below (pm_Qc D cA ad base v h') args s (h'.length - l0) (pm_sz h' - z0) (pm_A base)) D cA ad base k l0 z0 pc lo st h := by
  intro n
  induction n with
  | zero => intro k pc lo st h v h' hr; cases hr
  | succ n ih =>
    intro k pc lo st h v h' hr hk p e R s m args below meth c l0 z0 F X hEx hE hl0 hz0 hc hz
    rw [pm_X] at hr
    cases hi : pm_ins k pc with
    | none => rw [hi] at hr; cases hr
    | some x =>
      obtain ⟨i, len, pos⟩ := x
      rw [hi] at hr
      dsimp only at hr
      suffices hU : pm_U p l e R s m args below meth c (MQ below (pm_Qc D cA ad base v h') args s (h'.length - l0) (pm_sz h' - z0) (pm_A base)) D cA ad base k l0 z0 pc (pm_lv (pm_liv k pc) lo) st h from fun H locs ls hR hl => hU H locs ls hR (pm_lv_has hl)
      generalize pm_lv (pm_liv k pc) lo = lo at hr ⊢
      cases ho : pm_one ol i len pc lo st h with
      | none => rw [ho] at hr; cases hr
      | some y =>
        rw [ho] at hr
        rcases y with ⟨pc', lo', st', h2⟩ | v2 | ⟨k', as, rest⟩
        · have g1 := pm_one_grow ho
          have g2 := pm_X_grow hG _ _ _ _ _ _ _ _ hr
          exact pm_step F X hE hAd hk hi ho hl0 hz0 (by omega) (by omega) (ih _ _ _ _ _ _ _ hr hk p e R s m args below meth c l0 z0 F X hEx hE (by omega) (by omega) hc hz)
        · cases hr
          have hok := pm_okk_spec (pm_okr k hk) hi
          unfold pm_okI at hok
          split at hok
          · rename_i i0 len0 hd
            simp only [Bool.and_eq_true, decide_eq_true_eq] at hok
            obtain ⟨hlen, hj⟩ := hok
            subst hlen
            obtain ⟨o1, o2, o3, o4⟩ := pm_okret hj
            obtain ⟨hx, hb, hml, hrt, hlk, hnm, hown, hts, hrf, hrl⟩ := id F
            intro H locs ls hR hl
            have hq : ∀ (w : Option Value) (t : State), t.heap = H → s.WarmedH t.vm → pm_Qc D cA ad base w h args s (.returned (w.map (pm_tv ad))) t := fun w t ht _ => ⟨rfl, by rw [ht]; exact hR.1, hR.2.1, va_S.F hR.2.2 ht⟩
            rcases pm_one_ret ho with ⟨x, rfl, rfl, rfl⟩ | ⟨x, rfl, rfl, rfl, h01⟩ | ⟨x, rfl, rfl, rfl⟩ | ⟨rfl, rfl, rfl⟩
            · obtain ⟨rfl, rfl, q⟩ := o1 rfl
              exact W.iret hx hb (hrt.trans q) (hq (some (.int x))) hR.2.2.2.2 hd
            · obtain ⟨rfl, rfl, q⟩ := o2 rfl
              exact W.zret hx hb (hrt.trans q) (by rcases h01 with rfl | rfl <;> rfl) (hq (some (.int x))) hR.2.2.2.2 hd
            · obtain ⟨rfl, rfl, C, q⟩ := o3 rfl
              exact W.aret hx hb (hrt.trans q) (Or.inl ⟨C, rfl⟩) (Or.inr ⟨_, rfl⟩) (hq (some (.ref x))) hR.2.2.2.2 hd
            · obtain ⟨rfl, rfl, q⟩ := o4 rfl
              exact W.vret hx hb (hrt.trans q) (hq none) hR.2.2.2.2 hd
          · cases hok
        · dsimp only at hr
          obtain ⟨q1, q2, q3⟩ := pm_one_call ho
          have hok := pm_okk_spec (pm_okr k hk) hi
          unfold pm_okI at hok
          split at hok
          · rename_i i0 len0 hd
            simp only [Bool.and_eq_true, decide_eq_true_eq] at hok
            obtain ⟨hlen, hj⟩ := hok
            subst hlen
            by_cases hk5 : k' < 500
            · simp only [if_pos hk5] at hr
              cases hcl : pm_X ol orc n k' 0 (lv_args 0 as) [] h with
              | none => rw [hcl] at hr; cases hr
              | some z =>
                obtain ⟨v3, h3⟩ := z
                rw [hcl] at hr
                dsimp only at hr
                have g1 := pm_X_grow hG _ _ _ _ _ _ _ _ hcl
                have g2 := pm_X_grow hG _ _ _ _ _ _ _ _ hr
                have hcat : pm_cat as ≤ pm_mL k' := by
                  rcases q2 with q | q
                  · omega
                  · exact q
                have K := ih _ _ _ _ _ _ _ hr hk p e R s m args below meth c l0 z0 F X hEx hE (by omega) (by omega) hc hz
                have hMet := fun hk1 : k' < 168 => pm_metOf (l := l) (h := h) (as := as) (h1 := h3) (v := v3) (D := D) (cA := cA) (ad := ad) (base := base) (ol := ol) hk1 hcat (fun p e R s m args below meth c F1 X1 hE1 b1 b2 => ih _ _ _ _ _ _ _ hcl (by omega) p e R s m args below meth c h.length (pm_sz h) F1 X1 (fun q => absurd q (by omega)) hE1 (Nat.le_refl _) (Nat.le_refl _) b1 b2)
                rcases q3 with ⟨x, n1, b, a1, fs, rfl, hk', has, hpop, hgo⟩ | ⟨n1, rfl, hpop⟩
                · obtain ⟨rfl, hcase⟩ := pm_okcall hj
                  rw [← hk'] at hcase
                  intro H locs ls hR hl
                  rcases hcase with ⟨idx, rfl, hokc⟩ | ⟨idx, rfl, hokc⟩
                  · exact pm_callRun (a0 := []) F X hE hAd hl0 (hMet (pm_okc_spec hokc).1) hokc hpop q1 hd (Or.inl ⟨rfl, rfl⟩) (fun _ => ⟨b, a1, fs, has, hgo⟩) hR hl (by omega) (by omega) (fun hrun => pm_after hrun hl0 hz0 g1.1 g1.2 hR hl K)
                  · exact pm_callRun (a0 := []) F X hE hAd hl0 (hMet (pm_okc_spec hokc).1) hokc hpop q1 hd (Or.inr (Or.inr ⟨rfl, rfl⟩)) (fun _ => ⟨b, a1, fs, has, hgo⟩) hR hl (by omega) (by omega) (fun hrun => pm_after hrun hl0 hz0 g1.1 g1.2 hR hl K)
                · obtain ⟨rfl, idx, rfl, hcase⟩ := pm_okcalls hj
                  rcases hcase with ⟨hbad, -⟩ | hokc
                  · omega
                  · intro H locs ls hR hl
                    exact pm_callRun (a0 := []) F X hE hAd hl0 (hMet (pm_okc_spec hokc).1) hokc hpop q1 hd (Or.inr (Or.inl ⟨rfl, rfl⟩)) (fun g => absurd rfl g) hR hl (by omega) (by omega) (fun hrun => pm_after hrun hl0 hz0 g1.1 g1.2 hR hl K)
            · simp only [if_neg hk5] at hr
              cases hcl : orc k' as h with
              | none => rw [hcl] at hr; cases hr
              | some z =>
                obtain ⟨v3, h3⟩ := z
                rw [hcl] at hr
                dsimp only at hr
                have g1 := hG _ _ _ _ _ hcl
                have g2 := pm_X_grow hG _ _ _ _ _ _ _ _ hr
                have K := ih _ _ _ _ _ _ _ hr hk p e R s m args below meth c l0 z0 F X hEx hE (by omega) (by omega) hc hz
                rcases q3 with ⟨x, n1, b, a1, fs, rfl, hk', has, hpop, hgo⟩ | ⟨n1, rfl, hpop⟩
                · obtain ⟨rfl, hcase⟩ := pm_okcall hj
                  rw [← hk'] at hcase
                  rcases hcase with ⟨idx, rfl, hokc⟩ | ⟨idx, rfl, hokc⟩
                  · have := (pm_okc_spec hokc).1
                    omega
                  · have := (pm_okc_spec hokc).1
                    omega
                · obtain ⟨rfl, idx, rfl, hcase⟩ := pm_okcalls hj
                  rcases hcase with ⟨-, rfl⟩ | hokc
                  · intro H locs ls hR hl
                    exact pm_after (hO k' n1 idx pos pc l0 z0 as rest st lo h h3 v3 p e R s m args below meth c H locs ls hcl (by omega) F X (hEx rfl) hE hl0 hz0 hi hd hpop q1 hR hl (by omega) (by omega)) hl0 hz0 g1.1 g1.2 hR hl K
                  · have := (pm_okc_spec hokc).1
                    omega
          · cases hok
/-- what the pure machine must do, and what it asks -/
def st_Pure2 (Ex : Room → Array Value → State → Prop) (l : Launch) (D : va_G) (cA : Nat → ClassId) (ad : Nat → Nat) (base L : Nat) (xs : Nat → Int32) : Prop :=
  ∃ (orc : pm_Q) (n : Nat) (h' : pm_H), pm_orcG orc ∧ pm_orcOK2 Ex l D cA ad base (pm_ol L xs) orc ∧ pm_X (pm_ol L xs) orc n 168 0 (lv_args 0 [.ref 1000]) [] [] = some (some (.int 1), h') ∧ h'.length ≤ 601024 ∧ pm_sz h' ≤ 7293034
set_option maxHeartbeats 4000000 in
/-- THE LAW, from its entry, out of the pure run -/
theorem whole_of2 {Ex : Room → Array Value → State → Prop} {p : Program} {e : Env} {s : State} {m : MethodId} {below : List Frame} {meth : Method} {c : Code} (l : Launch) {b L : Nat} {xs : Nat → Int32} (C0 : lw_At p s m meth c b L xs)
    (hp : ∀ (D : va_G) (cA : Nat → ClassId) (ad : Nat → Nat), (∀ i, i < 1000 → ad i = s.heap.size + i) → pm_cx D cA ad s.heap.size (pm_ol L xs) s → st_Pure2 Ex l D cA ad s.heap.size L xs) (hEx : Ex room_1 #[Value.ref b] s) :
    W p l e room_1 s m #[Value.ref b] below meth c s.heap [] 0 0 (lw_Z below #[Value.ref b] s) (entryFrame m ([Value.ref b] : List Value).toArray 7) := by
  obtain ⟨hx, hb, hr, hml, hown, hts, hX, hbl, hlocks, hgv⟩ := id C0
  obtain ⟨dC, dI, hKc⟩ := st_classes hts
  obtain ⟨cA, hKa⟩ := st_arrays hts
  obtain ⟨t1, hZ1, hT1⟩ := st_stat (F := xbL) hgv (hts _ st_l1) (st_w hts (pm_cls 2 RX2 TX2 2 rfl).2.2.2.2) st_n1 st_e1
  obtain ⟨t2, hZ2, hT2⟩ := st_stat (F := gvL) hgv (hts _ st_l2) (st_w hts (pm_cls 7 RX7 TX7 5 rfl).2.2.2.2) st_n2 st_e2
  have hAd : ∀ i, i < 1000 → pm_ad s.heap.size (st_od b t1 t2) i = s.heap.size + i := fun i hi => if_pos hi
  have hcx : pm_cx (dC, dI) cA (pm_ad s.heap.size (st_od b t1 t2)) s.heap.size (pm_ol L xs) s := by
    refine ⟨⟨hKc, hKa⟩, va_AO.of (hts _ st_ao), Nat.le_refl _, fun j N f hj => ?_, hZ1, hZ2⟩
    match j, hj with
    | 0, hj => cases hj; exact st_scr hX hbl
    | 1, hj => cases hj; exact hT1
    | 2, hj => cases hj; exact hT2
    | n + 3, hj => simp [pm_ol] at hj
  obtain ⟨orc, n, h', hG, hO, hrun, hlen, hsz⟩ := hp (dC, dI) cA _ hAd hcx
  have hF : pm_fx 168 p room_1 s m #[Value.ref b] meth c := ⟨hx, hb, hml, hr, hlocks, fun g => absurd g (by decide +kernel), hown, fun w hw => st_w hts hw, by decide +kernel, by decide +kernel⟩
  have hU := pm_sound2 hAd hG hO n 168 0 _ [] [] _ h' hrun (by omega) p e room_1 s m #[Value.ref b] below meth c 0 0 hF hcx (fun _ => hEx) (fun _ => rfl) (Nat.le_refl _) (Nat.le_refl _) (by show h'.length - 0 ≤ 601024; omega) (by show pm_sz h' - 0 ≤ 7293034; omega)
  have hl := lv_entry ([.ref b]) (n := 7) (Nat.le_of_ble_eq_true rfl)
  have hP0 : va_P (dC, dI) vwCl (pm_w (pm_ad s.heap.size (st_od b t1 t2)) cA 0 (([] : pm_H).take pm_M)) s.heap := fun k q h => by simp [pm_w] at h
  have hD0 : va_D (pm_A s.heap.size) (pm_w (pm_ad s.heap.size (st_od b t1 t2)) cA 0 (([] : pm_H).take pm_M)) := ⟨fun i j p q h => by simp [pm_w] at h, fun k q h => by simp [pm_w] at h⟩
  have hW := hU s.heap [] _ ⟨hP0, hD0, va_S.rf⟩ hl
  rw [lg_entry_eq]
  intro T hT X
  obtain ⟨t, a1, o, b1, b2, ⟨q1, -⟩, Ls, ⟨f1, f2, f3⟩, hfr⟩ := hW T hT X
  refine ⟨t, a1, o, b1, b2, q1, f1, f2, f3.weaken (fun y hy hlt => absurd hlt (Nat.not_lt.mpr (hfr y hy))) (by omega) (by omega)⟩
