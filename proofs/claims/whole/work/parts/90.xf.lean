/-! what a throw asks of the start, and the face's methods that may throw -/
abbrev xIA : String := "java/lang/IllegalArgumentException"
abbrev xIS : String := "java/lang/IllegalStateException"
def xNm : List String := ["java/lang/RuntimeException", "java/lang/Exception"]
abbrev xTx : String := "the table is malformed"
abbrev xTy : String := "the table would be too long"
def xD : Nat → Jvm.Cond
  | 0 => .declares { cls := "java/lang/RuntimeException", name := "<init>", desc := "(Ljava/lang/String;)V" }
  | 1 => .declares { cls := "java/lang/Exception", name := "<init>", desc := "(Ljava/lang/String;)V" }
  | _ => .declares { cls := "java/lang/Throwable", name := "<init>", desc := "(Ljava/lang/String;)V" }
def xF (base : Nat) (U : State) : Prop :=
  vx_Zq Bundle.tN "UNASSIGNED_STACK" Bundle.steD (pm_A base) U U.heap ∧ vx_Zq Bundle.tN "SUPPRESSED_SENTINEL" Bundle.listD (pm_A base) U U.heap ∧ (∃ a, vk_R RX11 117 xTx a U) ∧ (∃ a, vk_R RX11 140 xTy a U) ∧ va_Nw (xD 0) U ∧ va_Nw (xD 1) U ∧ va_Nw (xD 2) U ∧ va_Nw (.castable xIA xIA) U ∧ va_Nw (.castable xIS xIS) U
theorem xF.moved {base : Nat} {s U : State} {H : Heap} {locs : List Loc} (h : xF base s) (hW : s.WarmedH U.vm) (hU : U.heap = H) (hS : va_S (pm_A base) s.heap H locs) : xF base U := by
  obtain ⟨h1, h2, ⟨a, h3⟩, ⟨b, h4⟩, h5, h6, h7, h8, h9⟩ := h
  have hk : ∀ a : Nat, a < s.heap.size → ¬ pm_A base a → U.heap[a]? = s.heap[a]? := fun a g1 g2 => by rw [hU]; exact hS.2.1 a g1 g2
  exact ⟨(vx_Zq.moved hW.alike h1).kept hk, (vx_Zq.moved hW.alike h2).kept hk, ⟨a, vk_R.warm hW h3⟩, ⟨b, vk_R.warm hW h4⟩, va_Nw.warmD hW h5, va_Nw.warmD hW h6, va_Nw.warmD hW h7, va_Nw.warmC hW h8, va_Nw.warmC hW h9⟩
theorem x_pm {w : Jvm.Cond} (i : Nat) (h : lw_tbl[i]? = some w) (g : goodWord w = true) : w ∈ pm_ws := List.mem_filter.mpr ⟨List.mem_of_getElem? h, g⟩
theorem x_pms {L : List Jvm.Cond} (ps : List Nat) (h : L = ps.filterMap (fun i => lw_tbl[i]?)) (g : L.all goodWord = true) : ∀ w ∈ L, w ∈ pm_ws := by
  intro w hw
  have h1 := List.all_eq_true.mp g w hw
  rw [h] at hw
  obtain ⟨i, -, hi⟩ := List.mem_filterMap.mp hw
  exact x_pm i hi h1
theorem x_a1 : ∀ w ∈ (vx_atS RX11 119 xIA xNm).filter goodWord, w ∈ pm_ws := x_pms [86, 538, 547, 550, 553, 555, 539, 540, 98, 99, 541, 546, 551, 571, 528, 572, 530, 573, 532, 542, 544, 534, 567, 568, 570, 534, 558, 559, 560, 561, 561, 562, 563, 564, 564, 565, 566, 567, 557, 517, 525, 526, 527, 529, 531, 533, 537, 536, 535] (by decide +kernel) (by decide +kernel)
theorem x_a2 : ∀ w ∈ (vx_atS RX11 142 xIS xNm).filter goodWord, w ∈ pm_ws := x_pms [86, 538, 547, 550, 553, 555, 539, 540, 98, 99, 541, 546, 551, 571, 528, 572, 530, 573, 532, 542, 544, 534, 567, 568, 570, 534, 918, 919, 920, 561, 561, 562, 563, 564, 564, 565, 566, 567, 917, 908, 910, 549, 911, 912, 913, 914, 537, 536, 915] (by decide +kernel) (by decide +kernel)
theorem x_b1 : ∀ w ∈ (vx_atS RX11 119 xIA xNm).filter (fun w => !goodWord w), w ∈ [xD 0, xD 1, xD 2, .castable xIA xIA] := by decide +kernel
theorem x_b2 : ∀ w ∈ (vx_atS RX11 142 xIS xNm).filter (fun w => !goodWord w), w ∈ [xD 0, xD 1, xD 2, .castable xIS xIS] := by decide +kernel
theorem x_k1 : Jvm.Cond.classLink RX11 115 xIA ∈ pm_ws := x_pm 516 (by decide +kernel) rfl
theorem x_k2 : Jvm.Cond.classLink RX11 138 xIS ∈ pm_ws := x_pm 907 (by decide +kernel) rfl
theorem x_i1 : Jvm.Cond.initialized xIA ∈ pm_ws := x_pm 89 (by decide +kernel) rfl
theorem x_i2 : Jvm.Cond.initialized xIS ∈ pm_ws := x_pm 91 (by decide +kernel) rfl
theorem x_g1 : ∀ w ∈ Cond.classLink RX11 115 xIA :: Cond.initialized xIA :: vx_atS RX11 119 xIA xNm, vx_ot w = true := by decide +kernel
theorem x_g2 : ∀ w ∈ Cond.classLink RX11 138 xIS :: Cond.initialized xIS :: vx_atS RX11 142 xIS xNm, vx_ot w = true := by decide +kernel
/-- at the law's entry -/
theorem xF.of {s : State} {as : Array Value} (hts : ∀ w ∈ lw_tbl, w.before as s = true) (hgv : (Jvm.Cond.and given_1 narrow_1).before as s = true) : xF s.heap.size s := by
  have hs := flat_of_before _ hgv
  have hA : ∀ a : Nat, a < s.heap.size → ¬ pm_A s.heap.size a := fun a h g => absurd (show s.heap.size ≤ a from g) (by omega)
  have ht : ∀ (i : Nat) (w : Jvm.Cond), lw_tbl[i]? = some w → w.before as s = true := fun i w h => hts w (List.mem_of_getElem? h)
  have hw : ∀ w : Jvm.Cond, w.onTables = true → w.before as s = true → va_Nw w s := fun w h1 h2 => va_tabs h1 rfl h2
  have hi := ht 86 (.initialized Bundle.tN) (by decide +kernel)
  have hstr : ∀ (k : Nat) (tx : String) (i : Nat), lw_tbl[i]? = some (.stringRef RX11 k tx) → Jvm.Cond.exactly (.string RX11 k) "java/lang/String" ∈ flatC (Jvm.Cond.and given_1 narrow_1) → ∃ a, vk_R RX11 k tx a s := by
    intro k tx i h1 h2
    have h3 := hs _ h2
    obtain ⟨a, c, cA, kA, q1, -⟩ := Cond.exactly_spec (args := as) (first := s) (o := none) (s := s) (idx := []) (t := .string RX11 k) (cls := "java/lang/String") h3
    exact ⟨a, vk_R.of (ht i _ h1) q1⟩
  refine ⟨vx_Zqof (ht 543 _ (by decide +kernel)) hi (hs _ (by decide +kernel)) hA, vx_Zqof (ht 545 _ (by decide +kernel)) hi (hs _ (by decide +kernel)) hA, hstr 117 xTx 556 (by decide +kernel) (by decide +kernel), hstr 140 xTy 916 (by decide +kernel) (by decide +kernel), ?_, ?_, ?_, ?_, ?_⟩
  · exact hw _ rfl (ht 520 _ (by decide +kernel))
  · exact hw _ rfl (ht 522 _ (by decide +kernel))
  · exact hw _ rfl (ht 524 _ (by decide +kernel))
  · exact hw _ rfl (ht 518 _ (by decide +kernel))
  · exact hw _ rfl (ht 909 _ (by decide +kernel))
def x_Pc (D : va_G) (cA : Nat → ClassId) (ad : Nat → Nat) (base : Nat) (ol : pm_O) (as : List Value) (h : pm_H) : Array Value → State → Prop := fun a U => pm_Pc D cA ad base ol as h a U ∧ xF base U
def x_X (D : va_G) (cA : Nat → ClassId) (ad : Nat → Nat) (base : Nat) (cls : String) (h : pm_H) : String → State → State → Prop := fun E st t =>
  E = cls ∧ va_P D vwCl (pm_w ad cA 0 (h.take pm_M)) t.heap ∧ va_D (pm_A base) (pm_w ad cA 0 (h.take pm_M)) ∧ va_F (pm_A base) st t
theorem x_blind {D : va_G} {cA : Nat → ClassId} {ad : Nat → Nat} {base : Nat} {ol : pm_O} {as : List Value} {h : pm_H} : FrameBlind (x_Pc D cA ad base ol as h) := by
  intro a U g mk hh
  exact ⟨pm_blind a U g mk hh.1, xF.moved (locs := []) hh.2 (State.WarmedH.refl U) rfl va_S.rf⟩
section XME
variable {p : Program} {l : Launch} {e : Env} {R : Room} {s : State} {m : MethodId} {args : Array Value} {below : List Frame} {meth : Method} {c : Code} {Q : State → Prop}
variable {D : va_G} {cA : Nat → ClassId} {ad : Nat → Nat} {base : Nat} {ol : pm_O} {k l0 z0 pc : Nat} {lo : pm_L} {st : List Value} {h : pm_H}
/-- the contract of a method that may throw, out of its body -/
theorem x_metOf {k' : Nat} (hk : k' < 168) {as : List Value} {Qc : Array Value → State → Outcome → State → Prop} {XC : String → State → State → Prop} {mc ms : Nat} (hcat : pm_cat as ≤ pm_mL k')
    (body : ∀ (p : Program) (e : Env) (R : Room) (s : State) (m : MethodId) (args : Array Value) (below : List Frame) (meth : Method) (c : Code), pm_fx k' p R s m args meth c → pm_cx D cA ad base ol s → xF base s → (∀ x ∈ c.exceptionTable.toList, False) → (h.length < pm_M → s.heap.size = base + h.length) → mc ≤ R.cells → ms ≤ R.slots → pm_U p l e R s m args below meth c (vx_MQ below Qc XC args s mc ms (pm_A base)) D cA ad base k' h.length (pm_sz h) 0 (lv_args 0 as) [] h) :
    vx_Met l (pm_y k') (Jvm.Cond.code (pm_y k') (pm_b k') (pm_mL k') (pm_rt k') :: pm_ws) { frames := pm_rf k', cells := mc, slots := ms, locals := pm_rl k' } (x_Pc D cA ad base ol as h) Qc XC mc ms (pm_A base) := by
  obtain ⟨m1, m2, m3, m4, m5, m6⟩ := pm_mok k' hk
  refine vx_ofW (cc := pm_b k') (maxL := pm_mL k') (ret := pm_rt k') m3 rfl ?_
  intro p e s m args below meth c s₁ B hml hno hv
  obtain ⟨⟨rfl, hcx, hP, hD, hsz⟩, hxf⟩ := hv
  have hts := atoms_spec (ws := Jvm.Cond.code (pm_y k') (pm_b k') (pm_mL k') (pm_rt k') :: pm_ws) B.pre
  have hF : pm_fx k' p { frames := pm_rf k', cells := mc, slots := ms, locals := pm_rl k' } s m (as.map (pm_tv ad)).toArray meth c := ⟨B.exec, B.bytes, hml, B.returns, B.notSynchronized, fun g => (name_of_methodNamed B.named B.method).1.trans g, findClass_of_methodNamed B.named, fun w hw => hts w (List.mem_cons_of_mem _ hw), Nat.le_refl _, Nat.le_refl _⟩
  have hU := body p e _ s m _ below meth c hF hcx hxf hno hsz (Nat.le_refl _) (Nat.le_refl _)
  have hl := lv_entry (as.map (pm_tv ad)) (n := pm_mL k') (by rw [pm_lgsl]; exact hcat)
  rw [pm_largs] at hl
  have hW := hU s.heap [] _ ⟨hP, hD, va_S.rf⟩ hl
  rw [Nat.sub_self, Nat.sub_self] at hW
  rw [lg_entry_eq]
  exact hW
/-- .. that does not throw -/
theorem x_metR (hAd : ∀ i, i < 1000 → ad i = base + i) {k' : Nat} (hk : k' < 168) {as : List Value} {XC : String → State → State → Prop} {h1 : pm_H} {v : Option Value} (hcat : pm_cat as ≤ pm_mL k') (hx : pm_V ol o_n k' as h = some (v, h1)) :
    vx_Met l (pm_y k') (Jvm.Cond.code (pm_y k') (pm_b k') (pm_mL k') (pm_rt k') :: pm_ws) { frames := pm_rf k', cells := h1.length - h.length, slots := pm_sz h1 - pm_sz h, locals := pm_rl k' } (x_Pc D cA ad base ol as h) (pm_Qc D cA ad base v h1) XC (h1.length - h.length) (pm_sz h1 - pm_sz h) (pm_A base) := by
  unfold pm_V at hx
  rw [if_pos (by omega)] at hx
  obtain ⟨n, hn⟩ := pm_F_to hx
  refine x_metOf hk hcat (fun p e R s m args below meth c F X _ _ hE b1 b2 => ?_)
  intro H locs ls hR hls
  exact vx_ret (pm_sound (orc := fun _ _ _ => none) hAd (by intro _ _ _ _ _ g; simp at g) (by intro _ _ _ _ _ _ _ _ _ _ _ _ _ _ _ _ _ _ _ _ _ _ _ _ _ _ g; simp at g) _ _ _ _ _ _ _ _ hn (by omega) p e R s m args below meth c _ _ F X hE (Nat.le_refl _) (Nat.le_refl _) b1 b2 H locs ls hR hls)
/-- what is behind a throw -/
theorem x_after {h1 : pm_H} {H : Heap} {locs : List Loc} {cls : String} (hR : pm_hr D cA ad base s h1 H locs) (t : State) (hz : H.size ≤ t.heap.size) (hq : ∀ q : Nat, q < H.size → t.heap[q]? = H[q]?) : x_X D cA ad base cls h1 cls s t := by
  obtain ⟨hP, hD, hS⟩ := hR
  refine ⟨rfl, hP.kept (fun k q hk => hq q.1 (vx_lt hP hk)), hD, Nat.le_trans hS.1 hz, fun q g1 g2 => ?_⟩
  rw [hq q (Nat.lt_of_lt_of_le g1 hS.1)]
  exact hS.2.1 q g1 g2
/-- the throw of a face method k at its place pc -/
theorem x_thr (hl : l.stackTraces = false) {k' pc ik is ic : Nat} {cls tx : String} {h1 : pm_H} {Qc : Array Value → State → Outcome → State → Prop} (F : pm_fx k' p R s m args meth c) (hxo : ∀ x ∈ c.exceptionTable.toList, False) (hZ : xF base s)
    (hcl : (pm_y k').cls = RX11) (hfit : Bundle.fit cls = true) (hk1 : Cond.classLink RX11 ik cls ∈ pm_ws) (hk2 : Cond.initialized cls ∈ pm_ws) (hstr : ∃ a, vk_R RX11 is tx a s) (ha : ∀ w ∈ (vx_atS RX11 ic cls xNm).filter goodWord, w ∈ pm_ws) (hb : ∀ w ∈ (vx_atS RX11 ic cls xNm).filter (fun w => !goodWord w), w.before args s = true)
    (hg : ∀ w ∈ Cond.classLink RX11 ik cls :: Cond.initialized cls :: vx_atS RX11 ic cls xNm, vx_ot w = true)
    (d0 : decode (pm_b k') pc = .ok (.new ik, 3)) (d3 : decode (pm_b k') (pc + 3) = .ok (.dup, 1)) (d4 : decode (pm_b k') (pc + 4) = .ok (.ldc is, 2)) (d6 : decode (pm_b k') (pc + 6) = .ok (.invokespecial ic, 3)) (d9 : decode (pm_b k') (pc + 9) = .ok (.athrow, 1))
    (hf1 : 5 < pm_rf k') (hf2 : 82 ≤ pm_rl k') (hl0 : l0 ≤ h1.length) (hz0 : z0 ≤ pm_sz h1) (hc : h1.length + 1 - l0 ≤ R.cells) (hz : pm_sz h1 + 6 - z0 ≤ R.slots) (lo : pm_L) :
    pm_U p l e R s m args below meth c (vx_MQ below Qc (x_X D cA ad base cls h1) args s (h1.length + 1 - l0) (pm_sz h1 + 6 - z0) (pm_A base)) D cA ad base k' l0 z0 pc lo [] h1 := by
  obtain ⟨hx, hbb, hml, hrt, hlk, hnm, hown, hts, hrf, hrl⟩ := id F
  intro H locs ls hR hls
  obtain ⟨sa, hstr⟩ := hstr
  rw [hcl] at hown
  refine vx_throwS (A := pm_A base) hx hbb hl hown hfit (by decide) (hts _ hk1) (hts _ hk2) hstr (vx_hat (B := (vx_atS RX11 ic cls xNm).filter (fun w => !goodWord w)) (fun w hw => hts w (ha w hw)) (fun w hw => hw) hb) hg hZ.1 hZ.2.1 hR.2.2 (hls.1.trans hml.symm) d0 d3 d4 d6 d9 (fun x hx => (hxo x hx).elim) ?_ ?_ (by omega) (by omega) hlk (fun t _ g1 g2 => x_after hR t g1 g2) hR.2.2.2.2 (by omega) (by omega)
  · show 2 + 3 < R.frames
    omega
  · show 0 + (13 * (2 + 1) + 43) ≤ R.locals
    omega
end XME
theorem x_hb1 {base : Nat} {s : State} {args : Array Value} (hZ : xF base s) : ∀ w ∈ (vx_atS RX11 119 xIA xNm).filter (fun w => !goodWord w), w.before args s = true := by
  obtain ⟨-, -, -, -, h5, h6, h7, h8, h9⟩ := hZ
  intro w hw
  have hm := x_b1 w hw
  rcases List.mem_cons.mp hm with rfl | hm
  · exact va_tabs rfl rfl h5
  rcases List.mem_cons.mp hm with rfl | hm
  · exact va_tabs rfl rfl h6
  rcases List.mem_cons.mp hm with rfl | hm
  · exact va_tabs rfl rfl h7
  rcases List.mem_cons.mp hm with rfl | hm
  · exact va_tabs rfl rfl h8
  cases hm
theorem x_hb2 {base : Nat} {s : State} {args : Array Value} (hZ : xF base s) : ∀ w ∈ (vx_atS RX11 142 xIS xNm).filter (fun w => !goodWord w), w.before args s = true := by
  obtain ⟨-, -, -, -, h5, h6, h7, h8, h9⟩ := hZ
  intro w hw
  have hm := x_b2 w hw
  rcases List.mem_cons.mp hm with rfl | hm
  · exact va_tabs rfl rfl h5
  rcases List.mem_cons.mp hm with rfl | hm
  · exact va_tabs rfl rfl h6
  rcases List.mem_cons.mp hm with rfl | hm
  · exact va_tabs rfl rfl h7
  rcases List.mem_cons.mp hm with rfl | hm
  · exact va_tabs rfl rfl h9
  cases hm
section XMT
variable {l : Launch} {D : va_G} {cA : Nat → ClassId} {ad : Nat → Nat} {base : Nat} {ol : pm_O} {h : pm_H} {Qc : Array Value → State → Outcome → State → Prop}
theorem x_mt107 (hl : l.stackTraces = false) (hAd : ∀ i, i < 1000 → ad i = base + i) {x r : Nat} {h1 : pm_H} (e1 : pm_fd h x 11 3 = some (.ref r)) (e3 : pm_is h r 8 = true) (e2 : pm_V ol o_n 69 [.ref r] h = some (some (.int 0), h1)) : vx_Met l (pm_y 107) (Jvm.Cond.code (pm_y 107) (pm_b 107) (pm_mL 107) (pm_rt 107) :: pm_ws) { frames := pm_rf 107, cells := h1.length + 1 - h.length, slots := pm_sz h1 + 6 - pm_sz h, locals := pm_rl 107 } (x_Pc D cA ad base ol [.ref x] h) Qc (x_X D cA ad base xIA h1) (h1.length + 1 - h.length) (pm_sz h1 + 6 - pm_sz h) (pm_A base) := by
  have g := o_V (by decide) e2
  refine x_metOf (by decide) (Nat.le_trans (show _ ≤ 1 from Nat.le_of_ble_eq_true rfl) (by decide +kernel)) (fun p e R s m args below meth c F X hZ hxo hE b1 b2 => ?_)
  refine P_rd107 F X hE hAd e1 e3 e2 (Nat.le_refl _) (Nat.le_refl _) (by omega) (by omega) (fun lo => ?_)
  exact x_thr (ik := 115) (is := 117) (ic := 119) (tx := xTx) hl F hxo hZ rfl (by decide) x_k1 x_i1 hZ.2.2.1 x_a1 (x_hb1 hZ) x_g1 (by decide +kernel) (by decide +kernel) (by decide +kernel) (by decide +kernel) (by decide +kernel) (by decide +kernel) (by decide +kernel) g.1 g.2 b1 b2 lo
theorem x_mt108 (hl : l.stackTraces = false) (hAd : ∀ i, i < 1000 → ad i = base + i) {x r : Nat} {i u : Int32} {h1 : pm_H} (e1 : pm_fd h x 11 3 = some (.ref r)) (e3 : pm_is h r 8 = true) (e2 : pm_V ol o_n 69 [.ref r] h = some (some (.int 0), h1)) : vx_Met l (pm_y 108) (Jvm.Cond.code (pm_y 108) (pm_b 108) (pm_mL 108) (pm_rt 108) :: pm_ws) { frames := pm_rf 108, cells := h1.length + 1 - h.length, slots := pm_sz h1 + 6 - pm_sz h, locals := pm_rl 108 } (x_Pc D cA ad base ol [.ref x, .int i, .int u] h) Qc (x_X D cA ad base xIA h1) (h1.length + 1 - h.length) (pm_sz h1 + 6 - pm_sz h) (pm_A base) := by
  have g := o_V (by decide) e2
  refine x_metOf (by decide) (Nat.le_trans (show _ ≤ 3 from Nat.le_of_ble_eq_true rfl) (by decide +kernel)) (fun p e R s m args below meth c F X hZ hxo hE b1 b2 => ?_)
  refine P_rd108 F X hE hAd e1 e3 e2 (Nat.le_refl _) (Nat.le_refl _) (by omega) (by omega) (fun lo => ?_)
  exact x_thr (ik := 115) (is := 117) (ic := 119) (tx := xTx) hl F hxo hZ rfl (by decide) x_k1 x_i1 hZ.2.2.1 x_a1 (x_hb1 hZ) x_g1 (by decide +kernel) (by decide +kernel) (by decide +kernel) (by decide +kernel) (by decide +kernel) (by decide +kernel) (by decide +kernel) g.1 g.2 b1 b2 lo
theorem x_mt109 (hl : l.stackTraces = false) (hAd : ∀ i, i < 1000 → ad i = base + i) {x r : Nat} {h1 : pm_H} (e1 : pm_fd h x 11 3 = some (.ref r)) (e3 : pm_is h r 8 = true) (e2 : pm_V ol o_n 69 [.ref r] h = some (some (.int 0), h1)) : vx_Met l (pm_y 109) (Jvm.Cond.code (pm_y 109) (pm_b 109) (pm_mL 109) (pm_rt 109) :: pm_ws) { frames := pm_rf 109, cells := h1.length + 1 - h.length, slots := pm_sz h1 + 6 - pm_sz h, locals := pm_rl 109 } (x_Pc D cA ad base ol [.ref x] h) Qc (x_X D cA ad base xIA h1) (h1.length + 1 - h.length) (pm_sz h1 + 6 - pm_sz h) (pm_A base) := by
  have g := o_V (by decide) e2
  refine x_metOf (by decide) (Nat.le_trans (show _ ≤ 1 from Nat.le_of_ble_eq_true rfl) (by decide +kernel)) (fun p e R s m args below meth c F X hZ hxo hE b1 b2 => ?_)
  refine P_rd109 F X hE hAd e1 e3 e2 (Nat.le_refl _) (Nat.le_refl _) (by omega) (by omega) (fun lo => ?_)
  exact x_thr (ik := 115) (is := 117) (ic := 119) (tx := xTx) hl F hxo hZ rfl (by decide) x_k1 x_i1 hZ.2.2.1 x_a1 (x_hb1 hZ) x_g1 (by decide +kernel) (by decide +kernel) (by decide +kernel) (by decide +kernel) (by decide +kernel) (by decide +kernel) (by decide +kernel) g.1 g.2 b1 b2 lo
theorem x_mt110 (hl : l.stackTraces = false) (hAd : ∀ i, i < 1000 → ad i = base + i) {x r b : Nat} {sz : Int32} {h1 h2 : pm_H} (e1 : pm_fd h x 11 5 = some (.ref r)) (e3 : pm_is h r 3 = true) (e2 : pm_V ol o_n 28 [.ref r] h = some (some (.int 0), h1)) (e4 : pm_fd h1 x 11 5 = some (.ref r)) (e5 : pm_is h1 r 3 = true) (e6 : pm_V ol o_n 30 [.ref r] h1 = some (some (.ref b), h2)) (e7 : pm_fd h2 b 0 1 = some (.int sz)) (hs : 120 < sz) : vx_Met l (pm_y 110) (Jvm.Cond.code (pm_y 110) (pm_b 110) (pm_mL 110) (pm_rt 110) :: pm_ws) { frames := pm_rf 110, cells := h2.length + 1 - h.length, slots := pm_sz h2 + 6 - pm_sz h, locals := pm_rl 110 } (x_Pc D cA ad base ol [.ref x] h) Qc (x_X D cA ad base xIS h2) (h2.length + 1 - h.length) (pm_sz h2 + 6 - pm_sz h) (pm_A base) := by
  have g := o_V (by decide) e2
  have g2 := o_V (by decide) e6
  refine x_metOf (by decide) (Nat.le_trans (show _ ≤ 3 from Nat.le_of_ble_eq_true rfl) (by decide +kernel)) (fun p e R s m args below meth c F X hZ hxo hE b1 b2 => ?_)
  refine P_mk F X hE hAd e1 e3 e2 e4 e5 e6 e7 hs (Nat.le_refl _) (Nat.le_refl _) (by omega) (by omega) (fun lo => ?_)
  exact x_thr (ik := 138) (is := 140) (ic := 142) (tx := xTy) hl F hxo hZ rfl (by decide) x_k2 x_i2 hZ.2.2.2.1 x_a2 (x_hb2 hZ) x_g2 (by decide +kernel) (by decide +kernel) (by decide +kernel) (by decide +kernel) (by decide +kernel) (by decide +kernel) (by decide +kernel) (by omega) (by omega) b1 b2 lo
end XMT
