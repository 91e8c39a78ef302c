section PMS
variable {p : Program} {l : Launch} {e : Env} {R : Room} {s : State} {m : MethodId} {args : Array Value} {below : List Frame} {meth : Method} {c : Code} {Q : State → Prop}
variable {D : va_G} {cA : Nat → ClassId} {ad : Nat → Nat} {base : Nat} {ol : pm_O} {k l0 z0 pc : Nat} {lo : pm_L} {st : List Value} {h : pm_H}
set_option maxHeartbeats 2000000 in
theorem pm_st_new (F : pm_fx k p R s m args meth c) (X : pm_cx D cA ad base ol s) (hE : l0 < pm_M → s.heap.size = base + l0) (hAd : ∀ i, i < 1000 → ad i = base + i) {i : Instr} {len pos pc' : Nat} {lo' : pm_L} {st' : List Value} {h' : pm_H} {idx : _} (hd : decode (pm_b k) pc = .ok (.new idx, len)) (hj : pm_okJ k pc (.new idx) i len pos = true) (ho : pm_one ol i len pc lo st h = some (.inl (pc', lo', st', h'))) (hl0 : l0 ≤ h.length) (hz0 : z0 ≤ pm_sz h) (hc : h'.length - l0 ≤ R.cells) (hz : pm_sz h' - z0 ≤ R.slots)
    (K : pm_U p l e R s m args below meth c Q D cA ad base k l0 z0 pc' lo' st' h') : pm_U p l e R s m args below meth c Q D cA ad base k l0 z0 pc lo st h := by
  obtain ⟨hx, hb, hml, hrt, hlk, hnm, hown, hts, hrf, hrl⟩ := id F
  simp only [pm_okJ] at hj
  split at hj
  · rename_i ci
    split at hj
    · rename_i C T N hv
      simp only [Bool.and_eq_true, decide_eq_true_eq] at hj
      obtain ⟨rfl, hw⟩ := hj
      obtain ⟨g1, ⟨ty0, g2, fs0, g4, g5, -, g6, g7⟩, g3, g8, g9⟩ := pm_cls _ _ _ _ hv
      simp only [pm_one, pm_mk, g4] at ho
      split at ho
      · rename_i hlt
        simp only [pm_nx, Option.some.injEq, Sum.inl.injEq, Prod.mk.injEq] at ho
        obtain ⟨rfl, rfl, rfl, rfl⟩ := ho
        intro H locs ls hr hl T0 hT0 X0
        have hsz := pm_size hE hAd hlt hl0 hr hT0 X0
        have hA : ad h.length = H.size := by rw [hsz]; exact hAd _ (by have : pm_M = 70 := rfl; omega)
        have hKn := X.1.1 ci _ hv
        rw [List.length_append] at hc
        rw [pm_sz_app] at hz
        have hcs : pm_csz (.inr (ci, fs0)) = N := g5
        have hc1 : h.length - l0 + 1 ≤ R.cells := by simp at hc; omega
        have hz1 : pm_sz h - z0 + N ≤ R.slots := by rw [hcs] at hz; omega
        suffices key : W p l e R s m args below meth c H locs (h.length - l0) (pm_sz h - z0) Q (F0 m pc ls (st.map (pm_tv ad))) from key T0 hT0 X0
        refine W.newcK (g := F0 m pc ls (st.map (pm_tv ad))) hx hb hown (hts _ (pm_wd_in hw rfl)) (hts _ g8) (hts _ g9) rfl hd hc1 hz1 hKn.2.1 rfl (fun H1 kC hkC e1 z1 o1 => ?_)
        have hat : va_at D vwCl (H.size, pm_tc ad cA (.inr (ci, fs0))) H1 := by
          show va_at D vwCl (H.size, .inr (ci, fs0.map (pm_tv ad))) H1
          rw [g6 ad]
          exact ⟨_, hv, (u_born ty0 hts g1 hKn hkC e1 g2).to g7⟩
        have hW := pm_Uapp K hl0 hz0 (pm_grow hlt hr X.2.2.1 hA hat z1 o1) hl
        rw [hcs, List.map_cons] at hW
        have hA2 : pm_tv ad (.ref h.length) = .ref H.size := by show Value.ref (ad h.length) = _; rw [hA]
        rw [hA2] at hW
        exact hW
      · cases ho
    · cases hj
  · simp only [pm_one] at ho
    cases ho
  · cases hj
set_option maxHeartbeats 2000000 in
theorem pm_st_newarray (F : pm_fx k p R s m args meth c) (X : pm_cx D cA ad base ol s) (hE : l0 < pm_M → s.heap.size = base + l0) (hAd : ∀ i, i < 1000 → ad i = base + i) {i : Instr} {len pos pc' : Nat} {lo' : pm_L} {st' : List Value} {h' : pm_H} {t : _} (hd : decode (pm_b k) pc = .ok (.newarray t, len)) (hj : pm_okJ k pc (.newarray t) i len pos = true) (ho : pm_one ol i len pc lo st h = some (.inl (pc', lo', st', h'))) (hl0 : l0 ≤ h.length) (hz0 : z0 ≤ pm_sz h) (hc : h'.length - l0 ≤ R.cells) (hz : pm_sz h' - z0 ≤ R.slots)
    (K : pm_U p l e R s m args below meth c Q D cA ad base k l0 z0 pc' lo' st' h') : pm_U p l e R s m args below meth c Q D cA ad base k l0 z0 pc lo st h := by
  obtain ⟨hx, hb, hml, hrt, hlk, hnm, hown, hts, hrf, hrl⟩ := id F
  simp only [pm_okJ, Bool.and_eq_true, decide_eq_true_eq] at hj
  obtain ⟨rfl, rfl⟩ := hj
  simp only [pm_one, pm_mk] at ho
  split at ho
  · rename_i n r
    split at ho
    · rename_i hcd
      split at ho
      · split at ho
        · rename_i hlt
          simp only [pm_nx, Option.some.injEq, Sum.inl.injEq, Prod.mk.injEq] at ho
          obtain ⟨rfl, rfl, rfl, rfl⟩ := ho
          intro H locs ls hr hl T0 hT0 X0
          have hsz := pm_size hE hAd hlt hl0 hr hT0 X0
          have hA : ad h.length = H.size := by rw [hsz]; exact hAd _ (by have : pm_M = 70 := rfl; omega)
          rw [List.length_append] at hc
          rw [pm_sz_app] at hz
          have hcs : pm_csz (.inl (0, n.toNatClampNeg, .inl (fun _ => 0))) = n.toNatClampNeg := rfl
          have hc1 : h.length - l0 + 1 ≤ R.cells := by simp at hc; omega
          have hz1 : pm_sz h - z0 + n.toNatClampNeg ≤ R.slots := by rw [hcs] at hz; omega
          have hbt : n.toNatClampNeg * 4 ≤ 536870912 := by omega
          suffices key : W p l e R s m args below meth c H locs (h.length - l0) (pm_sz h - z0) Q (F0 m pc ls (.int n :: r.map (pm_tv ad))) from key T0 hT0 X0
          refine va_newaK (atype := .int) (g := F0 m pc ls (.int n :: r.map (pm_tv ad))) (N := n.toNatClampNeg) (n := n) (rest := r.map (pm_tv ad)) (h := H.size) hx hb (hts (.arrayClass .int) pm_ac0) rfl hd rfl hcd.1 rfl hbt hc1 hz1 rfl (fun H1 cA1 e1 z1 o1 hAr hNm => ?_)
          have hcA : cA1 = cA 0 := Option.some.inj (hNm.symm.trans (X.1.2 0 _ rfl).2)
          subst hcA
          have hat : va_at D vwCl (H.size, pm_tc ad cA (.inl (0, n.toNatClampNeg, .inl (fun _ => 0)))) H1 := e1
          have hW := pm_Uapp K hl0 hz0 (pm_grow hlt hr X.2.2.1 hA hat z1 o1) hl
          rw [hcs, List.map_cons] at hW
          have hA2 : pm_tv ad (.ref h.length) = .ref H.size := by show Value.ref (ad h.length) = _; rw [hA]
          rw [hA2] at hW
          exact hW
        · cases ho
      · split at ho
        · rename_i hlt
          simp only [pm_nx, Option.some.injEq, Sum.inl.injEq, Prod.mk.injEq] at ho
          obtain ⟨rfl, rfl, rfl, rfl⟩ := ho
          intro H locs ls hr hl T0 hT0 X0
          have hsz := pm_size hE hAd hlt hl0 hr hT0 X0
          have hA : ad h.length = H.size := by rw [hsz]; exact hAd _ (by have : pm_M = 70 := rfl; omega)
          rw [List.length_append] at hc
          rw [pm_sz_app] at hz
          have hcs : pm_csz (.inl (1, n.toNatClampNeg, .inl (fun _ => 0))) = n.toNatClampNeg := rfl
          have hc1 : h.length - l0 + 1 ≤ R.cells := by simp at hc; omega
          have hz1 : pm_sz h - z0 + n.toNatClampNeg ≤ R.slots := by rw [hcs] at hz; omega
          have hbt : n.toNatClampNeg * 1 ≤ 536870912 := by omega
          suffices key : W p l e R s m args below meth c H locs (h.length - l0) (pm_sz h - z0) Q (F0 m pc ls (.int n :: r.map (pm_tv ad))) from key T0 hT0 X0
          refine va_newaK (atype := .boolean) (g := F0 m pc ls (.int n :: r.map (pm_tv ad))) (N := n.toNatClampNeg) (n := n) (rest := r.map (pm_tv ad)) (h := H.size) hx hb (hts (.arrayClass .boolean) pm_ac1) rfl hd rfl hcd.1 rfl hbt hc1 hz1 rfl (fun H1 cA1 e1 z1 o1 hAr hNm => ?_)
          have hcA : cA1 = cA 1 := Option.some.inj (hNm.symm.trans (X.1.2 1 _ rfl).2)
          subst hcA
          have hat : va_at D vwCl (H.size, pm_tc ad cA (.inl (1, n.toNatClampNeg, .inl (fun _ => 0)))) H1 := e1
          have hW := pm_Uapp K hl0 hz0 (pm_grow hlt hr X.2.2.1 hA hat z1 o1) hl
          rw [hcs, List.map_cons] at hW
          have hA2 : pm_tv ad (.ref h.length) = .ref H.size := by show Value.ref (ad h.length) = _; rw [hA]
          rw [hA2] at hW
          exact hW
        · cases ho
      · split at ho
        · rename_i hlt
          simp only [pm_nx, Option.some.injEq, Sum.inl.injEq, Prod.mk.injEq] at ho
          obtain ⟨rfl, rfl, rfl, rfl⟩ := ho
          intro H locs ls hr hl T0 hT0 X0
          have hsz := pm_size hE hAd hlt hl0 hr hT0 X0
          have hA : ad h.length = H.size := by rw [hsz]; exact hAd _ (by have : pm_M = 70 := rfl; omega)
          rw [List.length_append] at hc
          rw [pm_sz_app] at hz
          have hcs : pm_csz (.inl (2, n.toNatClampNeg, .inr (.inl (fun _ => 0)))) = n.toNatClampNeg := rfl
          have hc1 : h.length - l0 + 1 ≤ R.cells := by simp at hc; omega
          have hz1 : pm_sz h - z0 + n.toNatClampNeg ≤ R.slots := by rw [hcs] at hz; omega
          have hbt : n.toNatClampNeg * 8 ≤ 536870912 := by omega
          suffices key : W p l e R s m args below meth c H locs (h.length - l0) (pm_sz h - z0) Q (F0 m pc ls (.int n :: r.map (pm_tv ad))) from key T0 hT0 X0
          refine va_newaK (atype := .long) (g := F0 m pc ls (.int n :: r.map (pm_tv ad))) (N := n.toNatClampNeg) (n := n) (rest := r.map (pm_tv ad)) (h := H.size) hx hb (hts (.arrayClass .long) pm_ac2) rfl hd rfl hcd.1 rfl hbt hc1 hz1 rfl (fun H1 cA1 e1 z1 o1 hAr hNm => ?_)
          have hcA : cA1 = cA 2 := Option.some.inj (hNm.symm.trans (X.1.2 2 _ rfl).2)
          subst hcA
          have hat : va_at D vwCl (H.size, pm_tc ad cA (.inl (2, n.toNatClampNeg, .inr (.inl (fun _ => 0))))) H1 := e1
          have hW := pm_Uapp K hl0 hz0 (pm_grow hlt hr X.2.2.1 hA hat z1 o1) hl
          rw [hcs, List.map_cons] at hW
          have hA2 : pm_tv ad (.ref h.length) = .ref H.size := by show Value.ref (ad h.length) = _; rw [hA]
          rw [hA2] at hW
          exact hW
        · cases ho
      · cases ho
    · cases ho
  · cases ho
set_option maxHeartbeats 2000000 in
theorem pm_st_anewarray (F : pm_fx k p R s m args meth c) (X : pm_cx D cA ad base ol s) (hE : l0 < pm_M → s.heap.size = base + l0) (hAd : ∀ i, i < 1000 → ad i = base + i) {i : Instr} {len pos pc' : Nat} {lo' : pm_L} {st' : List Value} {h' : pm_H} {idx : _} (hd : decode (pm_b k) pc = .ok (.anewarray idx, len)) (hj : pm_okJ k pc (.anewarray idx) i len pos = true) (ho : pm_one ol i len pc lo st h = some (.inl (pc', lo', st', h'))) (hl0 : l0 ≤ h.length) (hz0 : z0 ≤ pm_sz h) (hc : h'.length - l0 ≤ R.cells) (hz : pm_sz h' - z0 ≤ R.slots)
    (K : pm_U p l e R s m args below meth c Q D cA ad base k l0 z0 pc' lo' st' h') : pm_U p l e R s m args below meth c Q D cA ad base k l0 z0 pc lo st h := by
  obtain ⟨hx, hb, hml, hrt, hlk, hnm, hown, hts, hrf, hrl⟩ := id F
  simp only [pm_okJ, Bool.and_eq_true, decide_eq_true_eq] at hj
  obtain ⟨⟨rfl, rfl⟩, hw⟩ := hj
  simp only [pm_one, pm_mk] at ho
  split at ho
  · rename_i n r
    split at ho
    · rename_i hcd
      split at ho
      · rename_i hlt
        simp only [pm_nx, Option.some.injEq, Sum.inl.injEq, Prod.mk.injEq] at ho
        obtain ⟨rfl, rfl, rfl, rfl⟩ := ho
        intro H locs ls hr hl T0 hT0 X0
        have hsz := pm_size hE hAd hlt hl0 hr hT0 X0
        have hA : ad h.length = H.size := by rw [hsz]; exact hAd _ (by have : pm_M = 70 := rfl; omega)
        rw [List.length_append] at hc
        rw [pm_sz_app] at hz
        have hcs : pm_csz (.inl (3, n.toNatClampNeg, .inr (.inr (.inr (.inr (fun _ => none)))))) = n.toNatClampNeg := rfl
        have hc1 : h.length - l0 + 1 ≤ R.cells := by simp at hc; omega
        have hz1 : pm_sz h - z0 + n.toNatClampNeg ≤ R.slots := by rw [hcs] at hz; omega
        have hbt : n.toNatClampNeg * 4 ≤ 536870912 := by omega
        suffices key : W p l e R s m args below meth c H locs (h.length - l0) (pm_sz h - z0) Q (F0 m pc ls (.int n :: r.map (pm_tv ad))) from key T0 hT0 X0
        refine W.anew (g := F0 m pc ls (.int n :: r.map (pm_tv ad))) hx hb hown (hts _ (pm_wd_in hw rfl)) (va_AO.use X.2.1) rfl hd rfl hcd.1 hbt hc1 hz1 (fun cA1 kA comp f1 f2 f3 f4 => ?_)
        obtain ⟨kA2, comp2, e1, e2, e3, e4⟩ := (X.1.2 3 _ rfl).2
        have hcA : cA1 = cA 3 := Option.some.inj (f1.symm.trans e4)
        subst hcA
        have hat : va_at D vwCl (H.size, pm_tc ad cA (.inl (3, n.toNatClampNeg, .inr (.inr (.inr (.inr (fun _ => none))))))) (H.push ({ cls := cA 3, slots := Array.replicate n.toNatClampNeg .null, vm := .none } : Cell)) := by
          show (H.push _)[H.size]? = some (vp_cell _ _)
          rw [Array.getElem?_push_size]
          exact congrArg some (arrV_new (cA 3) n.toNatClampNeg .null)
        have hW := pm_Uapp K hl0 hz0 (pm_grow hlt hr X.2.2.1 hA hat (by rw [Array.size_push]) (fun q hq => by rw [Array.getElem?_push, if_neg (Nat.ne_of_lt hq)])) hl
        rw [hcs, List.map_cons] at hW
        have hA2 : pm_tv ad (.ref h.length) = .ref H.size := by show Value.ref (ad h.length) = _; rw [hA]
        rw [hA2] at hW
        exact hW
      · cases ho
    · cases ho
  · cases ho
set_option maxHeartbeats 4000000 in
theorem pm_step (F : pm_fx k p R s m args meth c) (X : pm_cx D cA ad base ol s) (hE : l0 < pm_M → s.heap.size = base + l0) (hAd : ∀ i, i < 1000 → ad i = base + i) (hk : k < 169) {i : Instr} {len pos pc' : Nat} {lo' : pm_L} {st' : List Value} {h' : pm_H} (hi : pm_ins k pc = some (i, len, pos)) (ho : pm_one ol i len pc lo st h = some (.inl (pc', lo', st', h'))) (hl0 : l0 ≤ h.length) (hz0 : z0 ≤ pm_sz h) (hc : h'.length - l0 ≤ R.cells) (hz : pm_sz h' - z0 ≤ R.slots)
    (K : pm_U p l e R s m args below meth c Q D cA ad base k l0 z0 pc' lo' st' h') : pm_U p l e R s m args below meth c Q D cA ad base k l0 z0 pc lo st h := by
  have hok := pm_okk_spec (pm_okr k hk) hi
  unfold pm_okI at hok
  split at hok
  · rename_i i0 len0 hd
    simp only [Bool.and_eq_true, decide_eq_true_eq] at hok
    obtain ⟨hlen, hj⟩ := hok
    subst hlen
    cases i0 with
    | iadd => exact pm_st_iadd F X hE hAd hd hj ho hl0 hz0 hc hz K
    | isub => exact pm_st_isub F X hE hAd hd hj ho hl0 hz0 hc hz K
    | imul => exact pm_st_imul F X hE hAd hd hj ho hl0 hz0 hc hz K
    | iand => exact pm_st_iand F X hE hAd hd hj ho hl0 hz0 hc hz K
    | land => exact pm_st_land F X hE hAd hd hj ho hl0 hz0 hc hz K
    | lor => exact pm_st_lor F X hE hAd hd hj ho hl0 hz0 hc hz K
    | lshl => exact pm_st_lshl F X hE hAd hd hj ho hl0 hz0 hc hz K
    | lshr => exact pm_st_lshr F X hE hAd hd hj ho hl0 hz0 hc hz K
    | lushr => exact pm_st_lushr F X hE hAd hd hj ho hl0 hz0 hc hz K
    | ineg => exact pm_st_ineg F X hE hAd hd hj ho hl0 hz0 hc hz K
    | i2l => exact pm_st_i2l F X hE hAd hd hj ho hl0 hz0 hc hz K
    | l2i => exact pm_st_l2i F X hE hAd hd hj ho hl0 hz0 hc hz K
    | i2b => exact pm_st_i2b F X hE hAd hd hj ho hl0 hz0 hc hz K
    | lcmp => exact pm_st_lcmp F X hE hAd hd hj ho hl0 hz0 hc hz K
    | irem => exact pm_st_irem F X hE hAd hd hj ho hl0 hz0 hc hz K
    | dup => exact pm_st_dup F X hE hAd hd hj ho hl0 hz0 hc hz K
    | dup2 => exact pm_st_dup2 F X hE hAd hd hj ho hl0 hz0 hc hz K
    | pop => exact pm_st_pop F X hE hAd hd hj ho hl0 hz0 hc hz K
    | iconst v => exact pm_st_iconst F X hE hAd hd hj ho hl0 hz0 hc hz K
    | bipush v => exact pm_st_bipush F X hE hAd hd hj ho hl0 hz0 hc hz K
    | sipush v => exact pm_st_sipush F X hE hAd hd hj ho hl0 hz0 hc hz K
    | iload_n n => exact pm_st_iload_n F X hE hAd hd hj ho hl0 hz0 hc hz K
    | iload n => exact pm_st_iload F X hE hAd hd hj ho hl0 hz0 hc hz K
    | aload_n n => exact pm_st_aload_n F X hE hAd hd hj ho hl0 hz0 hc hz K
    | aload n => exact pm_st_aload F X hE hAd hd hj ho hl0 hz0 hc hz K
    | lload_n n => exact pm_st_lload_n F X hE hAd hd hj ho hl0 hz0 hc hz K
    | istore_n n => exact pm_st_istore_n F X hE hAd hd hj ho hl0 hz0 hc hz K
    | istore n => exact pm_st_istore F X hE hAd hd hj ho hl0 hz0 hc hz K
    | astore_n n => exact pm_st_astore_n F X hE hAd hd hj ho hl0 hz0 hc hz K
    | astore n => exact pm_st_astore F X hE hAd hd hj ho hl0 hz0 hc hz K
    | iinc n z => exact pm_st_iinc F X hE hAd hd hj ho hl0 hz0 hc hz K
    | goto o => exact pm_st_goto F X hE hAd hd hj ho hl0 hz0 hc hz K
    | ifCond cnd o => exact pm_st_ifCond F X hE hAd hd hj ho hl0 hz0 hc hz K
    | if_icmp cnd o => exact pm_st_if_icmp F X hE hAd hd hj ho hl0 hz0 hc hz K
    | tableswitch d a b offs => exact pm_st_tableswitch F X hE hAd hd hj ho hl0 hz0 hc hz K
    | lookupswitch d ps => exact pm_st_lookupswitch F X hE hAd hd hj ho hl0 hz0 hc hz K
    | baload => exact pm_st_baload F X hE hAd hd hj ho hl0 hz0 hc hz K
    | laload => exact pm_st_laload F X hE hAd hd hj ho hl0 hz0 hc hz K
    | aaload => exact pm_st_aaload F X hE hAd hd hj ho hl0 hz0 hc hz K
    | iaload => exact pm_st_iaload F X hE hAd hd hj ho hl0 hz0 hc hz K
    | iastore => exact pm_st_iastore F X hE hAd hd hj ho hl0 hz0 hc hz K
    | bastore => exact pm_st_bastore F X hE hAd hd hj ho hl0 hz0 hc hz K
    | lastore => exact pm_st_lastore F X hE hAd hd hj ho hl0 hz0 hc hz K
    | aastore => exact pm_st_aastore F X hE hAd hd hj ho hl0 hz0 hc hz K
    | arraylength => exact pm_st_arraylength F X hE hAd hd hj ho hl0 hz0 hc hz K
    | getfield idx => exact pm_st_getfield F X hE hAd hd hj ho hl0 hz0 hc hz K
    | putfield idx => exact pm_st_putfield F X hE hAd hd hj ho hl0 hz0 hc hz K
    | getstatic idx => exact pm_st_getstatic F X hE hAd hd hj ho hl0 hz0 hc hz K
    | ldc idx => exact pm_st_ldc F X hE hAd hd hj ho hl0 hz0 hc hz K
    | ldc2_w idx => exact pm_st_ldc2_w F X hE hAd hd hj ho hl0 hz0 hc hz K
    | athrow => exact pm_st_athrow F X hE hAd hd hj ho hl0 hz0 hc hz K
    | new idx => exact pm_st_new F X hE hAd hd hj ho hl0 hz0 hc hz K
    | newarray t => exact pm_st_newarray F X hE hAd hd hj ho hl0 hz0 hc hz K
    | anewarray idx => exact pm_st_anewarray F X hE hAd hd hj ho hl0 hz0 hc hz K
    | invokespecial idx => exact pm_st_invokespecial F X hE hAd hd hj ho hl0 hz0 hc hz K
    | invokevirtual idx => exact pm_st_invokevirtual F X hE hAd hd hj ho hl0 hz0 hc hz K
    | invokestatic idx => exact pm_st_invokestatic F X hE hAd hd hj ho hl0 hz0 hc hz K
    | ireturn => exact pm_st_ireturn F X hE hAd hd hj ho hl0 hz0 hc hz K
    | areturn => exact pm_st_areturn F X hE hAd hd hj ho hl0 hz0 hc hz K
    | return_ => exact pm_st_return_ F X hE hAd hd hj ho hl0 hz0 hc hz K
    | _ => exfalso; exact Bool.false_ne_true hj
  · cases hok
end PMS
