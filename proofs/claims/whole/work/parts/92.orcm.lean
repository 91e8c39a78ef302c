/-! the oracle is sound -/
noncomputable def x_chk : Bool := (pm_cds.getD 168 []).zipIdx.all (fun q => match q.1 with
  | some (.multianewarray k n, _, _) => decide (k < 500) || (match decode (pm_b 168) q.2 with
    | .ok (.invokestatic idx, _) => decide ((k, n, idx) ∈ [(500, 2, 70), (501, 4, 79), (502, 2, 83), (503, 2, 86)])
    | _ => true)
  | _ => true)
theorem x_chkT : x_chk = true := by decide +kernel
theorem x_ix {pc k n pos idx : Nat} (hi : pm_ins 168 pc = some (.multianewarray k n, 3, pos)) (hk : 500 ≤ k) (hd : decode (pm_b 168) pc = .ok (.invokestatic idx, 3)) : (k, n, idx) ∈ [(500, 2, 70), (501, 4, 79), (502, 2, 83), (503, 2, 86)] := by
  unfold pm_ins at hi
  split at hi
  · rename_i x hx
    cases hi
    have h := x_chkT
    unfold x_chk at h
    have h1 := List.all_eq_true.mp h (some (.multianewarray k n, 3, pos), pc) (by
      rw [List.mem_zipIdx_iff_getElem?]
      exact hx)
    dsimp only at h1
    rw [hd] at h1
    dsimp only at h1
    rw [decide_eq_false (by omega), Bool.false_or] at h1
    exact of_decide_eq_true h1
  · cases hi
theorem x_ansc {o : Nat} {h1 : pm_H} {r : Option (Option Value × pm_H)} {v : Option Value} (e : o_ans o r = some (v, h1)) : ∃ w h2 h3, r = some (some (.int w), h2) ∧ pm_sj h2 o 0 w.toInt64 = some h3 ∧ v = some (.int 0) ∧ h1 = h3 ++ [o_d] := by
  unfold o_ans at e
  split at e
  · rename_i w h2
    cases hs : pm_sj h2 o 0 w.toInt64 with
    | none => rw [hs] at e; cases e
    | some h3 =>
      rw [hs] at e
      cases e
      exact ⟨w, h2, h3, rfl, hs, rfl, rfl⟩
  · cases e
theorem x_rdc {ol : pm_O} {k x o : Nat} {as : List Value} {h h1 : pm_H} {v : Option Value} (e : o_rd ol k as x o h = some (v, h1)) : ∃ r, pm_fd h x 11 3 = some (.ref r) ∧ pm_is h r 8 = true ∧ ((∃ h2, pm_V ol o_n 69 [.ref r] h = some (some (.int 0), h2) ∧ v = some (.int 1) ∧ h1 = h2 ++ [o_d]) ∨ (∃ w h2 h3, pm_V ol o_n k as h = some (some (.int w), h2) ∧ pm_sj h2 o 0 w.toInt64 = some h3 ∧ v = some (.int 0) ∧ h1 = h3 ++ [o_d])) := by
  unfold o_rd at e
  split at e
  · rename_i r hf
    split at e
    · rename_i hi
      split at e
      · rename_i ok h2 hv
        split at e
        · rename_i h0
          subst h0
          cases e
          exact ⟨r, hf, hi, Or.inl ⟨h2, hv, rfl, rfl⟩⟩
        · exact ⟨r, hf, hi, Or.inr (x_ansc e)⟩
      · cases e
    · cases e
  · cases e
theorem x_mkc {ol : pm_O} {x o : Nat} {h h1 : pm_H} {v : Option Value} (e : o_mk ol x o h = some (v, h1)) : (∃ r, pm_fd h x 11 5 = some (.ref r)) ∧ ((∃ r b sz h2 h3, pm_fd h x 11 5 = some (.ref r) ∧ pm_is h r 3 = true ∧ pm_V ol o_n 28 [.ref r] h = some (some (.int 0), h2) ∧ pm_fd h2 x 11 5 = some (.ref r) ∧ pm_is h2 r 3 = true ∧ pm_V ol o_n 30 [.ref r] h2 = some (some (.ref b), h3) ∧ pm_fd h3 b 0 1 = some (.int sz) ∧ 120 < sz ∧ v = some (.int 1) ∧ h1 = h3 ++ [o_d]) ∨ (∃ w h2 h3, pm_V ol o_n 110 [.ref x] h = some (some (.int w), h2) ∧ pm_sj h2 o 0 w.toInt64 = some h3 ∧ v = some (.int 0) ∧ h1 = h3 ++ [o_d])) := by
  unfold o_mk at e
  split at e
  · rename_i r hf
    refine ⟨⟨r, hf⟩, ?_⟩
    split at e
    · rename_i hi
      split at e
      · rename_i f h2 hv
        split at e
        · exact Or.inr (x_ansc e)
        · rename_i h0
          have h0' : f = 0 := Decidable.not_not.mp h0
          subst h0'
          split at e
          · rename_i h4
            split at e
            · rename_i b h3 h5
              split at e
              · rename_i sz h6
                split at e
                · rename_i h7
                  cases e
                  exact Or.inl ⟨r, b, sz, h2, h3, hf, hi, hv, h4.1, h4.2, h5, h6, h7, rfl, rfl⟩
                · exact Or.inr (x_ansc e)
              · cases e
            · cases e
          · cases e
      · cases e
    · cases e
  · cases e
def xY500 : MethodName := { cls := xL, name := "frames", desc := "(LFrameTyper;[J)I" }
noncomputable abbrev xW500 : List Jvm.Cond := Jvm.Cond.codeWith xY500 method_3_code 3 (some .int) [(0, 8, 11, 13)] :: pm_ws
noncomputable abbrev xR500 (mc ms : Nat) : Room := { frames := pm_rf 107 + 1, cells := mc, slots := ms, locals := 8 + (pm_mL 107 + 11) + pm_rl 107 }
def xY501 : MethodName := { cls := xL, name := "frame", desc := "(LFrameTyper;II[J)I" }
noncomputable abbrev xW501 : List Jvm.Cond := Jvm.Cond.codeWith xY501 method_4_code 5 (some .int) [(0, 10, 13, 13)] :: pm_ws
noncomputable abbrev xR501 (mc ms : Nat) : Room := { frames := pm_rf 108 + 1, cells := mc, slots := ms, locals := 8 + (pm_mL 108 + 11) + pm_rl 108 }
def xY502 : MethodName := { cls := xL, name := "check", desc := "(LFrameTyper;[J)I" }
noncomputable abbrev xW502 : List Jvm.Cond := Jvm.Cond.codeWith xY502 method_5_code 3 (some .int) [(0, 8, 11, 13)] :: pm_ws
noncomputable abbrev xR502 (mc ms : Nat) : Room := { frames := pm_rf 109 + 1, cells := mc, slots := ms, locals := 8 + (pm_mL 109 + 11) + pm_rl 109 }
def xY503 : MethodName := { cls := xL, name := "make", desc := "(LFrameTyper;[J)I" }
noncomputable abbrev xW503 : List Jvm.Cond := Jvm.Cond.codeWith xY503 method_6_code 3 (some .int) [(0, 8, 11, 25)] :: pm_ws
noncomputable abbrev xR503 (mc ms : Nat) : Room := { frames := pm_rf 110 + 1, cells := mc, slots := ms, locals := 8 + (pm_mL 110 + 11) + pm_rl 110 }
theorem x_ln13 : Cond.classLink xL 13 xIA ∈ pm_ws := x_pm 461 (by decide +kernel) rfl
theorem x_ln25 : Cond.classLink xL 25 xIS ∈ pm_ws := x_pm 797 (by decide +kernel) rfl
section XHM
variable {l : Launch} {D : va_G} {cA : Nat → ClassId} {ad : Nat → Nat} {base : Nat} {ol : pm_O} {h : pm_H}
set_option maxHeartbeats 2000000 in
theorem x_H500 (hl : l.stackTraces = false) (hAd : ∀ i, i < 1000 → ad i = base + i) {x o : Nat} {h1 : pm_H} {v : Option Value} (h70 : ¬ h.length < 70) (q : o_rd ol 107 [.ref x] x o h = some (v, h1)) :
    Met l xY500 xW500 (xR500 (h1.length - h.length) (pm_sz h1 - pm_sz h)) (x_Pc D cA ad base ol [.ref x, .ref o] h) (pm_Qc D cA ad base v h1) (h1.length - h.length) (pm_sz h1 - pm_sz h) (pm_A base) := by
  refine va_MetW (cc := method_3_code) (maxL := 3) (ret := some .int) (hh := [(0, 8, 11, 13)]) (by decide +kernel) rfl ?_
  intro p e s m args below meth c s₁ B hml hv
  obtain ⟨⟨rfl, hcx, hP, hD, hsz⟩, hxf⟩ := hv
  have hts := atoms_spec (ws := xW500) B.pre
  have F : x_fx method_3_code 3 [(0, 8, 11, 13)] 107 p (xR500 (h1.length - h.length) (pm_sz h1 - pm_sz h)) s m (([.ref x, .ref o] : List Value).map (pm_tv ad)).toArray meth c := ⟨B.exec, B.bytes, hml, B.returns, B.notSynchronized, findClass_of_methodNamed B.named, fun w hw => hts w (List.mem_cons_of_mem _ hw), vx_table (x := xY500) B (hts _ List.mem_cons_self), Nat.le_refl _, Nat.le_refl _⟩
  obtain ⟨hx, hb, -⟩ := id F
  have hlv := lv_entry (([.ref x, .ref o] : List Value).map (pm_tv ad)) (n := 3) (Nat.le_of_ble_eq_true rfl)
  have hlv : lv_has _ 3 [(0, .ref (ad x)), (1, .ref (ad o))] := hlv
  rw [lg_entry_eq]
  have hlk : Cond.methodLink xL 7 (pm_y 107) ∈ pm_ws := x_pm 462 (by decide +kernel) rfl
  refine lv_aload_n hx hb (k := 1) (i := 1) (x := ad o) (by decide +kernel) rfl (hlv.2.2 (1, .ref (ad o)) (by simp)) ?_
  refine lv_iconst hx hb (n := 0) (v := 0) (by decide +kernel) rfl ?_
  refine lv_aload_n hx hb (k := 0) (i := 0) (x := ad x) (by decide +kernel) rfl (hlv.2.2 (0, .ref (ad x)) (by simp)) ?_
  obtain ⟨r, e1, e2, q⟩ := x_rdc q
  obtain ⟨fs, hgo, -⟩ := P_fd e1
  rcases q with ⟨h2, e3, rfl, rfl⟩ | ⟨w, h2, h3, e4, e5, rfl, rfl⟩
  · exact x_caught (as := []) (o := o) (pc := 3) (hp := 11) (ep := 8) (ct := 13) (pc2 := 12) (i := 2) F (by decide) (by decide +kernel) (by decide +kernel) hlk (x_mt107 hl hAd e1 e2 e3) (o_V (by decide) e3).1 hcx hxf hgo (by decide +kernel) h70 hP hD hlv (Nat.le_refl _) (Nat.le_refl _) rfl (by decide) (by decide) x_ln13 hxf.2.2.2.2.2.2.2.1 (by decide +kernel) (Or.inl ⟨2, by decide +kernel, rfl, rfl⟩) (by decide) (by decide +kernel) (by decide +kernel)
  · exact x_norm (as := []) (o := o) (pc := 3) (off := 6) (tgt := 14) F (by decide) (by decide +kernel) (by decide +kernel) hlk hAd e4 (Nat.le_trans (show _ ≤ 1 from Nat.le_of_ble_eq_true rfl) (by decide +kernel)) e5 hcx hxf hgo (by decide +kernel) h70 hP hD hlv.1 (Nat.le_refl _) (Nat.le_refl _) (by decide +kernel) (by decide +kernel) (by decide +kernel) (by decide +kernel) rfl (by decide +kernel) (by decide +kernel)
set_option maxHeartbeats 2000000 in
theorem x_H501 (hl : l.stackTraces = false) (hAd : ∀ i, i < 1000 → ad i = base + i) {x o : Nat} {i u : Int32} {h1 : pm_H} {v : Option Value} (h70 : ¬ h.length < 70) (q : o_rd ol 108 [.ref x, .int i, .int u] x o h = some (v, h1)) :
    Met l xY501 xW501 (xR501 (h1.length - h.length) (pm_sz h1 - pm_sz h)) (x_Pc D cA ad base ol [.ref x, .int i, .int u, .ref o] h) (pm_Qc D cA ad base v h1) (h1.length - h.length) (pm_sz h1 - pm_sz h) (pm_A base) := by
  refine va_MetW (cc := method_4_code) (maxL := 5) (ret := some .int) (hh := [(0, 10, 13, 13)]) (by decide +kernel) rfl ?_
  intro p e s m args below meth c s₁ B hml hv
  obtain ⟨⟨rfl, hcx, hP, hD, hsz⟩, hxf⟩ := hv
  have hts := atoms_spec (ws := xW501) B.pre
  have F : x_fx method_4_code 5 [(0, 10, 13, 13)] 108 p (xR501 (h1.length - h.length) (pm_sz h1 - pm_sz h)) s m (([.ref x, .int i, .int u, .ref o] : List Value).map (pm_tv ad)).toArray meth c := ⟨B.exec, B.bytes, hml, B.returns, B.notSynchronized, findClass_of_methodNamed B.named, fun w hw => hts w (List.mem_cons_of_mem _ hw), vx_table (x := xY501) B (hts _ List.mem_cons_self), Nat.le_refl _, Nat.le_refl _⟩
  obtain ⟨hx, hb, -⟩ := id F
  have hlv := lv_entry (([.ref x, .int i, .int u, .ref o] : List Value).map (pm_tv ad)) (n := 5) (Nat.le_of_ble_eq_true rfl)
  have hlv : lv_has _ 5 [(0, .ref (ad x)), (1, .int i), (2, .int u), (3, .ref (ad o))] := hlv
  rw [lg_entry_eq]
  have hlk : Cond.methodLink xL 15 (pm_y 108) ∈ pm_ws := x_pm 586 (by decide +kernel) rfl
  refine lv_aload_n hx hb (k := 3) (i := 3) (x := ad o) (by decide +kernel) rfl (hlv.2.2 (3, .ref (ad o)) (by simp)) ?_
  refine lv_iconst hx hb (n := 0) (v := 0) (by decide +kernel) rfl ?_
  refine lv_aload_n hx hb (k := 0) (i := 0) (x := ad x) (by decide +kernel) rfl (hlv.2.2 (0, .ref (ad x)) (by simp)) ?_
  refine lv_iload_n hx hb (k := 1) (i := 1) (x := i) (by decide +kernel) rfl (hlv.2.2 (1, .int i) (by simp)) ?_
  refine lv_iload_n hx hb (k := 2) (i := 2) (x := u) (by decide +kernel) rfl (hlv.2.2 (2, .int u) (by simp)) ?_
  obtain ⟨r, e1, e2, q⟩ := x_rdc q
  obtain ⟨fs, hgo, -⟩ := P_fd e1
  rcases q with ⟨h2, e3, rfl, rfl⟩ | ⟨w, h2, h3, e4, e5, rfl, rfl⟩
  · exact x_caught (as := [.int i, .int u]) (o := o) (pc := 5) (hp := 13) (ep := 10) (ct := 13) (pc2 := 15) (i := 4) F (by decide) (by decide +kernel) (by decide +kernel) hlk (x_mt108 hl hAd e1 e2 e3) (o_V (by decide) e3).1 hcx hxf hgo (show (2 : Nat) = (pm_mi 108).2.1 by decide +kernel) h70 hP hD hlv (Nat.le_refl _) (Nat.le_refl _) rfl (by decide) (by decide) x_ln13 hxf.2.2.2.2.2.2.2.1 (by decide +kernel) (Or.inr ⟨by decide +kernel, rfl⟩) (by decide) (by decide +kernel) (by decide +kernel)
  · exact x_norm (as := [.int i, .int u]) (o := o) (pc := 5) (off := 7) (tgt := 17) F (by decide) (by decide +kernel) (by decide +kernel) hlk hAd e4 (Nat.le_trans (show _ ≤ 3 from Nat.le_of_ble_eq_true rfl) (by decide +kernel)) e5 hcx hxf hgo (show (2 : Nat) = (pm_mi 108).2.1 by decide +kernel) h70 hP hD hlv.1 (Nat.le_refl _) (Nat.le_refl _) (by decide +kernel) (by decide +kernel) (by decide +kernel) (by decide +kernel) rfl (by decide +kernel) (by decide +kernel)
set_option maxHeartbeats 2000000 in
theorem x_H502 (hl : l.stackTraces = false) (hAd : ∀ i, i < 1000 → ad i = base + i) {x o : Nat} {h1 : pm_H} {v : Option Value} (h70 : ¬ h.length < 70) (q : o_rd ol 109 [.ref x] x o h = some (v, h1)) :
    Met l xY502 xW502 (xR502 (h1.length - h.length) (pm_sz h1 - pm_sz h)) (x_Pc D cA ad base ol [.ref x, .ref o] h) (pm_Qc D cA ad base v h1) (h1.length - h.length) (pm_sz h1 - pm_sz h) (pm_A base) := by
  refine va_MetW (cc := method_5_code) (maxL := 3) (ret := some .int) (hh := [(0, 8, 11, 13)]) (by decide +kernel) rfl ?_
  intro p e s m args below meth c s₁ B hml hv
  obtain ⟨⟨rfl, hcx, hP, hD, hsz⟩, hxf⟩ := hv
  have hts := atoms_spec (ws := xW502) B.pre
  have F : x_fx method_5_code 3 [(0, 8, 11, 13)] 109 p (xR502 (h1.length - h.length) (pm_sz h1 - pm_sz h)) s m (([.ref x, .ref o] : List Value).map (pm_tv ad)).toArray meth c := ⟨B.exec, B.bytes, hml, B.returns, B.notSynchronized, findClass_of_methodNamed B.named, fun w hw => hts w (List.mem_cons_of_mem _ hw), vx_table (x := xY502) B (hts _ List.mem_cons_self), Nat.le_refl _, Nat.le_refl _⟩
  obtain ⟨hx, hb, -⟩ := id F
  have hlv := lv_entry (([.ref x, .ref o] : List Value).map (pm_tv ad)) (n := 3) (Nat.le_of_ble_eq_true rfl)
  have hlv : lv_has _ 3 [(0, .ref (ad x)), (1, .ref (ad o))] := hlv
  rw [lg_entry_eq]
  have hlk : Cond.methodLink xL 19 (pm_y 109) ∈ pm_ws := x_pm 609 (by decide +kernel) rfl
  refine lv_aload_n hx hb (k := 1) (i := 1) (x := ad o) (by decide +kernel) rfl (hlv.2.2 (1, .ref (ad o)) (by simp)) ?_
  refine lv_iconst hx hb (n := 0) (v := 0) (by decide +kernel) rfl ?_
  refine lv_aload_n hx hb (k := 0) (i := 0) (x := ad x) (by decide +kernel) rfl (hlv.2.2 (0, .ref (ad x)) (by simp)) ?_
  obtain ⟨r, e1, e2, q⟩ := x_rdc q
  obtain ⟨fs, hgo, -⟩ := P_fd e1
  rcases q with ⟨h2, e3, rfl, rfl⟩ | ⟨w, h2, h3, e4, e5, rfl, rfl⟩
  · exact x_caught (as := []) (o := o) (pc := 3) (hp := 11) (ep := 8) (ct := 13) (pc2 := 12) (i := 2) F (by decide) (by decide +kernel) (by decide +kernel) hlk (x_mt109 hl hAd e1 e2 e3) (o_V (by decide) e3).1 hcx hxf hgo (by decide +kernel) h70 hP hD hlv (Nat.le_refl _) (Nat.le_refl _) rfl (by decide) (by decide) x_ln13 hxf.2.2.2.2.2.2.2.1 (by decide +kernel) (Or.inl ⟨2, by decide +kernel, rfl, rfl⟩) (by decide) (by decide +kernel) (by decide +kernel)
  · exact x_norm (as := []) (o := o) (pc := 3) (off := 6) (tgt := 14) F (by decide) (by decide +kernel) (by decide +kernel) hlk hAd e4 (Nat.le_trans (show _ ≤ 1 from Nat.le_of_ble_eq_true rfl) (by decide +kernel)) e5 hcx hxf hgo (by decide +kernel) h70 hP hD hlv.1 (Nat.le_refl _) (Nat.le_refl _) (by decide +kernel) (by decide +kernel) (by decide +kernel) (by decide +kernel) rfl (by decide +kernel) (by decide +kernel)
set_option maxHeartbeats 2000000 in
theorem x_H503 (hl : l.stackTraces = false) (hAd : ∀ i, i < 1000 → ad i = base + i) {x o : Nat} {h1 : pm_H} {v : Option Value} (h70 : ¬ h.length < 70) (q : o_mk ol x o h = some (v, h1)) :
    Met l xY503 xW503 (xR503 (h1.length - h.length) (pm_sz h1 - pm_sz h)) (x_Pc D cA ad base ol [.ref x, .ref o] h) (pm_Qc D cA ad base v h1) (h1.length - h.length) (pm_sz h1 - pm_sz h) (pm_A base) := by
  refine va_MetW (cc := method_6_code) (maxL := 3) (ret := some .int) (hh := [(0, 8, 11, 25)]) (by decide +kernel) rfl ?_
  intro p e s m args below meth c s₁ B hml hv
  obtain ⟨⟨rfl, hcx, hP, hD, hsz⟩, hxf⟩ := hv
  have hts := atoms_spec (ws := xW503) B.pre
  have F : x_fx method_6_code 3 [(0, 8, 11, 25)] 110 p (xR503 (h1.length - h.length) (pm_sz h1 - pm_sz h)) s m (([.ref x, .ref o] : List Value).map (pm_tv ad)).toArray meth c := ⟨B.exec, B.bytes, hml, B.returns, B.notSynchronized, findClass_of_methodNamed B.named, fun w hw => hts w (List.mem_cons_of_mem _ hw), vx_table (x := xY503) B (hts _ List.mem_cons_self), Nat.le_refl _, Nat.le_refl _⟩
  obtain ⟨hx, hb, -⟩ := id F
  have hlv := lv_entry (([.ref x, .ref o] : List Value).map (pm_tv ad)) (n := 3) (Nat.le_of_ble_eq_true rfl)
  have hlv : lv_has _ 3 [(0, .ref (ad x)), (1, .ref (ad o))] := hlv
  rw [lg_entry_eq]
  have hlk : Cond.methodLink xL 22 (pm_y 110) ∈ pm_ws := x_pm 798 (by decide +kernel) rfl
  refine lv_aload_n hx hb (k := 1) (i := 1) (x := ad o) (by decide +kernel) rfl (hlv.2.2 (1, .ref (ad o)) (by simp)) ?_
  refine lv_iconst hx hb (n := 0) (v := 0) (by decide +kernel) rfl ?_
  refine lv_aload_n hx hb (k := 0) (i := 0) (x := ad x) (by decide +kernel) rfl (hlv.2.2 (0, .ref (ad x)) (by simp)) ?_
  obtain ⟨⟨r, hr⟩, q⟩ := x_mkc q
  obtain ⟨fs, hgo, -⟩ := P_fd hr
  rcases q with ⟨r, b, sz, h2, h3, e1, e2, e3, e4, e5, e6, e7, e8, rfl, rfl⟩ | ⟨w, h2, h3, e4, e5, rfl, rfl⟩
  · have g1 := (o_V (by decide) e3).1
    have g2 := (o_V (by decide) e6).1
    exact x_caught (as := []) (o := o) (pc := 3) (hp := 11) (ep := 8) (ct := 25) (pc2 := 12) (i := 2) F (by decide) (by decide +kernel) (by decide +kernel) hlk (x_mt110 hl hAd e1 e2 e3 e4 e5 e6 e7 e8) (by omega) hcx hxf hgo (by decide +kernel) h70 hP hD hlv (Nat.le_refl _) (Nat.le_refl _) rfl (by decide) (by decide) x_ln25 hxf.2.2.2.2.2.2.2.2 (by decide +kernel) (Or.inl ⟨2, by decide +kernel, rfl, rfl⟩) (by decide) (by decide +kernel) (by decide +kernel)
  · exact x_norm (as := []) (o := o) (pc := 3) (off := 6) (tgt := 14) F (by decide) (by decide +kernel) (by decide +kernel) hlk hAd e4 (Nat.le_trans (show _ ≤ 1 from Nat.le_of_ble_eq_true rfl) (by decide +kernel)) e5 hcx hxf hgo (by decide +kernel) h70 hP hD hlv.1 (Nat.le_refl _) (Nat.le_refl _) (by decide +kernel) (by decide +kernel) (by decide +kernel) (by decide +kernel) rfl (by decide +kernel) (by decide +kernel)
end XHM
