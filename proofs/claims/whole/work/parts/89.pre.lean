/-! steps of the pure machine ahead of a throw -/
section PRE
variable {p : Program} {l : Launch} {e : Env} {R : Room} {s : State} {m : MethodId} {args : Array Value} {below : List Frame} {meth : Method} {c : Code} {Q : State → Prop}
variable {D : va_G} {cA : Nat → ClassId} {ad : Nat → Nat} {base : Nat} {ol : pm_O} {k l0 z0 pc : Nat} {lo : pm_L} {st : List Value} {h : pm_H}
theorem P_nx (F : pm_fx k p R s m args meth c) (X : pm_cx D cA ad base ol s) (hE : l0 < pm_M → s.heap.size = base + l0) (hAd : ∀ i, i < 1000 → ad i = base + i) (hk : k < 169) {i : Instr} {len pos pc' : Nat} {lo1 lo' : pm_L} {st' : List Value} {h' : pm_H} (hi : pm_ins k pc = some (i, len, pos)) (hl : pm_lv (pm_liv k pc) lo = lo1) (ho : pm_one ol i len pc lo1 st h = some (.inl (pc', lo', st', h'))) (hl0 : l0 ≤ h.length) (hz0 : z0 ≤ pm_sz h) (hc : h'.length - l0 ≤ R.cells) (hz : pm_sz h' - z0 ≤ R.slots)
    (K : pm_U p l e R s m args below meth c Q D cA ad base k l0 z0 pc' lo' st' h') : pm_U p l e R s m args below meth c Q D cA ad base k l0 z0 pc lo st h := by
  have hU : pm_U p l e R s m args below meth c Q D cA ad base k l0 z0 pc lo1 st h := pm_step F X hE hAd hk hi ho hl0 hz0 hc hz K
  intro H locs ls hR hls
  refine hU H locs ls hR ?_
  rw [← hl]
  exact pm_lv_has hls
theorem P_call (F : pm_fx k p R s m args meth c) (X : pm_cx D cA ad base ol s) (hE : l0 < pm_M → s.heap.size = base + l0) (hAd : ∀ i, i < 1000 → ad i = base + i) (hk : k < 169) {x n1 len pos k' : Nat} {lo1 : pm_L} {as rest : List Value} {v : Option Value} {h1 : pm_H} (hi : pm_ins k pc = some (.invokeinterface x n1, len, pos)) (hl : pm_lv (pm_liv k pc) lo = lo1) (ho : pm_one ol (.invokeinterface x n1) len pc lo1 st h = some (.inr (.inr (k', as, rest)))) (hk5 : k' < 500) (hcl : pm_V ol o_n k' as h = some (v, h1)) (hl0 : l0 ≤ h.length) (hz0 : z0 ≤ pm_sz h) (hc : h1.length - l0 ≤ R.cells) (hz : pm_sz h1 - z0 ≤ R.slots)
    (K : pm_U p l e R s m args below meth c Q D cA ad base k l0 z0 (pc + 3) lo1 (v.toList ++ rest) h1) : pm_U p l e R s m args below meth c Q D cA ad base k l0 z0 pc lo st h := by
  have g1 := o_V hk5 hcl
  unfold pm_V at hcl
  rw [if_pos hk5] at hcl
  obtain ⟨n, hx⟩ := pm_F_to hcl
  obtain ⟨q1, q2, q3⟩ := pm_one_call ho
  have hok := pm_okk_spec (pm_okr k hk) hi
  unfold pm_okI at hok
  split at hok
  · rename_i i0 len0 hd
    simp only [Bool.and_eq_true, decide_eq_true_eq] at hok
    obtain ⟨hlen, hj⟩ := hok
    subst hlen
    have hcat : pm_cat as ≤ pm_mL k' := by
      rcases q2 with q | q
      · omega
      · exact q
    rcases q3 with ⟨x2, n2, b, a1, fs, e2, hk', has, hpop, hgo⟩ | ⟨n2, e2, hpop⟩
    · cases e2
      obtain ⟨rfl, hcase⟩ := pm_okcall hj
      rw [← hk'] at hcase
      intro H locs ls hR hls
      have hls1 : lv_has ls (pm_mL k) (pm_tl ad lo1) := by
        rw [← hl]
        exact pm_lv_has hls
      have hMet := fun hk1 : k' < 168 => pm_met (l := l) (D := D) (cA := cA) (ol := ol) hAd hk1 hcat hx
      rcases hcase with ⟨idx, rfl, hokc⟩ | ⟨idx, rfl, hokc⟩
      · exact pm_callRun (a0 := []) F X hE hAd hl0 (hMet (pm_okc_spec hokc).1) hokc hpop q1 hd (Or.inl ⟨rfl, rfl⟩) (fun _ => ⟨b, a1, fs, has, hgo⟩) hR hls1 (by omega) (by omega) (fun hrun => pm_after hrun hl0 hz0 g1.1 g1.2 hR hls1 K)
      · exact pm_callRun (a0 := []) F X hE hAd hl0 (hMet (pm_okc_spec hokc).1) hokc hpop q1 hd (Or.inr (Or.inr ⟨rfl, rfl⟩)) (fun _ => ⟨b, a1, fs, has, hgo⟩) hR hls1 (by omega) (by omega) (fun hrun => pm_after hrun hl0 hz0 g1.1 g1.2 hR hls1 K)
    · cases e2
  · cases hok
theorem P_is {a ci : Nat} {h : pm_H} (e : pm_is h a ci = true) : ∃ fs, pm_go h a = some (ci, fs) := by
  unfold pm_is at e
  split at e
  · rename_i c2 fs hg
    have : c2 = ci := by simpa using e
    subst this
    exact ⟨fs, hg⟩
  · cases e
theorem P_fd {a ci j : Nat} {v : Value} {h : pm_H} (e : pm_fd h a ci j = some v) : ∃ fs, pm_go h a = some (ci, fs) ∧ fs[j]? = some v := by
  unfold pm_fd at e
  split at e
  · rename_i ci' fs hg
    split at e
    · rename_i hc
      subst hc
      exact ⟨fs, hg, e⟩
    · cases e
  · cases e
theorem P_one_gf {a x ci j len pc : Nat} {v : Value} {h : pm_H} {lo : pm_L} {r : List Value} (e : pm_fd h a ci j = some v) (h1 : x / 64 = ci) (h2 : x % 64 = j) : pm_one ol (.getfield x) len pc lo (.ref a :: r) h = some (.inl (pc + len, lo, v :: r, h)) := by
  obtain ⟨fs, hg, hf⟩ := P_fd e
  subst h1 h2
  show (match pm_go h a with | some (ci, fs) => if ci = x / 64 then (match fs[x % 64]? with | some v => pm_nx (pc + len) lo (v :: r) h | none => none) else none | none => none) = _
  rw [hg]
  dsimp only
  rw [if_pos rfl, hf]
  rfl
theorem P_one_vc {a x ci k' len pc : Nat} {h : pm_H} {lo : pm_L} {r : List Value} (e : pm_is h a ci = true) (h1 : x / 1000 = ci) (h2 : x % 1000 = k') (hc : pm_call k' [.ref a] r = some (.inr (.inr (k', [.ref a], r)))) : pm_one ol (.invokeinterface x 1) len pc lo (.ref a :: r) h = some (.inr (.inr (k', [.ref a], r))) := by
  obtain ⟨fs, hg⟩ := P_is e
  subst h1 h2
  show (match pm_go h a with | some (ci, _) => if ci = x / 1000 then pm_call (x % 1000) [.ref a] r else none | none => none) = _
  rw [hg]
  dsimp only
  rw [if_pos rfl]
  exact hc
theorem P_one_le {x y : Int32} {t : Int} {len pc : Nat} {lo : pm_L} {r : List Value} {h : pm_H} (hs : ¬ x ≤ y) : pm_one ol (.if_icmp .le t) len pc lo (.int y :: .int x :: r) h = some (.inl (pc + len, lo, r, h)) := by
  show (if pm_b2 .le x y = true then _ else _) = _
  rw [if_neg (by simpa [pm_b2] using hs)]
  rfl
/-- method 107, where the table is malformed: to the place of the throw -/
theorem P_rd107 (F : pm_fx 107 p R s m args meth c) (X : pm_cx D cA ad base ol s) (hE : l0 < pm_M → s.heap.size = base + l0) (hAd : ∀ i, i < 1000 → ad i = base + i) {x r : Nat} {h1 : pm_H} (e1 : pm_fd h x 11 3 = some (.ref r)) (e3 : pm_is h r 8 = true) (e2 : pm_V ol o_n 69 [.ref r] h = some (some (.int 0), h1)) (hl0 : l0 ≤ h.length) (hz0 : z0 ≤ pm_sz h) (hc : h1.length - l0 ≤ R.cells) (hz : pm_sz h1 - z0 ≤ R.slots)
    (K : ∀ lo, pm_U p l e R s m args below meth c Q D cA ad base 107 l0 z0 10 lo [] h1) : pm_U p l e R s m args below meth c Q D cA ad base 107 l0 z0 0 (lv_args 0 [.ref x]) [] h := by
  have g := o_V (by decide) e2
  refine P_nx F X hE hAd (by decide) (pc' := 1) (lo1 := [(0, .ref x)]) (lo' := [(0, .ref x)]) (st' := [.ref x]) (h' := h) rfl rfl rfl hl0 hz0 (by omega) (by omega) ?_
  refine P_nx F X hE hAd (by decide) (pc' := 4) (lo1 := [(0, .ref x)]) (lo' := [(0, .ref x)]) (st' := [.ref r]) (h' := h) rfl rfl (P_one_gf e1 rfl rfl) hl0 hz0 (by omega) (by omega) ?_
  refine P_call F X hE hAd (by decide) (k' := 69) (as := [.ref r]) (rest := []) rfl (lo1 := [(0, .ref x)]) rfl (P_one_vc e3 rfl rfl rfl) (by decide) e2 hl0 hz0 hc hz ?_
  exact P_nx F X hE hAd (by decide) (pc' := 10) (st' := []) (h' := h1) rfl rfl rfl (by omega) (by omega) hc hz (K _)
/-- method 108, where the table is malformed: to the place of the throw -/
theorem P_rd108 (F : pm_fx 108 p R s m args meth c) (X : pm_cx D cA ad base ol s) (hE : l0 < pm_M → s.heap.size = base + l0) (hAd : ∀ i, i < 1000 → ad i = base + i) {x r : Nat} {i u : Int32} {h1 : pm_H} (e1 : pm_fd h x 11 3 = some (.ref r)) (e3 : pm_is h r 8 = true) (e2 : pm_V ol o_n 69 [.ref r] h = some (some (.int 0), h1)) (hl0 : l0 ≤ h.length) (hz0 : z0 ≤ pm_sz h) (hc : h1.length - l0 ≤ R.cells) (hz : pm_sz h1 - z0 ≤ R.slots)
    (K : ∀ lo, pm_U p l e R s m args below meth c Q D cA ad base 108 l0 z0 10 lo [] h1) : pm_U p l e R s m args below meth c Q D cA ad base 108 l0 z0 0 (lv_args 0 [.ref x, .int i, .int u]) [] h := by
  have g := o_V (by decide) e2
  refine P_nx F X hE hAd (by decide) (pc' := 1) (lo1 := [(0, .ref x), (1, .int i), (2, .int u)]) (lo' := [(0, .ref x), (1, .int i), (2, .int u)]) (st' := [.ref x]) (h' := h) rfl rfl rfl hl0 hz0 (by omega) (by omega) ?_
  refine P_nx F X hE hAd (by decide) (pc' := 4) (lo1 := [(0, .ref x), (1, .int i), (2, .int u)]) (lo' := [(0, .ref x), (1, .int i), (2, .int u)]) (st' := [.ref r]) (h' := h) rfl rfl (P_one_gf e1 rfl rfl) hl0 hz0 (by omega) (by omega) ?_
  refine P_call F X hE hAd (by decide) (k' := 69) (as := [.ref r]) (rest := []) rfl (lo1 := [(0, .ref x), (1, .int i), (2, .int u)]) rfl (P_one_vc e3 rfl rfl rfl) (by decide) e2 hl0 hz0 hc hz ?_
  exact P_nx F X hE hAd (by decide) (pc' := 10) (st' := []) (h' := h1) rfl rfl rfl (by omega) (by omega) hc hz (K _)
/-- method 109, where the table is malformed: to the place of the throw -/
theorem P_rd109 (F : pm_fx 109 p R s m args meth c) (X : pm_cx D cA ad base ol s) (hE : l0 < pm_M → s.heap.size = base + l0) (hAd : ∀ i, i < 1000 → ad i = base + i) {x r : Nat} {h1 : pm_H} (e1 : pm_fd h x 11 3 = some (.ref r)) (e3 : pm_is h r 8 = true) (e2 : pm_V ol o_n 69 [.ref r] h = some (some (.int 0), h1)) (hl0 : l0 ≤ h.length) (hz0 : z0 ≤ pm_sz h) (hc : h1.length - l0 ≤ R.cells) (hz : pm_sz h1 - z0 ≤ R.slots)
    (K : ∀ lo, pm_U p l e R s m args below meth c Q D cA ad base 109 l0 z0 10 lo [] h1) : pm_U p l e R s m args below meth c Q D cA ad base 109 l0 z0 0 (lv_args 0 [.ref x]) [] h := by
  have g := o_V (by decide) e2
  refine P_nx F X hE hAd (by decide) (pc' := 1) (lo1 := [(0, .ref x)]) (lo' := [(0, .ref x)]) (st' := [.ref x]) (h' := h) rfl rfl rfl hl0 hz0 (by omega) (by omega) ?_
  refine P_nx F X hE hAd (by decide) (pc' := 4) (lo1 := [(0, .ref x)]) (lo' := [(0, .ref x)]) (st' := [.ref r]) (h' := h) rfl rfl (P_one_gf e1 rfl rfl) hl0 hz0 (by omega) (by omega) ?_
  refine P_call F X hE hAd (by decide) (k' := 69) (as := [.ref r]) (rest := []) rfl (lo1 := [(0, .ref x)]) rfl (P_one_vc e3 rfl rfl rfl) (by decide) e2 hl0 hz0 hc hz ?_
  exact P_nx F X hE hAd (by decide) (pc' := 10) (st' := []) (h' := h1) rfl rfl rfl (by omega) (by omega) hc hz (K _)
/-- make, where the table would be too long: to the place of the throw -/
theorem P_mk (F : pm_fx 110 p R s m args meth c) (X : pm_cx D cA ad base ol s) (hE : l0 < pm_M → s.heap.size = base + l0) (hAd : ∀ i, i < 1000 → ad i = base + i) {x r b : Nat} {sz : Int32} {h1 h2 : pm_H} (e1 : pm_fd h x 11 5 = some (.ref r)) (e3 : pm_is h r 3 = true) (e2 : pm_V ol o_n 28 [.ref r] h = some (some (.int 0), h1)) (e4 : pm_fd h1 x 11 5 = some (.ref r)) (e5 : pm_is h1 r 3 = true) (e6 : pm_V ol o_n 30 [.ref r] h1 = some (some (.ref b), h2)) (e7 : pm_fd h2 b 0 1 = some (.int sz)) (hs : 120 < sz) (hl0 : l0 ≤ h.length) (hz0 : z0 ≤ pm_sz h) (hc : h2.length - l0 ≤ R.cells) (hz : pm_sz h2 - z0 ≤ R.slots)
    (K : ∀ lo, pm_U p l e R s m args below meth c Q D cA ad base 110 l0 z0 32 lo [] h2) : pm_U p l e R s m args below meth c Q D cA ad base 110 l0 z0 0 (lv_args 0 [.ref x]) [] h := by
  have g := o_V (by decide) e2
  have g2 := o_V (by decide) e6
  have hs2 : ¬ sz ≤ 120 := by grind
  refine P_nx F X hE hAd (by decide) (pc' := 1) (lo1 := [(0, .ref x)]) (lo' := [(0, .ref x)]) (st' := [.ref x]) (h' := h) rfl rfl rfl hl0 hz0 (by omega) (by omega) ?_
  refine P_nx F X hE hAd (by decide) (pc' := 4) (lo1 := [(0, .ref x)]) (lo' := [(0, .ref x)]) (st' := [.ref r]) (h' := h) rfl rfl (P_one_gf e1 rfl rfl) hl0 hz0 (by omega) (by omega) ?_
  refine P_call F X hE hAd (by decide) (k' := 28) (as := [.ref r]) (rest := []) rfl (lo1 := [(0, .ref x)]) rfl (P_one_vc e3 rfl rfl rfl) (by decide) e2 hl0 hz0 (by omega) (by omega) ?_
  refine P_nx F X hE hAd (by decide) (pc' := 8) (st' := []) (h' := h1) rfl rfl rfl (by omega) (by omega) (by omega) (by omega) ?_
  refine P_nx F X hE hAd (by decide) (pc' := 9) (st' := [.int 0]) (h' := h1) rfl rfl rfl (by omega) (by omega) (by omega) (by omega) ?_
  refine P_nx F X hE hAd (by decide) (pc' := 15) (st' := []) (h' := h1) rfl rfl rfl (by omega) (by omega) (by omega) (by omega) ?_
  refine P_nx F X hE hAd (by decide) (pc' := 16) (st' := [.ref x]) (h' := h1) rfl rfl rfl (by omega) (by omega) (by omega) (by omega) ?_
  refine P_nx F X hE hAd (by decide) (pc' := 19) (st' := [.ref r]) (h' := h1) rfl rfl (P_one_gf e4 rfl rfl) (by omega) (by omega) (by omega) (by omega) ?_
  refine P_call F X hE hAd (by decide) (k' := 30) (as := [.ref r]) (rest := []) rfl rfl (P_one_vc e5 rfl rfl rfl) (by decide) e6 (by omega) (by omega) hc hz ?_
  refine P_nx F X hE hAd (by decide) (pc' := 23) (st' := []) (h' := h2) rfl rfl rfl (by omega) (by omega) hc hz ?_
  refine P_nx F X hE hAd (by decide) (pc' := 24) (st' := [.ref b]) (h' := h2) rfl rfl rfl (by omega) (by omega) hc hz ?_
  refine P_nx F X hE hAd (by decide) (pc' := 27) (st' := [.int sz]) (h' := h2) rfl rfl (P_one_gf e7 rfl rfl) (by omega) (by omega) hc hz ?_
  refine P_nx F X hE hAd (by decide) (pc' := 29) (st' := [.int 120, .int sz]) (h' := h2) rfl rfl rfl (by omega) (by omega) hc hz ?_
  exact P_nx F X hE hAd (by decide) (pc' := 32) (st' := []) (h' := h2) rfl rfl (P_one_le hs2) (by omega) (by omega) hc hz (K _)
end PRE
