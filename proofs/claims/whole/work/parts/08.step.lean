/-! ONE STEP of the pure machine is one of the real one -/
def pm_ad (base : Nat) (od : Nat → Nat) (i : Nat) : Nat := if i < 1000 then base + i else od (i - 1000)
def pm_tys (cA : Nat → ClassId) : List (ClassId × FieldType) := [(cA 0, .int), (cA 1, .boolean), (cA 2, .long), (cA 3, .object RX4)]
def pm_A (base : Nat) : Nat → Prop := fun q => base ≤ q
/-- what is known of the start and stays: the classes, the arrays that were there -/
def pm_cx (D : va_G) (cA : Nat → ClassId) (ad : Nat → Nat) (base : Nat) (ol : pm_O) (s : State) : Prop :=
  va_K D vwCl (pm_tys cA) s ∧ va_AO RX4 s ∧ base ≤ s.heap.size ∧ (∀ (j N : Nat) (f : Nat → Int32), ol[j]? = some (N, f) → va_T .int (ad (1000 + j)) N (fun i => .int (f i)) (pm_A base) s s.heap) ∧ va_Z RX2 "X_BOUNDS" "[I" (.ref (ad 1001)) (pm_A base) s s.heap ∧ va_Z RX7 "GIVEN" "[I" (.ref (ad 1002)) (pm_A base) s s.heap
theorem pm_cx.moved {D : va_G} {cA : Nat → ClassId} {ad : Nat → Nat} {base : Nat} {ol : pm_O} {s U : State} {H : Heap} {locs : List Loc} (h : pm_cx D cA ad base ol s) (hW : s.WarmedH U.vm) (hU : U.heap = H) (hS : va_S (pm_A base) s.heap H locs) : pm_cx D cA ad base ol U := by
  obtain ⟨h1, h2, h3, h4, h5, h6⟩ := h
  have hk : ∀ a : Nat, a < s.heap.size → ¬ pm_A base a → U.heap[a]? = s.heap[a]? := fun a g1 g2 => by rw [hU]; exact hS.2.1 a g1 g2
  exact ⟨va_K.moved hW.alike h1, va_AO.moved hW.alike h2, by rw [hU]; exact Nat.le_trans h3 hS.1, fun j N f hj => (va_T.moved hW.alike (h4 j N f hj)).kept hk, (va_Z.moved hW.alike h5).kept hk, (va_Z.moved hW.alike h6).kept hk⟩
/-- what is known of the frame of method k -/
def pm_fx (k : Nat) (p : Program) (R : Room) (s : State) (m : MethodId) (args : Array Value) (meth : Method) (c : Code) : Prop :=
  p.tables.exec = Jvm.exec ∧ c.code = pm_b k ∧ c.maxLocals = pm_mL k ∧ meth.sig.returnType = pm_rt k ∧ meth.locks = false ∧ ((pm_y k).name = "<init>" → meth.name = "<init>") ∧ s.vm.findClass (pm_y k).cls = some m.cls ∧ (∀ w ∈ pm_ws, w.before args s = true) ∧ pm_rf k ≤ R.frames ∧ pm_rl k ≤ R.locals
def pm_hr (D : va_G) (cA : Nat → ClassId) (ad : Nat → Nat) (base : Nat) (s : State) (h : pm_H) (H : Heap) (locs : List Loc) : Prop :=
  va_P D vwCl (pm_w ad cA 0 (h.take pm_M)) H ∧ va_D (pm_A base) (pm_w ad cA 0 (h.take pm_M)) ∧ va_S (pm_A base) s.heap H locs
def pm_tl (ad : Nat → Nat) (lo : pm_L) : List (Nat × Value) := lo.map (fun q => (q.1, pm_tv ad q.2))
/-- the real machine, at pc of method k with the pure state translated, comes to Q -/
def pm_U (p : Program) (l : Launch) (e : Env) (R : Room) (s : State) (m : MethodId) (args : Array Value) (below : List Frame) (meth : Method) (c : Code) (Q : State → Prop) (D : va_G) (cA : Nat → ClassId) (ad : Nat → Nat) (base k l0 z0 pc : Nat) (lo : pm_L) (st : List Value) (h : pm_H) : Prop :=
  ∀ (H : Heap) (locs : List Loc) (ls : Array Slot), pm_hr D cA ad base s h H locs → lv_has ls (pm_mL k) (pm_tl ad lo) → W p l e R s m args below meth c H locs (h.length - l0) (pm_sz h - z0) Q (F0 m pc ls (st.map (pm_tv ad)))
theorem pm_lg_mem : ∀ {lo : pm_L} {i : Nat} {v : Value}, pm_lg lo i = some v → (i, v) ∈ lo := by
  intro lo
  induction lo with
  | nil => intro i v h; cases h
  | cons q r ih =>
    obtain ⟨j, w⟩ := q
    intro i v h
    unfold pm_lg at h
    by_cases hj : j = i
    · rw [if_pos hj] at h; cases h; subst hj; exact List.mem_cons_self
    · rw [if_neg hj] at h; exact List.mem_cons_of_mem _ (ih h)
theorem pm_lg_at {ad : Nat → Nat} {lo : pm_L} {i nL : Nat} {v : Value} {ls : Array Slot} (hl : lv_has ls nL (pm_tl ad lo)) (h : pm_lg lo i = some v) : ls[i]? = some (.val (pm_tv ad v)) :=
  hl.2.2 (i, pm_tv ad v) (List.mem_map.mpr ⟨(i, v), pm_lg_mem h, rfl⟩)
theorem pm_ls_tl (ad : Nat → Nat) (lo : pm_L) (i : Nat) (v : Value) : (i, pm_tv ad v) :: (pm_tl ad lo).filter (fun q => !(q.1 == i) && !(q.1 + 1 == i && q.2.category == 2)) = pm_tl ad (pm_ls lo i v) := by
  unfold pm_tl pm_ls
  rw [List.map_cons, List.filter_map]
  congr 2
  apply List.filter_congr
  intro q _
  simp only [Function.comp, pm_tv_cat]
theorem pm_gi_at {h : pm_H} {t a n : Nat} {f : Nat → Int32} (hg : pm_gi h t a = some (n, f)) : a < pm_M ∧ h[a]? = some (.inl (t, n, .inl f)) := by
  unfold pm_gi at hg
  split at hg
  · rename_i hm
    split at hg
    · rename_i t' n' f' hh
      by_cases ht : t' = t
      · rw [if_pos ht] at hg; cases hg; subst ht; exact ⟨hm, hh⟩
      · rw [if_neg ht] at hg; cases hg
    · cases hg
  · cases hg
theorem pm_gl_at {h : pm_H} {a n : Nat} {f : Nat → Int64} (hg : pm_gl h a = some (n, f)) : a < pm_M ∧ h[a]? = some (.inl (2, n, .inr (.inl f))) := by
  unfold pm_gl at hg
  split at hg
  · rename_i hm
    split at hg
    · rename_i t' n' f' hh
      by_cases ht : t' = 2
      · rw [if_pos ht] at hg; cases hg; subst ht; exact ⟨hm, hh⟩
      · rw [if_neg ht] at hg; cases hg
    · cases hg
  · cases hg
theorem pm_gq_at {h : pm_H} {a n : Nat} {f : Nat → Option Nat} (hg : pm_gq h a = some (n, f)) : a < pm_M ∧ h[a]? = some (.inl (3, n, .inr (.inr (.inr (.inr f))))) := by
  unfold pm_gq at hg
  split at hg
  · rename_i hm
    split at hg
    · rename_i t' n' f' hh
      by_cases ht : t' = 3
      · rw [if_pos ht] at hg; cases hg; subst ht; exact ⟨hm, hh⟩
      · rw [if_neg ht] at hg; cases hg
    · cases hg
  · cases hg
theorem pm_go_at {h : pm_H} {a : Nat} {o : Nat × List Value} (hg : pm_go h a = some o) : a < pm_M ∧ h[a]? = some (.inr o) := by
  unfold pm_go at hg
  split at hg
  · rename_i hm
    split at hg
    · rename_i o' hh; cases hg; exact ⟨hm, hh⟩
    · cases hg
  · cases hg
theorem pm_al_at {h : pm_H} {a n : Nat} (hg : pm_al h a = some n) : a < pm_M ∧ ∃ (t : Nat) (x : vp_A), h[a]? = some (.inl (t, x)) ∧ t < 4 ∧ x.1 = n := by
  unfold pm_al at hg
  split at hg
  · rename_i hm
    split at hg
    · rename_i t' x' hh
      by_cases ht : t' < 4
      · rw [if_pos ht] at hg; cases hg; exact ⟨hm, t', x', hh, ht, rfl⟩
      · rw [if_neg ht] at hg; cases hg
    · cases hg
  · cases hg
theorem pm_t_at {ad : Nat → Nat} {cA : Nat → ClassId} {h : pm_H} {a : Nat} {x : pm_C} (ha : a < pm_M) (hx : h[a]? = some x) : (pm_w ad cA 0 (h.take pm_M))[a]? = some (ad a, pm_tc ad cA x) :=
  pm_w_at (by rw [List.getElem?_take_of_lt ha]; exact hx)
theorem pm_tv_rf (ad : Nat → Nat) (r : Option Nat) : pm_tv ad (va_rf r) = va_rf (r.map ad) := by cases r <;> rfl
theorem pm_cat_tv (ad : Nat → Nat) (r : List Value) : ((r.map (pm_tv ad)).map fun v => v.category).sum = pm_cat r := by
  unfold pm_cat
  rw [List.map_map]
  congr 2
  funext v
  exact pm_tv_cat ad v
theorem pm_lsw (a d v : Int) : ∀ l : List (Int × Int), Op.lookupswitch.offset (l.map (fun q => (q.1, a + q.2))) (a + d) v = a + Op.lookupswitch.offset l d v := by
  intro l
  induction l with
  | nil => rfl
  | cons q r ih =>
    obtain ⟨x, y⟩ := q
    rw [List.map_cons, Op.lookupswitch.offset_cons, Op.lookupswitch.offset_cons, ih]
    split <;> rfl
theorem pm_lswn {a d v : Int} (hd : 0 ≤ a + d) : ∀ l : List (Int × Int), (∀ q ∈ l, 0 ≤ a + q.2) → 0 ≤ a + Op.lookupswitch.offset l d v := by
  intro l
  induction l with
  | nil => intro _; exact hd
  | cons q r ih =>
    intro hl
    obtain ⟨x, y⟩ := q
    rw [Op.lookupswitch.offset_cons]
    split
    · exact hl (x, y) List.mem_cons_self
    · exact ih (fun q hq => hl q (List.mem_cons_of_mem _ hq))
theorem pm_okf_spec {k idx x pos : Nat} (h : pm_okf k idx x pos = true) : ∃ (C : String) (T : u_T) (N : Nat), vwCl[x / 64]? = some (C, T, N) ∧ x % 64 < N ∧ Jvm.Cond.fieldLink (pm_y k).cls idx (T (x % 64)).1 (T (x % 64)).2.1 (T (x % 64)).2.2.1 ∈ pm_ws := by
  unfold pm_okf at h
  split at h
  · rename_i C T N hv
    simp only [Bool.and_eq_true, decide_eq_true_eq] at h
    exact ⟨C, T, N, hv, h.1, pm_wd_in h.2 rfl⟩
  · cases h
theorem pm_okw_spec {k x : Nat} {f : FieldType → Bool} (h : pm_okw k x f = true) : ∃ (C : String) (T : u_T) (N : Nat) (ty : FieldType), vwCl[x / 64]? = some (C, T, N) ∧ parseFieldDescriptor (T (x % 64)).2.2.1 = some ty ∧ f ty = true ∧ ((T (x % 64)).2.2.2 = false ∨ ((pm_y k).name = "<init>" ∧ (T (x % 64)).1 = (pm_y k).cls)) := by
  unfold pm_okw at h
  split at h
  · rename_i C T N hv
    simp only [Bool.and_eq_true, Bool.or_eq_true, decide_eq_true_eq] at h
    obtain ⟨h1, h2⟩ := h
    split at h1
    · rename_i ty ht
      exact ⟨C, T, N, ty, hv, ht, h1, h2⟩
    · cases h1
  · cases h
section PMS
variable {p : Program} {l : Launch} {e : Env} {R : Room} {s : State} {m : MethodId} {args : Array Value} {below : List Frame} {meth : Method} {c : Code} {Q : State → Prop}
variable {D : va_G} {cA : Nat → ClassId} {ad : Nat → Nat} {base : Nat} {ol : pm_O} {k l0 z0 pc : Nat} {lo : pm_L} {st : List Value} {h : pm_H}
/-- a write into a cell of the same size -/
theorem pm_put {a : Nat} {y : pm_C} {H1 : Heap} {locs1 : List Loc} (ha : a < pm_M) (hP : va_P D vwCl ((pm_w ad cA 0 (h.take pm_M)).set a (ad a, pm_tc ad cA y)) H1) (hD : va_D (pm_A base) ((pm_w ad cA 0 (h.take pm_M)).set a (ad a, pm_tc ad cA y))) (hS : va_S (pm_A base) s.heap H1 locs1) : pm_hr D cA ad base s (h.set a y) H1 locs1 := by
  rw [pm_w_s0] at hP hD
  have e : (h.set a y).take pm_M = (h.take pm_M).set a y := by rw [List.take_set]
  exact ⟨by rw [e]; exact hP, by rw [e]; exact hD, hS⟩
theorem pm_Uset {a : Nat} {x y : pm_C} {st' : List Value} {lo' : pm_L} {pc' : Nat} {H1 : Heap} {locs1 : List Loc} {ls : Array Slot} (K : pm_U p l e R s m args below meth c Q D cA ad base k l0 z0 pc' lo' st' (h.set a y)) (hx : h[a]? = some x) (he : pm_csz y = pm_csz x) (hr : pm_hr D cA ad base s (h.set a y) H1 locs1) (hl : lv_has ls (pm_mL k) (pm_tl ad lo')) :
    W p l e R s m args below meth c H1 locs1 (h.length - l0) (pm_sz h - z0) Q (F0 m pc' ls (st'.map (pm_tv ad))) := by
  have := K H1 locs1 ls hr hl
  rw [List.length_set, pm_sz_set hx he] at this
  exact this
/-- how large the heap is while the law still makes its cells -/
theorem pm_size {H : Heap} {locs : List Loc} {slots : Nat} {T : State} (hE : l0 < pm_M → s.heap.size = base + l0) (hAd : ∀ i, i < 1000 → ad i = base + i) (hlt : h.length < pm_M) (hl0 : l0 ≤ h.length) (hr : pm_hr D cA ad base s h H locs) (hT : T.heap = H) (X : Stand p l e R s m args below meth c T locs (h.length - l0) slots) : H.size = base + h.length := by
  have h1 := X.heapSize
  have h2 := hE (Nat.lt_of_le_of_lt hl0 hlt)
  rw [hT] at h1
  have h3 : base + h.length ≤ H.size := by
    by_cases h0 : h.length = 0
    · have := hr.2.2.1
      omega
    · have hx : h[h.length - 1]? = some (h[h.length - 1]'(by omega)) := List.getElem?_eq_getElem (by omega)
      have h4 := (hr.1 _ _ (pm_t_at (ad := ad) (cA := cA) (by omega) hx)).lt
      have h5 := hAd (h.length - 1) (by have : pm_M = 70 := rfl; omega)
      have h6 : ad (h.length - 1) < H.size := h4
      omega
  omega
theorem pm_grow {x : pm_C} {H H1 : Heap} {locs : List Loc} (hlt : h.length < pm_M) (hr : pm_hr D cA ad base s h H locs) (hX : base ≤ s.heap.size) (hA : ad h.length = H.size) (hat : va_at D vwCl (H.size, pm_tc ad cA x) H1) (z1 : H1.size = H.size + 1) (o1 : ∀ q, q < H.size → H1[q]? = H[q]?) : pm_hr D cA ad base s (h ++ [x]) H1 locs := by
  have e1 : (h ++ [x]).take pm_M = h ++ [x] := List.take_of_length_le (by rw [List.length_append]; exact hlt)
  have e2 : h.take pm_M = h := List.take_of_length_le (Nat.le_of_lt hlt)
  obtain ⟨hP, hD, hS⟩ := hr
  rw [e2] at hP hD
  have ew : pm_w ad cA 0 (h ++ [x]) = pm_w ad cA 0 h ++ [(H.size, pm_tc ad cA x)] := by rw [pm_w_app, Nat.zero_add, hA]
  have hk : ∀ (k : Nat) (y : Nat × va_E), (pm_w ad cA 0 h)[k]? = some y → H1[y.1]? = H[y.1]? := fun k y hy => o1 y.1 ((hP k y hy).lt)
  refine ⟨?_, ?_, Nat.le_trans hS.1 (by omega), fun q g1 g2 => (o1 q (Nat.lt_of_lt_of_le g1 hS.1)).trans (hS.2.1 q g1 g2), hS.2.2⟩
  · rw [e1, ew]
    refine (hP.kept hk).app (fun k y hy => ?_)
    have hz : k < 1 := (List.getElem?_eq_some_iff.mp hy).1
    rw [show k = 0 by omega] at hy
    cases hy
    exact hat
  · rw [e1, ew]
    exact hD.push hP rfl (Nat.le_trans hX hS.1)
theorem pm_Uapp {x : pm_C} {st' : List Value} {lo' : pm_L} {pc' : Nat} {H1 : Heap} {locs1 : List Loc} {ls : Array Slot} (K : pm_U p l e R s m args below meth c Q D cA ad base k l0 z0 pc' lo' st' (h ++ [x])) (hl0 : l0 ≤ h.length) (hz0 : z0 ≤ pm_sz h) (hr : pm_hr D cA ad base s (h ++ [x]) H1 locs1) (hl : lv_has ls (pm_mL k) (pm_tl ad lo')) :
    W p l e R s m args below meth c H1 locs1 (h.length - l0 + 1) (pm_sz h - z0 + pm_csz x) Q (F0 m pc' ls (st'.map (pm_tv ad))) := by
  have := K H1 locs1 ls hr hl
  rw [List.length_append, pm_sz_app, show h.length + [x].length - l0 = h.length - l0 + 1 by simp; omega, show pm_sz h + pm_csz x - z0 = pm_sz h - z0 + pm_csz x by omega] at this
  exact this
/-- a field is written -/
theorem pm_pf {idx x pos a : Nat} {fs : List Value} {f : FieldType → Bool} {v : Value} {r : List Value} (F : pm_fx k p R s m args meth c) (X : pm_cx D cA ad base ol s) (hf : pm_okf k idx x pos = true) (hw : pm_okw k x f = true) (hd : decode (pm_b k) pc = .ok (.putfield idx, 3)) (ha : a < pm_M) (hat : h[a]? = some (.inr (x / 64, fs))) (hlen : x % 64 < fs.length) (hnf : ∀ ty, f ty = true → narrow ty (pm_tv ad v) = pm_tv ad v ∧ fits ty (pm_tv ad v) = true)
    (K : pm_U p l e R s m args below meth c Q D cA ad base k l0 z0 (pc + 3) lo r (h.set a (.inr (x / 64, fs.set (x % 64) v)))) : pm_U p l e R s m args below meth c Q D cA ad base k l0 z0 pc lo (v :: .ref a :: r) h := by
  obtain ⟨hx, hb, hml, hrt, hlk, hnm, hown, hts, hrf, hrl⟩ := F
  obtain ⟨C, T, N, hv, hN, hw1⟩ := pm_okf_spec hf
  obtain ⟨C', T', N', ty, hv', hty, hft, hfin⟩ := pm_okw_spec hw
  cases hv.symm.trans hv'
  obtain ⟨g1, ⟨ty0, g2, -⟩, g3, -⟩ := pm_cls _ _ _ _ hv
  obtain ⟨n1, n2⟩ := hnf ty hft
  have em : (fs.map (pm_tv ad)).set (x % 64) (pm_tv ad v) = (fs.set (x % 64) v).map (pm_tv ad) := by rw [List.map_set]
  have hlen' : x % 64 < (fs.map (pm_tv ad)).length := by rw [List.length_map]; exact hlen
  intro H locs ls hr hl
  have fin : ∀ (H1 : Heap) (locs1 : List Loc), va_P D vwCl ((pm_w ad cA 0 (h.take pm_M)).set a (ad a, .inr (x / 64, (fs.map (pm_tv ad)).set (x % 64) (pm_tv ad v)))) H1 → va_D (pm_A base) ((pm_w ad cA 0 (h.take pm_M)).set a (ad a, .inr (x / 64, (fs.map (pm_tv ad)).set (x % 64) (pm_tv ad v)))) → va_S (pm_A base) s.heap H1 locs1 → W p l e R s m args below meth c H1 locs1 (h.length - l0) (pm_sz h - z0) Q (F0 m (pc + 3) ls (r.map (pm_tv ad))) := by
    intro H1 locs1 hP1 hD1 hS1
    rw [em] at hP1 hD1
    exact pm_Uset K hat (by simp [pm_csz]) (pm_put ha hP1 hD1 hS1) hl
  cases hfl : (T (x % 64)).2.2.2 with
  | false => exact va_put (C := C) (T := T) (N := N) hx hb hts g1 ty0 g2 g3 hown X.1 hr.1 hr.2.1 hr.2.2 a (pm_t_at ha hat) hv (x % 64) hN (hts _ hw1) (fun _ z => z) hfl hty n1 n2 hlen' hd fin
  | true =>
    rcases hfin with q | ⟨q1, q2⟩
    · rw [hfl] at q; cases q
    · exact va_putF (C := C) (T := T) (N := N) hx hb hts g1 ty0 g2 g3 hown X.1 hr.1 hr.2.1 hr.2.2 a (pm_t_at ha hat) hv (x % 64) hN (hts _ hw1) (fun _ z => z) hfl (hnm q1) q2 hty n1 n2 hlen' hd fin
set_option maxHeartbeats 2000000 in
theorem pm_st_iadd (F : pm_fx k p R s m args meth c) (X : pm_cx D cA ad base ol s) (hE : l0 < pm_M → s.heap.size = base + l0) (hAd : ∀ i, i < 1000 → ad i = base + i) {i : Instr} {len pos pc' : Nat} {lo' : pm_L} {st' : List Value} {h' : pm_H} (hd : decode (pm_b k) pc = .ok (.iadd, len)) (hj : pm_okJ k pc (.iadd) i len pos = true) (ho : pm_one ol i len pc lo st h = some (.inl (pc', lo', st', h'))) (hl0 : l0 ≤ h.length) (hz0 : z0 ≤ pm_sz h) (hc : h'.length - l0 ≤ R.cells) (hz : pm_sz h' - z0 ≤ R.slots)
    (K : pm_U p l e R s m args below meth c Q D cA ad base k l0 z0 pc' lo' st' h') : pm_U p l e R s m args below meth c Q D cA ad base k l0 z0 pc lo st h := by
  obtain ⟨hx, hb, hml, hrt, hlk, hnm, hown, hts, hrf, hrl⟩ := id F
  simp only [pm_okJ, pm_plain, Bool.and_eq_true, decide_eq_true_eq, true_and] at hj
  obtain ⟨rfl, rfl⟩ := hj
  simp only [pm_one, pm_i2] at ho
  split at ho
  · simp only [pm_nx, Option.some.injEq, Sum.inl.injEq, Prod.mk.injEq] at ho
    obtain ⟨rfl, rfl, rfl, rfl⟩ := ho
    intro H locs ls hr hl
    exact lv_iadd hx hb hd (K H locs ls hr hl)
  · cases ho
set_option maxHeartbeats 2000000 in
theorem pm_st_isub (F : pm_fx k p R s m args meth c) (X : pm_cx D cA ad base ol s) (hE : l0 < pm_M → s.heap.size = base + l0) (hAd : ∀ i, i < 1000 → ad i = base + i) {i : Instr} {len pos pc' : Nat} {lo' : pm_L} {st' : List Value} {h' : pm_H} (hd : decode (pm_b k) pc = .ok (.isub, len)) (hj : pm_okJ k pc (.isub) i len pos = true) (ho : pm_one ol i len pc lo st h = some (.inl (pc', lo', st', h'))) (hl0 : l0 ≤ h.length) (hz0 : z0 ≤ pm_sz h) (hc : h'.length - l0 ≤ R.cells) (hz : pm_sz h' - z0 ≤ R.slots)
    (K : pm_U p l e R s m args below meth c Q D cA ad base k l0 z0 pc' lo' st' h') : pm_U p l e R s m args below meth c Q D cA ad base k l0 z0 pc lo st h := by
  obtain ⟨hx, hb, hml, hrt, hlk, hnm, hown, hts, hrf, hrl⟩ := id F
  simp only [pm_okJ, pm_plain, Bool.and_eq_true, decide_eq_true_eq, true_and] at hj
  obtain ⟨rfl, rfl⟩ := hj
  simp only [pm_one, pm_i2] at ho
  split at ho
  · simp only [pm_nx, Option.some.injEq, Sum.inl.injEq, Prod.mk.injEq] at ho
    obtain ⟨rfl, rfl, rfl, rfl⟩ := ho
    intro H locs ls hr hl
    exact lv_isub hx hb hd (K H locs ls hr hl)
  · cases ho
set_option maxHeartbeats 2000000 in
theorem pm_st_imul (F : pm_fx k p R s m args meth c) (X : pm_cx D cA ad base ol s) (hE : l0 < pm_M → s.heap.size = base + l0) (hAd : ∀ i, i < 1000 → ad i = base + i) {i : Instr} {len pos pc' : Nat} {lo' : pm_L} {st' : List Value} {h' : pm_H} (hd : decode (pm_b k) pc = .ok (.imul, len)) (hj : pm_okJ k pc (.imul) i len pos = true) (ho : pm_one ol i len pc lo st h = some (.inl (pc', lo', st', h'))) (hl0 : l0 ≤ h.length) (hz0 : z0 ≤ pm_sz h) (hc : h'.length - l0 ≤ R.cells) (hz : pm_sz h' - z0 ≤ R.slots)
    (K : pm_U p l e R s m args below meth c Q D cA ad base k l0 z0 pc' lo' st' h') : pm_U p l e R s m args below meth c Q D cA ad base k l0 z0 pc lo st h := by
  obtain ⟨hx, hb, hml, hrt, hlk, hnm, hown, hts, hrf, hrl⟩ := id F
  simp only [pm_okJ, pm_plain, Bool.and_eq_true, decide_eq_true_eq, true_and] at hj
  obtain ⟨rfl, rfl⟩ := hj
  simp only [pm_one, pm_i2] at ho
  split at ho
  · simp only [pm_nx, Option.some.injEq, Sum.inl.injEq, Prod.mk.injEq] at ho
    obtain ⟨rfl, rfl, rfl, rfl⟩ := ho
    intro H locs ls hr hl
    exact lv_imul hx hb hd (K H locs ls hr hl)
  · cases ho
set_option maxHeartbeats 2000000 in
theorem pm_st_iand (F : pm_fx k p R s m args meth c) (X : pm_cx D cA ad base ol s) (hE : l0 < pm_M → s.heap.size = base + l0) (hAd : ∀ i, i < 1000 → ad i = base + i) {i : Instr} {len pos pc' : Nat} {lo' : pm_L} {st' : List Value} {h' : pm_H} (hd : decode (pm_b k) pc = .ok (.iand, len)) (hj : pm_okJ k pc (.iand) i len pos = true) (ho : pm_one ol i len pc lo st h = some (.inl (pc', lo', st', h'))) (hl0 : l0 ≤ h.length) (hz0 : z0 ≤ pm_sz h) (hc : h'.length - l0 ≤ R.cells) (hz : pm_sz h' - z0 ≤ R.slots)
    (K : pm_U p l e R s m args below meth c Q D cA ad base k l0 z0 pc' lo' st' h') : pm_U p l e R s m args below meth c Q D cA ad base k l0 z0 pc lo st h := by
  obtain ⟨hx, hb, hml, hrt, hlk, hnm, hown, hts, hrf, hrl⟩ := id F
  simp only [pm_okJ, pm_plain, Bool.and_eq_true, decide_eq_true_eq, true_and] at hj
  obtain ⟨rfl, rfl⟩ := hj
  simp only [pm_one, pm_i2] at ho
  split at ho
  · simp only [pm_nx, Option.some.injEq, Sum.inl.injEq, Prod.mk.injEq] at ho
    obtain ⟨rfl, rfl, rfl, rfl⟩ := ho
    intro H locs ls hr hl
    exact lv_iand hx hb hd (K H locs ls hr hl)
  · cases ho
set_option maxHeartbeats 2000000 in
theorem pm_st_land (F : pm_fx k p R s m args meth c) (X : pm_cx D cA ad base ol s) (hE : l0 < pm_M → s.heap.size = base + l0) (hAd : ∀ i, i < 1000 → ad i = base + i) {i : Instr} {len pos pc' : Nat} {lo' : pm_L} {st' : List Value} {h' : pm_H} (hd : decode (pm_b k) pc = .ok (.land, len)) (hj : pm_okJ k pc (.land) i len pos = true) (ho : pm_one ol i len pc lo st h = some (.inl (pc', lo', st', h'))) (hl0 : l0 ≤ h.length) (hz0 : z0 ≤ pm_sz h) (hc : h'.length - l0 ≤ R.cells) (hz : pm_sz h' - z0 ≤ R.slots)
    (K : pm_U p l e R s m args below meth c Q D cA ad base k l0 z0 pc' lo' st' h') : pm_U p l e R s m args below meth c Q D cA ad base k l0 z0 pc lo st h := by
  obtain ⟨hx, hb, hml, hrt, hlk, hnm, hown, hts, hrf, hrl⟩ := id F
  simp only [pm_okJ, pm_plain, Bool.and_eq_true, decide_eq_true_eq, true_and] at hj
  obtain ⟨rfl, rfl⟩ := hj
  simp only [pm_one, pm_l2] at ho
  split at ho
  · simp only [pm_nx, Option.some.injEq, Sum.inl.injEq, Prod.mk.injEq] at ho
    obtain ⟨rfl, rfl, rfl, rfl⟩ := ho
    intro H locs ls hr hl
    exact lv_land hx hb hd (K H locs ls hr hl)
  · cases ho
set_option maxHeartbeats 2000000 in
theorem pm_st_lor (F : pm_fx k p R s m args meth c) (X : pm_cx D cA ad base ol s) (hE : l0 < pm_M → s.heap.size = base + l0) (hAd : ∀ i, i < 1000 → ad i = base + i) {i : Instr} {len pos pc' : Nat} {lo' : pm_L} {st' : List Value} {h' : pm_H} (hd : decode (pm_b k) pc = .ok (.lor, len)) (hj : pm_okJ k pc (.lor) i len pos = true) (ho : pm_one ol i len pc lo st h = some (.inl (pc', lo', st', h'))) (hl0 : l0 ≤ h.length) (hz0 : z0 ≤ pm_sz h) (hc : h'.length - l0 ≤ R.cells) (hz : pm_sz h' - z0 ≤ R.slots)
    (K : pm_U p l e R s m args below meth c Q D cA ad base k l0 z0 pc' lo' st' h') : pm_U p l e R s m args below meth c Q D cA ad base k l0 z0 pc lo st h := by
  obtain ⟨hx, hb, hml, hrt, hlk, hnm, hown, hts, hrf, hrl⟩ := id F
  simp only [pm_okJ, pm_plain, Bool.and_eq_true, decide_eq_true_eq, true_and] at hj
  obtain ⟨rfl, rfl⟩ := hj
  simp only [pm_one, pm_l2] at ho
  split at ho
  · simp only [pm_nx, Option.some.injEq, Sum.inl.injEq, Prod.mk.injEq] at ho
    obtain ⟨rfl, rfl, rfl, rfl⟩ := ho
    intro H locs ls hr hl
    exact lv_lor hx hb hd (K H locs ls hr hl)
  · cases ho
set_option maxHeartbeats 2000000 in
theorem pm_st_lshl (F : pm_fx k p R s m args meth c) (X : pm_cx D cA ad base ol s) (hE : l0 < pm_M → s.heap.size = base + l0) (hAd : ∀ i, i < 1000 → ad i = base + i) {i : Instr} {len pos pc' : Nat} {lo' : pm_L} {st' : List Value} {h' : pm_H} (hd : decode (pm_b k) pc = .ok (.lshl, len)) (hj : pm_okJ k pc (.lshl) i len pos = true) (ho : pm_one ol i len pc lo st h = some (.inl (pc', lo', st', h'))) (hl0 : l0 ≤ h.length) (hz0 : z0 ≤ pm_sz h) (hc : h'.length - l0 ≤ R.cells) (hz : pm_sz h' - z0 ≤ R.slots)
    (K : pm_U p l e R s m args below meth c Q D cA ad base k l0 z0 pc' lo' st' h') : pm_U p l e R s m args below meth c Q D cA ad base k l0 z0 pc lo st h := by
  obtain ⟨hx, hb, hml, hrt, hlk, hnm, hown, hts, hrf, hrl⟩ := id F
  simp only [pm_okJ, pm_plain, Bool.and_eq_true, decide_eq_true_eq, true_and] at hj
  obtain ⟨rfl, rfl⟩ := hj
  simp only [pm_one, pm_sh] at ho
  split at ho
  · simp only [pm_nx, Option.some.injEq, Sum.inl.injEq, Prod.mk.injEq] at ho
    obtain ⟨rfl, rfl, rfl, rfl⟩ := ho
    intro H locs ls hr hl
    exact lv_lshl hx hb hd rfl (K H locs ls hr hl)
  · cases ho
set_option maxHeartbeats 2000000 in
theorem pm_st_lshr (F : pm_fx k p R s m args meth c) (X : pm_cx D cA ad base ol s) (hE : l0 < pm_M → s.heap.size = base + l0) (hAd : ∀ i, i < 1000 → ad i = base + i) {i : Instr} {len pos pc' : Nat} {lo' : pm_L} {st' : List Value} {h' : pm_H} (hd : decode (pm_b k) pc = .ok (.lshr, len)) (hj : pm_okJ k pc (.lshr) i len pos = true) (ho : pm_one ol i len pc lo st h = some (.inl (pc', lo', st', h'))) (hl0 : l0 ≤ h.length) (hz0 : z0 ≤ pm_sz h) (hc : h'.length - l0 ≤ R.cells) (hz : pm_sz h' - z0 ≤ R.slots)
    (K : pm_U p l e R s m args below meth c Q D cA ad base k l0 z0 pc' lo' st' h') : pm_U p l e R s m args below meth c Q D cA ad base k l0 z0 pc lo st h := by
  obtain ⟨hx, hb, hml, hrt, hlk, hnm, hown, hts, hrf, hrl⟩ := id F
  simp only [pm_okJ, pm_plain, Bool.and_eq_true, decide_eq_true_eq, true_and] at hj
  obtain ⟨rfl, rfl⟩ := hj
  simp only [pm_one, pm_sh] at ho
  split at ho
  · simp only [pm_nx, Option.some.injEq, Sum.inl.injEq, Prod.mk.injEq] at ho
    obtain ⟨rfl, rfl, rfl, rfl⟩ := ho
    intro H locs ls hr hl
    exact lv_lshr hx hb hd rfl (K H locs ls hr hl)
  · cases ho
set_option maxHeartbeats 2000000 in
theorem pm_st_lushr (F : pm_fx k p R s m args meth c) (X : pm_cx D cA ad base ol s) (hE : l0 < pm_M → s.heap.size = base + l0) (hAd : ∀ i, i < 1000 → ad i = base + i) {i : Instr} {len pos pc' : Nat} {lo' : pm_L} {st' : List Value} {h' : pm_H} (hd : decode (pm_b k) pc = .ok (.lushr, len)) (hj : pm_okJ k pc (.lushr) i len pos = true) (ho : pm_one ol i len pc lo st h = some (.inl (pc', lo', st', h'))) (hl0 : l0 ≤ h.length) (hz0 : z0 ≤ pm_sz h) (hc : h'.length - l0 ≤ R.cells) (hz : pm_sz h' - z0 ≤ R.slots)
    (K : pm_U p l e R s m args below meth c Q D cA ad base k l0 z0 pc' lo' st' h') : pm_U p l e R s m args below meth c Q D cA ad base k l0 z0 pc lo st h := by
  obtain ⟨hx, hb, hml, hrt, hlk, hnm, hown, hts, hrf, hrl⟩ := id F
  simp only [pm_okJ, pm_plain, Bool.and_eq_true, decide_eq_true_eq, true_and] at hj
  obtain ⟨rfl, rfl⟩ := hj
  simp only [pm_one, pm_sh] at ho
  split at ho
  · simp only [pm_nx, Option.some.injEq, Sum.inl.injEq, Prod.mk.injEq] at ho
    obtain ⟨rfl, rfl, rfl, rfl⟩ := ho
    intro H locs ls hr hl
    exact lv_lushr hx hb hd rfl (K H locs ls hr hl)
  · cases ho
set_option maxHeartbeats 2000000 in
theorem pm_st_ineg (F : pm_fx k p R s m args meth c) (X : pm_cx D cA ad base ol s) (hE : l0 < pm_M → s.heap.size = base + l0) (hAd : ∀ i, i < 1000 → ad i = base + i) {i : Instr} {len pos pc' : Nat} {lo' : pm_L} {st' : List Value} {h' : pm_H} (hd : decode (pm_b k) pc = .ok (.ineg, len)) (hj : pm_okJ k pc (.ineg) i len pos = true) (ho : pm_one ol i len pc lo st h = some (.inl (pc', lo', st', h'))) (hl0 : l0 ≤ h.length) (hz0 : z0 ≤ pm_sz h) (hc : h'.length - l0 ≤ R.cells) (hz : pm_sz h' - z0 ≤ R.slots)
    (K : pm_U p l e R s m args below meth c Q D cA ad base k l0 z0 pc' lo' st' h') : pm_U p l e R s m args below meth c Q D cA ad base k l0 z0 pc lo st h := by
  obtain ⟨hx, hb, hml, hrt, hlk, hnm, hown, hts, hrf, hrl⟩ := id F
  simp only [pm_okJ, pm_plain, Bool.and_eq_true, decide_eq_true_eq, true_and] at hj
  obtain ⟨rfl, rfl⟩ := hj
  simp only [pm_one] at ho
  split at ho
  · simp only [pm_nx, Option.some.injEq, Sum.inl.injEq, Prod.mk.injEq] at ho
    obtain ⟨rfl, rfl, rfl, rfl⟩ := ho
    intro H locs ls hr hl
    exact lv_ineg hx hb hd (K H locs ls hr hl)
  · cases ho
set_option maxHeartbeats 2000000 in
theorem pm_st_i2l (F : pm_fx k p R s m args meth c) (X : pm_cx D cA ad base ol s) (hE : l0 < pm_M → s.heap.size = base + l0) (hAd : ∀ i, i < 1000 → ad i = base + i) {i : Instr} {len pos pc' : Nat} {lo' : pm_L} {st' : List Value} {h' : pm_H} (hd : decode (pm_b k) pc = .ok (.i2l, len)) (hj : pm_okJ k pc (.i2l) i len pos = true) (ho : pm_one ol i len pc lo st h = some (.inl (pc', lo', st', h'))) (hl0 : l0 ≤ h.length) (hz0 : z0 ≤ pm_sz h) (hc : h'.length - l0 ≤ R.cells) (hz : pm_sz h' - z0 ≤ R.slots)
    (K : pm_U p l e R s m args below meth c Q D cA ad base k l0 z0 pc' lo' st' h') : pm_U p l e R s m args below meth c Q D cA ad base k l0 z0 pc lo st h := by
  obtain ⟨hx, hb, hml, hrt, hlk, hnm, hown, hts, hrf, hrl⟩ := id F
  simp only [pm_okJ, pm_plain, Bool.and_eq_true, decide_eq_true_eq, true_and] at hj
  obtain ⟨rfl, rfl⟩ := hj
  simp only [pm_one] at ho
  split at ho
  · simp only [pm_nx, Option.some.injEq, Sum.inl.injEq, Prod.mk.injEq] at ho
    obtain ⟨rfl, rfl, rfl, rfl⟩ := ho
    intro H locs ls hr hl
    exact lv_i2l hx hb hd rfl (K H locs ls hr hl)
  · cases ho
set_option maxHeartbeats 2000000 in
theorem pm_st_l2i (F : pm_fx k p R s m args meth c) (X : pm_cx D cA ad base ol s) (hE : l0 < pm_M → s.heap.size = base + l0) (hAd : ∀ i, i < 1000 → ad i = base + i) {i : Instr} {len pos pc' : Nat} {lo' : pm_L} {st' : List Value} {h' : pm_H} (hd : decode (pm_b k) pc = .ok (.l2i, len)) (hj : pm_okJ k pc (.l2i) i len pos = true) (ho : pm_one ol i len pc lo st h = some (.inl (pc', lo', st', h'))) (hl0 : l0 ≤ h.length) (hz0 : z0 ≤ pm_sz h) (hc : h'.length - l0 ≤ R.cells) (hz : pm_sz h' - z0 ≤ R.slots)
    (K : pm_U p l e R s m args below meth c Q D cA ad base k l0 z0 pc' lo' st' h') : pm_U p l e R s m args below meth c Q D cA ad base k l0 z0 pc lo st h := by
  obtain ⟨hx, hb, hml, hrt, hlk, hnm, hown, hts, hrf, hrl⟩ := id F
  simp only [pm_okJ, pm_plain, Bool.and_eq_true, decide_eq_true_eq, true_and] at hj
  obtain ⟨rfl, rfl⟩ := hj
  simp only [pm_one] at ho
  split at ho
  · simp only [pm_nx, Option.some.injEq, Sum.inl.injEq, Prod.mk.injEq] at ho
    obtain ⟨rfl, rfl, rfl, rfl⟩ := ho
    intro H locs ls hr hl
    exact lv_l2i hx hb hd rfl (K H locs ls hr hl)
  · cases ho
set_option maxHeartbeats 2000000 in
theorem pm_st_i2b (F : pm_fx k p R s m args meth c) (X : pm_cx D cA ad base ol s) (hE : l0 < pm_M → s.heap.size = base + l0) (hAd : ∀ i, i < 1000 → ad i = base + i) {i : Instr} {len pos pc' : Nat} {lo' : pm_L} {st' : List Value} {h' : pm_H} (hd : decode (pm_b k) pc = .ok (.i2b, len)) (hj : pm_okJ k pc (.i2b) i len pos = true) (ho : pm_one ol i len pc lo st h = some (.inl (pc', lo', st', h'))) (hl0 : l0 ≤ h.length) (hz0 : z0 ≤ pm_sz h) (hc : h'.length - l0 ≤ R.cells) (hz : pm_sz h' - z0 ≤ R.slots)
    (K : pm_U p l e R s m args below meth c Q D cA ad base k l0 z0 pc' lo' st' h') : pm_U p l e R s m args below meth c Q D cA ad base k l0 z0 pc lo st h := by
  obtain ⟨hx, hb, hml, hrt, hlk, hnm, hown, hts, hrf, hrl⟩ := id F
  simp only [pm_okJ, pm_plain, Bool.and_eq_true, decide_eq_true_eq, true_and] at hj
  obtain ⟨rfl, rfl⟩ := hj
  simp only [pm_one] at ho
  split at ho
  · simp only [pm_nx, Option.some.injEq, Sum.inl.injEq, Prod.mk.injEq] at ho
    obtain ⟨rfl, rfl, rfl, rfl⟩ := ho
    intro H locs ls hr hl
    exact lv_i2b hx hb hd rfl (K H locs ls hr hl)
  · cases ho
set_option maxHeartbeats 2000000 in
theorem pm_st_lcmp (F : pm_fx k p R s m args meth c) (X : pm_cx D cA ad base ol s) (hE : l0 < pm_M → s.heap.size = base + l0) (hAd : ∀ i, i < 1000 → ad i = base + i) {i : Instr} {len pos pc' : Nat} {lo' : pm_L} {st' : List Value} {h' : pm_H} (hd : decode (pm_b k) pc = .ok (.lcmp, len)) (hj : pm_okJ k pc (.lcmp) i len pos = true) (ho : pm_one ol i len pc lo st h = some (.inl (pc', lo', st', h'))) (hl0 : l0 ≤ h.length) (hz0 : z0 ≤ pm_sz h) (hc : h'.length - l0 ≤ R.cells) (hz : pm_sz h' - z0 ≤ R.slots)
    (K : pm_U p l e R s m args below meth c Q D cA ad base k l0 z0 pc' lo' st' h') : pm_U p l e R s m args below meth c Q D cA ad base k l0 z0 pc lo st h := by
  obtain ⟨hx, hb, hml, hrt, hlk, hnm, hown, hts, hrf, hrl⟩ := id F
  simp only [pm_okJ, pm_plain, Bool.and_eq_true, decide_eq_true_eq, true_and] at hj
  obtain ⟨rfl, rfl⟩ := hj
  simp only [pm_one] at ho
  split at ho
  · simp only [pm_nx, Option.some.injEq, Sum.inl.injEq, Prod.mk.injEq] at ho
    obtain ⟨rfl, rfl, rfl, rfl⟩ := ho
    intro H locs ls hr hl
    exact W.lcmp hx hb hd (K H locs ls hr hl)
  · cases ho
set_option maxHeartbeats 2000000 in
theorem pm_st_irem (F : pm_fx k p R s m args meth c) (X : pm_cx D cA ad base ol s) (hE : l0 < pm_M → s.heap.size = base + l0) (hAd : ∀ i, i < 1000 → ad i = base + i) {i : Instr} {len pos pc' : Nat} {lo' : pm_L} {st' : List Value} {h' : pm_H} (hd : decode (pm_b k) pc = .ok (.irem, len)) (hj : pm_okJ k pc (.irem) i len pos = true) (ho : pm_one ol i len pc lo st h = some (.inl (pc', lo', st', h'))) (hl0 : l0 ≤ h.length) (hz0 : z0 ≤ pm_sz h) (hc : h'.length - l0 ≤ R.cells) (hz : pm_sz h' - z0 ≤ R.slots)
    (K : pm_U p l e R s m args below meth c Q D cA ad base k l0 z0 pc' lo' st' h') : pm_U p l e R s m args below meth c Q D cA ad base k l0 z0 pc lo st h := by
  obtain ⟨hx, hb, hml, hrt, hlk, hnm, hown, hts, hrf, hrl⟩ := id F
  simp only [pm_okJ, pm_plain, Bool.and_eq_true, decide_eq_true_eq, true_and] at hj
  obtain ⟨rfl, rfl⟩ := hj
  simp only [pm_one] at ho
  split at ho
  · split at ho
    · cases ho
    · rename_i hcd
      simp only [pm_nx, Option.some.injEq, Sum.inl.injEq, Prod.mk.injEq] at ho
      obtain ⟨rfl, rfl, rfl, rfl⟩ := ho
      intro H locs ls hr hl
      exact lv_irem hx hb hd hcd (K H locs ls hr hl)
  · cases ho
set_option maxHeartbeats 2000000 in
theorem pm_st_dup (F : pm_fx k p R s m args meth c) (X : pm_cx D cA ad base ol s) (hE : l0 < pm_M → s.heap.size = base + l0) (hAd : ∀ i, i < 1000 → ad i = base + i) {i : Instr} {len pos pc' : Nat} {lo' : pm_L} {st' : List Value} {h' : pm_H} (hd : decode (pm_b k) pc = .ok (.dup, len)) (hj : pm_okJ k pc (.dup) i len pos = true) (ho : pm_one ol i len pc lo st h = some (.inl (pc', lo', st', h'))) (hl0 : l0 ≤ h.length) (hz0 : z0 ≤ pm_sz h) (hc : h'.length - l0 ≤ R.cells) (hz : pm_sz h' - z0 ≤ R.slots)
    (K : pm_U p l e R s m args below meth c Q D cA ad base k l0 z0 pc' lo' st' h') : pm_U p l e R s m args below meth c Q D cA ad base k l0 z0 pc lo st h := by
  obtain ⟨hx, hb, hml, hrt, hlk, hnm, hown, hts, hrf, hrl⟩ := id F
  simp only [pm_okJ, pm_plain, Bool.and_eq_true, decide_eq_true_eq, true_and] at hj
  obtain ⟨rfl, rfl⟩ := hj
  simp only [pm_one] at ho
  split at ho
  · split at ho
    · rename_i hcd
      simp only [pm_nx, Option.some.injEq, Sum.inl.injEq, Prod.mk.injEq] at ho
      obtain ⟨rfl, rfl, rfl, rfl⟩ := ho
      intro H locs ls hr hl
      exact lv_dup hx hb hd (by rw [pm_tv_cat]; exact hcd) (K H locs ls hr hl)
    · cases ho
  · cases ho
set_option maxHeartbeats 2000000 in
theorem pm_st_dup2 (F : pm_fx k p R s m args meth c) (X : pm_cx D cA ad base ol s) (hE : l0 < pm_M → s.heap.size = base + l0) (hAd : ∀ i, i < 1000 → ad i = base + i) {i : Instr} {len pos pc' : Nat} {lo' : pm_L} {st' : List Value} {h' : pm_H} (hd : decode (pm_b k) pc = .ok (.dup2, len)) (hj : pm_okJ k pc (.dup2) i len pos = true) (ho : pm_one ol i len pc lo st h = some (.inl (pc', lo', st', h'))) (hl0 : l0 ≤ h.length) (hz0 : z0 ≤ pm_sz h) (hc : h'.length - l0 ≤ R.cells) (hz : pm_sz h' - z0 ≤ R.slots)
    (K : pm_U p l e R s m args below meth c Q D cA ad base k l0 z0 pc' lo' st' h') : pm_U p l e R s m args below meth c Q D cA ad base k l0 z0 pc lo st h := by
  obtain ⟨hx, hb, hml, hrt, hlk, hnm, hown, hts, hrf, hrl⟩ := id F
  simp only [pm_okJ, pm_plain, Bool.and_eq_true, decide_eq_true_eq, true_and] at hj
  obtain ⟨rfl, rfl⟩ := hj
  simp only [pm_one] at ho
  split at ho
  · split at ho
    · rename_i hcd
      simp only [pm_nx, Option.some.injEq, Sum.inl.injEq, Prod.mk.injEq] at ho
      obtain ⟨rfl, rfl, rfl, rfl⟩ := ho
      intro H locs ls hr hl
      exact lv_dup2_11 hx hb hd (by rw [pm_tv_cat]; exact hcd.1) (by rw [pm_tv_cat]; exact hcd.2) (K H locs ls hr hl)
    · cases ho
  · cases ho
set_option maxHeartbeats 2000000 in
theorem pm_st_pop (F : pm_fx k p R s m args meth c) (X : pm_cx D cA ad base ol s) (hE : l0 < pm_M → s.heap.size = base + l0) (hAd : ∀ i, i < 1000 → ad i = base + i) {i : Instr} {len pos pc' : Nat} {lo' : pm_L} {st' : List Value} {h' : pm_H} (hd : decode (pm_b k) pc = .ok (.pop, len)) (hj : pm_okJ k pc (.pop) i len pos = true) (ho : pm_one ol i len pc lo st h = some (.inl (pc', lo', st', h'))) (hl0 : l0 ≤ h.length) (hz0 : z0 ≤ pm_sz h) (hc : h'.length - l0 ≤ R.cells) (hz : pm_sz h' - z0 ≤ R.slots)
    (K : pm_U p l e R s m args below meth c Q D cA ad base k l0 z0 pc' lo' st' h') : pm_U p l e R s m args below meth c Q D cA ad base k l0 z0 pc lo st h := by
  obtain ⟨hx, hb, hml, hrt, hlk, hnm, hown, hts, hrf, hrl⟩ := id F
  simp only [pm_okJ, pm_plain, Bool.and_eq_true, decide_eq_true_eq, true_and] at hj
  obtain ⟨rfl, rfl⟩ := hj
  simp only [pm_one] at ho
  split at ho
  · split at ho
    · rename_i hcd
      simp only [pm_nx, Option.some.injEq, Sum.inl.injEq, Prod.mk.injEq] at ho
      obtain ⟨rfl, rfl, rfl, rfl⟩ := ho
      intro H locs ls hr hl
      exact lv_pop hx hb hd (by rw [pm_tv_cat]; exact hcd) (K H locs ls hr hl)
    · cases ho
  · cases ho
set_option maxHeartbeats 2000000 in
theorem pm_st_iconst (F : pm_fx k p R s m args meth c) (X : pm_cx D cA ad base ol s) (hE : l0 < pm_M → s.heap.size = base + l0) (hAd : ∀ i, i < 1000 → ad i = base + i) {i : Instr} {len pos pc' : Nat} {lo' : pm_L} {st' : List Value} {h' : pm_H} {v : _} (hd : decode (pm_b k) pc = .ok (.iconst v, len)) (hj : pm_okJ k pc (.iconst v) i len pos = true) (ho : pm_one ol i len pc lo st h = some (.inl (pc', lo', st', h'))) (hl0 : l0 ≤ h.length) (hz0 : z0 ≤ pm_sz h) (hc : h'.length - l0 ≤ R.cells) (hz : pm_sz h' - z0 ≤ R.slots)
    (K : pm_U p l e R s m args below meth c Q D cA ad base k l0 z0 pc' lo' st' h') : pm_U p l e R s m args below meth c Q D cA ad base k l0 z0 pc lo st h := by
  obtain ⟨hx, hb, hml, hrt, hlk, hnm, hown, hts, hrf, hrl⟩ := id F
  simp only [pm_okJ, pm_plain, Bool.and_eq_true, decide_eq_true_eq, true_and] at hj
  obtain ⟨rfl, rfl⟩ := hj
  simp only [pm_one] at ho
  simp only [pm_nx, Option.some.injEq, Sum.inl.injEq, Prod.mk.injEq] at ho
  obtain ⟨rfl, rfl, rfl, rfl⟩ := ho
  intro H locs ls hr hl
  exact lv_iconst hx hb hd rfl (K H locs ls hr hl)
set_option maxHeartbeats 2000000 in
theorem pm_st_bipush (F : pm_fx k p R s m args meth c) (X : pm_cx D cA ad base ol s) (hE : l0 < pm_M → s.heap.size = base + l0) (hAd : ∀ i, i < 1000 → ad i = base + i) {i : Instr} {len pos pc' : Nat} {lo' : pm_L} {st' : List Value} {h' : pm_H} {v : _} (hd : decode (pm_b k) pc = .ok (.bipush v, len)) (hj : pm_okJ k pc (.bipush v) i len pos = true) (ho : pm_one ol i len pc lo st h = some (.inl (pc', lo', st', h'))) (hl0 : l0 ≤ h.length) (hz0 : z0 ≤ pm_sz h) (hc : h'.length - l0 ≤ R.cells) (hz : pm_sz h' - z0 ≤ R.slots)
    (K : pm_U p l e R s m args below meth c Q D cA ad base k l0 z0 pc' lo' st' h') : pm_U p l e R s m args below meth c Q D cA ad base k l0 z0 pc lo st h := by
  obtain ⟨hx, hb, hml, hrt, hlk, hnm, hown, hts, hrf, hrl⟩ := id F
  simp only [pm_okJ, pm_plain, Bool.and_eq_true, decide_eq_true_eq, true_and] at hj
  obtain ⟨⟨rfl, rfl⟩, hv⟩ := hj
  simp only [pm_one] at ho
  simp only [pm_nx, Option.some.injEq, Sum.inl.injEq, Prod.mk.injEq] at ho
  obtain ⟨rfl, rfl, rfl, rfl⟩ := ho
  intro H locs ls hr hl
  exact lv_bipush hx hb hd hv (K H locs ls hr hl)
set_option maxHeartbeats 2000000 in
theorem pm_st_sipush (F : pm_fx k p R s m args meth c) (X : pm_cx D cA ad base ol s) (hE : l0 < pm_M → s.heap.size = base + l0) (hAd : ∀ i, i < 1000 → ad i = base + i) {i : Instr} {len pos pc' : Nat} {lo' : pm_L} {st' : List Value} {h' : pm_H} {v : _} (hd : decode (pm_b k) pc = .ok (.sipush v, len)) (hj : pm_okJ k pc (.sipush v) i len pos = true) (ho : pm_one ol i len pc lo st h = some (.inl (pc', lo', st', h'))) (hl0 : l0 ≤ h.length) (hz0 : z0 ≤ pm_sz h) (hc : h'.length - l0 ≤ R.cells) (hz : pm_sz h' - z0 ≤ R.slots)
    (K : pm_U p l e R s m args below meth c Q D cA ad base k l0 z0 pc' lo' st' h') : pm_U p l e R s m args below meth c Q D cA ad base k l0 z0 pc lo st h := by
  obtain ⟨hx, hb, hml, hrt, hlk, hnm, hown, hts, hrf, hrl⟩ := id F
  simp only [pm_okJ, pm_plain, Bool.and_eq_true, decide_eq_true_eq, true_and] at hj
  obtain ⟨⟨rfl, rfl⟩, hv⟩ := hj
  simp only [pm_one] at ho
  simp only [pm_nx, Option.some.injEq, Sum.inl.injEq, Prod.mk.injEq] at ho
  obtain ⟨rfl, rfl, rfl, rfl⟩ := ho
  intro H locs ls hr hl
  exact lv_sipush hx hb hd hv (K H locs ls hr hl)
set_option maxHeartbeats 2000000 in
theorem pm_st_iload_n (F : pm_fx k p R s m args meth c) (X : pm_cx D cA ad base ol s) (hE : l0 < pm_M → s.heap.size = base + l0) (hAd : ∀ i, i < 1000 → ad i = base + i) {i : Instr} {len pos pc' : Nat} {lo' : pm_L} {st' : List Value} {h' : pm_H} {n : _} (hd : decode (pm_b k) pc = .ok (.iload_n n, len)) (hj : pm_okJ k pc (.iload_n n) i len pos = true) (ho : pm_one ol i len pc lo st h = some (.inl (pc', lo', st', h'))) (hl0 : l0 ≤ h.length) (hz0 : z0 ≤ pm_sz h) (hc : h'.length - l0 ≤ R.cells) (hz : pm_sz h' - z0 ≤ R.slots)
    (K : pm_U p l e R s m args below meth c Q D cA ad base k l0 z0 pc' lo' st' h') : pm_U p l e R s m args below meth c Q D cA ad base k l0 z0 pc lo st h := by
  obtain ⟨hx, hb, hml, hrt, hlk, hnm, hown, hts, hrf, hrl⟩ := id F
  simp only [pm_okJ, pm_plain, Bool.and_eq_true, decide_eq_true_eq, true_and] at hj
  obtain ⟨rfl, rfl⟩ := hj
  simp only [pm_one] at ho
  split at ho
  · rename_i hg
    simp only [pm_nx, Option.some.injEq, Sum.inl.injEq, Prod.mk.injEq] at ho
    obtain ⟨rfl, rfl, rfl, rfl⟩ := ho
    intro H locs ls hr hl
    exact lv_iload_n hx hb hd rfl (pm_lg_at hl hg) (K H locs ls hr hl)
  · cases ho
set_option maxHeartbeats 2000000 in
theorem pm_st_iload (F : pm_fx k p R s m args meth c) (X : pm_cx D cA ad base ol s) (hE : l0 < pm_M → s.heap.size = base + l0) (hAd : ∀ i, i < 1000 → ad i = base + i) {i : Instr} {len pos pc' : Nat} {lo' : pm_L} {st' : List Value} {h' : pm_H} {n : _} (hd : decode (pm_b k) pc = .ok (.iload n, len)) (hj : pm_okJ k pc (.iload n) i len pos = true) (ho : pm_one ol i len pc lo st h = some (.inl (pc', lo', st', h'))) (hl0 : l0 ≤ h.length) (hz0 : z0 ≤ pm_sz h) (hc : h'.length - l0 ≤ R.cells) (hz : pm_sz h' - z0 ≤ R.slots)
    (K : pm_U p l e R s m args below meth c Q D cA ad base k l0 z0 pc' lo' st' h') : pm_U p l e R s m args below meth c Q D cA ad base k l0 z0 pc lo st h := by
  obtain ⟨hx, hb, hml, hrt, hlk, hnm, hown, hts, hrf, hrl⟩ := id F
  simp only [pm_okJ, pm_plain, Bool.and_eq_true, decide_eq_true_eq, true_and] at hj
  obtain ⟨rfl, rfl⟩ := hj
  simp only [pm_one] at ho
  split at ho
  · rename_i hg
    simp only [pm_nx, Option.some.injEq, Sum.inl.injEq, Prod.mk.injEq] at ho
    obtain ⟨rfl, rfl, rfl, rfl⟩ := ho
    intro H locs ls hr hl
    exact lv_iload hx hb hd (pm_lg_at hl hg) (K H locs ls hr hl)
  · cases ho
set_option maxHeartbeats 2000000 in
theorem pm_st_aload_n (F : pm_fx k p R s m args meth c) (X : pm_cx D cA ad base ol s) (hE : l0 < pm_M → s.heap.size = base + l0) (hAd : ∀ i, i < 1000 → ad i = base + i) {i : Instr} {len pos pc' : Nat} {lo' : pm_L} {st' : List Value} {h' : pm_H} {n : _} (hd : decode (pm_b k) pc = .ok (.aload_n n, len)) (hj : pm_okJ k pc (.aload_n n) i len pos = true) (ho : pm_one ol i len pc lo st h = some (.inl (pc', lo', st', h'))) (hl0 : l0 ≤ h.length) (hz0 : z0 ≤ pm_sz h) (hc : h'.length - l0 ≤ R.cells) (hz : pm_sz h' - z0 ≤ R.slots)
    (K : pm_U p l e R s m args below meth c Q D cA ad base k l0 z0 pc' lo' st' h') : pm_U p l e R s m args below meth c Q D cA ad base k l0 z0 pc lo st h := by
  obtain ⟨hx, hb, hml, hrt, hlk, hnm, hown, hts, hrf, hrl⟩ := id F
  simp only [pm_okJ, pm_plain, Bool.and_eq_true, decide_eq_true_eq, true_and] at hj
  obtain ⟨rfl, rfl⟩ := hj
  simp only [pm_one] at ho
  split at ho
  · rename_i hg
    simp only [pm_nx, Option.some.injEq, Sum.inl.injEq, Prod.mk.injEq] at ho
    obtain ⟨rfl, rfl, rfl, rfl⟩ := ho
    intro H locs ls hr hl
    exact lv_aload_n hx hb hd rfl (pm_lg_at hl hg) (K H locs ls hr hl)
  · cases ho
set_option maxHeartbeats 2000000 in
theorem pm_st_aload (F : pm_fx k p R s m args meth c) (X : pm_cx D cA ad base ol s) (hE : l0 < pm_M → s.heap.size = base + l0) (hAd : ∀ i, i < 1000 → ad i = base + i) {i : Instr} {len pos pc' : Nat} {lo' : pm_L} {st' : List Value} {h' : pm_H} {n : _} (hd : decode (pm_b k) pc = .ok (.aload n, len)) (hj : pm_okJ k pc (.aload n) i len pos = true) (ho : pm_one ol i len pc lo st h = some (.inl (pc', lo', st', h'))) (hl0 : l0 ≤ h.length) (hz0 : z0 ≤ pm_sz h) (hc : h'.length - l0 ≤ R.cells) (hz : pm_sz h' - z0 ≤ R.slots)
    (K : pm_U p l e R s m args below meth c Q D cA ad base k l0 z0 pc' lo' st' h') : pm_U p l e R s m args below meth c Q D cA ad base k l0 z0 pc lo st h := by
  obtain ⟨hx, hb, hml, hrt, hlk, hnm, hown, hts, hrf, hrl⟩ := id F
  simp only [pm_okJ, pm_plain, Bool.and_eq_true, decide_eq_true_eq, true_and] at hj
  obtain ⟨rfl, rfl⟩ := hj
  simp only [pm_one] at ho
  split at ho
  · rename_i hg
    simp only [pm_nx, Option.some.injEq, Sum.inl.injEq, Prod.mk.injEq] at ho
    obtain ⟨rfl, rfl, rfl, rfl⟩ := ho
    intro H locs ls hr hl
    exact lv_aload hx hb hd (pm_lg_at hl hg) (K H locs ls hr hl)
  · cases ho
set_option maxHeartbeats 2000000 in
theorem pm_st_lload_n (F : pm_fx k p R s m args meth c) (X : pm_cx D cA ad base ol s) (hE : l0 < pm_M → s.heap.size = base + l0) (hAd : ∀ i, i < 1000 → ad i = base + i) {i : Instr} {len pos pc' : Nat} {lo' : pm_L} {st' : List Value} {h' : pm_H} {n : _} (hd : decode (pm_b k) pc = .ok (.lload_n n, len)) (hj : pm_okJ k pc (.lload_n n) i len pos = true) (ho : pm_one ol i len pc lo st h = some (.inl (pc', lo', st', h'))) (hl0 : l0 ≤ h.length) (hz0 : z0 ≤ pm_sz h) (hc : h'.length - l0 ≤ R.cells) (hz : pm_sz h' - z0 ≤ R.slots)
    (K : pm_U p l e R s m args below meth c Q D cA ad base k l0 z0 pc' lo' st' h') : pm_U p l e R s m args below meth c Q D cA ad base k l0 z0 pc lo st h := by
  obtain ⟨hx, hb, hml, hrt, hlk, hnm, hown, hts, hrf, hrl⟩ := id F
  simp only [pm_okJ, pm_plain, Bool.and_eq_true, decide_eq_true_eq, true_and] at hj
  obtain ⟨rfl, rfl⟩ := hj
  simp only [pm_one] at ho
  split at ho
  · rename_i hg
    simp only [pm_nx, Option.some.injEq, Sum.inl.injEq, Prod.mk.injEq] at ho
    obtain ⟨rfl, rfl, rfl, rfl⟩ := ho
    intro H locs ls hr hl
    exact lv_lload_n hx hb hd rfl (pm_lg_at hl hg) (K H locs ls hr hl)
  · cases ho
set_option maxHeartbeats 2000000 in
theorem pm_st_istore_n (F : pm_fx k p R s m args meth c) (X : pm_cx D cA ad base ol s) (hE : l0 < pm_M → s.heap.size = base + l0) (hAd : ∀ i, i < 1000 → ad i = base + i) {i : Instr} {len pos pc' : Nat} {lo' : pm_L} {st' : List Value} {h' : pm_H} {n : _} (hd : decode (pm_b k) pc = .ok (.istore_n n, len)) (hj : pm_okJ k pc (.istore_n n) i len pos = true) (ho : pm_one ol i len pc lo st h = some (.inl (pc', lo', st', h'))) (hl0 : l0 ≤ h.length) (hz0 : z0 ≤ pm_sz h) (hc : h'.length - l0 ≤ R.cells) (hz : pm_sz h' - z0 ≤ R.slots)
    (K : pm_U p l e R s m args below meth c Q D cA ad base k l0 z0 pc' lo' st' h') : pm_U p l e R s m args below meth c Q D cA ad base k l0 z0 pc lo st h := by
  obtain ⟨hx, hb, hml, hrt, hlk, hnm, hown, hts, hrf, hrl⟩ := id F
  simp only [pm_okJ, pm_plain, Bool.and_eq_true, decide_eq_true_eq, true_and] at hj
  obtain ⟨⟨rfl, rfl⟩, hn⟩ := hj
  simp only [pm_one] at ho
  split at ho
  · rename_i x r
    simp only [pm_nx, Option.some.injEq, Sum.inl.injEq, Prod.mk.injEq] at ho
    obtain ⟨rfl, rfl, rfl, rfl⟩ := ho
    intro H locs ls hr hl
    exact lv_istore_n hx hb hd rfl hl hn (pm_ls_tl ad lo _ (.int x)) (fun ls1 hl1 => K H locs ls1 hr hl1)
  · cases ho
set_option maxHeartbeats 2000000 in
theorem pm_st_istore (F : pm_fx k p R s m args meth c) (X : pm_cx D cA ad base ol s) (hE : l0 < pm_M → s.heap.size = base + l0) (hAd : ∀ i, i < 1000 → ad i = base + i) {i : Instr} {len pos pc' : Nat} {lo' : pm_L} {st' : List Value} {h' : pm_H} {n : _} (hd : decode (pm_b k) pc = .ok (.istore n, len)) (hj : pm_okJ k pc (.istore n) i len pos = true) (ho : pm_one ol i len pc lo st h = some (.inl (pc', lo', st', h'))) (hl0 : l0 ≤ h.length) (hz0 : z0 ≤ pm_sz h) (hc : h'.length - l0 ≤ R.cells) (hz : pm_sz h' - z0 ≤ R.slots)
    (K : pm_U p l e R s m args below meth c Q D cA ad base k l0 z0 pc' lo' st' h') : pm_U p l e R s m args below meth c Q D cA ad base k l0 z0 pc lo st h := by
  obtain ⟨hx, hb, hml, hrt, hlk, hnm, hown, hts, hrf, hrl⟩ := id F
  simp only [pm_okJ, pm_plain, Bool.and_eq_true, decide_eq_true_eq, true_and] at hj
  obtain ⟨⟨rfl, rfl⟩, hn⟩ := hj
  simp only [pm_one] at ho
  split at ho
  · rename_i x r
    simp only [pm_nx, Option.some.injEq, Sum.inl.injEq, Prod.mk.injEq] at ho
    obtain ⟨rfl, rfl, rfl, rfl⟩ := ho
    intro H locs ls hr hl
    exact lv_istore hx hb hd hl hn (pm_ls_tl ad lo _ (.int x)) (fun ls1 hl1 => K H locs ls1 hr hl1)
  · cases ho
set_option maxHeartbeats 2000000 in
theorem pm_st_astore_n (F : pm_fx k p R s m args meth c) (X : pm_cx D cA ad base ol s) (hE : l0 < pm_M → s.heap.size = base + l0) (hAd : ∀ i, i < 1000 → ad i = base + i) {i : Instr} {len pos pc' : Nat} {lo' : pm_L} {st' : List Value} {h' : pm_H} {n : _} (hd : decode (pm_b k) pc = .ok (.astore_n n, len)) (hj : pm_okJ k pc (.astore_n n) i len pos = true) (ho : pm_one ol i len pc lo st h = some (.inl (pc', lo', st', h'))) (hl0 : l0 ≤ h.length) (hz0 : z0 ≤ pm_sz h) (hc : h'.length - l0 ≤ R.cells) (hz : pm_sz h' - z0 ≤ R.slots)
    (K : pm_U p l e R s m args below meth c Q D cA ad base k l0 z0 pc' lo' st' h') : pm_U p l e R s m args below meth c Q D cA ad base k l0 z0 pc lo st h := by
  obtain ⟨hx, hb, hml, hrt, hlk, hnm, hown, hts, hrf, hrl⟩ := id F
  simp only [pm_okJ, pm_plain, Bool.and_eq_true, decide_eq_true_eq, true_and] at hj
  obtain ⟨⟨rfl, rfl⟩, hn⟩ := hj
  simp only [pm_one] at ho
  split at ho
  · rename_i x r
    simp only [pm_nx, Option.some.injEq, Sum.inl.injEq, Prod.mk.injEq] at ho
    obtain ⟨rfl, rfl, rfl, rfl⟩ := ho
    intro H locs ls hr hl
    exact lv_astore_n hx hb hd rfl hl hn (pm_ls_tl ad lo _ (.ref x)) (fun ls1 hl1 => K H locs ls1 hr hl1)
  · cases ho
set_option maxHeartbeats 2000000 in
theorem pm_st_astore (F : pm_fx k p R s m args meth c) (X : pm_cx D cA ad base ol s) (hE : l0 < pm_M → s.heap.size = base + l0) (hAd : ∀ i, i < 1000 → ad i = base + i) {i : Instr} {len pos pc' : Nat} {lo' : pm_L} {st' : List Value} {h' : pm_H} {n : _} (hd : decode (pm_b k) pc = .ok (.astore n, len)) (hj : pm_okJ k pc (.astore n) i len pos = true) (ho : pm_one ol i len pc lo st h = some (.inl (pc', lo', st', h'))) (hl0 : l0 ≤ h.length) (hz0 : z0 ≤ pm_sz h) (hc : h'.length - l0 ≤ R.cells) (hz : pm_sz h' - z0 ≤ R.slots)
    (K : pm_U p l e R s m args below meth c Q D cA ad base k l0 z0 pc' lo' st' h') : pm_U p l e R s m args below meth c Q D cA ad base k l0 z0 pc lo st h := by
  obtain ⟨hx, hb, hml, hrt, hlk, hnm, hown, hts, hrf, hrl⟩ := id F
  simp only [pm_okJ, pm_plain, Bool.and_eq_true, decide_eq_true_eq, true_and] at hj
  obtain ⟨⟨rfl, rfl⟩, hn⟩ := hj
  simp only [pm_one] at ho
  split at ho
  · rename_i x r
    simp only [pm_nx, Option.some.injEq, Sum.inl.injEq, Prod.mk.injEq] at ho
    obtain ⟨rfl, rfl, rfl, rfl⟩ := ho
    intro H locs ls hr hl
    exact lv_astore hx hb hd hl hn (pm_ls_tl ad lo _ (.ref x)) (fun ls1 hl1 => K H locs ls1 hr hl1)
  · cases ho
set_option maxHeartbeats 2000000 in
theorem pm_st_iinc (F : pm_fx k p R s m args meth c) (X : pm_cx D cA ad base ol s) (hE : l0 < pm_M → s.heap.size = base + l0) (hAd : ∀ i, i < 1000 → ad i = base + i) {i : Instr} {len pos pc' : Nat} {lo' : pm_L} {st' : List Value} {h' : pm_H} {n : _} {z : _} (hd : decode (pm_b k) pc = .ok (.iinc n z, len)) (hj : pm_okJ k pc (.iinc n z) i len pos = true) (ho : pm_one ol i len pc lo st h = some (.inl (pc', lo', st', h'))) (hl0 : l0 ≤ h.length) (hz0 : z0 ≤ pm_sz h) (hc : h'.length - l0 ≤ R.cells) (hz : pm_sz h' - z0 ≤ R.slots)
    (K : pm_U p l e R s m args below meth c Q D cA ad base k l0 z0 pc' lo' st' h') : pm_U p l e R s m args below meth c Q D cA ad base k l0 z0 pc lo st h := by
  obtain ⟨hx, hb, hml, hrt, hlk, hnm, hown, hts, hrf, hrl⟩ := id F
  simp only [pm_okJ, pm_plain, Bool.and_eq_true, decide_eq_true_eq, true_and] at hj
  obtain ⟨⟨rfl, rfl⟩, hn⟩ := hj
  simp only [pm_one] at ho
  split at ho
  · rename_i x hg
    simp only [pm_nx, Option.some.injEq, Sum.inl.injEq, Prod.mk.injEq] at ho
    obtain ⟨rfl, rfl, rfl, rfl⟩ := ho
    intro H locs ls hr hl
    obtain ⟨j, hj⟩ := List.getElem?_of_mem (show (n, Value.int x) ∈ pm_tl ad lo from List.mem_map.mpr ⟨(n, .int x), pm_lg_mem hg, rfl⟩)
    exact lv_iinc hx hb hd hl hj rfl hn (pm_ls_tl ad lo _ (.int (x + Int32.ofInt z))) (fun ls1 hl1 => K H locs ls1 hr hl1)
  · cases ho
set_option maxHeartbeats 2000000 in
theorem pm_st_goto (F : pm_fx k p R s m args meth c) (X : pm_cx D cA ad base ol s) (hE : l0 < pm_M → s.heap.size = base + l0) (hAd : ∀ i, i < 1000 → ad i = base + i) {i : Instr} {len pos pc' : Nat} {lo' : pm_L} {st' : List Value} {h' : pm_H} {o : _} (hd : decode (pm_b k) pc = .ok (.goto o, len)) (hj : pm_okJ k pc (.goto o) i len pos = true) (ho : pm_one ol i len pc lo st h = some (.inl (pc', lo', st', h'))) (hl0 : l0 ≤ h.length) (hz0 : z0 ≤ pm_sz h) (hc : h'.length - l0 ≤ R.cells) (hz : pm_sz h' - z0 ≤ R.slots)
    (K : pm_U p l e R s m args below meth c Q D cA ad base k l0 z0 pc' lo' st' h') : pm_U p l e R s m args below meth c Q D cA ad base k l0 z0 pc lo st h := by
  obtain ⟨hx, hb, hml, hrt, hlk, hnm, hown, hts, hrf, hrl⟩ := id F
  simp only [pm_okJ, pm_plain, Bool.and_eq_true, decide_eq_true_eq, true_and] at hj
  obtain ⟨⟨rfl, rfl⟩, hnn⟩ := hj
  simp only [pm_one, pm_jmp] at ho
  simp only [pm_nx, Option.some.injEq, Sum.inl.injEq, Prod.mk.injEq] at ho
  obtain ⟨rfl, rfl, rfl, rfl⟩ := ho
  intro H locs ls hr hl
  exact lv_goto hx hb hd (Int.toNat_of_nonneg hnn).symm (K H locs ls hr hl)
set_option maxHeartbeats 2000000 in
theorem pm_st_ifCond (F : pm_fx k p R s m args meth c) (X : pm_cx D cA ad base ol s) (hE : l0 < pm_M → s.heap.size = base + l0) (hAd : ∀ i, i < 1000 → ad i = base + i) {i : Instr} {len pos pc' : Nat} {lo' : pm_L} {st' : List Value} {h' : pm_H} {cnd : _} {o : _} (hd : decode (pm_b k) pc = .ok (.ifCond cnd o, len)) (hj : pm_okJ k pc (.ifCond cnd o) i len pos = true) (ho : pm_one ol i len pc lo st h = some (.inl (pc', lo', st', h'))) (hl0 : l0 ≤ h.length) (hz0 : z0 ≤ pm_sz h) (hc : h'.length - l0 ≤ R.cells) (hz : pm_sz h' - z0 ≤ R.slots)
    (K : pm_U p l e R s m args below meth c Q D cA ad base k l0 z0 pc' lo' st' h') : pm_U p l e R s m args below meth c Q D cA ad base k l0 z0 pc lo st h := by
  obtain ⟨hx, hb, hml, hrt, hlk, hnm, hown, hts, hrf, hrl⟩ := id F
  simp only [pm_okJ, pm_plain, Bool.and_eq_true, decide_eq_true_eq, true_and] at hj
  obtain ⟨⟨rfl, rfl⟩, hnn⟩ := hj
  have ht : (pc : Int) + o = ((((pc : Int) + o).toNat : Nat) : Int) := (Int.toNat_of_nonneg hnn).symm
  simp only [pm_one, pm_jmp] at ho
  split at ho
  · split at ho
    · rename_i hcd
      simp only [pm_nx, Option.some.injEq, Sum.inl.injEq, Prod.mk.injEq] at ho
      obtain ⟨rfl, rfl, rfl, rfl⟩ := ho
      intro H locs ls hr hl
      cases cnd
      · have hq := of_decide_eq_true hcd
        exact lv_if_eq hx hb hd ht (fun _ => K H locs ls hr hl) (fun g => absurd hq g)
      · have hq := of_decide_eq_true hcd
        exact lv_if_ne hx hb hd ht (fun _ => K H locs ls hr hl) (fun g => absurd g hq)
      · have hq := of_decide_eq_true hcd
        exact lv_if_lt hx hb hd ht (fun _ => K H locs ls hr hl) (fun g => absurd hq g)
      · have hq := of_decide_eq_true hcd
        exact lv_if_ge hx hb hd ht (fun _ => K H locs ls hr hl) (fun g => absurd hq g)
      · have hq := of_decide_eq_true hcd
        exact lv_if_gt hx hb hd ht (fun _ => K H locs ls hr hl) (fun g => absurd hq g)
      · have hq := of_decide_eq_true hcd
        exact lv_if_le hx hb hd ht (fun _ => K H locs ls hr hl) (fun g => absurd hq g)
    · rename_i hcd
      simp only [pm_nx, Option.some.injEq, Sum.inl.injEq, Prod.mk.injEq] at ho
      obtain ⟨rfl, rfl, rfl, rfl⟩ := ho
      intro H locs ls hr hl
      cases cnd
      · have hq := fun g => hcd (decide_eq_true g)
        exact lv_if_eq hx hb hd ht (fun g => absurd g hq) (fun _ => K H locs ls hr hl)
      · have hq := Decidable.not_not.mp (fun g => hcd (decide_eq_true g))
        exact lv_if_ne hx hb hd ht (fun g => absurd hq g) (fun _ => K H locs ls hr hl)
      · have hq := fun g => hcd (decide_eq_true g)
        exact lv_if_lt hx hb hd ht (fun g => absurd g hq) (fun _ => K H locs ls hr hl)
      · have hq := fun g => hcd (decide_eq_true g)
        exact lv_if_ge hx hb hd ht (fun g => absurd g hq) (fun _ => K H locs ls hr hl)
      · have hq := fun g => hcd (decide_eq_true g)
        exact lv_if_gt hx hb hd ht (fun g => absurd g hq) (fun _ => K H locs ls hr hl)
      · have hq := fun g => hcd (decide_eq_true g)
        exact lv_if_le hx hb hd ht (fun g => absurd g hq) (fun _ => K H locs ls hr hl)
  · cases ho
set_option maxHeartbeats 2000000 in
theorem pm_st_if_icmp (F : pm_fx k p R s m args meth c) (X : pm_cx D cA ad base ol s) (hE : l0 < pm_M → s.heap.size = base + l0) (hAd : ∀ i, i < 1000 → ad i = base + i) {i : Instr} {len pos pc' : Nat} {lo' : pm_L} {st' : List Value} {h' : pm_H} {cnd : _} {o : _} (hd : decode (pm_b k) pc = .ok (.if_icmp cnd o, len)) (hj : pm_okJ k pc (.if_icmp cnd o) i len pos = true) (ho : pm_one ol i len pc lo st h = some (.inl (pc', lo', st', h'))) (hl0 : l0 ≤ h.length) (hz0 : z0 ≤ pm_sz h) (hc : h'.length - l0 ≤ R.cells) (hz : pm_sz h' - z0 ≤ R.slots)
    (K : pm_U p l e R s m args below meth c Q D cA ad base k l0 z0 pc' lo' st' h') : pm_U p l e R s m args below meth c Q D cA ad base k l0 z0 pc lo st h := by
  obtain ⟨hx, hb, hml, hrt, hlk, hnm, hown, hts, hrf, hrl⟩ := id F
  simp only [pm_okJ, pm_plain, Bool.and_eq_true, decide_eq_true_eq, true_and] at hj
  obtain ⟨⟨rfl, rfl⟩, hnn⟩ := hj
  have ht : (pc : Int) + o = ((((pc : Int) + o).toNat : Nat) : Int) := (Int.toNat_of_nonneg hnn).symm
  simp only [pm_one, pm_jmp] at ho
  split at ho
  · split at ho
    · rename_i hcd
      simp only [pm_nx, Option.some.injEq, Sum.inl.injEq, Prod.mk.injEq] at ho
      obtain ⟨rfl, rfl, rfl, rfl⟩ := ho
      intro H locs ls hr hl
      cases cnd
      · have hq := of_decide_eq_true hcd
        exact lv_icmp_eq hx hb hd ht (fun _ => K H locs ls hr hl) (fun g => absurd hq g)
      · have hq := of_decide_eq_true hcd
        exact lv_icmp_ne hx hb hd ht (fun _ => K H locs ls hr hl) (fun g => absurd g hq)
      · have hq := of_decide_eq_true hcd
        exact lv_icmp_lt hx hb hd ht (fun _ => K H locs ls hr hl) (fun g => absurd hq g)
      · have hq := of_decide_eq_true hcd
        exact lv_icmp_ge hx hb hd ht (fun _ => K H locs ls hr hl) (fun g => absurd hq g)
      · have hq := of_decide_eq_true hcd
        exact lv_icmp_gt hx hb hd ht (fun _ => K H locs ls hr hl) (fun g => absurd hq g)
      · have hq := of_decide_eq_true hcd
        exact lv_icmp_le hx hb hd ht (fun _ => K H locs ls hr hl) (fun g => absurd hq g)
    · rename_i hcd
      simp only [pm_nx, Option.some.injEq, Sum.inl.injEq, Prod.mk.injEq] at ho
      obtain ⟨rfl, rfl, rfl, rfl⟩ := ho
      intro H locs ls hr hl
      cases cnd
      · have hq := fun g => hcd (decide_eq_true g)
        exact lv_icmp_eq hx hb hd ht (fun g => absurd g hq) (fun _ => K H locs ls hr hl)
      · have hq := Decidable.not_not.mp (fun g => hcd (decide_eq_true g))
        exact lv_icmp_ne hx hb hd ht (fun g => absurd hq g) (fun _ => K H locs ls hr hl)
      · have hq := fun g => hcd (decide_eq_true g)
        exact lv_icmp_lt hx hb hd ht (fun g => absurd g hq) (fun _ => K H locs ls hr hl)
      · have hq := fun g => hcd (decide_eq_true g)
        exact lv_icmp_ge hx hb hd ht (fun g => absurd g hq) (fun _ => K H locs ls hr hl)
      · have hq := fun g => hcd (decide_eq_true g)
        exact lv_icmp_gt hx hb hd ht (fun g => absurd g hq) (fun _ => K H locs ls hr hl)
      · have hq := fun g => hcd (decide_eq_true g)
        exact lv_icmp_le hx hb hd ht (fun g => absurd g hq) (fun _ => K H locs ls hr hl)
  · cases ho
set_option maxHeartbeats 2000000 in
theorem pm_st_tableswitch (F : pm_fx k p R s m args meth c) (X : pm_cx D cA ad base ol s) (hE : l0 < pm_M → s.heap.size = base + l0) (hAd : ∀ i, i < 1000 → ad i = base + i) {i : Instr} {len pos pc' : Nat} {lo' : pm_L} {st' : List Value} {h' : pm_H} {d : _} {a : _} {b : _} {offs : _} (hd : decode (pm_b k) pc = .ok (.tableswitch d a b offs, len)) (hj : pm_okJ k pc (.tableswitch d a b offs) i len pos = true) (ho : pm_one ol i len pc lo st h = some (.inl (pc', lo', st', h'))) (hl0 : l0 ≤ h.length) (hz0 : z0 ≤ pm_sz h) (hc : h'.length - l0 ≤ R.cells) (hz : pm_sz h' - z0 ≤ R.slots)
    (K : pm_U p l e R s m args below meth c Q D cA ad base k l0 z0 pc' lo' st' h') : pm_U p l e R s m args below meth c Q D cA ad base k l0 z0 pc lo st h := by
  obtain ⟨hx, hb, hml, hrt, hlk, hnm, hown, hts, hrf, hrl⟩ := id F
  simp only [pm_okJ, pm_plain, Bool.and_eq_true, decide_eq_true_eq, true_and] at hj
  obtain ⟨⟨rfl, hnd⟩, hno⟩ := hj
  simp only [pm_one, pm_jmp] at ho
  split at ho
  · rename_i x r
    split at ho
    · rename_i t hts
      simp only [pm_nx, Option.some.injEq, Sum.inl.injEq, Prod.mk.injEq] at ho
      obtain ⟨rfl, rfl, rfl, rfl⟩ := ho
      intro H locs ls hr hl
      unfold pm_ts at hts
      split at hts
      · rename_i hout
        cases hts
        exact lv_tableOut hx hb hd hout (Int.toNat_of_nonneg hnd).symm (K H locs ls hr hl)
      · rename_i hin
        rw [Array.getElem?_map] at hts
        cases hof : offs[(x.toInt - a).toNat]? with
        | none => rw [hof] at hts; cases hts
        | some off =>
          rw [hof] at hts
          cases hts
          have hnn : 0 ≤ (pc : Int) + off := of_decide_eq_true (List.all_eq_true.mp hno off (Array.mem_toList_iff.mpr (Array.mem_of_getElem? hof)))
          exact lv_tableIn hx hb hd (fun g => hin (Or.inl g)) (fun g => hin (Or.inr g)) hof (Int.toNat_of_nonneg hnn).symm (K H locs ls hr hl)
    · cases ho
  · cases ho
set_option maxHeartbeats 2000000 in
theorem pm_st_lookupswitch (F : pm_fx k p R s m args meth c) (X : pm_cx D cA ad base ol s) (hE : l0 < pm_M → s.heap.size = base + l0) (hAd : ∀ i, i < 1000 → ad i = base + i) {i : Instr} {len pos pc' : Nat} {lo' : pm_L} {st' : List Value} {h' : pm_H} {d : _} {ps : _} (hd : decode (pm_b k) pc = .ok (.lookupswitch d ps, len)) (hj : pm_okJ k pc (.lookupswitch d ps) i len pos = true) (ho : pm_one ol i len pc lo st h = some (.inl (pc', lo', st', h'))) (hl0 : l0 ≤ h.length) (hz0 : z0 ≤ pm_sz h) (hc : h'.length - l0 ≤ R.cells) (hz : pm_sz h' - z0 ≤ R.slots)
    (K : pm_U p l e R s m args below meth c Q D cA ad base k l0 z0 pc' lo' st' h') : pm_U p l e R s m args below meth c Q D cA ad base k l0 z0 pc lo st h := by
  obtain ⟨hx, hb, hml, hrt, hlk, hnm, hown, hts, hrf, hrl⟩ := id F
  simp only [pm_okJ, pm_plain, Bool.and_eq_true, decide_eq_true_eq, true_and] at hj
  obtain ⟨⟨⟨rfl, hnd⟩, hno⟩, hso⟩ := hj
  simp only [pm_one, pm_jmp] at ho
  split at ho
  · rename_i x r
    simp only [pm_nx, Option.some.injEq, Sum.inl.injEq, Prod.mk.injEq] at ho
    obtain ⟨rfl, rfl, rfl, rfl⟩ := ho
    intro H locs ls hr hl
    have hof : Op.lookupswitch.offset (ps.map (fun q => (q.1, (pc : Int) + q.2))).toList ((pc : Int) + d) x.toInt = (pc : Int) + Op.lookupswitch.offset ps.toList d x.toInt := by rw [Array.toList_map]; exact pm_lsw _ _ _ _
    have hK := K H locs ls hr hl
    rw [hof] at hK
    exact lv_lookup hx hb hd hso rfl (Int.toNat_of_nonneg (pm_lswn hnd ps.toList (fun q hq => of_decide_eq_true (List.all_eq_true.mp hno q hq)))).symm hK
  · cases ho
set_option maxHeartbeats 2000000 in
theorem pm_st_baload (F : pm_fx k p R s m args meth c) (X : pm_cx D cA ad base ol s) (hE : l0 < pm_M → s.heap.size = base + l0) (hAd : ∀ i, i < 1000 → ad i = base + i) {i : Instr} {len pos pc' : Nat} {lo' : pm_L} {st' : List Value} {h' : pm_H} (hd : decode (pm_b k) pc = .ok (.baload, len)) (hj : pm_okJ k pc (.baload) i len pos = true) (ho : pm_one ol i len pc lo st h = some (.inl (pc', lo', st', h'))) (hl0 : l0 ≤ h.length) (hz0 : z0 ≤ pm_sz h) (hc : h'.length - l0 ≤ R.cells) (hz : pm_sz h' - z0 ≤ R.slots)
    (K : pm_U p l e R s m args below meth c Q D cA ad base k l0 z0 pc' lo' st' h') : pm_U p l e R s m args below meth c Q D cA ad base k l0 z0 pc lo st h := by
  obtain ⟨hx, hb, hml, hrt, hlk, hnm, hown, hts, hrf, hrl⟩ := id F
  simp only [pm_okJ, pm_plain, Bool.and_eq_true, decide_eq_true_eq, true_and] at hj
  obtain ⟨rfl, rfl⟩ := hj
  simp only [pm_one] at ho
  split at ho
  · rename_i j a r
    split at ho
    · rename_i n f hg
      split at ho
      · rename_i hin
        simp only [pm_nx, Option.some.injEq, Sum.inl.injEq, Prod.mk.injEq] at ho
        obtain ⟨rfl, rfl, rfl, rfl⟩ := ho
        intro H locs ls hr hl
        obtain ⟨ha, hat⟩ := pm_gi_at hg
        exact va_zald hx hb X.1 hr.1 a 1 (pm_t_at ha hat) rfl hin hd (K H locs ls hr hl)
      · cases ho
    · cases ho
  · cases ho
set_option maxHeartbeats 2000000 in
theorem pm_st_laload (F : pm_fx k p R s m args meth c) (X : pm_cx D cA ad base ol s) (hE : l0 < pm_M → s.heap.size = base + l0) (hAd : ∀ i, i < 1000 → ad i = base + i) {i : Instr} {len pos pc' : Nat} {lo' : pm_L} {st' : List Value} {h' : pm_H} (hd : decode (pm_b k) pc = .ok (.laload, len)) (hj : pm_okJ k pc (.laload) i len pos = true) (ho : pm_one ol i len pc lo st h = some (.inl (pc', lo', st', h'))) (hl0 : l0 ≤ h.length) (hz0 : z0 ≤ pm_sz h) (hc : h'.length - l0 ≤ R.cells) (hz : pm_sz h' - z0 ≤ R.slots)
    (K : pm_U p l e R s m args below meth c Q D cA ad base k l0 z0 pc' lo' st' h') : pm_U p l e R s m args below meth c Q D cA ad base k l0 z0 pc lo st h := by
  obtain ⟨hx, hb, hml, hrt, hlk, hnm, hown, hts, hrf, hrl⟩ := id F
  simp only [pm_okJ, pm_plain, Bool.and_eq_true, decide_eq_true_eq, true_and] at hj
  obtain ⟨rfl, rfl⟩ := hj
  simp only [pm_one] at ho
  split at ho
  · rename_i j a r
    split at ho
    · rename_i n f hg
      split at ho
      · rename_i hin
        simp only [pm_nx, Option.some.injEq, Sum.inl.injEq, Prod.mk.injEq] at ho
        obtain ⟨rfl, rfl, rfl, rfl⟩ := ho
        intro H locs ls hr hl
        obtain ⟨ha, hat⟩ := pm_gl_at hg
        exact va_lald hx hb X.1 hr.1 a 2 (pm_t_at ha hat) rfl hin hd (K H locs ls hr hl)
      · cases ho
    · cases ho
  · cases ho
set_option maxHeartbeats 2000000 in
theorem pm_st_aaload (F : pm_fx k p R s m args meth c) (X : pm_cx D cA ad base ol s) (hE : l0 < pm_M → s.heap.size = base + l0) (hAd : ∀ i, i < 1000 → ad i = base + i) {i : Instr} {len pos pc' : Nat} {lo' : pm_L} {st' : List Value} {h' : pm_H} (hd : decode (pm_b k) pc = .ok (.aaload, len)) (hj : pm_okJ k pc (.aaload) i len pos = true) (ho : pm_one ol i len pc lo st h = some (.inl (pc', lo', st', h'))) (hl0 : l0 ≤ h.length) (hz0 : z0 ≤ pm_sz h) (hc : h'.length - l0 ≤ R.cells) (hz : pm_sz h' - z0 ≤ R.slots)
    (K : pm_U p l e R s m args below meth c Q D cA ad base k l0 z0 pc' lo' st' h') : pm_U p l e R s m args below meth c Q D cA ad base k l0 z0 pc lo st h := by
  obtain ⟨hx, hb, hml, hrt, hlk, hnm, hown, hts, hrf, hrl⟩ := id F
  simp only [pm_okJ, pm_plain, Bool.and_eq_true, decide_eq_true_eq, true_and] at hj
  obtain ⟨rfl, rfl⟩ := hj
  simp only [pm_one] at ho
  split at ho
  · rename_i j a r
    split at ho
    · rename_i n f hg
      split at ho
      · rename_i hin
        simp only [pm_nx, Option.some.injEq, Sum.inl.injEq, Prod.mk.injEq] at ho
        obtain ⟨rfl, rfl, rfl, rfl⟩ := ho
        intro H locs ls hr hl
        obtain ⟨ha, hat⟩ := pm_gq_at hg
        have hK := K H locs ls hr hl
        rw [List.map_cons, pm_tv_rf] at hK
        exact va_aldq hx hb X.1 hr.1 a 3 (pm_t_at ha hat) rfl hin hd hK
      · cases ho
    · cases ho
  · cases ho
set_option maxHeartbeats 2000000 in
theorem pm_st_iaload (F : pm_fx k p R s m args meth c) (X : pm_cx D cA ad base ol s) (hE : l0 < pm_M → s.heap.size = base + l0) (hAd : ∀ i, i < 1000 → ad i = base + i) {i : Instr} {len pos pc' : Nat} {lo' : pm_L} {st' : List Value} {h' : pm_H} (hd : decode (pm_b k) pc = .ok (.iaload, len)) (hj : pm_okJ k pc (.iaload) i len pos = true) (ho : pm_one ol i len pc lo st h = some (.inl (pc', lo', st', h'))) (hl0 : l0 ≤ h.length) (hz0 : z0 ≤ pm_sz h) (hc : h'.length - l0 ≤ R.cells) (hz : pm_sz h' - z0 ≤ R.slots)
    (K : pm_U p l e R s m args below meth c Q D cA ad base k l0 z0 pc' lo' st' h') : pm_U p l e R s m args below meth c Q D cA ad base k l0 z0 pc lo st h := by
  obtain ⟨hx, hb, hml, hrt, hlk, hnm, hown, hts, hrf, hrl⟩ := id F
  simp only [pm_okJ, pm_plain, Bool.and_eq_true, decide_eq_true_eq, true_and] at hj
  obtain ⟨rfl, rfl⟩ := hj
  simp only [pm_one] at ho
  split at ho
  · rename_i j a r
    split at ho
    · rename_i n f hg
      split at ho
      · rename_i hin
        simp only [pm_nx, Option.some.injEq, Sum.inl.injEq, Prod.mk.injEq] at ho
        obtain ⟨rfl, rfl, rfl, rfl⟩ := ho
        intro H locs ls hr hl
        unfold pm_ia at hg
        split at hg
        · obtain ⟨ha, hat⟩ := pm_gi_at hg
          exact va_iald hx hb X.1 hr.1 a 0 (pm_t_at ha hat) rfl hin hd (K H locs ls hr hl)
        · rename_i hlt
          have hT := X.2.2.2.1 _ _ _ hg
          have ea : 1000 + (a - 1000) = a := Nat.add_sub_of_le (Nat.le_of_not_lt hlt)
          rw [ea] at hT
          exact va_ti hx hb hT hr.2.2 hin rfl hd (K H locs ls hr hl)
      · cases ho
    · cases ho
  · cases ho
set_option maxHeartbeats 2000000 in
theorem pm_st_iastore (F : pm_fx k p R s m args meth c) (X : pm_cx D cA ad base ol s) (hE : l0 < pm_M → s.heap.size = base + l0) (hAd : ∀ i, i < 1000 → ad i = base + i) {i : Instr} {len pos pc' : Nat} {lo' : pm_L} {st' : List Value} {h' : pm_H} (hd : decode (pm_b k) pc = .ok (.iastore, len)) (hj : pm_okJ k pc (.iastore) i len pos = true) (ho : pm_one ol i len pc lo st h = some (.inl (pc', lo', st', h'))) (hl0 : l0 ≤ h.length) (hz0 : z0 ≤ pm_sz h) (hc : h'.length - l0 ≤ R.cells) (hz : pm_sz h' - z0 ≤ R.slots)
    (K : pm_U p l e R s m args below meth c Q D cA ad base k l0 z0 pc' lo' st' h') : pm_U p l e R s m args below meth c Q D cA ad base k l0 z0 pc lo st h := by
  obtain ⟨hx, hb, hml, hrt, hlk, hnm, hown, hts, hrf, hrl⟩ := id F
  simp only [pm_okJ, pm_plain, Bool.and_eq_true, decide_eq_true_eq, true_and] at hj
  obtain ⟨rfl, rfl⟩ := hj
  simp only [pm_one] at ho
  split at ho
  · rename_i x j a r
    split at ho
    · rename_i n f hg
      split at ho
      · rename_i hin
        simp only [pm_nx, Option.some.injEq, Sum.inl.injEq, Prod.mk.injEq] at ho
        obtain ⟨rfl, rfl, rfl, rfl⟩ := ho
        intro H locs ls hr hl
        obtain ⟨ha, hat⟩ := pm_gi_at hg
        refine va_iast hx hb X.1 hr.1 hr.2.1 hr.2.2 a 0 (pm_t_at ha hat) rfl hin hd (fun H1 locs1 hP1 hD1 hS1 => ?_)
        exact pm_Uset K hat rfl (pm_put ha hP1 hD1 hS1) hl
      · cases ho
    · cases ho
  · cases ho
set_option maxHeartbeats 2000000 in
theorem pm_st_bastore (F : pm_fx k p R s m args meth c) (X : pm_cx D cA ad base ol s) (hE : l0 < pm_M → s.heap.size = base + l0) (hAd : ∀ i, i < 1000 → ad i = base + i) {i : Instr} {len pos pc' : Nat} {lo' : pm_L} {st' : List Value} {h' : pm_H} (hd : decode (pm_b k) pc = .ok (.bastore, len)) (hj : pm_okJ k pc (.bastore) i len pos = true) (ho : pm_one ol i len pc lo st h = some (.inl (pc', lo', st', h'))) (hl0 : l0 ≤ h.length) (hz0 : z0 ≤ pm_sz h) (hc : h'.length - l0 ≤ R.cells) (hz : pm_sz h' - z0 ≤ R.slots)
    (K : pm_U p l e R s m args below meth c Q D cA ad base k l0 z0 pc' lo' st' h') : pm_U p l e R s m args below meth c Q D cA ad base k l0 z0 pc lo st h := by
  obtain ⟨hx, hb, hml, hrt, hlk, hnm, hown, hts, hrf, hrl⟩ := id F
  simp only [pm_okJ, pm_plain, Bool.and_eq_true, decide_eq_true_eq, true_and] at hj
  obtain ⟨rfl, rfl⟩ := hj
  simp only [pm_one] at ho
  split at ho
  · rename_i x j a r
    split at ho
    · rename_i n f hg
      split at ho
      · rename_i hin
        simp only [pm_nx, Option.some.injEq, Sum.inl.injEq, Prod.mk.injEq] at ho
        obtain ⟨rfl, rfl, rfl, rfl⟩ := ho
        intro H locs ls hr hl
        obtain ⟨ha, hat⟩ := pm_gi_at hg
        refine va_zast hx hb X.1 hr.1 hr.2.1 hr.2.2 a 1 (pm_t_at ha hat) rfl hin hd (fun H1 locs1 hP1 hD1 hS1 => ?_)
        exact pm_Uset K hat rfl (pm_put ha hP1 hD1 hS1) hl
      · cases ho
    · cases ho
  · cases ho
set_option maxHeartbeats 2000000 in
theorem pm_st_lastore (F : pm_fx k p R s m args meth c) (X : pm_cx D cA ad base ol s) (hE : l0 < pm_M → s.heap.size = base + l0) (hAd : ∀ i, i < 1000 → ad i = base + i) {i : Instr} {len pos pc' : Nat} {lo' : pm_L} {st' : List Value} {h' : pm_H} (hd : decode (pm_b k) pc = .ok (.lastore, len)) (hj : pm_okJ k pc (.lastore) i len pos = true) (ho : pm_one ol i len pc lo st h = some (.inl (pc', lo', st', h'))) (hl0 : l0 ≤ h.length) (hz0 : z0 ≤ pm_sz h) (hc : h'.length - l0 ≤ R.cells) (hz : pm_sz h' - z0 ≤ R.slots)
    (K : pm_U p l e R s m args below meth c Q D cA ad base k l0 z0 pc' lo' st' h') : pm_U p l e R s m args below meth c Q D cA ad base k l0 z0 pc lo st h := by
  obtain ⟨hx, hb, hml, hrt, hlk, hnm, hown, hts, hrf, hrl⟩ := id F
  simp only [pm_okJ, pm_plain, Bool.and_eq_true, decide_eq_true_eq, true_and] at hj
  obtain ⟨rfl, rfl⟩ := hj
  simp only [pm_one] at ho
  split at ho
  · rename_i x j a r
    split at ho
    · rename_i n f hg
      split at ho
      · rename_i hin
        simp only [pm_nx, Option.some.injEq, Sum.inl.injEq, Prod.mk.injEq] at ho
        obtain ⟨rfl, rfl, rfl, rfl⟩ := ho
        intro H locs ls hr hl
        obtain ⟨ha, hat⟩ := pm_gl_at hg
        refine va_last hx hb X.1 hr.1 hr.2.1 hr.2.2 a 2 (pm_t_at ha hat) rfl hin hd (fun H1 locs1 hP1 hD1 hS1 => ?_)
        exact pm_Uset K hat rfl (pm_put ha hP1 hD1 hS1) hl
      · cases ho
    · cases ho
  · cases ho
set_option maxHeartbeats 2000000 in
theorem pm_st_aastore (F : pm_fx k p R s m args meth c) (X : pm_cx D cA ad base ol s) (hE : l0 < pm_M → s.heap.size = base + l0) (hAd : ∀ i, i < 1000 → ad i = base + i) {i : Instr} {len pos pc' : Nat} {lo' : pm_L} {st' : List Value} {h' : pm_H} (hd : decode (pm_b k) pc = .ok (.aastore, len)) (hj : pm_okJ k pc (.aastore) i len pos = true) (ho : pm_one ol i len pc lo st h = some (.inl (pc', lo', st', h'))) (hl0 : l0 ≤ h.length) (hz0 : z0 ≤ pm_sz h) (hc : h'.length - l0 ≤ R.cells) (hz : pm_sz h' - z0 ≤ R.slots)
    (K : pm_U p l e R s m args below meth c Q D cA ad base k l0 z0 pc' lo' st' h') : pm_U p l e R s m args below meth c Q D cA ad base k l0 z0 pc lo st h := by
  obtain ⟨hx, hb, hml, hrt, hlk, hnm, hown, hts, hrf, hrl⟩ := id F
  simp only [pm_okJ, pm_plain, Bool.and_eq_true, decide_eq_true_eq, true_and] at hj
  obtain ⟨rfl, rfl⟩ := hj
  simp only [pm_one] at ho
  split at ho
  · rename_i v j a r
    split at ho
    · rename_i n f hg
      split at ho
      · rename_i ci vs hv
        split at ho
        · rename_i hin
          simp only [pm_nx, Option.some.injEq, Sum.inl.injEq, Prod.mk.injEq] at ho
          obtain ⟨rfl, rfl, rfl, rfl⟩ := ho
          intro H locs ls hr hl
          obtain ⟨ha, hat⟩ := pm_gq_at hg
          obtain ⟨hb2, hbt⟩ := pm_go_at hv
          obtain ⟨rfl, hin⟩ := hin
          refine va_astq (r := (RX4, TX4, 3)) hx hb X.1 hr.1 hr.2.1 hr.2.2 a 3 v 4 (pm_t_at ha hat) rfl (pm_t_at hb2 hbt) rfl hin hd (fun H1 locs1 hP1 hD1 hS1 => ?_)
          have ee : (fun q => (va_up f j.toNatClampNeg (some v) q).map ad) = va_up (fun q => (f q).map ad) j.toNatClampNeg (some (ad v)) := by
            funext q
            unfold va_up
            split <;> rfl
          refine pm_Uset K hat rfl (pm_put ha ?_ ?_ hS1) hl
          · show va_P D vwCl (List.set _ a (ad a, .inl (cA 3, n, .inr (.inr (.inr (.inr (fun q => (va_up f j.toNatClampNeg (some v) q).map ad))))))) H1
            rw [ee]; exact hP1
          · show va_D _ (List.set _ a (ad a, .inl (cA 3, n, .inr (.inr (.inr (.inr (fun q => (va_up f j.toNatClampNeg (some v) q).map ad)))))))
            rw [ee]; exact hD1
        · cases ho
      · cases ho
    · cases ho
  · cases ho
set_option maxHeartbeats 2000000 in
theorem pm_st_arraylength (F : pm_fx k p R s m args meth c) (X : pm_cx D cA ad base ol s) (hE : l0 < pm_M → s.heap.size = base + l0) (hAd : ∀ i, i < 1000 → ad i = base + i) {i : Instr} {len pos pc' : Nat} {lo' : pm_L} {st' : List Value} {h' : pm_H} (hd : decode (pm_b k) pc = .ok (.arraylength, len)) (hj : pm_okJ k pc (.arraylength) i len pos = true) (ho : pm_one ol i len pc lo st h = some (.inl (pc', lo', st', h'))) (hl0 : l0 ≤ h.length) (hz0 : z0 ≤ pm_sz h) (hc : h'.length - l0 ≤ R.cells) (hz : pm_sz h' - z0 ≤ R.slots)
    (K : pm_U p l e R s m args below meth c Q D cA ad base k l0 z0 pc' lo' st' h') : pm_U p l e R s m args below meth c Q D cA ad base k l0 z0 pc lo st h := by
  obtain ⟨hx, hb, hml, hrt, hlk, hnm, hown, hts, hrf, hrl⟩ := id F
  simp only [pm_okJ, pm_plain, Bool.and_eq_true, decide_eq_true_eq, true_and] at hj
  obtain ⟨rfl, rfl⟩ := hj
  simp only [pm_one] at ho
  split at ho
  · rename_i a r
    split at ho
    · rename_i n hg
      simp only [pm_nx, Option.some.injEq, Sum.inl.injEq, Prod.mk.injEq] at ho
      obtain ⟨rfl, rfl, rfl, rfl⟩ := ho
      intro H locs ls hr hl
      unfold pm_len at hg
      split at hg
      · obtain ⟨ha, t, x, hat, ht, rfl⟩ := pm_al_at hg
        obtain ⟨ty, hty⟩ : ∃ ty, (pm_tys cA)[t]? = some (cA t, ty) := by
          rcases (show t = 0 ∨ t = 1 ∨ t = 2 ∨ t = 3 by omega) with rfl | rfl | rfl | rfl <;> exact ⟨_, rfl⟩
        exact va_alen hx hb X.1 hr.1 a t (pm_t_at ha hat) hty (by rw [pm_ta_1]) hd (K H locs ls hr hl)
      · rename_i hlt
        cases hoj : ol[a - 1000]? with
        | none => rw [hoj] at hg; cases hg
        | some q =>
          obtain ⟨N, f⟩ := q
          rw [hoj] at hg
          cases hg
          have hT := X.2.2.2.1 _ _ _ hoj
          have ea : 1000 + (a - 1000) = a := Nat.add_sub_of_le (Nat.le_of_not_lt hlt)
          rw [ea] at hT
          exact va_tlen hx hb hT hr.2.2 rfl hd (K H locs ls hr hl)
    · cases ho
  · cases ho
set_option maxHeartbeats 2000000 in
theorem pm_st_getfield (F : pm_fx k p R s m args meth c) (X : pm_cx D cA ad base ol s) (hE : l0 < pm_M → s.heap.size = base + l0) (hAd : ∀ i, i < 1000 → ad i = base + i) {i : Instr} {len pos pc' : Nat} {lo' : pm_L} {st' : List Value} {h' : pm_H} {idx : _} (hd : decode (pm_b k) pc = .ok (.getfield idx, len)) (hj : pm_okJ k pc (.getfield idx) i len pos = true) (ho : pm_one ol i len pc lo st h = some (.inl (pc', lo', st', h'))) (hl0 : l0 ≤ h.length) (hz0 : z0 ≤ pm_sz h) (hc : h'.length - l0 ≤ R.cells) (hz : pm_sz h' - z0 ≤ R.slots)
    (K : pm_U p l e R s m args below meth c Q D cA ad base k l0 z0 pc' lo' st' h') : pm_U p l e R s m args below meth c Q D cA ad base k l0 z0 pc lo st h := by
  obtain ⟨hx, hb, hml, hrt, hlk, hnm, hown, hts, hrf, hrl⟩ := id F
  simp only [pm_okJ] at hj
  split at hj
  · rename_i x
    simp only [Bool.and_eq_true, decide_eq_true_eq] at hj
    obtain ⟨rfl, hf⟩ := hj
    obtain ⟨C, T, N, hv, hN, hw⟩ := pm_okf_spec hf
    simp only [pm_one] at ho
    split at ho
    · rename_i a r
      split at ho
      · rename_i ci fs hg
        split at ho
        · rename_i hci
          split at ho
          · rename_i v hfv
            simp only [pm_nx, Option.some.injEq, Sum.inl.injEq, Prod.mk.injEq] at ho
            obtain ⟨rfl, rfl, rfl, rfl⟩ := ho
            intro H locs ls hr hl
            obtain ⟨ha, hat⟩ := pm_go_at hg
            subst hci
            exact va_get (C := C) (T := T) (N := N) hx hb hts (pm_cls _ _ _ _ hv).1 hown X.1 hr.1 a (pm_t_at ha hat) hv (x % 64) hN (hts _ hw) (fun _ z => z) (by rw [List.getElem?_map, hfv]; rfl) hd (K H locs ls hr hl)
          · cases ho
        · cases ho
      · cases ho
    · cases ho
  · cases hj
set_option maxHeartbeats 2000000 in
theorem pm_st_putfield (F : pm_fx k p R s m args meth c) (X : pm_cx D cA ad base ol s) (hE : l0 < pm_M → s.heap.size = base + l0) (hAd : ∀ i, i < 1000 → ad i = base + i) {i : Instr} {len pos pc' : Nat} {lo' : pm_L} {st' : List Value} {h' : pm_H} {idx : _} (hd : decode (pm_b k) pc = .ok (.putfield idx, len)) (hj : pm_okJ k pc (.putfield idx) i len pos = true) (ho : pm_one ol i len pc lo st h = some (.inl (pc', lo', st', h'))) (hl0 : l0 ≤ h.length) (hz0 : z0 ≤ pm_sz h) (hc : h'.length - l0 ≤ R.cells) (hz : pm_sz h' - z0 ≤ R.slots)
    (K : pm_U p l e R s m args below meth c Q D cA ad base k l0 z0 pc' lo' st' h') : pm_U p l e R s m args below meth c Q D cA ad base k l0 z0 pc lo st h := by
  obtain ⟨hx, hb, hml, hrt, hlk, hnm, hown, hts, hrf, hrl⟩ := id F
  simp only [pm_okJ] at hj
  split at hj
  · rename_i x
    simp only [Bool.and_eq_true, decide_eq_true_eq] at hj
    obtain ⟨⟨rfl, hf⟩, hw⟩ := hj
    simp only [pm_one] at ho
    split at ho
    · rename_i v a r
      split at ho
      · rename_i ci fs hg
        split at ho
        · rename_i hcd
          simp only [pm_nx, Option.some.injEq, Sum.inl.injEq, Prod.mk.injEq] at ho
          obtain ⟨rfl, rfl, rfl, rfl⟩ := ho
          obtain ⟨ha, hat⟩ := pm_go_at hg
          obtain ⟨rfl, hln⟩ := hcd
          exact pm_pf (v := .int v) F X hf hw hd ha hat hln (fun ty hty => by have := of_decide_eq_true hty; subst this; exact ⟨rfl, rfl⟩) K
        · cases ho
      · cases ho
    · cases ho
  · rename_i x
    simp only [Bool.and_eq_true, decide_eq_true_eq] at hj
    obtain ⟨⟨rfl, hf⟩, hw⟩ := hj
    simp only [pm_one] at ho
    split at ho
    · rename_i v a r
      split at ho
      · rename_i ci fs hg
        split at ho
        · rename_i hcd
          simp only [pm_nx, Option.some.injEq, Sum.inl.injEq, Prod.mk.injEq] at ho
          obtain ⟨rfl, rfl, rfl, rfl⟩ := ho
          obtain ⟨ha, hat⟩ := pm_go_at hg
          obtain ⟨rfl, hln, h01⟩ := hcd
          exact pm_pf (v := .int v) F X hf hw hd ha hat hln (fun ty hty => by have := of_decide_eq_true hty; subst this; rcases h01 with rfl | rfl <;> exact ⟨rfl, rfl⟩) K
        · cases ho
      · cases ho
    · cases ho
  · rename_i x
    simp only [Bool.and_eq_true, decide_eq_true_eq] at hj
    obtain ⟨⟨rfl, hf⟩, hw⟩ := hj
    simp only [pm_one] at ho
    split at ho
    · rename_i v a r
      split at ho
      · rename_i ci fs hg
        split at ho
        · rename_i hcd
          simp only [pm_nx, Option.some.injEq, Sum.inl.injEq, Prod.mk.injEq] at ho
          obtain ⟨rfl, rfl, rfl, rfl⟩ := ho
          obtain ⟨ha, hat⟩ := pm_go_at hg
          obtain ⟨rfl, hln⟩ := hcd
          exact pm_pf (v := .ref v) F X hf hw hd ha hat hln (fun ty hty => by cases ty <;> first | (exact ⟨rfl, rfl⟩) | (cases hty; done)) K
        · cases ho
      · cases ho
    · cases ho
  · cases hj
set_option maxHeartbeats 2000000 in
theorem pm_st_getstatic (F : pm_fx k p R s m args meth c) (X : pm_cx D cA ad base ol s) (hE : l0 < pm_M → s.heap.size = base + l0) (hAd : ∀ i, i < 1000 → ad i = base + i) {i : Instr} {len pos pc' : Nat} {lo' : pm_L} {st' : List Value} {h' : pm_H} {idx : _} (hd : decode (pm_b k) pc = .ok (.getstatic idx, len)) (hj : pm_okJ k pc (.getstatic idx) i len pos = true) (ho : pm_one ol i len pc lo st h = some (.inl (pc', lo', st', h'))) (hl0 : l0 ≤ h.length) (hz0 : z0 ≤ pm_sz h) (hc : h'.length - l0 ≤ R.cells) (hz : pm_sz h' - z0 ≤ R.slots)
    (K : pm_U p l e R s m args below meth c Q D cA ad base k l0 z0 pc' lo' st' h') : pm_U p l e R s m args below meth c Q D cA ad base k l0 z0 pc lo st h := by
  obtain ⟨hx, hb, hml, hrt, hlk, hnm, hown, hts, hrf, hrl⟩ := id F
  simp only [pm_okJ] at hj
  split at hj
  · rename_i a
    simp only [Bool.and_eq_true, Bool.or_eq_true, decide_eq_true_eq] at hj
    obtain ⟨rfl, hj⟩ := hj
    simp only [pm_one] at ho
    simp only [pm_nx, Option.some.injEq, Sum.inl.injEq, Prod.mk.injEq] at ho
    obtain ⟨rfl, rfl, rfl, rfl⟩ := ho
    intro H locs ls hr hl
    rcases hj with ⟨rfl, hw⟩ | ⟨rfl, hw⟩
    · exact va_gets hx hb X.2.2.2.2.1 hr.2.2 hown (hts _ (pm_wd_in hw rfl)) (fun _ z => z) hd (K H locs ls hr hl)
    · exact va_gets hx hb X.2.2.2.2.2 hr.2.2 hown (hts _ (pm_wd_in hw rfl)) (fun _ z => z) hd (K H locs ls hr hl)
  · cases hj
set_option maxHeartbeats 2000000 in
theorem pm_st_ldc (F : pm_fx k p R s m args meth c) (X : pm_cx D cA ad base ol s) (hE : l0 < pm_M → s.heap.size = base + l0) (hAd : ∀ i, i < 1000 → ad i = base + i) {i : Instr} {len pos pc' : Nat} {lo' : pm_L} {st' : List Value} {h' : pm_H} {idx : _} (hd : decode (pm_b k) pc = .ok (.ldc idx, len)) (hj : pm_okJ k pc (.ldc idx) i len pos = true) (ho : pm_one ol i len pc lo st h = some (.inl (pc', lo', st', h'))) (hl0 : l0 ≤ h.length) (hz0 : z0 ≤ pm_sz h) (hc : h'.length - l0 ≤ R.cells) (hz : pm_sz h' - z0 ≤ R.slots)
    (K : pm_U p l e R s m args below meth c Q D cA ad base k l0 z0 pc' lo' st' h') : pm_U p l e R s m args below meth c Q D cA ad base k l0 z0 pc lo st h := by
  obtain ⟨hx, hb, hml, hrt, hlk, hnm, hown, hts, hrf, hrl⟩ := id F
  simp only [pm_okJ] at hj
  split at hj
  · rename_i v
    simp only [Bool.and_eq_true, decide_eq_true_eq] at hj
    obtain ⟨rfl, hw⟩ := hj
    simp only [pm_one] at ho
    simp only [pm_nx, Option.some.injEq, Sum.inl.injEq, Prod.mk.injEq] at ho
    obtain ⟨rfl, rfl, rfl, rfl⟩ := ho
    intro H locs ls hr hl
    exact lv_ldc hx hb hown (hts _ (pm_wd_in hw rfl)) hd (K H locs ls hr hl)
  · simp only [pm_one] at ho
    cases ho
  · cases hj
set_option maxHeartbeats 2000000 in
theorem pm_st_ldc2_w (F : pm_fx k p R s m args meth c) (X : pm_cx D cA ad base ol s) (hE : l0 < pm_M → s.heap.size = base + l0) (hAd : ∀ i, i < 1000 → ad i = base + i) {i : Instr} {len pos pc' : Nat} {lo' : pm_L} {st' : List Value} {h' : pm_H} {idx : _} (hd : decode (pm_b k) pc = .ok (.ldc2_w idx, len)) (hj : pm_okJ k pc (.ldc2_w idx) i len pos = true) (ho : pm_one ol i len pc lo st h = some (.inl (pc', lo', st', h'))) (hl0 : l0 ≤ h.length) (hz0 : z0 ≤ pm_sz h) (hc : h'.length - l0 ≤ R.cells) (hz : pm_sz h' - z0 ≤ R.slots)
    (K : pm_U p l e R s m args below meth c Q D cA ad base k l0 z0 pc' lo' st' h') : pm_U p l e R s m args below meth c Q D cA ad base k l0 z0 pc lo st h := by
  obtain ⟨hx, hb, hml, hrt, hlk, hnm, hown, hts, hrf, hrl⟩ := id F
  simp only [pm_okJ] at hj
  split at hj
  · rename_i v
    simp only [Bool.and_eq_true, decide_eq_true_eq] at hj
    obtain ⟨rfl, hw⟩ := hj
    simp only [pm_one] at ho
    simp only [pm_nx, Option.some.injEq, Sum.inl.injEq, Prod.mk.injEq] at ho
    obtain ⟨rfl, rfl, rfl, rfl⟩ := ho
    intro H locs ls hr hl
    exact lv_ldc2 hx hb hown (hts _ (pm_wd_in hw rfl)) hd (K H locs ls hr hl)
  · cases hj
set_option maxHeartbeats 2000000 in
theorem pm_st_athrow (F : pm_fx k p R s m args meth c) (X : pm_cx D cA ad base ol s) (hE : l0 < pm_M → s.heap.size = base + l0) (hAd : ∀ i, i < 1000 → ad i = base + i) {i : Instr} {len pos pc' : Nat} {lo' : pm_L} {st' : List Value} {h' : pm_H} (hd : decode (pm_b k) pc = .ok (.athrow, len)) (hj : pm_okJ k pc (.athrow) i len pos = true) (ho : pm_one ol i len pc lo st h = some (.inl (pc', lo', st', h'))) (hl0 : l0 ≤ h.length) (hz0 : z0 ≤ pm_sz h) (hc : h'.length - l0 ≤ R.cells) (hz : pm_sz h' - z0 ≤ R.slots)
    (K : pm_U p l e R s m args below meth c Q D cA ad base k l0 z0 pc' lo' st' h') : pm_U p l e R s m args below meth c Q D cA ad base k l0 z0 pc lo st h := by
  obtain ⟨hx, hb, hml, hrt, hlk, hnm, hown, hts, hrf, hrl⟩ := id F
  simp only [pm_okJ, decide_eq_true_eq] at hj
  subst hj
  simp only [pm_one] at ho
  cases ho
set_option maxHeartbeats 2000000 in
theorem pm_st_invokespecial (F : pm_fx k p R s m args meth c) (X : pm_cx D cA ad base ol s) (hE : l0 < pm_M → s.heap.size = base + l0) (hAd : ∀ i, i < 1000 → ad i = base + i) {i : Instr} {len pos pc' : Nat} {lo' : pm_L} {st' : List Value} {h' : pm_H} {idx : _} (hd : decode (pm_b k) pc = .ok (.invokespecial idx, len)) (hj : pm_okJ k pc (.invokespecial idx) i len pos = true) (ho : pm_one ol i len pc lo st h = some (.inl (pc', lo', st', h'))) (hl0 : l0 ≤ h.length) (hz0 : z0 ≤ pm_sz h) (hc : h'.length - l0 ≤ R.cells) (hz : pm_sz h' - z0 ≤ R.slots)
    (K : pm_U p l e R s m args below meth c Q D cA ad base k l0 z0 pc' lo' st' h') : pm_U p l e R s m args below meth c Q D cA ad base k l0 z0 pc lo st h := by
  obtain ⟨hx, hb, hml, hrt, hlk, hnm, hown, hts, hrf, hrl⟩ := id F
  simp only [pm_okJ] at hj
  split at hj
  · rename_i z
    simp only [Bool.and_eq_true, decide_eq_true_eq] at hj
    obtain ⟨⟨⟨rfl, hw⟩, h1f⟩, h20⟩ := hj
    simp only [pm_one] at ho
    split at ho
    · rename_i a r
      split at ho
      · rename_i hcd
        simp only [pm_nx, Option.some.injEq, Sum.inl.injEq, Prod.mk.injEq] at ho
        obtain ⟨rfl, rfl, rfl, rfl⟩ := ho
        intro H locs ls hr hl
        exact W.objInit hx hb hown (hts _ (pm_wd_in hw rfl)) (hts _ pm_oi1) (hts _ pm_oi2) rfl (by rw [hml]; exact hl.1) rfl hd (by omega) (by show 2 * 0 + ((r.map (pm_tv ad)).map fun v => v.category).sum + 12 ≤ R.locals; rw [pm_cat_tv]; omega) (K H locs ls hr hl)
      · cases ho
    · cases ho
  · simp only [pm_one] at ho
    split at ho
    · split at ho
      · split at ho
        · unfold pm_call at ho
          split at ho <;> cases ho
        · cases ho
      · cases ho
    · cases ho
  · simp only [pm_one] at ho
    cases ho
  · cases hj
set_option maxHeartbeats 2000000 in
theorem pm_st_invokevirtual (F : pm_fx k p R s m args meth c) (X : pm_cx D cA ad base ol s) (hE : l0 < pm_M → s.heap.size = base + l0) (hAd : ∀ i, i < 1000 → ad i = base + i) {i : Instr} {len pos pc' : Nat} {lo' : pm_L} {st' : List Value} {h' : pm_H} {idx : _} (hd : decode (pm_b k) pc = .ok (.invokevirtual idx, len)) (hj : pm_okJ k pc (.invokevirtual idx) i len pos = true) (ho : pm_one ol i len pc lo st h = some (.inl (pc', lo', st', h'))) (hl0 : l0 ≤ h.length) (hz0 : z0 ≤ pm_sz h) (hc : h'.length - l0 ≤ R.cells) (hz : pm_sz h' - z0 ≤ R.slots)
    (K : pm_U p l e R s m args below meth c Q D cA ad base k l0 z0 pc' lo' st' h') : pm_U p l e R s m args below meth c Q D cA ad base k l0 z0 pc lo st h := by
  obtain ⟨hx, hb, hml, hrt, hlk, hnm, hown, hts, hrf, hrl⟩ := id F
  simp only [pm_okJ] at hj
  split at hj
  · simp only [pm_one] at ho
    split at ho
    · split at ho
      · split at ho
        · unfold pm_call at ho
          split at ho <;> cases ho
        · cases ho
      · cases ho
    · cases ho
  · cases hj
set_option maxHeartbeats 2000000 in
theorem pm_st_invokestatic (F : pm_fx k p R s m args meth c) (X : pm_cx D cA ad base ol s) (hE : l0 < pm_M → s.heap.size = base + l0) (hAd : ∀ i, i < 1000 → ad i = base + i) {i : Instr} {len pos pc' : Nat} {lo' : pm_L} {st' : List Value} {h' : pm_H} {idx : _} (hd : decode (pm_b k) pc = .ok (.invokestatic idx, len)) (hj : pm_okJ k pc (.invokestatic idx) i len pos = true) (ho : pm_one ol i len pc lo st h = some (.inl (pc', lo', st', h'))) (hl0 : l0 ≤ h.length) (hz0 : z0 ≤ pm_sz h) (hc : h'.length - l0 ≤ R.cells) (hz : pm_sz h' - z0 ≤ R.slots)
    (K : pm_U p l e R s m args below meth c Q D cA ad base k l0 z0 pc' lo' st' h') : pm_U p l e R s m args below meth c Q D cA ad base k l0 z0 pc lo st h := by
  obtain ⟨hx, hb, hml, hrt, hlk, hnm, hown, hts, hrf, hrl⟩ := id F
  simp only [pm_okJ] at hj
  split at hj
  · simp only [pm_one] at ho
    split at ho
    · unfold pm_call at ho
      split at ho <;> cases ho
    · cases ho
  · simp only [Bool.and_eq_true, decide_eq_true_eq] at hj
    obtain ⟨⟨⟨rfl, hw⟩, h1f⟩, h26⟩ := hj
    simp only [pm_one] at ho
    split at ho
    · rename_i n dp a sp a0 r
      split at ho
      · rename_i n0 f hg0
        split at ho
        · rename_i n1 g hg1
          split at ho
          · rename_i hcd
            simp only [pm_nx, Option.some.injEq, Sum.inl.injEq, Prod.mk.injEq] at ho
            obtain ⟨rfl, rfl, rfl, rfl⟩ := ho
            intro H locs ls hr hl
            obtain ⟨ha0, hat0⟩ := pm_gi_at hg0
            obtain ⟨ha, hat⟩ := pm_gi_at hg1
            obtain ⟨⟨c1, c2, c3⟩, c4, c5, c6⟩ := hcd
            refine va_copyi hx hb (by rw [hml]; exact hl.1.symm) hown (hts _ (pm_wd_in hw rfl)) (hts _ pm_ay1) (hts _ pm_ay2) (hts _ pm_ay3) X.1 hr.1 hr.2.1 hr.2.2 a0 a 0 0 (pm_t_at ha0 hat0) (pm_t_at ha hat) rfl rfl rfl c1 c2 c3 c4 c5 (fun _ _ => rfl) (by omega) (by rw [pm_cat_tv, show nativeFrameWords "java/lang/System" "arraycopy" 5 = 7 by decide +kernel]; omega) hd (fun H1 locs1 hP1 hD1 hS1 => ?_)
            exact pm_Uset K hat rfl (pm_put ha hP1 hD1 hS1) hl
          · cases ho
        · cases ho
      · cases ho
    · cases ho
  · simp only [Bool.and_eq_true, decide_eq_true_eq] at hj
    obtain ⟨⟨⟨rfl, hw⟩, h1f⟩, h21⟩ := hj
    simp only [pm_one] at ho
    split at ho
    · rename_i y x r
      split at ho
      · rename_i hcd
        simp only [pm_nx, Option.some.injEq, Sum.inl.injEq, Prod.mk.injEq] at ho
        obtain ⟨rfl, rfl, rfl, rfl⟩ := ho
        intro H locs ls hr hl
        exact va_mmax hx hb (by rw [hml]; exact hl.1.symm) hown (hts _ (pm_wd_in hw rfl)) (hts _ pm_mx1) (hts _ pm_mi0) (hts _ pm_mx2) (by omega) (by rw [pm_cat_tv]; omega) hc hz hd (K H locs ls hr hl)
      · cases ho
    · cases ho
  · simp only [Bool.and_eq_true, decide_eq_true_eq] at hj
    obtain ⟨⟨⟨rfl, hw⟩, h1f⟩, h21⟩ := hj
    simp only [pm_one] at ho
    split at ho
    · rename_i y x r
      split at ho
      · rename_i hcd
        simp only [pm_nx, Option.some.injEq, Sum.inl.injEq, Prod.mk.injEq] at ho
        obtain ⟨rfl, rfl, rfl, rfl⟩ := ho
        intro H locs ls hr hl
        exact va_mmin hx hb (by rw [hml]; exact hl.1.symm) hown (hts _ (pm_wd_in hw rfl)) (hts _ pm_mn1) (hts _ pm_mi0) (hts _ pm_mn2) (by omega) (by rw [pm_cat_tv]; omega) hc hz hd (K H locs ls hr hl)
      · cases ho
    · cases ho
  · simp only [Bool.and_eq_true, decide_eq_true_eq] at hj
    obtain ⟨⟨⟨rfl, hw⟩, h1f⟩, h21⟩ := hj
    simp only [pm_one] at ho
    split at ho
    · rename_i x r
      split at ho
      · rename_i hcd
        simp only [pm_nx, Option.some.injEq, Sum.inl.injEq, Prod.mk.injEq] at ho
        obtain ⟨rfl, rfl, rfl, rfl⟩ := ho
        intro H locs ls hr hl
        exact va_mabs hx hb (by rw [hml]; exact hl.1.symm) hown (hts _ (pm_wd_in hw rfl)) (hts _ pm_mb1) (hts _ pm_mi0) (hts _ pm_mb2) (by omega) (by rw [pm_cat_tv]; omega) hc hz hd (K H locs ls hr hl)
      · cases ho
    · cases ho
  · cases hj
set_option maxHeartbeats 2000000 in
theorem pm_st_ireturn (F : pm_fx k p R s m args meth c) (X : pm_cx D cA ad base ol s) (hE : l0 < pm_M → s.heap.size = base + l0) (hAd : ∀ i, i < 1000 → ad i = base + i) {i : Instr} {len pos pc' : Nat} {lo' : pm_L} {st' : List Value} {h' : pm_H} (hd : decode (pm_b k) pc = .ok (.ireturn, len)) (hj : pm_okJ k pc (.ireturn) i len pos = true) (ho : pm_one ol i len pc lo st h = some (.inl (pc', lo', st', h'))) (hl0 : l0 ≤ h.length) (hz0 : z0 ≤ pm_sz h) (hc : h'.length - l0 ≤ R.cells) (hz : pm_sz h' - z0 ≤ R.slots)
    (K : pm_U p l e R s m args below meth c Q D cA ad base k l0 z0 pc' lo' st' h') : pm_U p l e R s m args below meth c Q D cA ad base k l0 z0 pc lo st h := by
  obtain ⟨hx, hb, hml, hrt, hlk, hnm, hown, hts, hrf, hrl⟩ := id F
  simp only [pm_okJ, Bool.and_eq_true, Bool.or_eq_true, decide_eq_true_eq] at hj
  obtain ⟨⟨rfl, -⟩ | ⟨rfl, -⟩, rfl⟩ := hj
  · simp only [pm_one] at ho
    split at ho <;> cases ho
  · simp only [pm_one] at ho
    split at ho
    · split at ho <;> cases ho
    · cases ho
set_option maxHeartbeats 2000000 in
theorem pm_st_areturn (F : pm_fx k p R s m args meth c) (X : pm_cx D cA ad base ol s) (hE : l0 < pm_M → s.heap.size = base + l0) (hAd : ∀ i, i < 1000 → ad i = base + i) {i : Instr} {len pos pc' : Nat} {lo' : pm_L} {st' : List Value} {h' : pm_H} (hd : decode (pm_b k) pc = .ok (.areturn, len)) (hj : pm_okJ k pc (.areturn) i len pos = true) (ho : pm_one ol i len pc lo st h = some (.inl (pc', lo', st', h'))) (hl0 : l0 ≤ h.length) (hz0 : z0 ≤ pm_sz h) (hc : h'.length - l0 ≤ R.cells) (hz : pm_sz h' - z0 ≤ R.slots)
    (K : pm_U p l e R s m args below meth c Q D cA ad base k l0 z0 pc' lo' st' h') : pm_U p l e R s m args below meth c Q D cA ad base k l0 z0 pc lo st h := by
  obtain ⟨hx, hb, hml, hrt, hlk, hnm, hown, hts, hrf, hrl⟩ := id F
  simp only [pm_okJ, Bool.and_eq_true, Bool.or_eq_true, decide_eq_true_eq] at hj
  obtain ⟨⟨rfl, rfl⟩, -⟩ := hj
  simp only [pm_one] at ho
  split at ho <;> cases ho
set_option maxHeartbeats 2000000 in
theorem pm_st_return_ (F : pm_fx k p R s m args meth c) (X : pm_cx D cA ad base ol s) (hE : l0 < pm_M → s.heap.size = base + l0) (hAd : ∀ i, i < 1000 → ad i = base + i) {i : Instr} {len pos pc' : Nat} {lo' : pm_L} {st' : List Value} {h' : pm_H} (hd : decode (pm_b k) pc = .ok (.return_, len)) (hj : pm_okJ k pc (.return_) i len pos = true) (ho : pm_one ol i len pc lo st h = some (.inl (pc', lo', st', h'))) (hl0 : l0 ≤ h.length) (hz0 : z0 ≤ pm_sz h) (hc : h'.length - l0 ≤ R.cells) (hz : pm_sz h' - z0 ≤ R.slots)
    (K : pm_U p l e R s m args below meth c Q D cA ad base k l0 z0 pc' lo' st' h') : pm_U p l e R s m args below meth c Q D cA ad base k l0 z0 pc lo st h := by
  obtain ⟨hx, hb, hml, hrt, hlk, hnm, hown, hts, hrf, hrl⟩ := id F
  simp only [pm_okJ, Bool.and_eq_true, Bool.or_eq_true, decide_eq_true_eq] at hj
  obtain ⟨⟨rfl, rfl⟩, -⟩ := hj
  simp only [pm_one] at ho
  split at ho <;> cases ho
end PMS
