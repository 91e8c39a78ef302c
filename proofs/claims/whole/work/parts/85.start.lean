/-! THE LAW'S ENTRY over the pure machine -/
theorem st_classes {s : State} {as : Array Value} (hts : ∀ w ∈ lw_tbl, w.before as s = true) : ∃ (dC : Nat → ClassId) (dI : Nat → Nat → Nat), ∀ (k : Nat) (q : vw_C), vwCl[k]? = some q → u_Kn s q.1 q.2.1 q.2.2 (dC k) (dI k) := by
  have h : ∀ k : Nat, ∃ (c : ClassId) (iS : Nat → Nat), ∀ q : vw_C, vwCl[k]? = some q → u_Kn s q.1 q.2.1 q.2.2 c iS := by
    intro k
    cases hq : vwCl[k]? with
    | none => exact ⟨(0 : Nat), fun _ => 0, fun q h => by cases h⟩
    | some q =>
      obtain ⟨C, T, N⟩ := q
      obtain ⟨g1, -, -, g8, -⟩ := pm_cls k C T N hq
      obtain ⟨c, iS, hk⟩ := u_known (ws := pm_ws) (fun w hw => hts w (List.mem_filter.mp hw).1) g1 (hts _ (List.mem_filter.mp g8).1)
      exact ⟨c, iS, fun q h => by cases h; exact hk⟩
  exact ⟨fun k => Classical.choose (h k), fun k => Classical.choose (Classical.choose_spec (h k)), fun k q hq => Classical.choose_spec (Classical.choose_spec (h k)) q hq⟩
theorem st_w {s : State} {as : Array Value} (hts : ∀ w ∈ lw_tbl, w.before as s = true) {w : Jvm.Cond} (h : w ∈ pm_ws) : w.before as s = true := hts w (List.mem_filter.mp h).1
theorem st_ao : Jvm.Cond.arrayOver (.object RX4) ∈ lw_tbl := List.mem_of_getElem? (i := 107) (by decide +kernel)
theorem st_arrays {s : State} {as : Array Value} (hts : ∀ w ∈ lw_tbl, w.before as s = true) : ∃ cA : Nat → ClassId, ∀ (k : Nat) (q : ClassId × FieldType), (pm_tys cA)[k]? = some q → ArrOfT s q.1 q.2 ∧ va_RA s q.1 q.2 := by
  obtain ⟨c0, k0, m0, a0, b0, d0⟩ := Cond.arrayClass_spec (st_w hts pm_ac0)
  obtain ⟨c1, k1, m1, a1, b1, d1⟩ := Cond.arrayClass_spec (st_w hts pm_ac1)
  obtain ⟨c2, k2, m2, a2, b2, d2⟩ := Cond.arrayClass_spec (st_w hts pm_ac2)
  obtain ⟨m3, c3, k3, e1, e2, e3, e4, e5⟩ := Cond.arrayOver_spec (hts _ st_ao)
  refine ⟨fun t => if t = 0 then c0 else if t = 1 then c1 else if t = 2 then c2 else c3, fun k q hq => ?_⟩
  match k, hq with
  | 0, hq => cases hq; exact ⟨fun n z => ⟨fun k h => (by cases h), k0, b0, m0, d0⟩, a0⟩
  | 1, hq => cases hq; exact ⟨fun n z => ⟨fun k h => (by cases h), k1, b1, m1, d1⟩, a1⟩
  | 2, hq => cases hq; exact ⟨fun n z => ⟨fun k h => (by cases h), k2, b2, m2, d2⟩, a2⟩
  | 3, hq => cases hq; exact ⟨fun n z => ⟨fun k h => (by cases h), k3, e3, m3, e4⟩, k3, m3, e3, e4, e1, e5⟩
  | n + 4, hq => simp [pm_tys] at hq
theorem st_l1 : Jvm.Cond.laysStatic RX2 "X_BOUNDS" "[I" ∈ lw_tbl := List.mem_of_getElem? (i := 643) (by decide +kernel)
theorem st_l2 : Jvm.Cond.laysStatic RX7 "GIVEN" "[I" ∈ lw_tbl := List.mem_of_getElem? (i := 753) (by decide +kernel)
theorem st_e1 : ∀ j, j < 22 → Jvm.Cond.eq (.elem (.static RX2 "X_BOUNDS" "[I") (.int (Int32.ofNat j))) (.int (xbL.getD j 0)) ∈ flatC (Jvm.Cond.and given_1 narrow_1) := by decide +kernel
theorem st_e2 : ∀ j, j < 22 → Jvm.Cond.eq (.elem (.static RX7 "GIVEN" "[I") (.int (Int32.ofNat j))) (.int (gvL.getD j 0)) ∈ flatC (Jvm.Cond.and given_1 narrow_1) := by decide +kernel
theorem st_n1 : Jvm.Cond.arrayOf (.static RX2 "X_BOUNDS" "[I") .int ∈ flatC (Jvm.Cond.and given_1 narrow_1) ∧ Jvm.Cond.eq (.length (.static RX2 "X_BOUNDS" "[I")) (.int 22) ∈ flatC (Jvm.Cond.and given_1 narrow_1) := by decide +kernel
theorem st_n2 : Jvm.Cond.arrayOf (.static RX7 "GIVEN" "[I") .int ∈ flatC (Jvm.Cond.and given_1 narrow_1) ∧ Jvm.Cond.eq (.length (.static RX7 "GIVEN" "[I")) (.int 22) ∈ flatC (Jvm.Cond.and given_1 narrow_1) := by decide +kernel
theorem st_stat {s : State} {as : Array Value} {C n : String} {F : List Int32} (hgv : (Jvm.Cond.and given_1 narrow_1).before as s = true) (hl : (Jvm.Cond.laysStatic C n "[I").before as s = true) (hi : (Jvm.Cond.initialized C).before as s = true)
    (h1 : Jvm.Cond.arrayOf (.static C n "[I") .int ∈ flatC (Jvm.Cond.and given_1 narrow_1) ∧ Jvm.Cond.eq (.length (.static C n "[I")) (.int 22) ∈ flatC (Jvm.Cond.and given_1 narrow_1)) (h2 : ∀ j, j < 22 → Jvm.Cond.eq (.elem (.static C n "[I") (.int (Int32.ofNat j))) (.int (F.getD j 0)) ∈ flatC (Jvm.Cond.and given_1 narrow_1)) :
    ∃ t : Nat, va_Z C n "[I" (.ref t) (pm_A s.heap.size) s s.heap ∧ va_T .int t 22 (fun j => .int (F.getD j 0)) (pm_A s.heap.size) s s.heap := by
  have hs := flat_of_before _ hgv
  have hA : ∀ a : Nat, a < s.heap.size → ¬ pm_A s.heap.size a := fun a h g => absurd (show s.heap.size ≤ a from g) (by omega)
  obtain ⟨t, ht, hT⟩ := va_Tof (tm := .static C n "[I") (ty := .int) (N := 22) (f := fun j => .int (F.getD j 0)) (by decide) (hs _ h1.1) (va_eqt (hs _ h1.2)) (fun j hj => va_eqt (hs _ (h2 j hj))) hA
  exact ⟨t, va_Zref hl hi ht hA, hT⟩
theorem st_scr {s : State} {b L : Nat} {xs : Nat → Int32} (hX : va_X b L xs s s.heap) (hbl : b < s.heap.size) : va_T .int b L (fun j => .int (xs j)) (pm_A s.heap.size) s s.heap := by
  obtain ⟨scr, h1, h2, h3, h4, h5⟩ := hX
  exact ⟨scr, h1, h2, h3, by omega, by rw [h4], h5, fun g => absurd (show s.heap.size ≤ b from g) (by omega)⟩
/-- where the arrays lie that were there -/
def st_od (b t1 t2 : Nat) : Nat → Nat := fun j => if j = 0 then b else if j = 1 then t1 else t2
/-- what the pure machine must do, and what it asks -/
def st_Pure (l : Launch) (D : va_G) (cA : Nat → ClassId) (ad : Nat → Nat) (base L : Nat) (xs : Nat → Int32) : Prop :=
  ∃ (orc : pm_Q) (n : Nat) (h' : pm_H), pm_orcG orc ∧ pm_orcOK l D cA ad base (pm_ol L xs) orc ∧ pm_X (pm_ol L xs) orc n 168 0 (lv_args 0 [.ref 1000]) [] [] = some (some (.int 1), h') ∧ h'.length ≤ 601024 ∧ pm_sz h' ≤ 7293034
set_option maxHeartbeats 4000000 in
/-- THE LAW, from its entry, out of the pure run -/
theorem whole_of {p : Program} {e : Env} {s : State} {m : MethodId} {below : List Frame} {meth : Method} {c : Code} (l : Launch) {b L : Nat} {xs : Nat → Int32} (C0 : lw_At p s m meth c b L xs)
    (hp : ∀ (D : va_G) (cA : Nat → ClassId) (ad : Nat → Nat), (∀ i, i < 1000 → ad i = s.heap.size + i) → pm_cx D cA ad s.heap.size (pm_ol L xs) s → st_Pure l D cA ad s.heap.size L xs) :
    W p l e room_1 s m #[Value.ref b] below meth c s.heap [] 0 0 (lw_Z below #[Value.ref b] s) (entryFrame m ([Value.ref b] : List Value).toArray 7) := by
  obtain ⟨hx, hb, hr, hml, hown, hts, hX, hbl, hlocks, hgv⟩ := id C0
  obtain ⟨dC, dI, hKc⟩ := st_classes hts
  obtain ⟨cA, hKa⟩ := st_arrays hts
  obtain ⟨t1, hZ1, hT1⟩ := st_stat (F := xbL) hgv (hts _ st_l1) (st_w hts (pm_cls 2 RX2 TX2 2 rfl).2.2.2.2) st_n1 st_e1
  obtain ⟨t2, hZ2, hT2⟩ := st_stat (F := gvL) hgv (hts _ st_l2) (st_w hts (pm_cls 7 RX7 TX7 5 rfl).2.2.2.2) st_n2 st_e2
  have hAd : ∀ i, i < 1000 → pm_ad s.heap.size (st_od b t1 t2) i = s.heap.size + i := fun i hi => if_pos hi
  have hcx : pm_cx (dC, dI) cA (pm_ad s.heap.size (st_od b t1 t2)) s.heap.size (pm_ol L xs) s := by
    refine ⟨⟨hKc, hKa⟩, va_AO.of (hts _ st_ao), Nat.le_refl _, fun j N f hj => ?_, hZ1, hZ2⟩
    match j, hj with
    | 0, hj => cases hj; exact st_scr hX hbl
    | 1, hj => cases hj; exact hT1
    | 2, hj => cases hj; exact hT2
    | n + 3, hj => simp [pm_ol] at hj
  obtain ⟨orc, n, h', hG, hO, hrun, hlen, hsz⟩ := hp (dC, dI) cA _ hAd hcx
  have hF : pm_fx 168 p room_1 s m #[Value.ref b] meth c := ⟨hx, hb, hml, hr, hlocks, fun g => absurd g (by decide +kernel), hown, fun w hw => st_w hts hw, by decide +kernel, by decide +kernel⟩
  have hU := pm_sound hAd hG hO n 168 0 _ [] [] _ h' hrun (by omega) p e room_1 s m #[Value.ref b] below meth c 0 0 hF hcx (fun _ => rfl) (Nat.le_refl _) (Nat.le_refl _) (by show h'.length - 0 ≤ 601024; omega) (by show pm_sz h' - 0 ≤ 7293034; omega)
  have hl := lv_entry ([.ref b]) (n := 7) (Nat.le_of_ble_eq_true rfl)
  have hP0 : va_P (dC, dI) vwCl (pm_w (pm_ad s.heap.size (st_od b t1 t2)) cA 0 (([] : pm_H).take pm_M)) s.heap := fun k q h => by simp [pm_w] at h
  have hD0 : va_D (pm_A s.heap.size) (pm_w (pm_ad s.heap.size (st_od b t1 t2)) cA 0 (([] : pm_H).take pm_M)) := ⟨fun i j p q h => by simp [pm_w] at h, fun k q h => by simp [pm_w] at h⟩
  have hW := hU s.heap [] _ ⟨hP0, hD0, va_S.rf⟩ hl
  rw [lg_entry_eq]
  intro T hT X
  obtain ⟨t, a1, o, b1, b2, ⟨q1, -⟩, Ls, ⟨f1, f2, f3⟩, hfr⟩ := hW T hT X
  refine ⟨t, a1, o, b1, b2, q1, f1, f2, f3.weaken (fun y hy hlt => absurd hlt (Nat.not_lt.mpr (hfr y hy))) (by omega) (by omega)⟩
