/-! what holds of both sides between two calls -/
def mkW (P fc : Nat → Nat) (ft : Nat → Int32) (rt : Nat → Nat → Int32) (rn : Nat → Nat) (rg mt : Nat → Int32) (mn : Nat) (mg : Int32) (cs : Nat) (cb : Nat → Nat) : Wd := (P, fc, ft, rt, rn, rg, mt, mn, mg, cs, cb)
abbrev Inv (w : Wd) (ts : Nat) (tb : Nat → Nat) (A I : Nat → Nat → Int32) : Prop := okW w ∧ hW w A I ∧ hR w A I ∧ hTab ts tb A I ∧ hTaM ts tb A I
theorem hTab_fr {ts : Nat} {tb : Nat → Nat} {A I A' I' : Nat → Nat → Int32} (h : hTab ts tb A I) (hA : A' 25 = A 25) (hI : I' 24 1 = I 24 1) : hTab ts tb A' I' := ⟨h.1, h.2.1, hI.trans h.2.2.1, fun j hj => by rw [hA]; exact h.2.2.2 j hj⟩
theorem hTaM_fr {ts : Nat} {tb : Nat → Nat} {A I A' I' : Nat → Nat → Int32} (h : hTaM ts tb A I) (hA : A' 57 = A 57) (hI : I' 48 13 = I 48 13) : hTaM ts tb A' I' := ⟨h.1, h.2.1, hI.trans h.2.2.1, fun j hj => by rw [hA]; exact h.2.2.2 j hj⟩
/-- the thrown word alone changes -/
theorem Inv_thr {w : Wd} {ts : Nat} {tb : Nat → Nat} {A I : Nat → Nat → Int32} (h : Inv w ts tb A I) (x : Int32) : Inv w ts tb A (sI I 48 0 x) := ⟨h.1, h.2.1.sI (by decide) 0 x, hR_thr h.2.2.1 x, hTab_fr h.2.2.2.1 rfl rfl, hTaM_fr h.2.2.2.2 rfl rfl⟩
theorem nI_ofN {i : Int32} {n : Nat} (hn : n < 2 ^ 31) (h0 : 0 ≤ i) (h1 : i < nI n) : ∃ j, j < n ∧ i = nI j := by
  rcases pk_ix i (n := n) hn with q | q | ⟨j, hj, e⟩
  · exfalso
    grind
  · exfalso
    have : nI n ≤ i := q
    grind
  · exact ⟨j, hj, e⟩
theorem nI_ltN {a b : Nat} (ha : a < 2 ^ 31) (hb : b < 2 ^ 31) (h : nI a < nI b) : a < b := by
  rcases Nat.lt_or_ge a b with y | y
  · exact y
  · exfalso
    have := nI_le (a := b) (b := a) y ha
    grind
section INV
variable (ol : pm_O) (orc : pm_Q) (L : Nat → Int64) (g : pm_H) {w : Wd} {ts : Nat} {tb : Nat → Nat} {A I : Nat → Nat → Int32}
/-- both sides answer alike and go on alike -/
abbrev both (ol : pm_O) (orc : pm_Q) (L : Nat → Int64) (g : pm_H) (k1 k2 : Nat) (as : List Value) (A I : Nat → Nat → Int32) : Prop := ∃ v A1 I1 A2 I2, pm_V ol orc k1 (.ref 0 :: as) (mk A I L g) = some (some (.int v), mk A1 I1 L g) ∧ pm_V ol orc k2 (.ref 48 :: as) (mk A1 I1 L g) = some (some (.int v), mk A2 I2 L g) ∧ ∃ w ts tb, Inv w ts tb A2 I2
theorem B_parent (h : Inv w ts tb A I) (c p : Int32) : both ol orc L g 99 119 [.int c, .int p] A I := by
  have r1 := V_parent ol orc A I L g c p
  by_cases e : (1 ≤ c ∧ c < 8) ∧ 0 ≤ p ∧ p < c
  · rw [if_pos e] at r1
    have r2 := M_parent ol orc (sA A 2 c.toNatClampNeg p) I L g c p
    rw [if_pos e] at r2
    obtain ⟨a, ha, ea⟩ := nI_ofN (n := 8) (i := c) (by decide) (by grind) e.1.2
    obtain ⟨b, hb, eb⟩ := nI_ofN (n := 8) (i := p) (by decide) e.2.1 (by
      have := e.1.2
      have := e.2.2
      show p < 8
      grind)
    subst ea eb
    have ec : (nI a).toNatClampNeg = a := clampN (by omega)
    have hba : b < a := nI_ltN (by omega) (by omega) e.2.2
    rw [ec] at r1 r2
    refine ⟨1, _, _, _, _, r1, r2, mkW (up w.P a b) w.fc w.ft w.rt w.rn w.rg w.mt w.mn w.mg w.cs w.cb, ts, tb, ?_⟩
    obtain ⟨k, hw, hr, ht, hm⟩ := h
    refine ⟨⟨⟨?_, ?_⟩, k.2⟩, ⟨?_, ?_⟩, ⟨?_, ?_⟩, hTab_fr ht rfl rfl, hTaM_fr hm rfl rfl⟩
    · show up w.P a b 0 = 0
      rw [up_n _ _ (by omega)]
      exact k.P.1
    · intro c h0 h8
      show up w.P a b c < c
      by_cases y : c = a
      · rw [y, up_s]
        exact hba
      · rw [up_n _ _ y]
        exact k.P.2 c h0 h8
    · intro c hc
      show upd (A 2) a (nI b) c = nI (up w.P a b c)
      by_cases y : c = a
      · rw [y, up_s, pk_us]
      · rw [up_n _ _ y, pk_un y]
        exact hw.P c hc
    · exact ⟨hw.fc, hw.ft, fun r hr1 k1 hk1 => by
        rw [sA_o _ _ _ (by omega), sA_o _ _ _ (by omega)]
        exact hw.rt r hr1 k1 hk1, fun r hr1 => by
        rw [sI_n _ _ (by omega)]
        exact hw.rn r hr1, fun r hr1 => by
        rw [sI_n _ _ (by omega)]
        exact hw.rg r hr1, hw.mt, hw.mn, hw.mg, hw.c⟩
    · intro c hc
      show upd (A 49) a (nI b) c = nI (up w.P a b c)
      by_cases y : c = a
      · rw [y, up_s, pk_us]
      · rw [up_n _ _ y, pk_un y]
        exact hr.P c hc
    · exact ⟨hr.fc, hr.ft, hr.rt, hr.rn, hr.rg, hr.mt, hr.mn, hr.mg, hr.c⟩
  · rw [if_neg e] at r1
    have r2 := M_parent ol orc A I L g c p
    rw [if_neg e] at r2
    exact ⟨0, _, _, _, _, r1, r2, w, ts, tb, Inv_thr h 0⟩
theorem B_field (h : Inv w ts tb A I) (c p t : Int32) : both ol orc L g 100 120 [.int c, .int p, .int t] A I := by
  have r1 := V_field ol orc A I L g c p t
  by_cases e : (0 ≤ c ∧ c < 6) ∧ (0 ≤ p ∧ p < 8) ∧ tKnown t
  · rw [if_pos e] at r1
    have r2 := M_field ol orc (sA (sA A 3 c.toNatClampNeg p) 4 c.toNatClampNeg t) I L g c p t
    rw [if_pos e] at r2
    obtain ⟨a, ha, ea⟩ := nI_ofN (n := 6) (i := c) (by decide) e.1.1 e.1.2
    obtain ⟨b, hb, eb⟩ := nI_ofN (n := 8) (i := p) (by decide) e.2.1.1 e.2.1.2
    subst ea eb
    have ec : (nI a).toNatClampNeg = a := clampN (by omega)
    rw [ec] at r1 r2
    refine ⟨1, _, _, _, _, r1, r2, mkW w.P (up w.fc a b) (up w.ft a t) w.rt w.rn w.rg w.mt w.mn w.mg w.cs w.cb, ts, tb, ?_⟩
    obtain ⟨k, hw, hr, ht, hm⟩ := h
    refine ⟨⟨k.P, ?_, ?_, k.2.2.2⟩, ⟨hw.P, ?_, ?_, ?_⟩, ⟨hr.P, ?_, ?_, ?_⟩, hTab_fr ht rfl rfl, hTaM_fr hm rfl rfl⟩
    · intro f hf
      show up w.fc a b f < 8
      by_cases y : f = a
      · rw [y, up_s]
        exact hb
      · rw [up_n _ _ y]
        exact k.fc f hf
    · intro f hf
      show tKnown (up w.ft a t f)
      by_cases y : f = a
      · rw [y, up_s]
        exact e.2.2
      · rw [up_n _ _ y]
        exact k.ft f hf
    · intro f hf
      show upd (A 3) a (nI b) f = nI (up w.fc a b f)
      by_cases y : f = a
      · rw [y, up_s, pk_us]
      · rw [up_n _ _ y, pk_un y]
        exact hw.fc f hf
    · intro f hf
      show upd (A 4) a t f = up w.ft a t f
      by_cases y : f = a
      · rw [y, up_s, pk_us]
      · rw [up_n _ _ y, pk_un y]
        exact hw.ft f hf
    · exact ⟨fun r hr1 k1 hk1 => by
        rw [sA_o _ _ _ (by omega), sA_o _ _ _ (by omega), sA_o _ _ _ (by omega), sA_o _ _ _ (by omega)]
        exact hw.rt r hr1 k1 hk1, fun r hr1 => by
        rw [sI_n _ _ (by omega)]
        exact hw.rn r hr1, fun r hr1 => by
        rw [sI_n _ _ (by omega)]
        exact hw.rg r hr1, hw.mt, hw.mn, hw.mg, hw.c⟩
    · intro f hf
      show upd (A 50) a (nI b) f = nI (up w.fc a b f)
      by_cases y : f = a
      · rw [y, up_s, pk_us]
      · rw [up_n _ _ y, pk_un y]
        exact hr.fc f hf
    · intro f hf
      show upd (A 51) a t f = up w.ft a t f
      by_cases y : f = a
      · rw [y, up_s, pk_us]
      · rw [up_n _ _ y, pk_un y]
        exact hr.ft f hf
    · exact ⟨hr.rt, hr.rn, hr.rg, hr.mt, hr.mn, hr.mg, hr.c⟩
  · rw [if_neg e] at r1
    have r2 := M_field ol orc A I L g c p t
    rw [if_neg e] at r2
    exact ⟨0, _, _, _, _, r1, r2, w, ts, tb, Inv_thr h 0⟩
/-- a row of four told types -/
def sg4 (x y z u : Int32) : Nat → Int32 := fun k => if k = 0 then x else if k = 1 then y else if k = 2 then z else u
theorem sg_ok {x y z u t : Int32} (h : sgOK x y z u t) : ∃ n, n ≤ 4 ∧ sgN x y z u = nI n ∧ (∀ k, k < n → tKnown (sg4 x y z u k)) ∧ (u = -1 → n ≤ 3) := by
  obtain ⟨-, h1, h2, h3, h4⟩ := h
  by_cases c1 : x = -1
  · exact ⟨0, by omega, if_pos c1, fun k hk => absurd hk (Nat.not_lt_zero _), fun _ => by omega⟩
  · have k1 := h1.resolve_left c1
    by_cases c2 : y = -1
    · refine ⟨1, by omega, by rw [sgN, if_neg c1, if_pos c2]; rfl, ?_, fun _ => by omega⟩
      intro k hk
      obtain rfl : k = 0 := by omega
      exact k1
    · have k2 := (h2.resolve_left c2).2
      by_cases c3 : z = -1
      · refine ⟨2, by omega, by rw [sgN, if_neg c1, if_neg c2, if_pos c3]; rfl, ?_, fun _ => by omega⟩
        intro k hk
        have : k = 0 ∨ k = 1 := by omega
        rcases this with rfl | rfl
        · exact k1
        · exact k2
      · have k3 := (h3.resolve_left c3).2
        by_cases c4 : u = -1
        · refine ⟨3, by omega, by rw [sgN, if_neg c1, if_neg c2, if_neg c3, if_pos c4]; rfl, ?_, fun _ => by omega⟩
          intro k hk
          have : k = 0 ∨ k = 1 ∨ k = 2 := by omega
          rcases this with rfl | rfl | rfl
          · exact k1
          · exact k2
          · exact k3
        · have k4 := (h4.resolve_left c4).2
          refine ⟨4, by omega, by rw [sgN, if_neg c1, if_neg c2, if_neg c3, if_neg c4]; rfl, ?_, fun y => absurd y c4⟩
          intro k hk
          have : k = 0 ∨ k = 1 ∨ k = 2 ∨ k = 3 := by omega
          rcases this with rfl | rfl | rfl | rfl
          · exact k1
          · exact k2
          · exact k3
          · exact k4
theorem sg_row (f : Nat → Int32) (x y z u : Int32) : ∀ k, k < 4 → upd (upd (upd (upd f 0 x) 1 y) 2 z) 3 u k = sg4 x y z u k := by
  intro k hk
  have : k = 0 ∨ k = 1 ∨ k = 2 ∨ k = 3 := by omega
  rcases this with rfl | rfl | rfl | rfl <;> rfl
theorem sA4 (A : Nat → Nat → Int32) (a : Nat) (x y z u : Int32) : sA (sA (sA (sA A a 0 x) a 1 y) a 2 z) a 3 u a = upd (upd (upd (upd (A a) 0 x) 1 y) 2 z) 3 u := by
  unfold sA
  simp only [sF_s]
theorem B_method (h : Inv w ts tb A I) (x y z u t : Int32) : both ol orc L g 102 123 [.int x, .int y, .int z, .int u, .int t] A I := by
  have r1 := V_method ol orc A I L g x y z u t
  by_cases e : sgOK x y z u t
  · rw [if_pos e] at r1
    have r2 := M_method ol orc (sA (sA (sA (sA A 7 0 x) 7 1 y) 7 2 z) 7 3 u) (sI (sI I 6 1 (sgN x y z u)) 6 2 t) L g x y z u t
    rw [if_pos e] at r2
    obtain ⟨n, hn, en, hkn, -⟩ := sg_ok e
    rw [en] at r1 r2
    refine ⟨1, _, _, _, _, r1, r2, mkW w.P w.fc w.ft w.rt w.rn w.rg (sg4 x y z u) n t w.cs w.cb, ts, tb, ?_⟩
    obtain ⟨k, hw, hr, ht, hm⟩ := h
    refine ⟨⟨k.P, k.fc, k.ft, k.rn, k.rt, k.rg, hn, hkn, e.1, k.cs, k.cb⟩, ⟨hw.P, hw.fc, hw.ft, ?_, ?_, ?_, ?_, rfl, rfl, hw.c⟩, ⟨hr.P, hr.fc, hr.ft, hr.rt, hr.rn, hr.rg, ?_, rfl, rfl, hr.c⟩, hTab_fr ht rfl rfl, hTaM_fr hm rfl rfl⟩
    · intro r hr1 k1 hk1
      rw [sA_o _ _ _ (by omega), sA_o _ _ _ (by omega), sA_o _ _ _ (by omega), sA_o _ _ _ (by omega), sA_o _ _ _ (by omega), sA_o _ _ _ (by omega), sA_o _ _ _ (by omega), sA_o _ _ _ (by omega)]
      exact hw.rt r hr1 k1 hk1
    · intro r hr1
      rw [sI_n _ _ (by omega), sI_n _ _ (by omega), sI_n _ _ (by omega), sI_n _ _ (by omega), sI_n _ _ (by omega)]
      exact hw.rn r hr1
    · intro r hr1
      rw [sI_n _ _ (by omega), sI_n _ _ (by omega), sI_n _ _ (by omega), sI_n _ _ (by omega), sI_n _ _ (by omega)]
      exact hw.rg r hr1
    · intro k1 hk1
      rw [sA_o _ _ _ (by decide), sA_o _ _ _ (by decide), sA_o _ _ _ (by decide), sA_o _ _ _ (by decide), sA4]
      exact sg_row _ _ _ _ _ k1 hk1
    · intro k1 hk1
      rw [sA4]
      exact sg_row _ _ _ _ _ k1 hk1
  · rw [if_neg e] at r1
    have r2 := M_method ol orc A I L g x y z u t
    rw [if_neg e] at r2
    exact ⟨0, _, _, _, _, r1, r2, w, ts, tb, Inv_thr h 0⟩
theorem B_routine0 (h : Inv w ts tb A I) (x y z t : Int32) : both ol orc L g 101 122 [.int 0, .int x, .int y, .int z, .int t] A I := by
  have r1 := V_routine0 ol orc A I L g x y z t
  by_cases e : sgOK x y z (-1) t
  · rw [if_pos e] at r1
    have r2 := M_routine0 ol orc (sA (sA (sA (sA A 9 0 x) 9 1 y) 9 2 z) 9 3 (-1)) (sI (sI I 8 1 (sgN x y z (-1))) 8 2 t) L g x y z t
    rw [if_pos e] at r2
    obtain ⟨n, -, en, hkn, h3⟩ := sg_ok e
    have hn := h3 rfl
    rw [en] at r1 r2
    refine ⟨1, _, _, _, _, r1, r2, mkW w.P w.fc w.ft (up w.rt 0 (sg4 x y z (-1))) (up w.rn 0 n) (up w.rg 0 t) w.mt w.mn w.mg w.cs w.cb, ts, tb, ?_⟩
    obtain ⟨k, hw, hr, ht, hm⟩ := h
    refine ⟨⟨k.P, k.fc, k.ft, ?_, ?_, ?_, k.mn, k.mt, k.mg, k.cs, k.cb⟩, ⟨hw.P, hw.fc, hw.ft, ?_, ?_, ?_, hw.mt, hw.mn, hw.mg, hw.c⟩, ⟨hr.P, hr.fc, hr.ft, ?_, ?_, ?_, hr.mt, hr.mn, hr.mg, hr.c⟩, hTab_fr ht rfl rfl, hTaM_fr hm rfl rfl⟩
    · intro r hr1
      show up w.rn 0 n r ≤ 3
      by_cases y : r = 0
      · rw [y, up_s]
        exact hn
      · rw [up_n _ _ y]
        exact k.rn r hr1
    · intro r k1 hr1 hk1
      have hk1 : k1 < up w.rn 0 n r := hk1
      show tKnown (up w.rt 0 (sg4 x y z (-1)) r k1)
      by_cases y : r = 0
      · rw [y, up_s] at hk1 ⊢
        exact hkn k1 hk1
      · rw [up_n _ _ y] at hk1 ⊢
        exact k.rt r k1 hr1 hk1
    · intro r hr1
      show up w.rg 0 t r = 0 ∨ tKnown (up w.rg 0 t r)
      by_cases y : r = 0
      · rw [y, up_s]
        exact e.1
      · rw [up_n _ _ y]
        exact k.rg r hr1
    · intro r hr1 k1 hk1
      rw [sA_o _ _ _ (by omega), sA_o _ _ _ (by omega), sA_o _ _ _ (by omega), sA_o _ _ _ (by omega), sA_o _ _ _ (by omega)]
      show _ = up w.rt 0 (sg4 x y z (-1)) r k1
      by_cases y : r = 0
      · subst y
        show sA (sA (sA (sA A 9 0 x) 9 1 _) 9 2 z) 9 3 (-1) 9 k1 = _
        rw [sA4, up_s]
        exact sg_row _ _ _ _ _ k1 (by omega)
      · rw [up_n _ _ y, sA_o _ _ _ (by omega), sA_o _ _ _ (by omega), sA_o _ _ _ (by omega), sA_o _ _ _ (by omega)]
        exact hw.rt r hr1 k1 hk1
    · intro r hr1
      rw [sI_n _ _ (by omega), sI_n _ _ (by omega)]
      show _ = nI (up w.rn 0 n r)
      by_cases y : r = 0
      · subst y
        rw [up_s]
        exact sI_s _ _ _ _
      · rw [up_n _ _ y, sI_n _ _ (by omega)]
        exact hw.rn r hr1
    · intro r hr1
      rw [sI_n _ _ (by omega)]
      show _ = up w.rg 0 t r
      by_cases y : r = 0
      · subst y
        rw [up_s]
        exact sI_s _ _ _ _
      · rw [up_n _ _ y, sI_n _ _ (by omega), sI_n _ _ (by omega)]
        exact hw.rg r hr1
    · intro r hr1 k1 hk1
      show upd (upd (upd (A 52) (3 * 0) x) (3 * 0 + 1) y) (3 * 0 + 2) z (3 * r + k1) = up w.rt 0 (sg4 x y z (-1)) r k1
      by_cases q : r = 0
      · subst q
        rw [up_s]
        have : k1 = 0 ∨ k1 = 1 ∨ k1 = 2 := by omega
        rcases this with rfl | rfl | rfl <;> rfl
      · rw [up_n _ _ q, pk_un (by omega), pk_un (by omega), pk_un (by omega)]
        exact hr.rt r hr1 k1 hk1
    · intro r hr1
      show upd (A 53) 0 (nI n) r = nI (up w.rn 0 n r)
      by_cases q : r = 0
      · rw [q, up_s, pk_us]
      · rw [up_n _ _ q, pk_un q]
        exact hr.rn r hr1
    · intro r hr1
      show upd (A 54) 0 t r = up w.rg 0 t r
      by_cases q : r = 0
      · rw [q, up_s, pk_us]
      · rw [up_n _ _ q, pk_un q]
        exact hr.rg r hr1
  · rw [if_neg e] at r1
    have r2 := M_routine0 ol orc A I L g x y z t
    rw [if_neg e] at r2
    exact ⟨0, _, _, _, _, r1, r2, w, ts, tb, Inv_thr h 0⟩
theorem B_routine1 (h : Inv w ts tb A I) (x y z t : Int32) : both ol orc L g 101 122 [.int 1, .int x, .int y, .int z, .int t] A I := by
  have r1 := V_routine1 ol orc A I L g x y z t
  by_cases e : sgOK x y z (-1) t
  · rw [if_pos e] at r1
    have r2 := M_routine1 ol orc (sA (sA (sA (sA A 11 0 x) 11 1 y) 11 2 z) 11 3 (-1)) (sI (sI I 10 1 (sgN x y z (-1))) 10 2 t) L g x y z t
    rw [if_pos e] at r2
    obtain ⟨n, -, en, hkn, h3⟩ := sg_ok e
    have hn := h3 rfl
    rw [en] at r1 r2
    refine ⟨1, _, _, _, _, r1, r2, mkW w.P w.fc w.ft (up w.rt 1 (sg4 x y z (-1))) (up w.rn 1 n) (up w.rg 1 t) w.mt w.mn w.mg w.cs w.cb, ts, tb, ?_⟩
    obtain ⟨k, hw, hr, ht, hm⟩ := h
    refine ⟨⟨k.P, k.fc, k.ft, ?_, ?_, ?_, k.mn, k.mt, k.mg, k.cs, k.cb⟩, ⟨hw.P, hw.fc, hw.ft, ?_, ?_, ?_, hw.mt, hw.mn, hw.mg, hw.c⟩, ⟨hr.P, hr.fc, hr.ft, ?_, ?_, ?_, hr.mt, hr.mn, hr.mg, hr.c⟩, hTab_fr ht rfl rfl, hTaM_fr hm rfl rfl⟩
    · intro r hr1
      show up w.rn 1 n r ≤ 3
      by_cases y : r = 1
      · rw [y, up_s]
        exact hn
      · rw [up_n _ _ y]
        exact k.rn r hr1
    · intro r k1 hr1 hk1
      have hk1 : k1 < up w.rn 1 n r := hk1
      show tKnown (up w.rt 1 (sg4 x y z (-1)) r k1)
      by_cases y : r = 1
      · rw [y, up_s] at hk1 ⊢
        exact hkn k1 hk1
      · rw [up_n _ _ y] at hk1 ⊢
        exact k.rt r k1 hr1 hk1
    · intro r hr1
      show up w.rg 1 t r = 0 ∨ tKnown (up w.rg 1 t r)
      by_cases y : r = 1
      · rw [y, up_s]
        exact e.1
      · rw [up_n _ _ y]
        exact k.rg r hr1
    · intro r hr1 k1 hk1
      rw [sA_o _ _ _ (by omega), sA_o _ _ _ (by omega), sA_o _ _ _ (by omega), sA_o _ _ _ (by omega), sA_o _ _ _ (by omega)]
      show _ = up w.rt 1 (sg4 x y z (-1)) r k1
      by_cases y : r = 1
      · subst y
        show sA (sA (sA (sA A 11 0 x) 11 1 _) 11 2 z) 11 3 (-1) 11 k1 = _
        rw [sA4, up_s]
        exact sg_row _ _ _ _ _ k1 (by omega)
      · rw [up_n _ _ y, sA_o _ _ _ (by omega), sA_o _ _ _ (by omega), sA_o _ _ _ (by omega), sA_o _ _ _ (by omega)]
        exact hw.rt r hr1 k1 hk1
    · intro r hr1
      rw [sI_n _ _ (by omega), sI_n _ _ (by omega)]
      show _ = nI (up w.rn 1 n r)
      by_cases y : r = 1
      · subst y
        rw [up_s]
        exact sI_s _ _ _ _
      · rw [up_n _ _ y, sI_n _ _ (by omega)]
        exact hw.rn r hr1
    · intro r hr1
      rw [sI_n _ _ (by omega)]
      show _ = up w.rg 1 t r
      by_cases y : r = 1
      · subst y
        rw [up_s]
        exact sI_s _ _ _ _
      · rw [up_n _ _ y, sI_n _ _ (by omega), sI_n _ _ (by omega)]
        exact hw.rg r hr1
    · intro r hr1 k1 hk1
      show upd (upd (upd (A 52) (3 * 1) x) (3 * 1 + 1) y) (3 * 1 + 2) z (3 * r + k1) = up w.rt 1 (sg4 x y z (-1)) r k1
      by_cases q : r = 1
      · subst q
        rw [up_s]
        have : k1 = 0 ∨ k1 = 1 ∨ k1 = 2 := by omega
        rcases this with rfl | rfl | rfl <;> rfl
      · rw [up_n _ _ q, pk_un (by omega), pk_un (by omega), pk_un (by omega)]
        exact hr.rt r hr1 k1 hk1
    · intro r hr1
      show upd (A 53) 1 (nI n) r = nI (up w.rn 1 n r)
      by_cases q : r = 1
      · rw [q, up_s, pk_us]
      · rw [up_n _ _ q, pk_un q]
        exact hr.rn r hr1
    · intro r hr1
      show upd (A 54) 1 t r = up w.rg 1 t r
      by_cases q : r = 1
      · rw [q, up_s, pk_us]
      · rw [up_n _ _ q, pk_un q]
        exact hr.rg r hr1
  · rw [if_neg e] at r1
    have r2 := M_routine1 ol orc A I L g x y z t
    rw [if_neg e] at r2
    exact ⟨0, _, _, _, _, r1, r2, w, ts, tb, Inv_thr h 0⟩
theorem B_routine2 (h : Inv w ts tb A I) (x y z t : Int32) : both ol orc L g 101 122 [.int 2, .int x, .int y, .int z, .int t] A I := by
  have r1 := V_routine2 ol orc A I L g x y z t
  by_cases e : sgOK x y z (-1) t
  · rw [if_pos e] at r1
    have r2 := M_routine2 ol orc (sA (sA (sA (sA A 13 0 x) 13 1 y) 13 2 z) 13 3 (-1)) (sI (sI I 12 1 (sgN x y z (-1))) 12 2 t) L g x y z t
    rw [if_pos e] at r2
    obtain ⟨n, -, en, hkn, h3⟩ := sg_ok e
    have hn := h3 rfl
    rw [en] at r1 r2
    refine ⟨1, _, _, _, _, r1, r2, mkW w.P w.fc w.ft (up w.rt 2 (sg4 x y z (-1))) (up w.rn 2 n) (up w.rg 2 t) w.mt w.mn w.mg w.cs w.cb, ts, tb, ?_⟩
    obtain ⟨k, hw, hr, ht, hm⟩ := h
    refine ⟨⟨k.P, k.fc, k.ft, ?_, ?_, ?_, k.mn, k.mt, k.mg, k.cs, k.cb⟩, ⟨hw.P, hw.fc, hw.ft, ?_, ?_, ?_, hw.mt, hw.mn, hw.mg, hw.c⟩, ⟨hr.P, hr.fc, hr.ft, ?_, ?_, ?_, hr.mt, hr.mn, hr.mg, hr.c⟩, hTab_fr ht rfl rfl, hTaM_fr hm rfl rfl⟩
    · intro r hr1
      show up w.rn 2 n r ≤ 3
      by_cases y : r = 2
      · rw [y, up_s]
        exact hn
      · rw [up_n _ _ y]
        exact k.rn r hr1
    · intro r k1 hr1 hk1
      have hk1 : k1 < up w.rn 2 n r := hk1
      show tKnown (up w.rt 2 (sg4 x y z (-1)) r k1)
      by_cases y : r = 2
      · rw [y, up_s] at hk1 ⊢
        exact hkn k1 hk1
      · rw [up_n _ _ y] at hk1 ⊢
        exact k.rt r k1 hr1 hk1
    · intro r hr1
      show up w.rg 2 t r = 0 ∨ tKnown (up w.rg 2 t r)
      by_cases y : r = 2
      · rw [y, up_s]
        exact e.1
      · rw [up_n _ _ y]
        exact k.rg r hr1
    · intro r hr1 k1 hk1
      rw [sA_o _ _ _ (by omega), sA_o _ _ _ (by omega), sA_o _ _ _ (by omega), sA_o _ _ _ (by omega), sA_o _ _ _ (by omega)]
      show _ = up w.rt 2 (sg4 x y z (-1)) r k1
      by_cases y : r = 2
      · subst y
        show sA (sA (sA (sA A 13 0 x) 13 1 _) 13 2 z) 13 3 (-1) 13 k1 = _
        rw [sA4, up_s]
        exact sg_row _ _ _ _ _ k1 (by omega)
      · rw [up_n _ _ y, sA_o _ _ _ (by omega), sA_o _ _ _ (by omega), sA_o _ _ _ (by omega), sA_o _ _ _ (by omega)]
        exact hw.rt r hr1 k1 hk1
    · intro r hr1
      rw [sI_n _ _ (by omega), sI_n _ _ (by omega)]
      show _ = nI (up w.rn 2 n r)
      by_cases y : r = 2
      · subst y
        rw [up_s]
        exact sI_s _ _ _ _
      · rw [up_n _ _ y, sI_n _ _ (by omega)]
        exact hw.rn r hr1
    · intro r hr1
      rw [sI_n _ _ (by omega)]
      show _ = up w.rg 2 t r
      by_cases y : r = 2
      · subst y
        rw [up_s]
        exact sI_s _ _ _ _
      · rw [up_n _ _ y, sI_n _ _ (by omega), sI_n _ _ (by omega)]
        exact hw.rg r hr1
    · intro r hr1 k1 hk1
      show upd (upd (upd (A 52) (3 * 2) x) (3 * 2 + 1) y) (3 * 2 + 2) z (3 * r + k1) = up w.rt 2 (sg4 x y z (-1)) r k1
      by_cases q : r = 2
      · subst q
        rw [up_s]
        have : k1 = 0 ∨ k1 = 1 ∨ k1 = 2 := by omega
        rcases this with rfl | rfl | rfl <;> rfl
      · rw [up_n _ _ q, pk_un (by omega), pk_un (by omega), pk_un (by omega)]
        exact hr.rt r hr1 k1 hk1
    · intro r hr1
      show upd (A 53) 2 (nI n) r = nI (up w.rn 2 n r)
      by_cases q : r = 2
      · rw [q, up_s, pk_us]
      · rw [up_n _ _ q, pk_un q]
        exact hr.rn r hr1
    · intro r hr1
      show upd (A 54) 2 t r = up w.rg 2 t r
      by_cases q : r = 2
      · rw [q, up_s, pk_us]
      · rw [up_n _ _ q, pk_un q]
        exact hr.rg r hr1
  · rw [if_neg e] at r1
    have r2 := M_routine2 ol orc A I L g x y z t
    rw [if_neg e] at r2
    exact ⟨0, _, _, _, _, r1, r2, w, ts, tb, Inv_thr h 0⟩
theorem B_routine3 (h : Inv w ts tb A I) (x y z t : Int32) : both ol orc L g 101 122 [.int 3, .int x, .int y, .int z, .int t] A I := by
  have r1 := V_routine3 ol orc A I L g x y z t
  by_cases e : sgOK x y z (-1) t
  · rw [if_pos e] at r1
    have r2 := M_routine3 ol orc (sA (sA (sA (sA A 15 0 x) 15 1 y) 15 2 z) 15 3 (-1)) (sI (sI I 14 1 (sgN x y z (-1))) 14 2 t) L g x y z t
    rw [if_pos e] at r2
    obtain ⟨n, -, en, hkn, h3⟩ := sg_ok e
    have hn := h3 rfl
    rw [en] at r1 r2
    refine ⟨1, _, _, _, _, r1, r2, mkW w.P w.fc w.ft (up w.rt 3 (sg4 x y z (-1))) (up w.rn 3 n) (up w.rg 3 t) w.mt w.mn w.mg w.cs w.cb, ts, tb, ?_⟩
    obtain ⟨k, hw, hr, ht, hm⟩ := h
    refine ⟨⟨k.P, k.fc, k.ft, ?_, ?_, ?_, k.mn, k.mt, k.mg, k.cs, k.cb⟩, ⟨hw.P, hw.fc, hw.ft, ?_, ?_, ?_, hw.mt, hw.mn, hw.mg, hw.c⟩, ⟨hr.P, hr.fc, hr.ft, ?_, ?_, ?_, hr.mt, hr.mn, hr.mg, hr.c⟩, hTab_fr ht rfl rfl, hTaM_fr hm rfl rfl⟩
    · intro r hr1
      show up w.rn 3 n r ≤ 3
      by_cases y : r = 3
      · rw [y, up_s]
        exact hn
      · rw [up_n _ _ y]
        exact k.rn r hr1
    · intro r k1 hr1 hk1
      have hk1 : k1 < up w.rn 3 n r := hk1
      show tKnown (up w.rt 3 (sg4 x y z (-1)) r k1)
      by_cases y : r = 3
      · rw [y, up_s] at hk1 ⊢
        exact hkn k1 hk1
      · rw [up_n _ _ y] at hk1 ⊢
        exact k.rt r k1 hr1 hk1
    · intro r hr1
      show up w.rg 3 t r = 0 ∨ tKnown (up w.rg 3 t r)
      by_cases y : r = 3
      · rw [y, up_s]
        exact e.1
      · rw [up_n _ _ y]
        exact k.rg r hr1
    · intro r hr1 k1 hk1
      rw [sA_o _ _ _ (by omega), sA_o _ _ _ (by omega), sA_o _ _ _ (by omega), sA_o _ _ _ (by omega), sA_o _ _ _ (by omega)]
      show _ = up w.rt 3 (sg4 x y z (-1)) r k1
      by_cases y : r = 3
      · subst y
        show sA (sA (sA (sA A 15 0 x) 15 1 _) 15 2 z) 15 3 (-1) 15 k1 = _
        rw [sA4, up_s]
        exact sg_row _ _ _ _ _ k1 (by omega)
      · rw [up_n _ _ y, sA_o _ _ _ (by omega), sA_o _ _ _ (by omega), sA_o _ _ _ (by omega), sA_o _ _ _ (by omega)]
        exact hw.rt r hr1 k1 hk1
    · intro r hr1
      rw [sI_n _ _ (by omega), sI_n _ _ (by omega)]
      show _ = nI (up w.rn 3 n r)
      by_cases y : r = 3
      · subst y
        rw [up_s]
        exact sI_s _ _ _ _
      · rw [up_n _ _ y, sI_n _ _ (by omega)]
        exact hw.rn r hr1
    · intro r hr1
      rw [sI_n _ _ (by omega)]
      show _ = up w.rg 3 t r
      by_cases y : r = 3
      · subst y
        rw [up_s]
        exact sI_s _ _ _ _
      · rw [up_n _ _ y, sI_n _ _ (by omega), sI_n _ _ (by omega)]
        exact hw.rg r hr1
    · intro r hr1 k1 hk1
      show upd (upd (upd (A 52) (3 * 3) x) (3 * 3 + 1) y) (3 * 3 + 2) z (3 * r + k1) = up w.rt 3 (sg4 x y z (-1)) r k1
      by_cases q : r = 3
      · subst q
        rw [up_s]
        have : k1 = 0 ∨ k1 = 1 ∨ k1 = 2 := by omega
        rcases this with rfl | rfl | rfl <;> rfl
      · rw [up_n _ _ q, pk_un (by omega), pk_un (by omega), pk_un (by omega)]
        exact hr.rt r hr1 k1 hk1
    · intro r hr1
      show upd (A 53) 3 (nI n) r = nI (up w.rn 3 n r)
      by_cases q : r = 3
      · rw [q, up_s, pk_us]
      · rw [up_n _ _ q, pk_un q]
        exact hr.rn r hr1
    · intro r hr1
      show upd (A 54) 3 t r = up w.rg 3 t r
      by_cases q : r = 3
      · rw [q, up_s, pk_us]
      · rw [up_n _ _ q, pk_un q]
        exact hr.rg r hr1
  · rw [if_neg e] at r1
    have r2 := M_routine3 ol orc A I L g x y z t
    rw [if_neg e] at r2
    exact ⟨0, _, _, _, _, r1, r2, w, ts, tb, Inv_thr h 0⟩
theorem B_routine4 (h : Inv w ts tb A I) (x y z t : Int32) : both ol orc L g 101 122 [.int 4, .int x, .int y, .int z, .int t] A I := by
  have r1 := V_routine4 ol orc A I L g x y z t
  by_cases e : sgOK x y z (-1) t
  · rw [if_pos e] at r1
    have r2 := M_routine4 ol orc (sA (sA (sA (sA A 17 0 x) 17 1 y) 17 2 z) 17 3 (-1)) (sI (sI I 16 1 (sgN x y z (-1))) 16 2 t) L g x y z t
    rw [if_pos e] at r2
    obtain ⟨n, -, en, hkn, h3⟩ := sg_ok e
    have hn := h3 rfl
    rw [en] at r1 r2
    refine ⟨1, _, _, _, _, r1, r2, mkW w.P w.fc w.ft (up w.rt 4 (sg4 x y z (-1))) (up w.rn 4 n) (up w.rg 4 t) w.mt w.mn w.mg w.cs w.cb, ts, tb, ?_⟩
    obtain ⟨k, hw, hr, ht, hm⟩ := h
    refine ⟨⟨k.P, k.fc, k.ft, ?_, ?_, ?_, k.mn, k.mt, k.mg, k.cs, k.cb⟩, ⟨hw.P, hw.fc, hw.ft, ?_, ?_, ?_, hw.mt, hw.mn, hw.mg, hw.c⟩, ⟨hr.P, hr.fc, hr.ft, ?_, ?_, ?_, hr.mt, hr.mn, hr.mg, hr.c⟩, hTab_fr ht rfl rfl, hTaM_fr hm rfl rfl⟩
    · intro r hr1
      show up w.rn 4 n r ≤ 3
      by_cases y : r = 4
      · rw [y, up_s]
        exact hn
      · rw [up_n _ _ y]
        exact k.rn r hr1
    · intro r k1 hr1 hk1
      have hk1 : k1 < up w.rn 4 n r := hk1
      show tKnown (up w.rt 4 (sg4 x y z (-1)) r k1)
      by_cases y : r = 4
      · rw [y, up_s] at hk1 ⊢
        exact hkn k1 hk1
      · rw [up_n _ _ y] at hk1 ⊢
        exact k.rt r k1 hr1 hk1
    · intro r hr1
      show up w.rg 4 t r = 0 ∨ tKnown (up w.rg 4 t r)
      by_cases y : r = 4
      · rw [y, up_s]
        exact e.1
      · rw [up_n _ _ y]
        exact k.rg r hr1
    · intro r hr1 k1 hk1
      rw [sA_o _ _ _ (by omega), sA_o _ _ _ (by omega), sA_o _ _ _ (by omega), sA_o _ _ _ (by omega), sA_o _ _ _ (by omega)]
      show _ = up w.rt 4 (sg4 x y z (-1)) r k1
      by_cases y : r = 4
      · subst y
        show sA (sA (sA (sA A 17 0 x) 17 1 _) 17 2 z) 17 3 (-1) 17 k1 = _
        rw [sA4, up_s]
        exact sg_row _ _ _ _ _ k1 (by omega)
      · rw [up_n _ _ y, sA_o _ _ _ (by omega), sA_o _ _ _ (by omega), sA_o _ _ _ (by omega), sA_o _ _ _ (by omega)]
        exact hw.rt r hr1 k1 hk1
    · intro r hr1
      rw [sI_n _ _ (by omega), sI_n _ _ (by omega)]
      show _ = nI (up w.rn 4 n r)
      by_cases y : r = 4
      · subst y
        rw [up_s]
        exact sI_s _ _ _ _
      · rw [up_n _ _ y, sI_n _ _ (by omega)]
        exact hw.rn r hr1
    · intro r hr1
      rw [sI_n _ _ (by omega)]
      show _ = up w.rg 4 t r
      by_cases y : r = 4
      · subst y
        rw [up_s]
        exact sI_s _ _ _ _
      · rw [up_n _ _ y, sI_n _ _ (by omega), sI_n _ _ (by omega)]
        exact hw.rg r hr1
    · intro r hr1 k1 hk1
      show upd (upd (upd (A 52) (3 * 4) x) (3 * 4 + 1) y) (3 * 4 + 2) z (3 * r + k1) = up w.rt 4 (sg4 x y z (-1)) r k1
      by_cases q : r = 4
      · subst q
        rw [up_s]
        have : k1 = 0 ∨ k1 = 1 ∨ k1 = 2 := by omega
        rcases this with rfl | rfl | rfl <;> rfl
      · rw [up_n _ _ q, pk_un (by omega), pk_un (by omega), pk_un (by omega)]
        exact hr.rt r hr1 k1 hk1
    · intro r hr1
      show upd (A 53) 4 (nI n) r = nI (up w.rn 4 n r)
      by_cases q : r = 4
      · rw [q, up_s, pk_us]
      · rw [up_n _ _ q, pk_un q]
        exact hr.rn r hr1
    · intro r hr1
      show upd (A 54) 4 t r = up w.rg 4 t r
      by_cases q : r = 4
      · rw [q, up_s, pk_us]
      · rw [up_n _ _ q, pk_un q]
        exact hr.rg r hr1
  · rw [if_neg e] at r1
    have r2 := M_routine4 ol orc A I L g x y z t
    rw [if_neg e] at r2
    exact ⟨0, _, _, _, _, r1, r2, w, ts, tb, Inv_thr h 0⟩
theorem B_routine5 (h : Inv w ts tb A I) (x y z t : Int32) : both ol orc L g 101 122 [.int 5, .int x, .int y, .int z, .int t] A I := by
  have r1 := V_routine5 ol orc A I L g x y z t
  by_cases e : sgOK x y z (-1) t
  · rw [if_pos e] at r1
    have r2 := M_routine5 ol orc (sA (sA (sA (sA A 19 0 x) 19 1 y) 19 2 z) 19 3 (-1)) (sI (sI I 18 1 (sgN x y z (-1))) 18 2 t) L g x y z t
    rw [if_pos e] at r2
    obtain ⟨n, -, en, hkn, h3⟩ := sg_ok e
    have hn := h3 rfl
    rw [en] at r1 r2
    refine ⟨1, _, _, _, _, r1, r2, mkW w.P w.fc w.ft (up w.rt 5 (sg4 x y z (-1))) (up w.rn 5 n) (up w.rg 5 t) w.mt w.mn w.mg w.cs w.cb, ts, tb, ?_⟩
    obtain ⟨k, hw, hr, ht, hm⟩ := h
    refine ⟨⟨k.P, k.fc, k.ft, ?_, ?_, ?_, k.mn, k.mt, k.mg, k.cs, k.cb⟩, ⟨hw.P, hw.fc, hw.ft, ?_, ?_, ?_, hw.mt, hw.mn, hw.mg, hw.c⟩, ⟨hr.P, hr.fc, hr.ft, ?_, ?_, ?_, hr.mt, hr.mn, hr.mg, hr.c⟩, hTab_fr ht rfl rfl, hTaM_fr hm rfl rfl⟩
    · intro r hr1
      show up w.rn 5 n r ≤ 3
      by_cases y : r = 5
      · rw [y, up_s]
        exact hn
      · rw [up_n _ _ y]
        exact k.rn r hr1
    · intro r k1 hr1 hk1
      have hk1 : k1 < up w.rn 5 n r := hk1
      show tKnown (up w.rt 5 (sg4 x y z (-1)) r k1)
      by_cases y : r = 5
      · rw [y, up_s] at hk1 ⊢
        exact hkn k1 hk1
      · rw [up_n _ _ y] at hk1 ⊢
        exact k.rt r k1 hr1 hk1
    · intro r hr1
      show up w.rg 5 t r = 0 ∨ tKnown (up w.rg 5 t r)
      by_cases y : r = 5
      · rw [y, up_s]
        exact e.1
      · rw [up_n _ _ y]
        exact k.rg r hr1
    · intro r hr1 k1 hk1
      rw [sA_o _ _ _ (by omega), sA_o _ _ _ (by omega), sA_o _ _ _ (by omega), sA_o _ _ _ (by omega), sA_o _ _ _ (by omega)]
      show _ = up w.rt 5 (sg4 x y z (-1)) r k1
      by_cases y : r = 5
      · subst y
        show sA (sA (sA (sA A 19 0 x) 19 1 _) 19 2 z) 19 3 (-1) 19 k1 = _
        rw [sA4, up_s]
        exact sg_row _ _ _ _ _ k1 (by omega)
      · rw [up_n _ _ y, sA_o _ _ _ (by omega), sA_o _ _ _ (by omega), sA_o _ _ _ (by omega), sA_o _ _ _ (by omega)]
        exact hw.rt r hr1 k1 hk1
    · intro r hr1
      rw [sI_n _ _ (by omega), sI_n _ _ (by omega)]
      show _ = nI (up w.rn 5 n r)
      by_cases y : r = 5
      · subst y
        rw [up_s]
        exact sI_s _ _ _ _
      · rw [up_n _ _ y, sI_n _ _ (by omega)]
        exact hw.rn r hr1
    · intro r hr1
      rw [sI_n _ _ (by omega)]
      show _ = up w.rg 5 t r
      by_cases y : r = 5
      · subst y
        rw [up_s]
        exact sI_s _ _ _ _
      · rw [up_n _ _ y, sI_n _ _ (by omega), sI_n _ _ (by omega)]
        exact hw.rg r hr1
    · intro r hr1 k1 hk1
      show upd (upd (upd (A 52) (3 * 5) x) (3 * 5 + 1) y) (3 * 5 + 2) z (3 * r + k1) = up w.rt 5 (sg4 x y z (-1)) r k1
      by_cases q : r = 5
      · subst q
        rw [up_s]
        have : k1 = 0 ∨ k1 = 1 ∨ k1 = 2 := by omega
        rcases this with rfl | rfl | rfl <;> rfl
      · rw [up_n _ _ q, pk_un (by omega), pk_un (by omega), pk_un (by omega)]
        exact hr.rt r hr1 k1 hk1
    · intro r hr1
      show upd (A 53) 5 (nI n) r = nI (up w.rn 5 n r)
      by_cases q : r = 5
      · rw [q, up_s, pk_us]
      · rw [up_n _ _ q, pk_un q]
        exact hr.rn r hr1
    · intro r hr1
      show upd (A 54) 5 t r = up w.rg 5 t r
      by_cases q : r = 5
      · rw [q, up_s, pk_us]
      · rw [up_n _ _ q, pk_un q]
        exact hr.rg r hr1
  · rw [if_neg e] at r1
    have r2 := M_routine5 ol orc A I L g x y z t
    rw [if_neg e] at r2
    exact ⟨0, _, _, _, _, r1, r2, w, ts, tb, Inv_thr h 0⟩
theorem B_routine (h : Inv w ts tb A I) (r x y z t : Int32) : both ol orc L g 101 122 [.int r, .int x, .int y, .int z, .int t] A I := by
  by_cases e : 0 ≤ r ∧ r < 6
  · obtain ⟨j, hj, ej⟩ := nI_ofN (n := 6) (i := r) (by decide) e.1 e.2
    subst ej
    have : j = 0 ∨ j = 1 ∨ j = 2 ∨ j = 3 ∨ j = 4 ∨ j = 5 := by omega
    rcases this with rfl | rfl | rfl | rfl | rfl | rfl
    · exact B_routine0 ol orc L g h x y z t
    · exact B_routine1 ol orc L g h x y z t
    · exact B_routine2 ol orc L g h x y z t
    · exact B_routine3 ol orc L g h x y z t
    · exact B_routine4 ol orc L g h x y z t
    · exact B_routine5 ol orc L g h x y z t
  · exact ⟨0, _, _, _, _, V_routineN ol orc A I L g x y z t r e, M_routineN ol orc A I L g x y z t r e, w, ts, tb, Inv_thr h 0⟩
theorem apF_at (b : Nat → Int32) : ∀ (m : Nat) (f : Nat → Int32) (sz j : Nat), apF b m f sz j = if sz ≤ j ∧ j < sz + m then b (m - 1 - (j - sz)) else f j := by
  intro m
  induction m with
  | zero =>
    intro f sz j
    rw [if_neg (by omega)]
    rfl
  | succ m ih =>
    intro f sz j
    show apF b m (upd f sz (b m)) (sz + 1) j = _
    rw [ih]
    by_cases c1 : sz + 1 ≤ j ∧ j < sz + 1 + m
    · rw [if_pos c1, if_pos (by omega)]
      congr 1
      omega
    · rw [if_neg c1]
      by_cases c2 : j = sz
      · rw [c2, pk_us, if_pos (by omega)]
        congr 1
        omega
      · rw [pk_un c2, if_neg (by omega)]
theorem byM_nI (b : Int64) (k : Int32) : ∃ x, x < 256 ∧ byM b k = nI x := by
  unfold byM
  generalize b >>> ((8 * k).toInt64 &&& 63) = v
  refine ⟨(v &&& 255).toBitVec.toNat, ?_, ?_⟩
  · have h1 : (v &&& 255).toBitVec.toNat ≤ 255 := by
      rw [Int64.toBitVec_and, BitVec.toNat_and]
      exact Nat.and_le_right
    omega
  · apply Int32.toBitVec.inj
    rw [Int64.toBitVec_toInt32]
    apply BitVec.eq_of_toNat_eq
    rw [BitVec.signExtend_eq_setWidth_of_le _ (by decide), BitVec.toNat_setWidth]
    rfl
end INV
