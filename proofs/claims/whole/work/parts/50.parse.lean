/-! a packed table read: what it means -/
def nxT (ts : Nat) (tb : Nat → Nat) (a : Nat) : Option (Nat × Nat) := if a < ts then some (tb a, a + 1) else none
def tyT (ts : Nat) (tb : Nat → Nat) (a : Nat) : Option (Int32 × Nat) := (nxT ts tb a).bind fun q => if q.1 < 3 then some (nI q.1, q.2) else if q.1 = 7 then (nxT ts tb q.2).bind fun v => if v.1 < 8 then some (nI (16 + v.1), v.2) else none else if q.1 = 8 then (nxT ts tb q.2).bind fun v => if v.1 < 48 then some (nI (64 + v.1), v.2) else none else none
def tyR (ts : Nat) (tb : Nat → Nat) (a : Nat) : Nat → Option ((Nat → Int32) × Nat)
  | 0 => some (fun _ => 0, a)
  | m + 1 => (tyR ts tb a m).bind fun q => (tyT ts tb q.2).bind fun t => some (upd q.1 m t.1, t.2)
def wrt (s : Nat → Int32) (i m : Nat) (r : Nat → Int32) : Nat → Int32 := fun j => if i ≤ j ∧ j < i + m then r (j - i) else s j
def cut (s : Nat → Int32) (k : Nat) : Nat → Int32 := fun j => if j < k then s j else 0
/-- a frame: its place, how many locals, the locals, the height, the stack, where reading goes on -/
def Fr : Type := Nat × Nat × (Nat → Int32) × Nat × (Nat → Int32) × Nat
def frT (ts : Nat) (tb : Nat → Nat) (b many : Nat) (loc : Nat → Int32) (a : Nat) : Option Fr :=
  (nxT ts tb a).bind fun tg => if 127 < tg.1 ∧ tg.1 < 247 then none else
  (if tg.1 < 128 then some (tg.1 % 64, tg.2) else nxT ts tb tg.2).bind fun d =>
  (if tg.1 < 64 ∨ tg.1 = 251 then some (b + d.1, many, loc, 0, (fun _ => 0), d.2)
  else if tg.1 ≤ 247 then (tyR ts tb d.2 1).bind fun r => some (b + d.1, many, loc, 1, r.1, r.2)
  else if tg.1 ≤ 250 then (if many < 251 - tg.1 then none else some (b + d.1, many - (251 - tg.1), cut loc (many - (251 - tg.1)), 0, (fun _ => 0), d.2))
  else if tg.1 ≤ 254 then (if 4 < many + (tg.1 - 251) then none else (tyR ts tb d.2 (tg.1 - 251)).bind fun r => some (b + d.1, many + (tg.1 - 251), wrt loc many (tg.1 - 251) r.1, 0, (fun _ => 0), r.2))
  else (nxT ts tb d.2).bind fun m => if 4 < m.1 then none else (tyR ts tb m.2 m.1).bind fun r => (nxT ts tb r.2).bind fun hh => if 5 < hh.1 then none else (tyR ts tb hh.2 hh.1).bind fun q => some (b + d.1, m.1, wrt (fun _ => 0) 0 m.1 r.1, hh.1, q.1, q.2)).bind fun (f : Fr) => if 48 ≤ f.1 then none else some f
/-- a run that may have met something malformed -/
def post {α : Type} (m m' : Int32) (o : Option α) (x : α) : Prop := (m = 0 ∧ m' = 0 ∧ o = some x) ∨ (m' = 1 ∧ (m = 1 ∨ o = none))
theorem post_ret {α : Type} {m : Int32} (hm : m = 0 ∨ m = 1) (x : α) : post m m (some x) x := hm.elim (fun h => Or.inl ⟨h, h, rfl⟩) (fun h => Or.inr ⟨h, Or.inl h⟩)
theorem post_bad {α : Type} (m : Int32) (x : α) : post m 1 none x := Or.inr ⟨rfl, Or.inr rfl⟩
theorem post_bind {α β : Type} {m m1 m2 : Int32} {o : Option α} {x : α} {f : α → Option β} {y : β} (h1 : post m m1 o x) (h2 : post m1 m2 (f x) y) : post m m2 (o.bind f) y := by
  rcases h1 with ⟨a, b, c⟩ | ⟨a, b⟩
  · subst a b c
    exact h2
  · rcases h2 with ⟨d, e, f2⟩ | ⟨d, e⟩
    · rw [a] at d
      exact absurd d (by decide)
    · refine Or.inr ⟨d, ?_⟩
      rcases b with b | b
      · exact Or.inl b
      · right
        rw [b]
        rfl
theorem post_m {α : Type} {m m' : Int32} {o : Option α} {x : α} (h : post m m' o x) : m' = 0 ∨ m' = 1 := h.elim (fun z => Or.inl z.2.1) (fun z => Or.inr z.1)
theorem post_mono {α : Type} {m : Int32} {o : Option α} {x : α} (h : m = 1 ∨ o = none) : post m 1 o x := Or.inr ⟨rfl, h⟩
theorem post_one {α : Type} {o : Option α} (x : α) : post 1 1 o x := Or.inr ⟨rfl, Or.inl rfl⟩
def hTab (ts : Nat) (tb : Nat → Nat) (A I : Nat → Nat → Int32) : Prop := ts ≤ 120 ∧ (∀ j, j < ts → tb j < 256) ∧ I 24 1 = nI ts ∧ ∀ j, j < ts → A 25 j = nI (tb j)
def hTaM (ts : Nat) (tb : Nat → Nat) (A I : Nat → Nat → Int32) : Prop := ts ≤ 120 ∧ (∀ j, j < ts → tb j < 256) ∧ I 48 13 = nI ts ∧ ∀ j, j < ts → A 57 j = nI (tb j)
def rdI (I : Nat → Nat → Int32) (h c l a m : Int32) : Nat → Nat → Int32 := sI (sI (sI (sI (sI I 28 1 h) 26 1 c) 26 6 l) 26 7 a) 26 8 m
def rdA (A : Nat → Nat → Int32) (Pl s T H : Nat → Int32) : Nat → Nat → Int32 := sF (sF (sF (sF A 27 Pl) 29 s) 31 T) 32 H
section RDI
variable (A I : Nat → Nat → Int32) (h c l a m x : Int32) (Pl s T H f : Nat → Int32) (b i : Nat)
theorem rdr_h : rdI I h c l a m 28 1 = h := rfl
theorem rdr_c : rdI I h c l a m 26 1 = c := rfl
theorem rdr_l : rdI I h c l a m 26 6 = l := rfl
theorem rdr_a : rdI I h c l a m 26 7 = a := rfl
theorem rdr_m : rdI I h c l a m 26 8 = m := rfl
theorem rdr_o (h1 : ¬ b = 26) (h2 : ¬ b = 28) : rdI I h c l a m b i = I b i := by
  unfold rdI sI
  simp [h1, h2]
theorem rdw_h : sI (rdI I h c l a m) 28 1 x = rdI I x c l a m := by
  funext p q
  unfold rdI sI
  grind
theorem rdw_c : sI (rdI I h c l a m) 26 1 x = rdI I h x l a m := by
  funext p q
  unfold rdI sI
  grind
theorem rdw_l : sI (rdI I h c l a m) 26 6 x = rdI I h c x a m := by
  funext p q
  unfold rdI sI
  grind
theorem rdw_a : sI (rdI I h c l a m) 26 7 x = rdI I h c l x m := by
  funext p q
  unfold rdI sI
  grind
theorem rdw_m : sI (rdI I h c l a m) 26 8 x = rdI I h c l a x := sI_sI _ _ _ _ _
theorem rda_P : rdA A Pl s T H 27 = Pl := rfl
theorem rda_s : rdA A Pl s T H 29 = s := rfl
theorem rda_T : rdA A Pl s T H 31 = T := rfl
theorem rda_H : rdA A Pl s T H 32 = H := rfl
theorem rda_o (h1 : ¬ b = 27) (h2 : ¬ b = 29) (h3 : ¬ b = 31) (h4 : ¬ b = 32) : rdA A Pl s T H b = A b := by
  unfold rdA sF
  simp [h1, h2, h3, h4]
theorem rdu_P : sA (rdA A Pl s T H) 27 i x = rdA A (upd Pl i x) s T H := by
  funext q
  unfold sA rdA sF
  grind
theorem rdu_s : sA (rdA A Pl s T H) 29 i x = rdA A Pl (upd s i x) T H := by
  funext q
  unfold sA rdA sF
  grind
theorem rdu_T : sA (rdA A Pl s T H) 31 i x = rdA A Pl s (upd T i x) H := by
  funext q
  unfold sA rdA sF
  grind
theorem rdu_H : sA (rdA A Pl s T H) 32 i x = rdA A Pl s T (upd H i x) := by
  funext q
  unfold sA rdA sF
  grind
theorem rdf_s : sF (rdA A Pl s T H) 29 f = rdA A Pl f T H := by
  funext q
  unfold rdA sF
  grind
theorem rdf_T : sF (rdA A Pl s T H) 31 f = rdA A Pl s f H := by
  funext q
  unfold rdA sF
  grind
theorem rdf_H : sF (rdA A Pl s T H) 32 f = rdA A Pl s T f := by
  funext q
  unfold rdA sF
  grind
end RDI
