/-! what both sides mean: a world, and a step over it -/
def Wd : Type := (Nat → Nat) × (Nat → Nat) × (Nat → Int32) × (Nat → Nat → Int32) × (Nat → Nat) × (Nat → Int32) × (Nat → Int32) × Nat × Int32 × Nat × (Nat → Nat)
def Wd.P (w : Wd) : Nat → Nat := w.1
def Wd.fc (w : Wd) : Nat → Nat := w.2.1
def Wd.ft (w : Wd) : Nat → Int32 := w.2.2.1
def Wd.rt (w : Wd) : Nat → Nat → Int32 := w.2.2.2.1
def Wd.rn (w : Wd) : Nat → Nat := w.2.2.2.2.1
def Wd.rg (w : Wd) : Nat → Int32 := w.2.2.2.2.2.1
def Wd.mt (w : Wd) : Nat → Int32 := w.2.2.2.2.2.2.1
def Wd.mn (w : Wd) : Nat := w.2.2.2.2.2.2.2.1
def Wd.mg (w : Wd) : Int32 := w.2.2.2.2.2.2.2.2.1
def Wd.cs (w : Wd) : Nat := w.2.2.2.2.2.2.2.2.2.1
def Wd.cb (w : Wd) : Nat → Nat := w.2.2.2.2.2.2.2.2.2.2
def okW (w : Wd) : Prop := (okP w.P) ∧ (∀ f, f < 6 → w.fc f < 8) ∧ (∀ f, f < 6 → tKnown (w.ft f)) ∧ (∀ r, r < 6 → w.rn r ≤ 3) ∧ (∀ r k, r < 6 → k < w.rn r → tKnown (w.rt r k)) ∧ (∀ r, r < 6 → w.rg r = 0 ∨ tKnown (w.rg r)) ∧ (w.mn ≤ 4) ∧ (∀ k, k < w.mn → tKnown (w.mt k)) ∧ (w.mg = 0 ∨ tKnown w.mg) ∧ (w.cs ≤ 48) ∧ (∀ j, j < w.cs → w.cb j < 256)
theorem okW.P {w : Wd} (h : okW w) : okP w.P := h.1
theorem okW.fc {w : Wd} (h : okW w) : ∀ f, f < 6 → w.fc f < 8 := h.2.1
theorem okW.ft {w : Wd} (h : okW w) : ∀ f, f < 6 → tKnown (w.ft f) := h.2.2.1
theorem okW.rn {w : Wd} (h : okW w) : ∀ r, r < 6 → w.rn r ≤ 3 := h.2.2.2.1
theorem okW.rt {w : Wd} (h : okW w) : ∀ r k, r < 6 → k < w.rn r → tKnown (w.rt r k) := h.2.2.2.2.1
theorem okW.rg {w : Wd} (h : okW w) : ∀ r, r < 6 → w.rg r = 0 ∨ tKnown (w.rg r) := h.2.2.2.2.2.1
theorem okW.mn {w : Wd} (h : okW w) : w.mn ≤ 4 := h.2.2.2.2.2.2.1
theorem okW.mt {w : Wd} (h : okW w) : ∀ k, k < w.mn → tKnown (w.mt k) := h.2.2.2.2.2.2.2.1
theorem okW.mg {w : Wd} (h : okW w) : w.mg = 0 ∨ tKnown w.mg := h.2.2.2.2.2.2.2.2.1
theorem okW.cs {w : Wd} (h : okW w) : w.cs ≤ 48 := h.2.2.2.2.2.2.2.2.2.1
theorem okW.cb {w : Wd} (h : okW w) : ∀ j, j < w.cs → w.cb j < 256 := h.2.2.2.2.2.2.2.2.2.2
/-- the class's heap holds w -/
def hW (w : Wd) (A I : Nat → Nat → Int32) : Prop := (∀ c, c < 8 → A 2 c = nI (w.P c)) ∧ (∀ f, f < 6 → A 3 f = nI (w.fc f)) ∧ (∀ f, f < 6 → A 4 f = w.ft f) ∧ (∀ r, r < 6 → ∀ k, k < 3 → A (9 + 2 * r) k = w.rt r k) ∧ (∀ r, r < 6 → I (8 + 2 * r) 1 = nI (w.rn r)) ∧ (∀ r, r < 6 → I (8 + 2 * r) 2 = w.rg r) ∧ (∀ k, k < 4 → A 7 k = w.mt k) ∧ (I 6 1 = nI w.mn) ∧ (I 6 2 = w.mg) ∧ (hCode w.cs w.cb A I)
theorem hW.P {w : Wd} {A I : Nat → Nat → Int32} (h : hW w A I) : ∀ c, c < 8 → A 2 c = nI (w.P c) := h.1
theorem hW.fc {w : Wd} {A I : Nat → Nat → Int32} (h : hW w A I) : ∀ f, f < 6 → A 3 f = nI (w.fc f) := h.2.1
theorem hW.ft {w : Wd} {A I : Nat → Nat → Int32} (h : hW w A I) : ∀ f, f < 6 → A 4 f = w.ft f := h.2.2.1
theorem hW.rt {w : Wd} {A I : Nat → Nat → Int32} (h : hW w A I) : ∀ r, r < 6 → ∀ k, k < 3 → A (9 + 2 * r) k = w.rt r k := h.2.2.2.1
theorem hW.rn {w : Wd} {A I : Nat → Nat → Int32} (h : hW w A I) : ∀ r, r < 6 → I (8 + 2 * r) 1 = nI (w.rn r) := h.2.2.2.2.1
theorem hW.rg {w : Wd} {A I : Nat → Nat → Int32} (h : hW w A I) : ∀ r, r < 6 → I (8 + 2 * r) 2 = w.rg r := h.2.2.2.2.2.1
theorem hW.mt {w : Wd} {A I : Nat → Nat → Int32} (h : hW w A I) : ∀ k, k < 4 → A 7 k = w.mt k := h.2.2.2.2.2.2.1
theorem hW.mn {w : Wd} {A I : Nat → Nat → Int32} (h : hW w A I) : I 6 1 = nI w.mn := h.2.2.2.2.2.2.2.1
theorem hW.mg {w : Wd} {A I : Nat → Nat → Int32} (h : hW w A I) : I 6 2 = w.mg := h.2.2.2.2.2.2.2.2.1
theorem hW.c {w : Wd} {A I : Nat → Nat → Int32} (h : hW w A I) : hCode w.cs w.cb A I := h.2.2.2.2.2.2.2.2.2
/-- the reference's heap holds w -/
def hR (w : Wd) (A I : Nat → Nat → Int32) : Prop := (∀ c, c < 8 → A 49 c = nI (w.P c)) ∧ (∀ f, f < 6 → A 50 f = nI (w.fc f)) ∧ (∀ f, f < 6 → A 51 f = w.ft f) ∧ (∀ r, r < 6 → ∀ k, k < 3 → A 52 (3 * r + k) = w.rt r k) ∧ (∀ r, r < 6 → A 53 r = nI (w.rn r)) ∧ (∀ r, r < 6 → A 54 r = w.rg r) ∧ (∀ k, k < 4 → A 55 k = w.mt k) ∧ (I 48 8 = nI w.mn) ∧ (I 48 9 = w.mg) ∧ (hCodM w.cs w.cb A I)
theorem hR.P {w : Wd} {A I : Nat → Nat → Int32} (h : hR w A I) : ∀ c, c < 8 → A 49 c = nI (w.P c) := h.1
theorem hR.fc {w : Wd} {A I : Nat → Nat → Int32} (h : hR w A I) : ∀ f, f < 6 → A 50 f = nI (w.fc f) := h.2.1
theorem hR.ft {w : Wd} {A I : Nat → Nat → Int32} (h : hR w A I) : ∀ f, f < 6 → A 51 f = w.ft f := h.2.2.1
theorem hR.rt {w : Wd} {A I : Nat → Nat → Int32} (h : hR w A I) : ∀ r, r < 6 → ∀ k, k < 3 → A 52 (3 * r + k) = w.rt r k := h.2.2.2.1
theorem hR.rn {w : Wd} {A I : Nat → Nat → Int32} (h : hR w A I) : ∀ r, r < 6 → A 53 r = nI (w.rn r) := h.2.2.2.2.1
theorem hR.rg {w : Wd} {A I : Nat → Nat → Int32} (h : hR w A I) : ∀ r, r < 6 → A 54 r = w.rg r := h.2.2.2.2.2.1
theorem hR.mt {w : Wd} {A I : Nat → Nat → Int32} (h : hR w A I) : ∀ k, k < 4 → A 55 k = w.mt k := h.2.2.2.2.2.2.1
theorem hR.mn {w : Wd} {A I : Nat → Nat → Int32} (h : hR w A I) : I 48 8 = nI w.mn := h.2.2.2.2.2.2.2.1
theorem hR.mg {w : Wd} {A I : Nat → Nat → Int32} (h : hR w A I) : I 48 9 = w.mg := h.2.2.2.2.2.2.2.2.1
theorem hR.c {w : Wd} {A I : Nat → Nat → Int32} (h : hR w A I) : hCodM w.cs w.cb A I := h.2.2.2.2.2.2.2.2.2
theorem hW.fr {w : Wd} {A I A' I' : Nat → Nat → Int32} (h : hW w A I) (hA : ∀ a, a < 23 → A' a = A a) (hI : ∀ a j, a < 23 → I' a j = I a j) : hW w A' I' := ⟨fun c hc => by rw [hA 2 (by decide)]; exact h.P c hc,
  fun c hc => by rw [hA 3 (by decide)]; exact h.fc c hc,
  fun c hc => by rw [hA 4 (by decide)]; exact h.ft c hc,
  fun r hr k hk => by rw [hA _ (by omega)]; exact h.rt r hr k hk,
  fun r hr => by rw [hI _ _ (by omega)]; exact h.rn r hr,
  fun r hr => by rw [hI _ _ (by omega)]; exact h.rg r hr,
  fun k hk => by rw [hA 7 (by decide)]; exact h.mt k hk,
  by rw [hI _ _ (by omega)]; exact h.mn,
  by rw [hI _ _ (by omega)]; exact h.mg,
  ⟨h.c.1, h.c.2.1, by rw [hI _ _ (by omega)]; exact h.c.2.2.1, fun j hj => by rw [hA 22 (by decide)]; exact h.c.2.2.2 j hj⟩⟩
theorem hR.fr {w : Wd} {A I A' I' : Nat → Nat → Int32} (h : hR w A I) (hA : ∀ a, 49 ≤ a → a < 57 → A' a = A a) (hI : ∀ j, j < 12 → I' 48 j = I 48 j) : hR w A' I' := ⟨fun c hc => by rw [hA 49 (by decide) (by decide)]; exact h.P c hc,
  fun c hc => by rw [hA 50 (by decide) (by decide)]; exact h.fc c hc,
  fun c hc => by rw [hA 51 (by decide) (by decide)]; exact h.ft c hc,
  fun r hr k hk => by rw [hA 52 (by decide) (by decide)]; exact h.rt r hr k hk,
  fun r hr => by rw [hA 53 (by decide) (by decide)]; exact h.rn r hr,
  fun r hr => by rw [hA 54 (by decide) (by decide)]; exact h.rg r hr,
  fun k hk => by rw [hA 55 (by decide) (by decide)]; exact h.mt k hk,
  by rw [hI 8 (by omega)]; exact h.mn,
  by rw [hI 9 (by omega)]; exact h.mg,
  ⟨h.c.1, h.c.2.1, by rw [hI 11 (by omega)]; exact h.c.2.2.1, fun j hj => by rw [hA 56 (by decide) (by decide)]; exact h.c.2.2.2 j hj⟩⟩
theorem hW.sF {w : Wd} {A I : Nat → Nat → Int32} (h : hW w A I) {a : Nat} (ha : 23 ≤ a) (f : Nat → Int32) : hW w (sF A a f) I := h.fr (fun b hb => sF_n _ _ (by omega)) (fun _ _ _ => rfl)
theorem hW.sI {w : Wd} {A I : Nat → Nat → Int32} (h : hW w A I) {a : Nat} (ha : 23 ≤ a) (j : Nat) (v : Int32) : hW w A (sI I a j v) := h.fr (fun _ _ => rfl) (fun b i hb => sI_n _ _ (by omega))
theorem hR.sF {w : Wd} {A I : Nat → Nat → Int32} (h : hR w A I) {a : Nat} (ha : a < 49 ∨ 57 ≤ a) (f : Nat → Int32) : hR w (sF A a f) I := h.fr (fun b hb hb2 => sF_n _ _ (by omega)) (fun _ _ => rfl)
theorem hR.sI {w : Wd} {A I : Nat → Nat → Int32} (h : hR w A I) {a j : Nat} (ha : ¬ a = 48 ∨ 12 ≤ j) (v : Int32) : hR w A (sI I a j v) := h.fr (fun _ _ _ => rfl) (fun i hi => sI_n _ _ (by omega))
abbrev xok (n x : Nat) : Prop := if 3 ≤ n ∧ n ≤ 6 then x < 4 else if n = 14 ∨ n = 20 then x < 8 else n < 16 ∨ 18 < n ∨ x < 6
def xof (w : Wd) (p : Nat) : Nat := if hsN (w.cb p) then w.cb (p + 1) else 0
def tak (w : Wd) (n x : Nat) : Nat := if n = 4 ∨ n = 6 ∨ n = 8 ∨ n = 9 ∨ n = 12 ∨ n = 13 ∨ n = 15 ∨ n = 16 ∨ n = 20 ∨ n = 21 then 1 else if n = 7 ∨ n = 10 ∨ n = 17 then 2 else if n = 18 then w.rn x else if n = 19 then (if w.mg = 0 then 0 else 1) else 0
def giv (w : Wd) (n x : Nat) : Nat := if n = 1 ∨ n = 2 ∨ n = 3 ∨ n = 5 ∨ n = 7 ∨ n = 14 ∨ n = 16 ∨ n = 20 then 1 else if n = 9 ∨ n = 10 then 2 else if n = 18 then (if w.rg x = 0 then 0 else 1) else 0
abbrev tRef (t : Int32) : Prop := t = 2 ∨ tObj t ∨ tNew t
abbrev tPlain (t : Int32) : Prop := t = 2 ∨ tObj t
def fitB (w : Wd) (n x p h : Nat) (s : Nat → Int32) : Bool :=
  if n = 3 then decide (s x = 1) else if n = 5 then decide (tRef (s x)) else if n = 4 ∨ n = 12 then decide (s (3 + h) = 1) else if n = 6 then decide (tRef (s (3 + h))) else if n = 7 then decide (s (3 + h) = 1 ∧ s (2 + h) = 1) else if n = 13 ∨ n = 20 ∨ n = 21 then decide (tPlain (s (3 + h))) else if n = 14 then decide ((∀ k, k < h → ¬ s (4 + k) = nI (64 + p))) else if n = 15 then decide (tNew (s (3 + h))) else if n = 16 then decide (fitsP w.P (s (3 + h)) (nI (16 + w.fc x))) else if n = 17 then decide (fitsP w.P (s (3 + h)) (w.ft x) ∧ fitsP w.P (s (2 + h)) (nI (16 + w.fc x))) else if n = 18 then decide ((∀ k, k < w.rn x → fitsP w.P (s (4 + h - w.rn x + k)) (w.rt x k))) else if n = 19 then decide ((w.mg = 0 ∨ fitsP w.P (s (3 + h)) w.mg)) else decide (True)
abbrev fitS (w : Wd) (n x p h : Nat) (s : Nat → Int32) : Prop := fitB w n x p h s = true
/-- the fault of a step: 0, 4, 5, 6, 7 -/
def ftS (w : Wd) (p h : Nat) (s : Nat → Int32) : Nat := if ¬ xok (w.cb p) (xof w p) then 4 else if h < tak w (w.cb p) (xof w p) then 5 else if ¬ fitS w (w.cb p) (xof w p) p h s then 6 else if 5 < h - tak w (w.cb p) (xof w p) + giv w (w.cb p) (xof w p) then 7 else 0
def phS (w : Wd) (n x h : Nat) : Nat := h - tak w n x + giv w n x
def psS (w : Wd) (n x p h : Nat) (s : Nat → Int32) : Nat → Int32 :=
  if n = 1 ∨ n = 3 then upd s (4 + h) 1 else if n = 7 then upd s (2 + h) 1 else if n = 2 then upd s (4 + h) 2 else if n = 4 then upd s x 1 else if n = 5 then upd s (4 + h) (s x) else if n = 6 then upd s x (s (3 + h)) else if n = 9 then upd (upd s (3 + h) (s (3 + h))) (4 + h) (s (3 + h)) else if n = 10 then upd (upd s (2 + h) (s (3 + h))) (3 + h) (s (2 + h)) else if n = 14 then upd (rpl s (4 + h) (nI (64 + p)) 0) (4 + h) (nI (64 + p)) else if n = 15 then rpl s (3 + h) (s (3 + h)) (nI (16 + w.cb ((s (3 + h) - 64).toNatClampNeg + 1))) else if n = 16 then upd s (3 + h) (w.ft x) else if n = 18 then (if w.rg x = 0 then s else upd s (4 + h - w.rn x) (w.rg x)) else if n = 20 then upd s (3 + h) (nI (16 + x)) else s
/-- a type that may stand in a state -/
abbrev vT (w : Wd) (t : Int32) : Prop := t = 0 ∨ t = 1 ∨ t = 2 ∨ tObj t ∨ ∃ q, q < 48 ∧ mkN w.cs w.cb q ∧ t = nI (64 + q)
