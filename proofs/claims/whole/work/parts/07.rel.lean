/-! THE REAL HEAP HOLDS THE PURE ONE: translations, and what they keep -/
def pm_ta (ad : Nat → Nat) (a : vp_A) : vp_A := match a with
  | (n, .inr (.inr (.inr (.inr f)))) => (n, .inr (.inr (.inr (.inr (fun j => (f j).map ad)))))
  | x => x
theorem pm_ta_1 (ad : Nat → Nat) (a : vp_A) : (pm_ta ad a).1 = a.1 := by
  obtain ⟨n, f | f | f | f | f⟩ := a <;> rfl
def pm_tc (ad : Nat → Nat) (cA : Nat → ClassId) (x : pm_C) : va_E := match x with
  | .inl (t, a) => .inl (cA t, pm_ta ad a)
  | .inr (ci, fs) => .inr (ci, fs.map (pm_tv ad))
def pm_w (ad : Nat → Nat) (cA : Nat → ClassId) : Nat → pm_H → va_W
  | _, [] => []
  | i, x :: r => (ad i, pm_tc ad cA x) :: pm_w ad cA (i + 1) r
theorem pm_w_get (ad : Nat → Nat) (cA : Nat → ClassId) : ∀ (h : pm_H) (i j : Nat), (pm_w ad cA i h)[j]? = (h[j]?).map (fun x => (ad (i + j), pm_tc ad cA x)) := by
  intro h
  induction h with
  | nil => intro i j; rfl
  | cons x r ih =>
    intro i j
    cases j with
    | zero => rfl
    | succ j =>
      show (pm_w ad cA (i + 1) r)[j]? = (r[j]?).map _
      rw [ih (i + 1) j, show i + 1 + j = i + (j + 1) by omega]
theorem pm_w_set (ad : Nat → Nat) (cA : Nat → ClassId) : ∀ (h : pm_H) (i j : Nat) (x : pm_C), (pm_w ad cA i h).set j (ad (i + j), pm_tc ad cA x) = pm_w ad cA i (h.set j x) := by
  intro h
  induction h with
  | nil => intro i j x; rfl
  | cons y r ih =>
    intro i j x
    cases j with
    | zero => rfl
    | succ j =>
      show (ad i, pm_tc ad cA y) :: (pm_w ad cA (i + 1) r).set j _ = (ad i, pm_tc ad cA y) :: pm_w ad cA (i + 1) (r.set j x)
      rw [← ih (i + 1) j x, show i + 1 + j = i + (j + 1) by omega]
theorem pm_w_app (ad : Nat → Nat) (cA : Nat → ClassId) : ∀ (h : pm_H) (i : Nat) (x : pm_C), pm_w ad cA i (h ++ [x]) = pm_w ad cA i h ++ [(ad (i + h.length), pm_tc ad cA x)] := by
  intro h
  induction h with
  | nil => intro i x; rfl
  | cons y r ih =>
    intro i x
    show (ad i, pm_tc ad cA y) :: pm_w ad cA (i + 1) (r ++ [x]) = (ad i, pm_tc ad cA y) :: (pm_w ad cA (i + 1) r ++ _)
    rw [ih (i + 1) x, List.length_cons, show i + 1 + r.length = i + (r.length + 1) by omega]
theorem pm_w_len (ad : Nat → Nat) (cA : Nat → ClassId) : ∀ (h : pm_H) (i : Nat), (pm_w ad cA i h).length = h.length := by
  intro h
  induction h with
  | nil => intro i; rfl
  | cons y r ih => intro i; simp [pm_w, ih]
theorem pm_w_at {ad : Nat → Nat} {cA : Nat → ClassId} {h : pm_H} {j : Nat} {x : pm_C} (hj : h[j]? = some x) : (pm_w ad cA 0 h)[j]? = some (ad j, pm_tc ad cA x) := by
  rw [pm_w_get, hj, Nat.zero_add]; rfl
theorem pm_w_s0 {ad : Nat → Nat} {cA : Nat → ClassId} {h : pm_H} {j : Nat} {x : pm_C} : (pm_w ad cA 0 h).set j (ad j, pm_tc ad cA x) = pm_w ad cA 0 (h.set j x) := by
  have := pm_w_set ad cA h 0 j x
  rwa [Nat.zero_add] at this
def pm_csz (x : pm_C) : Nat := match x with
  | .inl (_, a) => a.1
  | .inr (_, fs) => fs.length
def pm_sz (h : pm_H) : Nat := (h.map pm_csz).sum
theorem pm_sz_set : ∀ {h : pm_H} {j : Nat} {x y : pm_C}, h[j]? = some x → pm_csz y = pm_csz x → pm_sz (h.set j y) = pm_sz h := by
  intro h
  induction h with
  | nil => intro j x y hj; simp at hj
  | cons z r ih =>
    intro j x y hj he
    cases j with
    | zero =>
      simp at hj
      subst hj
      simp [pm_sz, he]
    | succ j =>
      simp at hj
      have := ih (j := j) hj he
      simp [pm_sz] at this ⊢
      omega
theorem pm_sz_app (h : pm_H) (x : pm_C) : pm_sz (h ++ [x]) = pm_sz h + pm_csz x := by simp [pm_sz]
