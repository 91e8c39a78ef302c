/-! the start: the heap, and what holds of it -/
def A0 : Nat → Nat → Int32 := fun a => if a = 4 then (flF 6 (1) (fun _ => 0)) else if a = 25 then (upd (fun _ => 0) 0 (0)) else if a = 32 then (flF 49 (-1) (fun _ => 0)) else if a = 47 then (flF 49 (-1) (fun _ => 0)) else if a = 51 then (upd (upd (upd (upd (upd (upd (fun _ => 0) 0 (1)) 1 (1)) 2 (1)) 3 (1)) 4 (1)) 5 (1)) else fun _ => 0
def I0 : Nat → Nat → Int32 := fun a j => if a = 24 ∧ j = 1 then (1) else if a = 48 ∧ j = 13 then (1) else 0
theorem i_q : (va_up (va_up (va_up (va_up (va_up (va_up (fun _ => none) 0 (some 8)) 1 (some 10)) 2 (some 12)) 3 (some 14)) 4 (some 16)) 5 (some 18)) = mk_q := by
  funext j
  unfold mk_q va_up
  grind
set_option maxRecDepth 1000000 in
theorem i_list : iH_161 = [.inr (11, [.ref 1, .ref 20, .ref 24, .ref 26, .ref 37, .ref 38]),
  .inr (10, [.ref 2, .ref 3, .ref 4, .ref 5, .ref 6]),
  .inl (0, 8, .inl (fun _ => 0)),
  .inl (0, 6, .inl (fun _ => 0)),
  .inl (0, 6, .inl (flF 6 (1) (fun _ => 0))),
  .inl (3, 6, .inr (.inr (.inr (.inr (va_up (va_up (va_up (va_up (va_up (va_up (fun _ => none) 0 (some 8)) 1 (some 10)) 2 (some 12)) 3 (some 14)) 4 (some 16)) 5 (some 18)))))),
  .inr (4, [.ref 7, .int (0), .int (0)]),
  .inl (0, 4, .inl (fun _ => 0)),
  .inr (4, [.ref 9, .int (0), .int (0)]),
  .inl (0, 4, .inl (fun _ => 0)),
  .inr (4, [.ref 11, .int (0), .int (0)]),
  .inl (0, 4, .inl (fun _ => 0)),
  .inr (4, [.ref 13, .int (0), .int (0)]),
  .inl (0, 4, .inl (fun _ => 0)),
  .inr (4, [.ref 15, .int (0), .int (0)]),
  .inl (0, 4, .inl (fun _ => 0)),
  .inr (4, [.ref 17, .int (0), .int (0)]),
  .inl (0, 4, .inl (fun _ => 0)),
  .inr (4, [.ref 19, .int (0), .int (0)]),
  .inl (0, 4, .inl (fun _ => 0)),
  .inr (2, [.ref 21, .ref 23]),
  .inr (0, [.ref 22, .int (0)]),
  .inl (0, 48, .inl (fun _ => 0)),
  .inl (1, 48, .inl (fun _ => 0)),
  .inr (0, [.ref 25, .int (1)]),
  .inl (0, 120, .inl (upd (fun _ => 0) 0 (0))),
  .inr (8, [.ref 30, .int (0), .ref 1, .ref 24, .ref 27, .ref 28, .int (0), .int (0), .int (0)]),
  .inl (0, 48, .inl (fun _ => 0)),
  .inr (5, [.ref 29, .int (0)]),
  .inl (0, 9, .inl (fun _ => 0)),
  .inr (6, [.ref 1, .ref 31, .ref 32]),
  .inl (0, 441, .inl (fun _ => 0)),
  .inl (0, 49, .inl (flF 49 (-1) (fun _ => 0))),
  .inr (7, [.ref 34, .ref 1, .ref 20, .ref 36, .int (0)]),
  .inr (5, [.ref 35, .int (0)]),
  .inl (0, 9, .inl (fun _ => 0)),
  .inl (0, 4, .inl (fun _ => 0)),
  .inr (1, [.ref 1, .ref 20, .ref 33, .ref 30]),
  .inr (3, [.ref 1, .ref 20, .ref 33, .ref 45, .ref 39, .ref 43, .ref 44]),
  .inr (9, [.ref 40, .ref 42, .int (0), .int (0)]),
  .inr (0, [.ref 41, .int (0)]),
  .inl (0, 120, .inl (fun _ => 0)),
  .inl (0, 4, .inl (fun _ => 0)),
  .inl (1, 49, .inl (fun _ => 0)),
  .inl (1, 49, .inl (fun _ => 0)),
  .inr (6, [.ref 1, .ref 46, .ref 47]),
  .inl (0, 441, .inl (fun _ => 0)),
  .inl (0, 49, .inl (flF 49 (-1) (fun _ => 0))),
  .inr (12, [.int (0), .ref 49, .ref 50, .ref 51, .ref 52, .ref 53, .ref 54, .ref 55, .int (0), .int (0), .ref 56, .int (0), .ref 57, .int (1), .int (0), .ref 58, .ref 59, .ref 60, .int (0), .int (0), .ref 61, .int (0), .int (0), .int (0), .ref 62, .ref 63, .ref 64, .ref 65, .ref 66, .ref 67, .int (0), .ref 68]),
  .inl (0, 8, .inl (fun _ => 0)),
  .inl (0, 6, .inl (fun _ => 0)),
  .inl (0, 6, .inl (upd (upd (upd (upd (upd (upd (fun _ => 0) 0 (1)) 1 (1)) 2 (1)) 3 (1)) 4 (1)) 5 (1))),
  .inl (0, 18, .inl (fun _ => 0)),
  .inl (0, 6, .inl (fun _ => 0)),
  .inl (0, 6, .inl (fun _ => 0)),
  .inl (0, 4, .inl (fun _ => 0)),
  .inl (0, 48, .inl (fun _ => 0)),
  .inl (0, 120, .inl (fun _ => 0)),
  .inl (0, 48, .inl (fun _ => 0)),
  .inl (0, 48, .inl (fun _ => 0)),
  .inl (0, 480, .inl (fun _ => 0)),
  .inl (0, 10, .inl (fun _ => 0)),
  .inl (1, 49, .inl (fun _ => 0)),
  .inl (1, 49, .inl (fun _ => 0)),
  .inl (1, 49, .inl (fun _ => 0)),
  .inl (1, 49, .inl (fun _ => 0)),
  .inl (0, 490, .inl (fun _ => 0)),
  .inl (0, 700, .inl (fun _ => 0)),
  .inl (0, 4, .inl (fun _ => 0)),
  .inl (2, 1, .inr (.inl (fun _ => 0)))] := rfl
set_option maxRecDepth 1000000 in
theorem i_heap : iH_161 = mk A0 I0 (fun _ => 0) [] := by
  rw [i_list, i_q]
  rfl
def w0 : Wd := mkW (fun _ => 0) (fun _ => 0) (fun _ => 1) (fun _ _ => 0) (fun _ => 0) (fun _ => 0) (fun _ => 0) 0 0 0 (fun _ => 0)
theorem i_Inv : Inv w0 1 (fun _ => 0) A0 I0 := by
  refine ⟨⟨⟨rfl, fun c h _ => h⟩, fun f _ => by show 0 < 8; decide, fun f _ => Or.inl rfl, fun r _ => Nat.zero_le _, fun r k _ hk => absurd hk (Nat.not_lt_zero _), fun r _ => Or.inl rfl, Nat.zero_le _, fun k hk => absurd hk (Nat.not_lt_zero _), Or.inl rfl, Nat.zero_le _, fun j hj => absurd hj (Nat.not_lt_zero _)⟩, ⟨fun c _ => rfl, fun f _ => rfl, ?_, ?_, ?_, ?_, fun k _ => rfl, rfl, rfl, ⟨Nat.zero_le _, fun j hj => absurd hj (Nat.not_lt_zero _), rfl, fun j hj => absurd hj (Nat.not_lt_zero _)⟩⟩, ⟨fun c _ => rfl, fun f _ => rfl, ?_, fun r _ k _ => rfl, fun r _ => rfl, fun r _ => rfl, fun k _ => rfl, rfl, rfl, ⟨Nat.zero_le _, fun j hj => absurd hj (Nat.not_lt_zero _), rfl, fun j hj => absurd hj (Nat.not_lt_zero _)⟩⟩, ⟨by decide, fun j _ => by show 0 < 256; decide, rfl, fun j hj => (by
    obtain rfl : j = 0 := by omega
    rfl)⟩, ⟨by decide, fun j _ => by show 0 < 256; decide, rfl, fun j _ => rfl⟩⟩
  · intro f hf
    have : ∀ f, f < 6 → A0 4 f = 1 := by decide +kernel
    exact this f hf
  · intro r hr k hk
    have : ∀ r, r < 6 → ∀ k, k < 3 → A0 (9 + 2 * r) k = 0 := by decide +kernel
    exact this r hr k hk
  · intro r hr
    have : ∀ r, r < 6 → I0 (8 + 2 * r) 1 = 0 := by decide +kernel
    exact this r hr
  · intro r hr
    have : ∀ r, r < 6 → I0 (8 + 2 * r) 2 = 0 := by decide +kernel
    exact this r hr
  · intro f hf
    have : ∀ f, f < 6 → A0 51 f = 1 := by decide +kernel
    exact this f hf
theorem mk_app (A I : Nat → Nat → Int32) (L : Nat → Int64) (g : pm_H) : mk A I L g = mk A I L [] ++ g := rfl
theorem mk_len (A I : Nat → Nat → Int32) (L : Nat → Int64) (g : pm_H) : (mk A I L g).length = 70 + g.length := by
  rw [mk_app, List.length_append]
  rfl
theorem mk_sz (A I : Nat → Nat → Int32) (L : Nat → Int64) (g : pm_H) : pm_sz (mk A I L g) = pm_sz (mk (fun _ _ => 0) (fun _ _ => 0) (fun _ => 0) []) + pm_sz g := by
  rw [mk_app]
  unfold pm_sz
  rw [List.map_append, List.sum_append]
  rfl
theorem mk_sz0 : pm_sz (mk (fun _ _ => 0) (fun _ _ => 0) (fun _ => 0) []) ≤ 10000 := by decide +kernel
/-- the law's run of the pure machine -/
theorem law_run (Ls : Nat) (xs : Nat → Int32) (orc : pm_Q) (hO : orcS orc) (hL : Ls ≤ 3072) : ∃ n h', pm_X (pm_ol Ls xs) orc n 168 0 (lv_args 0 [.ref 1000]) [] [] = some (some (.int 1), h') ∧ h'.length ≤ 601024 ∧ pm_sz h' ≤ 7293034 := by
  obtain ⟨A, I, L, g, r, l1, l2⟩ := L_loop Ls xs orc hO hL 512 0 A0 I0 (fun _ => 0) [] (by omega) (by omega) ⟨w0, 1, _, i_Inv⟩
  have r0 := i_start (pm_ol Ls xs) orc
  rw [i_heap] at r0
  rw [show nI 0 = 0 from rfl] at r
  obtain ⟨n, hn⟩ := pm_F_to (r0.trans r)
  have h1 : g.length ≤ 512 := by
    have : ([] : pm_H).length = 0 := rfl
    omega
  have h2 : pm_sz g ≤ 3072 := by
    have : pm_sz ([] : pm_H) = 0 := rfl
    omega
  have h3 := mk_sz0
  refine ⟨n, _, hn, ?_, ?_⟩
  · rw [mk_len]
    omega
  · rw [mk_sz]
    omega
