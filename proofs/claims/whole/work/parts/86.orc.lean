/-! the oracle: what the law's four helpers do -/
def o_n : pm_Q := fun _ _ _ => none
def o_d : pm_C := .inr (0, [.int 0, .int 0, .int 0, .int 0, .int 0, .int 0])
/-- an answer, written into the law's long array -/
noncomputable def o_ans (o : Nat) (r : Option (Option Value × pm_H)) : Option (Option Value × pm_H) := match r with
  | some (some (.int v), h) => (pm_sj h o 0 v.toInt64).map (fun h2 => (some (.int 0), h2 ++ [o_d]))
  | _ => none
/-- frames, frame, check: they read the table first -/
noncomputable def o_rd (ol : pm_O) (k : Nat) (as : List Value) (x o : Nat) (h : pm_H) : Option (Option Value × pm_H) := match pm_fd h x 11 3 with
  | some (.ref r) => if pm_is h r 8 = true then match pm_V ol o_n 69 [.ref r] h with
    | some (some (.int ok), h1) => if ok = 0 then some (some (.int 1), h1 ++ [o_d]) else o_ans o (pm_V ol o_n k as h)
    | _ => none else none
  | _ => none
noncomputable def o_mk (ol : pm_O) (x o : Nat) (h : pm_H) : Option (Option Value × pm_H) := match pm_fd h x 11 5 with
  | some (.ref r) => if pm_is h r 3 = true then match pm_V ol o_n 28 [.ref r] h with
    | some (some (.int f), h1) => if ¬ f = 0 then o_ans o (pm_V ol o_n 110 [.ref x] h) else if pm_fd h1 x 11 5 = some (.ref r) ∧ pm_is h1 r 3 = true then match pm_V ol o_n 30 [.ref r] h1 with
      | some (some (.ref b), h2) => match pm_fd h2 b 0 1 with
        | some (.int sz) => if 120 < sz then some (some (.int 1), h2 ++ [o_d]) else o_ans o (pm_V ol o_n 110 [.ref x] h)
        | _ => none
      | _ => none else none
    | _ => none else none
  | _ => none
noncomputable def o_q (ol : pm_O) : pm_Q := fun k as h => if h.length < 70 then none else match k, as with
  | 500, [.ref x, .ref o] => o_rd ol 107 [.ref x] x o h
  | 501, [.ref x, .int i, .int u, .ref o] => o_rd ol 108 [.ref x, .int i, .int u] x o h
  | 502, [.ref x, .ref o] => o_rd ol 109 [.ref x] x o h
  | 503, [.ref x, .ref o] => o_mk ol x o h
  | _, _ => none
theorem o_V {ol : pm_O} {k : Nat} {as : List Value} {h h1 : pm_H} {v : Option Value} (hk : k < 500) (e : pm_V ol o_n k as h = some (v, h1)) : h.length ≤ h1.length ∧ pm_sz h ≤ pm_sz h1 := by
  unfold pm_V at e
  rw [if_pos hk] at e
  obtain ⟨n, hn⟩ := pm_F_to e
  exact pm_X_grow (orc := o_n) (fun _ _ _ _ _ g => by cases g) n _ _ _ _ _ _ _ hn
theorem o_sj {h h2 : pm_H} {o : Nat} {x : Int64} (e : pm_sj h o 0 x = some h2) : h2.length = h.length ∧ pm_sz h2 = pm_sz h := by
  unfold pm_sj at e
  split at e
  · rename_i n f hg
    split at e
    · obtain rfl := Option.some.inj e
      refine ⟨List.length_set .., ?_⟩
      unfold pm_gl at hg
      split at hg
      · split at hg
        · rename_i t' n' f' hc
          split at hg
          · rename_i ht
            obtain ⟨rfl, rfl⟩ := Prod.mk.inj (Option.some.inj hg)
            subst ht
            exact pm_sz_set hc rfl
          · cases hg
        · cases hg
      · cases hg
    · cases e
  · cases e
theorem o_ansG {o : Nat} {h h1 : pm_H} {r : Option (Option Value × pm_H)} {v : Option Value} (hr : ∀ w h2, r = some (w, h2) → h.length ≤ h2.length ∧ pm_sz h ≤ pm_sz h2) (e : o_ans o r = some (v, h1)) : h.length ≤ h1.length ∧ pm_sz h ≤ pm_sz h1 := by
  unfold o_ans at e
  split at e
  · rename_i w h2
    have := hr _ _ rfl
    cases hs : pm_sj h2 o 0 w.toInt64 with
    | none =>
      rw [hs] at e
      cases e
    | some h3 =>
      rw [hs] at e
      obtain ⟨-, rfl⟩ := Prod.mk.inj (Option.some.inj e)
      have h4 := o_sj hs
      rw [List.length_append, pm_sz_app]
      omega
  · cases e
theorem o_rdG {ol : pm_O} {k : Nat} {as : List Value} {x o : Nat} {h h1 : pm_H} {v : Option Value} (hk : k < 500) (e : o_rd ol k as x o h = some (v, h1)) : h.length ≤ h1.length ∧ pm_sz h ≤ pm_sz h1 := by
  unfold o_rd at e
  split at e
  · split at e
    · split at e
      · rename_i ok h2 e2
        have g2 := o_V (by decide) e2
        split at e
        · obtain ⟨-, rfl⟩ := Prod.mk.inj (Option.some.inj e)
          rw [List.length_append, pm_sz_app]
          omega
        · exact o_ansG (fun w h3 e3 => o_V hk e3) e
      · cases e
    · cases e
  · cases e
theorem o_mkG {ol : pm_O} {x o : Nat} {h h1 : pm_H} {v : Option Value} (e : o_mk ol x o h = some (v, h1)) : h.length ≤ h1.length ∧ pm_sz h ≤ pm_sz h1 := by
  unfold o_mk at e
  split at e
  · split at e
    · split at e
      · rename_i f h2 e2
        have g2 := o_V (by decide) e2
        split at e
        · exact o_ansG (fun w h3 e3 => o_V (by decide) e3) e
        · split at e
          · split at e
            · rename_i b h3 e3
              have g3 := o_V (by decide) e3
              split at e
              · split at e
                · obtain ⟨-, rfl⟩ := Prod.mk.inj (Option.some.inj e)
                  rw [List.length_append, pm_sz_app]
                  omega
                · exact o_ansG (fun w h3 e3 => o_V (by decide) e3) e
              · cases e
            · cases e
          · cases e
      · cases e
    · cases e
  · cases e
theorem o_G (ol : pm_O) : pm_orcG (o_q ol) := by
  intro k as h v h' e
  unfold o_q at e
  split at e
  · cases e
  · split at e
    · exact o_rdG (by decide) e
    · exact o_rdG (by decide) e
    · exact o_rdG (by decide) e
    · exact o_mkG e
    · cases e
theorem o_len (A I : Nat → Nat → Int32) (L : Nat → Int64) (g : pm_H) : ¬ (mk A I L g).length < 70 := by
  rw [mk_len]
  omega
theorem o_app (A I : Nat → Nat → Int32) (L : Nat → Int64) (g : pm_H) : mk A I L g ++ [o_d] = mk A I L (g ++ [o_d]) := by
  rw [mk_app, mk_app A I L (g ++ [o_d]), List.append_assoc]
theorem o_ans_mk (A I : Nat → Nat → Int32) (L : Nat → Int64) (g : pm_H) (v : Int32) : ∃ L', o_ans 69 (some (some (.int v), mk A I L g)) = some (some (.int 0), mk A I L' (g ++ [o_d])) ∧ L' 0 = v.toInt64 := by
  refine ⟨vp_updL L 0 v.toInt64, ?_, ?_⟩
  · show (pm_sj (mk A I L g) 69 0 v.toInt64).map (fun h2 => (some (Value.int 0), h2 ++ [o_d])) = _
    rw [sj_69 A I L g 0 _ (inb_nI (j := 0) (by decide) (by decide))]
    show some (some (Value.int 0), mk A I (vp_updL L 0 v.toInt64) g ++ [o_d]) = _
    rw [o_app]
  · unfold vp_updL
    simp
theorem o_S (Ls : Nat) (xs : Nat → Int32) : orcS (o_q (pm_ol Ls xs)) := by
  intro w ts tb A I L g h
  obtain ⟨k, hw, hr, ht, hm⟩ := h
  obtain ⟨Pl, s, T, H, hh, c, l, a, m, rd, -⟩ := V_read (pm_ol Ls xs) o_n L g ht hw k
  have same1 : sameC A I (rdA A Pl s T H) (rdI I hh (nI c) (nI l) (nI a) m) := ⟨fun a ha _ => rda_o _ _ _ _ _ _ (by omega) (by omega) (by omega) (by omega), fun a j ha => rdr_o _ _ _ _ _ _ _ _ (by omega) (by omega)⟩
  have key : ∀ (kf : Nat) (as : List Value) (v : Int32) (A' I' : Nat → Nat → Int32), (okT ts tb (cut w.mt w.mn) w.mn → pm_V (pm_ol Ls xs) o_n kf as (mk A I L g) = some (some (.int v), mk A' I' L g) ∧ sameC A I A' I') → ∃ A' I' L' c, o_rd (pm_ol Ls xs) kf as 0 69 (mk A I L g) = some (some (.int (thT w ts tb)), mk A' I' L' (g ++ [c])) ∧ pm_csz c ≤ 6 ∧ (thT w ts tb = 0 → L' 0 = v.toInt64) ∧ sameC A I A' I' := by
    intro kf as v A' I' hv
    unfold o_rd
    rw [fd_0_3]
    dsimp only
    rw [if_pos (is_26 A I L g), rd]
    dsimp only
    by_cases ho : okT ts tb (cut w.mt w.mn) w.mn
    · obtain ⟨hv, hs⟩ := hv ho
      obtain ⟨L', e1, e2⟩ := o_ans_mk A' I' L g v
      rw [b1_t ho, if_neg (by decide), hv, e1]
      refine ⟨A', I', L', o_d, ?_, by decide, fun _ => e2, hs⟩
      have : thT w ts tb = 0 := if_pos ho
      rw [this]
    · rw [b1_f ho, if_pos rfl, o_app]
      have : thT w ts tb = 1 := if_neg ho
      rw [this]
      exact ⟨_, _, L, o_d, rfl, by decide, fun y => absurd y (by decide), same1⟩
  refine ⟨?_, ?_, ?_, ?_⟩
  · by_cases ho : okT ts tb (cut w.mt w.mn) w.mn
    · obtain ⟨Pl2, s2, T2, H2, h2, l2, a2, m2, r2⟩ := V_frames (pm_ol Ls xs) o_n L g ht hw k ho
      obtain ⟨A', I', L', c, e, q⟩ := key 107 [.ref 0] (nI (tb 0)) _ _ (fun _ => ⟨r2, ⟨fun a ha _ => rda_o _ _ _ _ _ _ (by omega) (by omega) (by omega) (by omega), fun a j ha => rdr_o _ _ _ _ _ _ _ _ (by omega) (by omega)⟩⟩)
      exact ⟨A', I', L', c, (if_neg (o_len A I L g)).trans e, q⟩
    · obtain ⟨A', I', L', c, e, q⟩ := key 107 [.ref 0] (nI (tb 0)) A I (fun y => absurd y ho)
      exact ⟨A', I', L', c, (if_neg (o_len A I L g)).trans e, q⟩
  · intro i u
    by_cases ho : okT ts tb (cut w.mt w.mn) w.mn
    · obtain ⟨Pl2, s2, T2, H2, h2, l2, a2, m2, r2⟩ := V_frame (pm_ol Ls xs) o_n L g ht hw k ho i u
      obtain ⟨A', I', L', c, e, q⟩ := key 108 [.ref 0, .int i, .int u] _ _ _ (fun _ => ⟨r2, ⟨fun a ha _ => rda_o _ _ _ _ _ _ (by omega) (by omega) (by omega) (by omega), fun a j ha => rdr_o _ _ _ _ _ _ _ _ (by omega) (by omega)⟩⟩)
      exact ⟨A', I', L', c, (if_neg (o_len A I L g)).trans e, q⟩
    · obtain ⟨A', I', L', c, e, q⟩ := key 108 [.ref 0, .int i, .int u] (tlS (FFw w ts tb) (tb 0) i u) A I (fun y => absurd y ho)
      exact ⟨A', I', L', c, (if_neg (o_len A I L g)).trans e, q⟩
  · by_cases ho : okT ts tb (cut w.mt w.mn) w.mn
    · obtain ⟨A2, I2, r2, s2⟩ := V_check Ls xs o_n L g ht hw k ho
      obtain ⟨A', I', L', c, e, q⟩ := key 109 [.ref 0] _ _ _ (fun _ => ⟨r2, s2⟩)
      exact ⟨A', I', L', c, (if_neg (o_len A I L g)).trans e, q⟩
    · obtain ⟨A', I', L', c, e, q⟩ := key 109 [.ref 0] (nI (chk w (FFw w ts tb) (tb 0) 50 0 true 0 (cut w.mt w.mn))) A I (fun y => absurd y ho)
      exact ⟨A', I', L', c, (if_neg (o_len A I L g)).trans e, q⟩
  · have hbd : fdW w ≤ 1000 := fd_bd k 9000 (zIS w)
    have e0 : o_q (pm_ol Ls xs) 503 [.ref 0, .ref 69] (mk A I L g) = o_mk (pm_ol Ls xs) 0 69 (mk A I L g) := if_neg (o_len A I L g)
    by_cases f0 : fdW w = 0
    · obtain ⟨A1, I1, A2, I2, r1, r2, s2, h1, h2, hb, b1_, b2⟩ := V_makeP Ls xs o_n L g hw k f0
      have run : ∀ R, (if (120 : Int32) < nI (bfW w).1 then some (some (Value.int 1), mk A2 I2 L g ++ [o_d]) else o_ans 69 (pm_V (pm_ol Ls xs) o_n 110 [.ref 0] (mk A I L g))) = R → o_q (pm_ol Ls xs) 503 [.ref 0, .ref 69] (mk A I L g) = R := by
        intro R hR
        rw [e0]
        unfold o_mk
        rw [fd_0_5]
        dsimp only
        rw [if_pos (is_38 A I L g), r1]
        dsimp only
        rw [if_neg (not_not_intro rfl), if_pos ⟨fd_0_5 A1 I1 L g, is_38 A1 I1 L g⟩, r2]
        dsimp only
        rw [fd_40_1]
        dsimp only
        rw [h1]
        exact hR
      by_cases h120 : 120 < (bfW w).1
      · have hlt : (120 : Int32) < nI (bfW w).1 := nI_lt (a := 120) h120 (by omega)
        refine ⟨A2, I2, L, o_d, ?_, by decide, ?_, ?_⟩
        · rw [run _ rfl, if_pos hlt, if_pos ⟨f0, h120⟩, o_app]
        · rw [if_pos ⟨f0, h120⟩]
          exact fun y => absurd y (by decide)
        · exact ⟨fun _ => s2, fun y => by have := y.2; omega⟩
      · have hlt : ¬ (120 : Int32) < nI (bfW w).1 := by
          have := nI_le (a := (bfW w).1) (b := 120) (by omega) (by decide)
          have e : nI 120 = 120 := rfl
          rw [e] at this
          grind
        obtain ⟨A3, I3, r3, s3, t3⟩ := V_makeT Ls xs o_n L g hw k f0 (by omega)
        obtain ⟨L', e1, e2⟩ := o_ans_mk A3 I3 L g (nI (bfW w).1)
        refine ⟨A3, I3, L', o_d, ?_, by decide, ?_, ?_⟩
        · rw [run _ rfl, if_neg hlt, if_neg (fun y => h120 y.2), r3, e1]
        · rw [if_pos f0]
          exact fun _ => e2
        · exact ⟨fun y => absurd ⟨f0, by omega⟩ y, fun _ => ⟨s3, t3⟩⟩
    · obtain ⟨A1, I1, r1, s1, -, -⟩ := V_firstMk Ls xs o_n L g hw k
      have r1 : pm_V (pm_ol Ls xs) o_n 28 [.ref 38] (mk A I L g) = some (some (.int (nI (fdW w))), mk A1 I1 L g) := r1
      obtain ⟨A3, I3, r3, s3⟩ := V_makeF Ls xs o_n L g hw k f0
      obtain ⟨L', e1, e2⟩ := o_ans_mk A3 I3 L g (-(nI (fdW w)))
      refine ⟨A3, I3, L', o_d, ?_, by decide, ?_, ?_⟩
      · rw [e0, if_neg (fun y => f0 y.1)]
        unfold o_mk
        rw [fd_0_5]
        dsimp only
        rw [if_pos (is_38 A I L g), r1]
        dsimp only
        rw [if_pos (show ¬ nI (fdW w) = 0 from fun y => f0 (nI_inj (b := 0) (by omega) (by decide) y)), r3, e1]
      · rw [if_neg f0]
        exact fun _ => e2
      · exact ⟨fun _ => s3, fun y => absurd y.1 f0⟩
/-- the law's run, with this oracle -/
theorem o_run (Ls : Nat) (xs : Nat → Int32) (hL : Ls ≤ 3072) : ∃ n h', pm_X (pm_ol Ls xs) (o_q (pm_ol Ls xs)) n 168 0 (lv_args 0 [.ref 1000]) [] [] = some (some (.int 1), h') ∧ h'.length ≤ 601024 ∧ pm_sz h' ≤ 7293034 := law_run Ls xs _ (o_S Ls xs) hL
