def pm_tv (ad : Nat → Nat) (v : Value) : Value := match v with
  | .ref a => .ref (ad a)
  | v => v
theorem pm_tv_cat (ad : Nat → Nat) (v : Value) : (pm_tv ad v).category = v.category := by cases v <;> rfl
noncomputable def pm_ws : List Jvm.Cond := lw_tbl.filter goodWord
theorem pm_wd_in {pos : Nat} {w : Jvm.Cond} (h : pm_wd pos w = true) (hg : goodWord w = true) : w ∈ pm_ws := by
  refine List.mem_filter.mpr ⟨?_, hg⟩
  exact List.mem_of_getElem? (of_decide_eq_true h)
theorem pm_in (ws : List Jvm.Cond) (ps : List Nat) (hp : ws = ps.filterMap (fun i => lw_tbl[i]?)) (hg : ws.all goodWord = true) : ∀ w ∈ ws, w ∈ pm_ws := by
  intro w hw
  refine List.mem_filter.mpr ⟨?_, List.all_eq_true.mp hg w hw⟩
  rw [hp] at hw
  obtain ⟨i, -, hi⟩ := List.mem_filterMap.mp hw
  exact List.mem_of_getElem? hi
def pm_clsOK (ci : Nat) (C : String) (T : u_T) (N : Nat) : Prop := (∀ w ∈ u_ws C T N, w ∈ pm_ws) ∧ (∃ ty : Nat → FieldType, (∀ k, k < N → parseFieldDescriptor (T k).2.2.1 = some (ty k)) ∧ ∃ fs : List Value, pm_dfs[ci]? = some fs ∧ fs.length = N ∧ fs.map (pm_tv (fun a => a)) = fs ∧ (∀ ad, fs.map (pm_tv ad) = fs) ∧ ∀ j, j < N → defaultValue (ty j) = vp_V fs j) ∧ (∀ a, a < N → ∀ b, b < N → a ≠ b → (T a).2.1 ≠ (T b).2.1) ∧ Jvm.Cond.instantiable C N ∈ pm_ws ∧ Jvm.Cond.initialized C ∈ pm_ws
set_option maxRecDepth 100000 in
theorem pm_cl0 : pm_clsOK 0 RX0 TX0 2 := ⟨pm_in _ [177, 179] (by decide +kernel) (by decide +kernel), ⟨tyX0, tyX0_ok, _, rfl, rfl, rfl, fun _ => rfl, by decide +kernel⟩, nmX0, pm_wd_in (pos := 167) (by decide +kernel) rfl, pm_wd_in (pos := 76) (by decide +kernel) rfl⟩
set_option maxRecDepth 100000 in
theorem pm_cl1 : pm_clsOK 1 RX1 TX1 4 := ⟨pm_in _ [308, 310, 312, 314] (by decide +kernel) (by decide +kernel), ⟨tyX1, tyX1_ok, _, rfl, rfl, rfl, fun _ => rfl, by decide +kernel⟩, nmX1, pm_wd_in (pos := 299) (by decide +kernel) rfl, pm_wd_in (pos := 81) (by decide +kernel) rfl⟩
set_option maxRecDepth 100000 in
theorem pm_cl2 : pm_clsOK 2 RX2 TX2 2 := ⟨pm_in _ [185, 187] (by decide +kernel) (by decide +kernel), ⟨tyX2, tyX2_ok, _, rfl, rfl, rfl, fun _ => rfl, by decide +kernel⟩, nmX2, pm_wd_in (pos := 161) (by decide +kernel) rfl, pm_wd_in (pos := 75) (by decide +kernel) rfl⟩
set_option maxRecDepth 100000 in
theorem pm_cl3 : pm_clsOK 3 RX3 TX3 7 := ⟨pm_in _ [354, 356, 358, 360, 362, 364, 366] (by decide +kernel) (by decide +kernel), ⟨tyX3, tyX3_ok, _, rfl, rfl, rfl, fun _ => rfl, by decide +kernel⟩, nmX3, pm_wd_in (pos := 318) (by decide +kernel) rfl, pm_wd_in (pos := 82) (by decide +kernel) rfl⟩
set_option maxRecDepth 100000 in
theorem pm_cl4 : pm_clsOK 4 RX4 TX4 3 := ⟨pm_in _ [124, 126, 128] (by decide +kernel) (by decide +kernel), ⟨tyX4, tyX4_ok, _, rfl, rfl, rfl, fun _ => rfl, by decide +kernel⟩, nmX4, pm_wd_in (pos := 108) (by decide +kernel) rfl, pm_wd_in (pos := 73) (by decide +kernel) rfl⟩
set_option maxRecDepth 100000 in
theorem pm_cl5 : pm_clsOK 5 RX5 TX5 2 := ⟨pm_in _ [220, 222] (by decide +kernel) (by decide +kernel), ⟨tyX5, tyX5_ok, _, rfl, rfl, rfl, fun _ => rfl, by decide +kernel⟩, nmX5, pm_wd_in (pos := 204) (by decide +kernel) rfl, pm_wd_in (pos := 78) (by decide +kernel) rfl⟩
set_option maxRecDepth 100000 in
theorem pm_cl6 : pm_clsOK 6 RX6 TX6 3 := ⟨pm_in _ [235, 237, 239] (by decide +kernel) (by decide +kernel), ⟨tyX6, tyX6_ok, _, rfl, rfl, rfl, fun _ => rfl, by decide +kernel⟩, nmX6, pm_wd_in (pos := 226) (by decide +kernel) rfl, pm_wd_in (pos := 79) (by decide +kernel) rfl⟩
set_option maxRecDepth 100000 in
theorem pm_cl7 : pm_clsOK 7 RX7 TX7 5 := ⟨pm_in _ [287, 289, 291, 293, 295] (by decide +kernel) (by decide +kernel), ⟨tyX7, tyX7_ok, _, rfl, rfl, rfl, fun _ => rfl, by decide +kernel⟩, nmX7, pm_wd_in (pos := 273) (by decide +kernel) rfl, pm_wd_in (pos := 80) (by decide +kernel) rfl⟩
set_option maxRecDepth 100000 in
theorem pm_cl8 : pm_clsOK 8 RX8 TX8 9 := ⟨pm_in _ [253, 255, 257, 259, 261, 263, 265, 267, 269] (by decide +kernel) (by decide +kernel), ⟨tyX8, tyX8_ok, _, rfl, rfl, rfl, fun _ => rfl, by decide +kernel⟩, nmX8, pm_wd_in (pos := 198) (by decide +kernel) rfl, pm_wd_in (pos := 77) (by decide +kernel) rfl⟩
set_option maxRecDepth 100000 in
theorem pm_cl9 : pm_clsOK 9 RX9 TX9 4 := ⟨pm_in _ [336, 338, 340, 342] (by decide +kernel) (by decide +kernel), ⟨tyX9, tyX9_ok, _, rfl, rfl, rfl, fun _ => rfl, by decide +kernel⟩, nmX9, pm_wd_in (pos := 324) (by decide +kernel) rfl, pm_wd_in (pos := 83) (by decide +kernel) rfl⟩
set_option maxRecDepth 100000 in
theorem pm_cl10 : pm_clsOK 10 RX10 TX10 5 := ⟨pm_in _ [149, 151, 153, 155, 157] (by decide +kernel) (by decide +kernel), ⟨tyX10, tyX10_ok, _, rfl, rfl, rfl, fun _ => rfl, by decide +kernel⟩, nmX10, pm_wd_in (pos := 101) (by decide +kernel) rfl, pm_wd_in (pos := 72) (by decide +kernel) rfl⟩
set_option maxRecDepth 100000 in
theorem pm_cl11 : pm_clsOK 11 RX11 TX11 6 := ⟨pm_in _ [375, 377, 379, 381, 383, 385] (by decide +kernel) (by decide +kernel), ⟨tyX11, tyX11_ok, _, rfl, rfl, rfl, fun _ => rfl, by decide +kernel⟩, nmX11, pm_wd_in (pos := 93) (by decide +kernel) rfl, pm_wd_in (pos := 71) (by decide +kernel) rfl⟩
set_option maxRecDepth 100000 in
theorem pm_cl12 : pm_clsOK 12 RX12 TX12 32 := ⟨pm_in _ [967, 969, 971, 973, 975, 977, 979, 981, 983, 985, 987, 989, 991, 993, 995, 997, 999, 1001, 1003, 1005, 1007, 1009, 1011, 1013, 1015, 1017, 1019, 1021, 1023, 1025, 1027, 1029] (by decide +kernel) (by decide +kernel), ⟨tyX12, tyX12_ok, _, rfl, rfl, rfl, fun _ => rfl, by decide +kernel⟩, nmX12, pm_wd_in (pos := 930) (by decide +kernel) rfl, pm_wd_in (pos := 84) (by decide +kernel) rfl⟩
theorem pm_cls : ∀ (ci : Nat) (C : String) (T : u_T) (N : Nat), vwCl[ci]? = some (C, T, N) → pm_clsOK ci C T N := by
  intro ci C T N h
  match ci, h with
  | 0, h => cases h; exact pm_cl0
  | 1, h => cases h; exact pm_cl1
  | 2, h => cases h; exact pm_cl2
  | 3, h => cases h; exact pm_cl3
  | 4, h => cases h; exact pm_cl4
  | 5, h => cases h; exact pm_cl5
  | 6, h => cases h; exact pm_cl6
  | 7, h => cases h; exact pm_cl7
  | 8, h => cases h; exact pm_cl8
  | 9, h => cases h; exact pm_cl9
  | 10, h => cases h; exact pm_cl10
  | 11, h => cases h; exact pm_cl11
  | 12, h => cases h; exact pm_cl12
  | n + 13, h => simp [vwCl] at h
/-- what the tables say of the method k -/
def pm_mOK (k : Nat) : Prop := Jvm.Cond.code (pm_y k) (pm_b k) (pm_mL k) (pm_rt k) ∈ pm_ws ∧ Jvm.Cond.initialized (pm_y k).cls ∈ pm_ws ∧ plainName (pm_y k).cls = true ∧ ((pm_y k).cls ≠ "java/lang/invoke/MethodHandle" ∧ (pm_y k).cls ≠ "java/lang/invoke/VarHandle") ∧ (parseMethodDescriptor (pm_y k).desc).map (fun d => d.parameters.length) = some (pm_mi k).2.1 ∧
  (((pm_mi k).1 = 0 ∧ Jvm.Cond.instanceMethod (pm_y k) ∈ pm_ws ∧ Jvm.Cond.selects (pm_y k).cls (pm_y k) (pm_y k) ∈ pm_ws ∧ (vwCl[(pm_mi k).2.2.1]?).map (fun q => q.1) = some (pm_y k).cls) ∨ ((pm_mi k).1 = 1 ∧ Jvm.Cond.static (pm_y k) ∈ pm_ws) ∨ ((pm_mi k).1 = 2 ∧ Jvm.Cond.instanceMethod (pm_y k) ∈ pm_ws ∧ (pm_y k).name = "<init>" ∧ pm_rt k = none))
theorem pm_cw {pos : Nat} {w : Jvm.Cond} (h : lw_tbl[pos]? = some w) (hg : goodWord w = true) : w ∈ pm_ws := List.mem_filter.mpr ⟨List.mem_of_getElem? h, hg⟩
set_option maxRecDepth 100000 in
theorem pm_m0 : pm_mOK 0 := ⟨pm_cw (pos := 170) rfl rfl, pm_wd_in (pos := 76) (by decide +kernel) rfl, by decide +kernel, ⟨by decide +kernel, by decide +kernel⟩, by decide +kernel, Or.inr (Or.inr ⟨rfl, pm_wd_in (pos := 169) (by decide +kernel) rfl, rfl, rfl⟩)⟩
set_option maxRecDepth 100000 in
theorem pm_m1 : pm_mOK 1 := ⟨pm_cw (pos := 445) rfl rfl, pm_wd_in (pos := 76) (by decide +kernel) rfl, by decide +kernel, ⟨by decide +kernel, by decide +kernel⟩, by decide +kernel, Or.inl ⟨rfl, pm_wd_in (pos := 443) (by decide +kernel) rfl, pm_wd_in (pos := 444) (by decide +kernel) rfl, rfl⟩⟩
set_option maxRecDepth 100000 in
theorem pm_m2 : pm_mOK 2 := ⟨pm_cw (pos := 457) rfl rfl, pm_wd_in (pos := 76) (by decide +kernel) rfl, by decide +kernel, ⟨by decide +kernel, by decide +kernel⟩, by decide +kernel, Or.inl ⟨rfl, pm_wd_in (pos := 455) (by decide +kernel) rfl, pm_wd_in (pos := 456) (by decide +kernel) rfl, rfl⟩⟩
set_option maxRecDepth 100000 in
theorem pm_m3 : pm_mOK 3 := ⟨pm_cw (pos := 436) rfl rfl, pm_wd_in (pos := 76) (by decide +kernel) rfl, by decide +kernel, ⟨by decide +kernel, by decide +kernel⟩, by decide +kernel, Or.inl ⟨rfl, pm_wd_in (pos := 434) (by decide +kernel) rfl, pm_wd_in (pos := 435) (by decide +kernel) rfl, rfl⟩⟩
set_option maxRecDepth 100000 in
theorem pm_m4 : pm_mOK 4 := ⟨pm_cw (pos := 196) rfl rfl, pm_wd_in (pos := 76) (by decide +kernel) rfl, by decide +kernel, ⟨by decide +kernel, by decide +kernel⟩, by decide +kernel, Or.inl ⟨rfl, pm_wd_in (pos := 194) (by decide +kernel) rfl, pm_wd_in (pos := 195) (by decide +kernel) rfl, rfl⟩⟩
set_option maxRecDepth 100000 in
theorem pm_m5 : pm_mOK 5 := ⟨pm_cw (pos := 926) rfl rfl, pm_wd_in (pos := 76) (by decide +kernel) rfl, by decide +kernel, ⟨by decide +kernel, by decide +kernel⟩, by decide +kernel, Or.inl ⟨rfl, pm_wd_in (pos := 924) (by decide +kernel) rfl, pm_wd_in (pos := 925) (by decide +kernel) rfl, rfl⟩⟩
set_option maxRecDepth 100000 in
theorem pm_m6 : pm_mOK 6 := ⟨pm_cw (pos := 302) rfl rfl, pm_wd_in (pos := 81) (by decide +kernel) rfl, by decide +kernel, ⟨by decide +kernel, by decide +kernel⟩, by decide +kernel, Or.inr (Or.inr ⟨rfl, pm_wd_in (pos := 301) (by decide +kernel) rfl, rfl, rfl⟩)⟩
set_option maxRecDepth 100000 in
theorem pm_m7 : pm_mOK 7 := ⟨pm_cw (pos := 616) rfl rfl, pm_wd_in (pos := 81) (by decide +kernel) rfl, by decide +kernel, ⟨by decide +kernel, by decide +kernel⟩, by decide +kernel, Or.inl ⟨rfl, pm_wd_in (pos := 614) (by decide +kernel) rfl, pm_wd_in (pos := 615) (by decide +kernel) rfl, rfl⟩⟩
set_option maxRecDepth 100000 in
theorem pm_m8 : pm_mOK 8 := ⟨pm_cw (pos := 653) rfl rfl, pm_wd_in (pos := 81) (by decide +kernel) rfl, by decide +kernel, ⟨by decide +kernel, by decide +kernel⟩, by decide +kernel, Or.inl ⟨rfl, pm_wd_in (pos := 652) (by decide +kernel) rfl, pm_wd_in (pos := 8) (by decide +kernel) rfl, rfl⟩⟩
set_option maxRecDepth 100000 in
theorem pm_m9 : pm_mOK 9 := ⟨pm_cw (pos := 662) rfl rfl, pm_wd_in (pos := 81) (by decide +kernel) rfl, by decide +kernel, ⟨by decide +kernel, by decide +kernel⟩, by decide +kernel, Or.inl ⟨rfl, pm_wd_in (pos := 661) (by decide +kernel) rfl, pm_wd_in (pos := 9) (by decide +kernel) rfl, rfl⟩⟩
set_option maxRecDepth 100000 in
theorem pm_m10 : pm_mOK 10 := ⟨pm_cw (pos := 682) rfl rfl, pm_wd_in (pos := 81) (by decide +kernel) rfl, by decide +kernel, ⟨by decide +kernel, by decide +kernel⟩, by decide +kernel, Or.inl ⟨rfl, pm_wd_in (pos := 681) (by decide +kernel) rfl, pm_wd_in (pos := 10) (by decide +kernel) rfl, rfl⟩⟩
set_option maxRecDepth 100000 in
theorem pm_m11 : pm_mOK 11 := ⟨pm_cw (pos := 785) rfl rfl, pm_wd_in (pos := 81) (by decide +kernel) rfl, by decide +kernel, ⟨by decide +kernel, by decide +kernel⟩, by decide +kernel, Or.inl ⟨rfl, pm_wd_in (pos := 784) (by decide +kernel) rfl, pm_wd_in (pos := 21) (by decide +kernel) rfl, rfl⟩⟩
set_option maxRecDepth 100000 in
theorem pm_m12 : pm_mOK 12 := ⟨pm_cw (pos := 793) rfl rfl, pm_wd_in (pos := 81) (by decide +kernel) rfl, by decide +kernel, ⟨by decide +kernel, by decide +kernel⟩, by decide +kernel, Or.inl ⟨rfl, pm_wd_in (pos := 792) (by decide +kernel) rfl, pm_wd_in (pos := 22) (by decide +kernel) rfl, rfl⟩⟩
set_option maxRecDepth 100000 in
theorem pm_m13 : pm_mOK 13 := ⟨pm_cw (pos := 164) rfl rfl, pm_wd_in (pos := 75) (by decide +kernel) rfl, by decide +kernel, ⟨by decide +kernel, by decide +kernel⟩, by decide +kernel, Or.inr (Or.inr ⟨rfl, pm_wd_in (pos := 163) (by decide +kernel) rfl, rfl, rfl⟩)⟩
set_option maxRecDepth 100000 in
theorem pm_m14 : pm_mOK 14 := ⟨pm_cw (pos := 624) rfl rfl, pm_wd_in (pos := 75) (by decide +kernel) rfl, by decide +kernel, ⟨by decide +kernel, by decide +kernel⟩, by decide +kernel, Or.inl ⟨rfl, pm_wd_in (pos := 622) (by decide +kernel) rfl, pm_wd_in (pos := 623) (by decide +kernel) rfl, rfl⟩⟩
set_option maxRecDepth 100000 in
theorem pm_m15 : pm_mOK 15 := ⟨pm_cw (pos := 632) rfl rfl, pm_wd_in (pos := 75) (by decide +kernel) rfl, by decide +kernel, ⟨by decide +kernel, by decide +kernel⟩, by decide +kernel, Or.inl ⟨rfl, pm_wd_in (pos := 630) (by decide +kernel) rfl, pm_wd_in (pos := 631) (by decide +kernel) rfl, rfl⟩⟩
set_option maxRecDepth 100000 in
theorem pm_m16 : pm_mOK 16 := ⟨pm_cw (pos := 700) rfl rfl, pm_wd_in (pos := 75) (by decide +kernel) rfl, by decide +kernel, ⟨by decide +kernel, by decide +kernel⟩, by decide +kernel, Or.inl ⟨rfl, pm_wd_in (pos := 698) (by decide +kernel) rfl, pm_wd_in (pos := 699) (by decide +kernel) rfl, rfl⟩⟩
set_option maxRecDepth 100000 in
theorem pm_m17 : pm_mOK 17 := ⟨pm_cw (pos := 641) rfl rfl, pm_wd_in (pos := 75) (by decide +kernel) rfl, by decide +kernel, ⟨by decide +kernel, by decide +kernel⟩, by decide +kernel, Or.inl ⟨rfl, pm_wd_in (pos := 640) (by decide +kernel) rfl, pm_wd_in (pos := 7) (by decide +kernel) rfl, rfl⟩⟩
set_option maxRecDepth 100000 in
theorem pm_m18 : pm_mOK 18 := ⟨pm_cw (pos := 637) rfl rfl, pm_wd_in (pos := 75) (by decide +kernel) rfl, by decide +kernel, ⟨by decide +kernel, by decide +kernel⟩, by decide +kernel, Or.inl ⟨rfl, pm_wd_in (pos := 635) (by decide +kernel) rfl, pm_wd_in (pos := 636) (by decide +kernel) rfl, rfl⟩⟩
set_option maxRecDepth 100000 in
theorem pm_m19 : pm_mOK 19 := ⟨pm_cw (pos := 628) rfl rfl, pm_wd_in (pos := 75) (by decide +kernel) rfl, by decide +kernel, ⟨by decide +kernel, by decide +kernel⟩, by decide +kernel, Or.inl ⟨rfl, pm_wd_in (pos := 626) (by decide +kernel) rfl, pm_wd_in (pos := 627) (by decide +kernel) rfl, rfl⟩⟩
set_option maxRecDepth 100000 in
theorem pm_m20 : pm_mOK 20 := ⟨pm_cw (pos := 704) rfl rfl, pm_wd_in (pos := 75) (by decide +kernel) rfl, by decide +kernel, ⟨by decide +kernel, by decide +kernel⟩, by decide +kernel, Or.inl ⟨rfl, pm_wd_in (pos := 702) (by decide +kernel) rfl, pm_wd_in (pos := 703) (by decide +kernel) rfl, rfl⟩⟩
set_option maxRecDepth 100000 in
theorem pm_m21 : pm_mOK 21 := ⟨pm_cw (pos := 620) rfl rfl, pm_wd_in (pos := 75) (by decide +kernel) rfl, by decide +kernel, ⟨by decide +kernel, by decide +kernel⟩, by decide +kernel, Or.inl ⟨rfl, pm_wd_in (pos := 618) (by decide +kernel) rfl, pm_wd_in (pos := 619) (by decide +kernel) rfl, rfl⟩⟩
set_option maxRecDepth 100000 in
theorem pm_m22 : pm_mOK 22 := ⟨pm_cw (pos := 649) rfl rfl, pm_wd_in (pos := 75) (by decide +kernel) rfl, by decide +kernel, ⟨by decide +kernel, by decide +kernel⟩, by decide +kernel, Or.inl ⟨rfl, pm_wd_in (pos := 647) (by decide +kernel) rfl, pm_wd_in (pos := 648) (by decide +kernel) rfl, rfl⟩⟩
set_option maxRecDepth 100000 in
theorem pm_m23 : pm_mOK 23 := ⟨pm_cw (pos := 689) rfl rfl, pm_wd_in (pos := 75) (by decide +kernel) rfl, by decide +kernel, ⟨by decide +kernel, by decide +kernel⟩, by decide +kernel, Or.inl ⟨rfl, pm_wd_in (pos := 687) (by decide +kernel) rfl, pm_wd_in (pos := 688) (by decide +kernel) rfl, rfl⟩⟩
set_option maxRecDepth 100000 in
theorem pm_m24 : pm_mOK 24 := ⟨pm_cw (pos := 777) rfl rfl, pm_wd_in (pos := 75) (by decide +kernel) rfl, by decide +kernel, ⟨by decide +kernel, by decide +kernel⟩, by decide +kernel, Or.inl ⟨rfl, pm_wd_in (pos := 775) (by decide +kernel) rfl, pm_wd_in (pos := 776) (by decide +kernel) rfl, rfl⟩⟩
set_option maxRecDepth 100000 in
theorem pm_m25 : pm_mOK 25 := ⟨pm_cw (pos := 789) rfl rfl, pm_wd_in (pos := 75) (by decide +kernel) rfl, by decide +kernel, ⟨by decide +kernel, by decide +kernel⟩, by decide +kernel, Or.inl ⟨rfl, pm_wd_in (pos := 787) (by decide +kernel) rfl, pm_wd_in (pos := 788) (by decide +kernel) rfl, rfl⟩⟩
set_option maxRecDepth 100000 in
theorem pm_m26 : pm_mOK 26 := ⟨pm_cw (pos := 781) rfl rfl, pm_wd_in (pos := 75) (by decide +kernel) rfl, by decide +kernel, ⟨by decide +kernel, by decide +kernel⟩, by decide +kernel, Or.inl ⟨rfl, pm_wd_in (pos := 779) (by decide +kernel) rfl, pm_wd_in (pos := 780) (by decide +kernel) rfl, rfl⟩⟩
set_option maxRecDepth 100000 in
theorem pm_m27 : pm_mOK 27 := ⟨pm_cw (pos := 321) rfl rfl, pm_wd_in (pos := 82) (by decide +kernel) rfl, by decide +kernel, ⟨by decide +kernel, by decide +kernel⟩, by decide +kernel, Or.inr (Or.inr ⟨rfl, pm_wd_in (pos := 320) (by decide +kernel) rfl, rfl, rfl⟩)⟩
set_option maxRecDepth 100000 in
theorem pm_m28 : pm_mOK 28 := ⟨pm_cw (pos := 805) rfl rfl, pm_wd_in (pos := 82) (by decide +kernel) rfl, by decide +kernel, ⟨by decide +kernel, by decide +kernel⟩, by decide +kernel, Or.inl ⟨rfl, pm_wd_in (pos := 803) (by decide +kernel) rfl, pm_wd_in (pos := 804) (by decide +kernel) rfl, rfl⟩⟩
set_option maxRecDepth 100000 in
theorem pm_m29 : pm_mOK 29 := ⟨pm_cw (pos := 810) rfl rfl, pm_wd_in (pos := 82) (by decide +kernel) rfl, by decide +kernel, ⟨by decide +kernel, by decide +kernel⟩, by decide +kernel, Or.inr (Or.inl ⟨rfl, pm_wd_in (pos := 809) (by decide +kernel) rfl⟩)⟩
set_option maxRecDepth 100000 in
theorem pm_m30 : pm_mOK 30 := ⟨pm_cw (pos := 852) rfl rfl, pm_wd_in (pos := 82) (by decide +kernel) rfl, by decide +kernel, ⟨by decide +kernel, by decide +kernel⟩, by decide +kernel, Or.inl ⟨rfl, pm_wd_in (pos := 850) (by decide +kernel) rfl, pm_wd_in (pos := 851) (by decide +kernel) rfl, rfl⟩⟩
set_option maxRecDepth 100000 in
theorem pm_m31 : pm_mOK 31 := ⟨pm_cw (pos := 831) rfl rfl, pm_wd_in (pos := 82) (by decide +kernel) rfl, by decide +kernel, ⟨by decide +kernel, by decide +kernel⟩, by decide +kernel, Or.inl ⟨rfl, pm_wd_in (pos := 830) (by decide +kernel) rfl, pm_wd_in (pos := 24) (by decide +kernel) rfl, rfl⟩⟩
set_option maxRecDepth 100000 in
theorem pm_m32 : pm_mOK 32 := ⟨pm_cw (pos := 835) rfl rfl, pm_wd_in (pos := 82) (by decide +kernel) rfl, by decide +kernel, ⟨by decide +kernel, by decide +kernel⟩, by decide +kernel, Or.inl ⟨rfl, pm_wd_in (pos := 834) (by decide +kernel) rfl, pm_wd_in (pos := 25) (by decide +kernel) rfl, rfl⟩⟩
set_option maxRecDepth 100000 in
theorem pm_m33 : pm_mOK 33 := ⟨pm_cw (pos := 815) rfl rfl, pm_wd_in (pos := 82) (by decide +kernel) rfl, by decide +kernel, ⟨by decide +kernel, by decide +kernel⟩, by decide +kernel, Or.inl ⟨rfl, pm_wd_in (pos := 814) (by decide +kernel) rfl, pm_wd_in (pos := 23) (by decide +kernel) rfl, rfl⟩⟩
set_option maxRecDepth 100000 in
theorem pm_m34 : pm_mOK 34 := ⟨pm_cw (pos := 847) rfl rfl, pm_wd_in (pos := 82) (by decide +kernel) rfl, by decide +kernel, ⟨by decide +kernel, by decide +kernel⟩, by decide +kernel, Or.inl ⟨rfl, pm_wd_in (pos := 846) (by decide +kernel) rfl, pm_wd_in (pos := 26) (by decide +kernel) rfl, rfl⟩⟩
set_option maxRecDepth 100000 in
theorem pm_m35 : pm_mOK 35 := ⟨pm_cw (pos := 856) rfl rfl, pm_wd_in (pos := 82) (by decide +kernel) rfl, by decide +kernel, ⟨by decide +kernel, by decide +kernel⟩, by decide +kernel, Or.inl ⟨rfl, pm_wd_in (pos := 855) (by decide +kernel) rfl, pm_wd_in (pos := 27) (by decide +kernel) rfl, rfl⟩⟩
set_option maxRecDepth 100000 in
theorem pm_m36 : pm_mOK 36 := ⟨pm_cw (pos := 860) rfl rfl, pm_wd_in (pos := 82) (by decide +kernel) rfl, by decide +kernel, ⟨by decide +kernel, by decide +kernel⟩, by decide +kernel, Or.inl ⟨rfl, pm_wd_in (pos := 859) (by decide +kernel) rfl, pm_wd_in (pos := 28) (by decide +kernel) rfl, rfl⟩⟩
set_option maxRecDepth 100000 in
theorem pm_m37 : pm_mOK 37 := ⟨pm_cw (pos := 111) rfl rfl, pm_wd_in (pos := 73) (by decide +kernel) rfl, by decide +kernel, ⟨by decide +kernel, by decide +kernel⟩, by decide +kernel, Or.inr (Or.inr ⟨rfl, pm_wd_in (pos := 110) (by decide +kernel) rfl, rfl, rfl⟩)⟩
set_option maxRecDepth 100000 in
theorem pm_m38 : pm_mOK 38 := ⟨pm_cw (pos := 420) rfl rfl, pm_wd_in (pos := 73) (by decide +kernel) rfl, by decide +kernel, ⟨by decide +kernel, by decide +kernel⟩, by decide +kernel, Or.inl ⟨rfl, pm_wd_in (pos := 418) (by decide +kernel) rfl, pm_wd_in (pos := 419) (by decide +kernel) rfl, rfl⟩⟩
set_option maxRecDepth 100000 in
theorem pm_m39 : pm_mOK 39 := ⟨pm_cw (pos := 207) rfl rfl, pm_wd_in (pos := 78) (by decide +kernel) rfl, by decide +kernel, ⟨by decide +kernel, by decide +kernel⟩, by decide +kernel, Or.inr (Or.inr ⟨rfl, pm_wd_in (pos := 206) (by decide +kernel) rfl, rfl, rfl⟩)⟩
set_option maxRecDepth 100000 in
theorem pm_m40 : pm_mOK 40 := ⟨pm_cw (pos := 477) rfl rfl, pm_wd_in (pos := 78) (by decide +kernel) rfl, by decide +kernel, ⟨by decide +kernel, by decide +kernel⟩, by decide +kernel, Or.inl ⟨rfl, pm_wd_in (pos := 475) (by decide +kernel) rfl, pm_wd_in (pos := 476) (by decide +kernel) rfl, rfl⟩⟩
set_option maxRecDepth 100000 in
theorem pm_m41 : pm_mOK 41 := ⟨pm_cw (pos := 729) rfl rfl, pm_wd_in (pos := 78) (by decide +kernel) rfl, by decide +kernel, ⟨by decide +kernel, by decide +kernel⟩, by decide +kernel, Or.inl ⟨rfl, pm_wd_in (pos := 727) (by decide +kernel) rfl, pm_wd_in (pos := 728) (by decide +kernel) rfl, rfl⟩⟩
set_option maxRecDepth 100000 in
theorem pm_m42 : pm_mOK 42 := ⟨pm_cw (pos := 502) rfl rfl, pm_wd_in (pos := 78) (by decide +kernel) rfl, by decide +kernel, ⟨by decide +kernel, by decide +kernel⟩, by decide +kernel, Or.inl ⟨rfl, pm_wd_in (pos := 500) (by decide +kernel) rfl, pm_wd_in (pos := 501) (by decide +kernel) rfl, rfl⟩⟩
set_option maxRecDepth 100000 in
theorem pm_m43 : pm_mOK 43 := ⟨pm_cw (pos := 757) rfl rfl, pm_wd_in (pos := 78) (by decide +kernel) rfl, by decide +kernel, ⟨by decide +kernel, by decide +kernel⟩, by decide +kernel, Or.inl ⟨rfl, pm_wd_in (pos := 755) (by decide +kernel) rfl, pm_wd_in (pos := 756) (by decide +kernel) rfl, rfl⟩⟩
set_option maxRecDepth 100000 in
theorem pm_m44 : pm_mOK 44 := ⟨pm_cw (pos := 747) rfl rfl, pm_wd_in (pos := 78) (by decide +kernel) rfl, by decide +kernel, ⟨by decide +kernel, by decide +kernel⟩, by decide +kernel, Or.inl ⟨rfl, pm_wd_in (pos := 745) (by decide +kernel) rfl, pm_wd_in (pos := 746) (by decide +kernel) rfl, rfl⟩⟩
set_option maxRecDepth 100000 in
theorem pm_m45 : pm_mOK 45 := ⟨pm_cw (pos := 768) rfl rfl, pm_wd_in (pos := 78) (by decide +kernel) rfl, by decide +kernel, ⟨by decide +kernel, by decide +kernel⟩, by decide +kernel, Or.inl ⟨rfl, pm_wd_in (pos := 766) (by decide +kernel) rfl, pm_wd_in (pos := 767) (by decide +kernel) rfl, rfl⟩⟩
set_option maxRecDepth 100000 in
theorem pm_m46 : pm_mOK 46 := ⟨pm_cw (pos := 229) rfl rfl, pm_wd_in (pos := 79) (by decide +kernel) rfl, by decide +kernel, ⟨by decide +kernel, by decide +kernel⟩, by decide +kernel, Or.inr (Or.inr ⟨rfl, pm_wd_in (pos := 228) (by decide +kernel) rfl, rfl, rfl⟩)⟩
set_option maxRecDepth 100000 in
theorem pm_m47 : pm_mOK 47 := ⟨pm_cw (pos := 473) rfl rfl, pm_wd_in (pos := 79) (by decide +kernel) rfl, by decide +kernel, ⟨by decide +kernel, by decide +kernel⟩, by decide +kernel, Or.inl ⟨rfl, pm_wd_in (pos := 471) (by decide +kernel) rfl, pm_wd_in (pos := 472) (by decide +kernel) rfl, rfl⟩⟩
set_option maxRecDepth 100000 in
theorem pm_m48 : pm_mOK 48 := ⟨pm_cw (pos := 658) rfl rfl, pm_wd_in (pos := 79) (by decide +kernel) rfl, by decide +kernel, ⟨by decide +kernel, by decide +kernel⟩, by decide +kernel, Or.inl ⟨rfl, pm_wd_in (pos := 656) (by decide +kernel) rfl, pm_wd_in (pos := 657) (by decide +kernel) rfl, rfl⟩⟩
set_option maxRecDepth 100000 in
theorem pm_m49 : pm_mOK 49 := ⟨pm_cw (pos := 601) rfl rfl, pm_wd_in (pos := 79) (by decide +kernel) rfl, by decide +kernel, ⟨by decide +kernel, by decide +kernel⟩, by decide +kernel, Or.inl ⟨rfl, pm_wd_in (pos := 599) (by decide +kernel) rfl, pm_wd_in (pos := 600) (by decide +kernel) rfl, rfl⟩⟩
set_option maxRecDepth 100000 in
theorem pm_m50 : pm_mOK 50 := ⟨pm_cw (pos := 597) rfl rfl, pm_wd_in (pos := 79) (by decide +kernel) rfl, by decide +kernel, ⟨by decide +kernel, by decide +kernel⟩, by decide +kernel, Or.inl ⟨rfl, pm_wd_in (pos := 595) (by decide +kernel) rfl, pm_wd_in (pos := 596) (by decide +kernel) rfl, rfl⟩⟩
set_option maxRecDepth 100000 in
theorem pm_m51 : pm_mOK 51 := ⟨pm_cw (pos := 605) rfl rfl, pm_wd_in (pos := 79) (by decide +kernel) rfl, by decide +kernel, ⟨by decide +kernel, by decide +kernel⟩, by decide +kernel, Or.inl ⟨rfl, pm_wd_in (pos := 603) (by decide +kernel) rfl, pm_wd_in (pos := 604) (by decide +kernel) rfl, rfl⟩⟩
set_option maxRecDepth 100000 in
theorem pm_m52 : pm_mOK 52 := ⟨pm_cw (pos := 514) rfl rfl, pm_wd_in (pos := 79) (by decide +kernel) rfl, by decide +kernel, ⟨by decide +kernel, by decide +kernel⟩, by decide +kernel, Or.inl ⟨rfl, pm_wd_in (pos := 512) (by decide +kernel) rfl, pm_wd_in (pos := 513) (by decide +kernel) rfl, rfl⟩⟩
set_option maxRecDepth 100000 in
theorem pm_m53 : pm_mOK 53 := ⟨pm_cw (pos := 678) rfl rfl, pm_wd_in (pos := 79) (by decide +kernel) rfl, by decide +kernel, ⟨by decide +kernel, by decide +kernel⟩, by decide +kernel, Or.inl ⟨rfl, pm_wd_in (pos := 676) (by decide +kernel) rfl, pm_wd_in (pos := 677) (by decide +kernel) rfl, rfl⟩⟩
set_option maxRecDepth 100000 in
theorem pm_m54 : pm_mOK 54 := ⟨pm_cw (pos := 666) rfl rfl, pm_wd_in (pos := 79) (by decide +kernel) rfl, by decide +kernel, ⟨by decide +kernel, by decide +kernel⟩, by decide +kernel, Or.inl ⟨rfl, pm_wd_in (pos := 664) (by decide +kernel) rfl, pm_wd_in (pos := 665) (by decide +kernel) rfl, rfl⟩⟩
set_option maxRecDepth 100000 in
theorem pm_m55 : pm_mOK 55 := ⟨pm_cw (pos := 822) rfl rfl, pm_wd_in (pos := 79) (by decide +kernel) rfl, by decide +kernel, ⟨by decide +kernel, by decide +kernel⟩, by decide +kernel, Or.inl ⟨rfl, pm_wd_in (pos := 820) (by decide +kernel) rfl, pm_wd_in (pos := 821) (by decide +kernel) rfl, rfl⟩⟩
set_option maxRecDepth 100000 in
theorem pm_m56 : pm_mOK 56 := ⟨pm_cw (pos := 276) rfl rfl, pm_wd_in (pos := 80) (by decide +kernel) rfl, by decide +kernel, ⟨by decide +kernel, by decide +kernel⟩, by decide +kernel, Or.inr (Or.inr ⟨rfl, pm_wd_in (pos := 275) (by decide +kernel) rfl, rfl, rfl⟩)⟩
set_option maxRecDepth 100000 in
theorem pm_m57 : pm_mOK 57 := ⟨pm_cw (pos := 695) rfl rfl, pm_wd_in (pos := 80) (by decide +kernel) rfl, by decide +kernel, ⟨by decide +kernel, by decide +kernel⟩, by decide +kernel, Or.inl ⟨rfl, pm_wd_in (pos := 693) (by decide +kernel) rfl, pm_wd_in (pos := 694) (by decide +kernel) rfl, rfl⟩⟩
set_option maxRecDepth 100000 in
theorem pm_m58 : pm_mOK 58 := ⟨pm_cw (pos := 713) rfl rfl, pm_wd_in (pos := 80) (by decide +kernel) rfl, by decide +kernel, ⟨by decide +kernel, by decide +kernel⟩, by decide +kernel, Or.inl ⟨rfl, pm_wd_in (pos := 712) (by decide +kernel) rfl, pm_wd_in (pos := 12) (by decide +kernel) rfl, rfl⟩⟩
set_option maxRecDepth 100000 in
theorem pm_m59 : pm_mOK 59 := ⟨pm_cw (pos := 709) rfl rfl, pm_wd_in (pos := 80) (by decide +kernel) rfl, by decide +kernel, ⟨by decide +kernel, by decide +kernel⟩, by decide +kernel, Or.inl ⟨rfl, pm_wd_in (pos := 708) (by decide +kernel) rfl, pm_wd_in (pos := 11) (by decide +kernel) rfl, rfl⟩⟩
set_option maxRecDepth 100000 in
theorem pm_m60 : pm_mOK 60 := ⟨pm_cw (pos := 717) rfl rfl, pm_wd_in (pos := 80) (by decide +kernel) rfl, by decide +kernel, ⟨by decide +kernel, by decide +kernel⟩, by decide +kernel, Or.inl ⟨rfl, pm_wd_in (pos := 716) (by decide +kernel) rfl, pm_wd_in (pos := 13) (by decide +kernel) rfl, rfl⟩⟩
set_option maxRecDepth 100000 in
theorem pm_m61 : pm_mOK 61 := ⟨pm_cw (pos := 721) rfl rfl, pm_wd_in (pos := 80) (by decide +kernel) rfl, by decide +kernel, ⟨by decide +kernel, by decide +kernel⟩, by decide +kernel, Or.inl ⟨rfl, pm_wd_in (pos := 720) (by decide +kernel) rfl, pm_wd_in (pos := 14) (by decide +kernel) rfl, rfl⟩⟩
set_option maxRecDepth 100000 in
theorem pm_m62 : pm_mOK 62 := ⟨pm_cw (pos := 725) rfl rfl, pm_wd_in (pos := 80) (by decide +kernel) rfl, by decide +kernel, ⟨by decide +kernel, by decide +kernel⟩, by decide +kernel, Or.inl ⟨rfl, pm_wd_in (pos := 724) (by decide +kernel) rfl, pm_wd_in (pos := 15) (by decide +kernel) rfl, rfl⟩⟩
set_option maxRecDepth 100000 in
theorem pm_m63 : pm_mOK 63 := ⟨pm_cw (pos := 739) rfl rfl, pm_wd_in (pos := 80) (by decide +kernel) rfl, by decide +kernel, ⟨by decide +kernel, by decide +kernel⟩, by decide +kernel, Or.inl ⟨rfl, pm_wd_in (pos := 738) (by decide +kernel) rfl, pm_wd_in (pos := 16) (by decide +kernel) rfl, rfl⟩⟩
set_option maxRecDepth 100000 in
theorem pm_m64 : pm_mOK 64 := ⟨pm_cw (pos := 743) rfl rfl, pm_wd_in (pos := 80) (by decide +kernel) rfl, by decide +kernel, ⟨by decide +kernel, by decide +kernel⟩, by decide +kernel, Or.inl ⟨rfl, pm_wd_in (pos := 742) (by decide +kernel) rfl, pm_wd_in (pos := 17) (by decide +kernel) rfl, rfl⟩⟩
set_option maxRecDepth 100000 in
theorem pm_m65 : pm_mOK 65 := ⟨pm_cw (pos := 751) rfl rfl, pm_wd_in (pos := 80) (by decide +kernel) rfl, by decide +kernel, ⟨by decide +kernel, by decide +kernel⟩, by decide +kernel, Or.inl ⟨rfl, pm_wd_in (pos := 750) (by decide +kernel) rfl, pm_wd_in (pos := 18) (by decide +kernel) rfl, rfl⟩⟩
set_option maxRecDepth 100000 in
theorem pm_m66 : pm_mOK 66 := ⟨pm_cw (pos := 764) rfl rfl, pm_wd_in (pos := 80) (by decide +kernel) rfl, by decide +kernel, ⟨by decide +kernel, by decide +kernel⟩, by decide +kernel, Or.inl ⟨rfl, pm_wd_in (pos := 763) (by decide +kernel) rfl, pm_wd_in (pos := 19) (by decide +kernel) rfl, rfl⟩⟩
set_option maxRecDepth 100000 in
theorem pm_m67 : pm_mOK 67 := ⟨pm_cw (pos := 772) rfl rfl, pm_wd_in (pos := 80) (by decide +kernel) rfl, by decide +kernel, ⟨by decide +kernel, by decide +kernel⟩, by decide +kernel, Or.inl ⟨rfl, pm_wd_in (pos := 771) (by decide +kernel) rfl, pm_wd_in (pos := 20) (by decide +kernel) rfl, rfl⟩⟩
set_option maxRecDepth 100000 in
theorem pm_m68 : pm_mOK 68 := ⟨pm_cw (pos := 201) rfl rfl, pm_wd_in (pos := 77) (by decide +kernel) rfl, by decide +kernel, ⟨by decide +kernel, by decide +kernel⟩, by decide +kernel, Or.inr (Or.inr ⟨rfl, pm_wd_in (pos := 200) (by decide +kernel) rfl, rfl, rfl⟩)⟩
set_option maxRecDepth 100000 in
theorem pm_m69 : pm_mOK 69 := ⟨pm_cw (pos := 469) rfl rfl, pm_wd_in (pos := 77) (by decide +kernel) rfl, by decide +kernel, ⟨by decide +kernel, by decide +kernel⟩, by decide +kernel, Or.inl ⟨rfl, pm_wd_in (pos := 467) (by decide +kernel) rfl, pm_wd_in (pos := 468) (by decide +kernel) rfl, rfl⟩⟩
set_option maxRecDepth 100000 in
theorem pm_m70 : pm_mOK 70 := ⟨pm_cw (pos := 593) rfl rfl, pm_wd_in (pos := 77) (by decide +kernel) rfl, by decide +kernel, ⟨by decide +kernel, by decide +kernel⟩, by decide +kernel, Or.inl ⟨rfl, pm_wd_in (pos := 591) (by decide +kernel) rfl, pm_wd_in (pos := 592) (by decide +kernel) rfl, rfl⟩⟩
set_option maxRecDepth 100000 in
theorem pm_m71 : pm_mOK 71 := ⟨pm_cw (pos := 485) rfl rfl, pm_wd_in (pos := 77) (by decide +kernel) rfl, by decide +kernel, ⟨by decide +kernel, by decide +kernel⟩, by decide +kernel, Or.inl ⟨rfl, pm_wd_in (pos := 484) (by decide +kernel) rfl, pm_wd_in (pos := 0) (by decide +kernel) rfl, rfl⟩⟩
set_option maxRecDepth 100000 in
theorem pm_m72 : pm_mOK 72 := ⟨pm_cw (pos := 490) rfl rfl, pm_wd_in (pos := 77) (by decide +kernel) rfl, by decide +kernel, ⟨by decide +kernel, by decide +kernel⟩, by decide +kernel, Or.inl ⟨rfl, pm_wd_in (pos := 489) (by decide +kernel) rfl, pm_wd_in (pos := 1) (by decide +kernel) rfl, rfl⟩⟩
set_option maxRecDepth 100000 in
theorem pm_m73 : pm_mOK 73 := ⟨pm_cw (pos := 506) rfl rfl, pm_wd_in (pos := 77) (by decide +kernel) rfl, by decide +kernel, ⟨by decide +kernel, by decide +kernel⟩, by decide +kernel, Or.inl ⟨rfl, pm_wd_in (pos := 505) (by decide +kernel) rfl, pm_wd_in (pos := 4) (by decide +kernel) rfl, rfl⟩⟩
set_option maxRecDepth 100000 in
theorem pm_m74 : pm_mOK 74 := ⟨pm_cw (pos := 510) rfl rfl, pm_wd_in (pos := 77) (by decide +kernel) rfl, by decide +kernel, ⟨by decide +kernel, by decide +kernel⟩, by decide +kernel, Or.inl ⟨rfl, pm_wd_in (pos := 509) (by decide +kernel) rfl, pm_wd_in (pos := 5) (by decide +kernel) rfl, rfl⟩⟩
set_option maxRecDepth 100000 in
theorem pm_m75 : pm_mOK 75 := ⟨pm_cw (pos := 494) rfl rfl, pm_wd_in (pos := 77) (by decide +kernel) rfl, by decide +kernel, ⟨by decide +kernel, by decide +kernel⟩, by decide +kernel, Or.inl ⟨rfl, pm_wd_in (pos := 493) (by decide +kernel) rfl, pm_wd_in (pos := 2) (by decide +kernel) rfl, rfl⟩⟩
set_option maxRecDepth 100000 in
theorem pm_m76 : pm_mOK 76 := ⟨pm_cw (pos := 498) rfl rfl, pm_wd_in (pos := 77) (by decide +kernel) rfl, by decide +kernel, ⟨by decide +kernel, by decide +kernel⟩, by decide +kernel, Or.inl ⟨rfl, pm_wd_in (pos := 497) (by decide +kernel) rfl, pm_wd_in (pos := 3) (by decide +kernel) rfl, rfl⟩⟩
set_option maxRecDepth 100000 in
theorem pm_m77 : pm_mOK 77 := ⟨pm_cw (pos := 327) rfl rfl, pm_wd_in (pos := 83) (by decide +kernel) rfl, by decide +kernel, ⟨by decide +kernel, by decide +kernel⟩, by decide +kernel, Or.inr (Or.inr ⟨rfl, pm_wd_in (pos := 326) (by decide +kernel) rfl, rfl, rfl⟩)⟩
set_option maxRecDepth 100000 in
theorem pm_m78 : pm_mOK 78 := ⟨pm_cw (pos := 864) rfl rfl, pm_wd_in (pos := 83) (by decide +kernel) rfl, by decide +kernel, ⟨by decide +kernel, by decide +kernel⟩, by decide +kernel, Or.inl ⟨rfl, pm_wd_in (pos := 862) (by decide +kernel) rfl, pm_wd_in (pos := 863) (by decide +kernel) rfl, rfl⟩⟩
set_option maxRecDepth 100000 in
theorem pm_m79 : pm_mOK 79 := ⟨pm_cw (pos := 871) rfl rfl, pm_wd_in (pos := 83) (by decide +kernel) rfl, by decide +kernel, ⟨by decide +kernel, by decide +kernel⟩, by decide +kernel, Or.inl ⟨rfl, pm_wd_in (pos := 869) (by decide +kernel) rfl, pm_wd_in (pos := 870) (by decide +kernel) rfl, rfl⟩⟩
set_option maxRecDepth 100000 in
theorem pm_m80 : pm_mOK 80 := ⟨pm_cw (pos := 875) rfl rfl, pm_wd_in (pos := 83) (by decide +kernel) rfl, by decide +kernel, ⟨by decide +kernel, by decide +kernel⟩, by decide +kernel, Or.inl ⟨rfl, pm_wd_in (pos := 874) (by decide +kernel) rfl, pm_wd_in (pos := 29) (by decide +kernel) rfl, rfl⟩⟩
set_option maxRecDepth 100000 in
theorem pm_m81 : pm_mOK 81 := ⟨pm_cw (pos := 884) rfl rfl, pm_wd_in (pos := 83) (by decide +kernel) rfl, by decide +kernel, ⟨by decide +kernel, by decide +kernel⟩, by decide +kernel, Or.inl ⟨rfl, pm_wd_in (pos := 883) (by decide +kernel) rfl, pm_wd_in (pos := 30) (by decide +kernel) rfl, rfl⟩⟩
set_option maxRecDepth 100000 in
theorem pm_m82 : pm_mOK 82 := ⟨pm_cw (pos := 902) rfl rfl, pm_wd_in (pos := 83) (by decide +kernel) rfl, by decide +kernel, ⟨by decide +kernel, by decide +kernel⟩, by decide +kernel, Or.inl ⟨rfl, pm_wd_in (pos := 901) (by decide +kernel) rfl, pm_wd_in (pos := 33) (by decide +kernel) rfl, rfl⟩⟩
set_option maxRecDepth 100000 in
theorem pm_m83 : pm_mOK 83 := ⟨pm_cw (pos := 898) rfl rfl, pm_wd_in (pos := 83) (by decide +kernel) rfl, by decide +kernel, ⟨by decide +kernel, by decide +kernel⟩, by decide +kernel, Or.inl ⟨rfl, pm_wd_in (pos := 897) (by decide +kernel) rfl, pm_wd_in (pos := 32) (by decide +kernel) rfl, rfl⟩⟩
set_option maxRecDepth 100000 in
theorem pm_m84 : pm_mOK 84 := ⟨pm_cw (pos := 889) rfl rfl, pm_wd_in (pos := 83) (by decide +kernel) rfl, by decide +kernel, ⟨by decide +kernel, by decide +kernel⟩, by decide +kernel, Or.inl ⟨rfl, pm_wd_in (pos := 888) (by decide +kernel) rfl, pm_wd_in (pos := 31) (by decide +kernel) rfl, rfl⟩⟩
set_option maxRecDepth 100000 in
theorem pm_m85 : pm_mOK 85 := ⟨pm_cw (pos := 906) rfl rfl, pm_wd_in (pos := 83) (by decide +kernel) rfl, by decide +kernel, ⟨by decide +kernel, by decide +kernel⟩, by decide +kernel, Or.inl ⟨rfl, pm_wd_in (pos := 905) (by decide +kernel) rfl, pm_wd_in (pos := 34) (by decide +kernel) rfl, rfl⟩⟩
set_option maxRecDepth 100000 in
theorem pm_m86 : pm_mOK 86 := ⟨pm_cw (pos := 104) rfl rfl, pm_wd_in (pos := 72) (by decide +kernel) rfl, by decide +kernel, ⟨by decide +kernel, by decide +kernel⟩, by decide +kernel, Or.inr (Or.inr ⟨rfl, pm_wd_in (pos := 103) (by decide +kernel) rfl, rfl, rfl⟩)⟩
set_option maxRecDepth 100000 in
theorem pm_m87 : pm_mOK 87 := ⟨pm_cw (pos := 406) rfl rfl, pm_wd_in (pos := 72) (by decide +kernel) rfl, by decide +kernel, ⟨by decide +kernel, by decide +kernel⟩, by decide +kernel, Or.inr (Or.inl ⟨rfl, pm_wd_in (pos := 405) (by decide +kernel) rfl⟩)⟩
set_option maxRecDepth 100000 in
theorem pm_m88 : pm_mOK 88 := ⟨pm_cw (pos := 412) rfl rfl, pm_wd_in (pos := 72) (by decide +kernel) rfl, by decide +kernel, ⟨by decide +kernel, by decide +kernel⟩, by decide +kernel, Or.inr (Or.inl ⟨rfl, pm_wd_in (pos := 411) (by decide +kernel) rfl⟩)⟩
set_option maxRecDepth 100000 in
theorem pm_m89 : pm_mOK 89 := ⟨pm_cw (pos := 685) rfl rfl, pm_wd_in (pos := 72) (by decide +kernel) rfl, by decide +kernel, ⟨by decide +kernel, by decide +kernel⟩, by decide +kernel, Or.inr (Or.inl ⟨rfl, pm_wd_in (pos := 684) (by decide +kernel) rfl⟩)⟩
set_option maxRecDepth 100000 in
theorem pm_m90 : pm_mOK 90 := ⟨pm_cw (pos := 732) rfl rfl, pm_wd_in (pos := 72) (by decide +kernel) rfl, by decide +kernel, ⟨by decide +kernel, by decide +kernel⟩, by decide +kernel, Or.inr (Or.inl ⟨rfl, pm_wd_in (pos := 731) (by decide +kernel) rfl⟩)⟩
set_option maxRecDepth 100000 in
theorem pm_m91 : pm_mOK 91 := ⟨pm_cw (pos := 409) rfl rfl, pm_wd_in (pos := 72) (by decide +kernel) rfl, by decide +kernel, ⟨by decide +kernel, by decide +kernel⟩, by decide +kernel, Or.inr (Or.inl ⟨rfl, pm_wd_in (pos := 408) (by decide +kernel) rfl⟩)⟩
set_option maxRecDepth 100000 in
theorem pm_m92 : pm_mOK 92 := ⟨pm_cw (pos := 424) rfl rfl, pm_wd_in (pos := 72) (by decide +kernel) rfl, by decide +kernel, ⟨by decide +kernel, by decide +kernel⟩, by decide +kernel, Or.inr (Or.inl ⟨rfl, pm_wd_in (pos := 423) (by decide +kernel) rfl⟩)⟩
set_option maxRecDepth 100000 in
theorem pm_m93 : pm_mOK 93 := ⟨pm_cw (pos := 395) rfl rfl, pm_wd_in (pos := 72) (by decide +kernel) rfl, by decide +kernel, ⟨by decide +kernel, by decide +kernel⟩, by decide +kernel, Or.inl ⟨rfl, pm_wd_in (pos := 393) (by decide +kernel) rfl, pm_wd_in (pos := 394) (by decide +kernel) rfl, rfl⟩⟩
set_option maxRecDepth 100000 in
theorem pm_m94 : pm_mOK 94 := ⟨pm_cw (pos := 403) rfl rfl, pm_wd_in (pos := 72) (by decide +kernel) rfl, by decide +kernel, ⟨by decide +kernel, by decide +kernel⟩, by decide +kernel, Or.inl ⟨rfl, pm_wd_in (pos := 401) (by decide +kernel) rfl, pm_wd_in (pos := 402) (by decide +kernel) rfl, rfl⟩⟩
set_option maxRecDepth 100000 in
theorem pm_m95 : pm_mOK 95 := ⟨pm_cw (pos := 674) rfl rfl, pm_wd_in (pos := 72) (by decide +kernel) rfl, by decide +kernel, ⟨by decide +kernel, by decide +kernel⟩, by decide +kernel, Or.inl ⟨rfl, pm_wd_in (pos := 672) (by decide +kernel) rfl, pm_wd_in (pos := 673) (by decide +kernel) rfl, rfl⟩⟩
set_option maxRecDepth 100000 in
theorem pm_m96 : pm_mOK 96 := ⟨pm_cw (pos := 670) rfl rfl, pm_wd_in (pos := 72) (by decide +kernel) rfl, by decide +kernel, ⟨by decide +kernel, by decide +kernel⟩, by decide +kernel, Or.inl ⟨rfl, pm_wd_in (pos := 668) (by decide +kernel) rfl, pm_wd_in (pos := 669) (by decide +kernel) rfl, rfl⟩⟩
set_option maxRecDepth 100000 in
theorem pm_m97 : pm_mOK 97 := ⟨pm_cw (pos := 826) rfl rfl, pm_wd_in (pos := 72) (by decide +kernel) rfl, by decide +kernel, ⟨by decide +kernel, by decide +kernel⟩, by decide +kernel, Or.inl ⟨rfl, pm_wd_in (pos := 824) (by decide +kernel) rfl, pm_wd_in (pos := 825) (by decide +kernel) rfl, rfl⟩⟩
set_option maxRecDepth 100000 in
theorem pm_m98 : pm_mOK 98 := ⟨pm_cw (pos := 96) rfl rfl, pm_wd_in (pos := 71) (by decide +kernel) rfl, by decide +kernel, ⟨by decide +kernel, by decide +kernel⟩, by decide +kernel, Or.inr (Or.inr ⟨rfl, pm_wd_in (pos := 95) (by decide +kernel) rfl, rfl, rfl⟩)⟩
set_option maxRecDepth 100000 in
theorem pm_m99 : pm_mOK 99 := ⟨pm_cw (pos := 391) rfl rfl, pm_wd_in (pos := 71) (by decide +kernel) rfl, by decide +kernel, ⟨by decide +kernel, by decide +kernel⟩, by decide +kernel, Or.inl ⟨rfl, pm_wd_in (pos := 389) (by decide +kernel) rfl, pm_wd_in (pos := 390) (by decide +kernel) rfl, rfl⟩⟩
set_option maxRecDepth 100000 in
theorem pm_m100 : pm_mOK 100 := ⟨pm_cw (pos := 399) rfl rfl, pm_wd_in (pos := 71) (by decide +kernel) rfl, by decide +kernel, ⟨by decide +kernel, by decide +kernel⟩, by decide +kernel, Or.inl ⟨rfl, pm_wd_in (pos := 397) (by decide +kernel) rfl, pm_wd_in (pos := 398) (by decide +kernel) rfl, rfl⟩⟩
set_option maxRecDepth 100000 in
theorem pm_m101 : pm_mOK 101 := ⟨pm_cw (pos := 416) rfl rfl, pm_wd_in (pos := 71) (by decide +kernel) rfl, by decide +kernel, ⟨by decide +kernel, by decide +kernel⟩, by decide +kernel, Or.inl ⟨rfl, pm_wd_in (pos := 414) (by decide +kernel) rfl, pm_wd_in (pos := 415) (by decide +kernel) rfl, rfl⟩⟩
set_option maxRecDepth 100000 in
theorem pm_m102 : pm_mOK 102 := ⟨pm_cw (pos := 428) rfl rfl, pm_wd_in (pos := 71) (by decide +kernel) rfl, by decide +kernel, ⟨by decide +kernel, by decide +kernel⟩, by decide +kernel, Or.inl ⟨rfl, pm_wd_in (pos := 426) (by decide +kernel) rfl, pm_wd_in (pos := 427) (by decide +kernel) rfl, rfl⟩⟩
set_option maxRecDepth 100000 in
theorem pm_m103 : pm_mOK 103 := ⟨pm_cw (pos := 432) rfl rfl, pm_wd_in (pos := 71) (by decide +kernel) rfl, by decide +kernel, ⟨by decide +kernel, by decide +kernel⟩, by decide +kernel, Or.inl ⟨rfl, pm_wd_in (pos := 430) (by decide +kernel) rfl, pm_wd_in (pos := 431) (by decide +kernel) rfl, rfl⟩⟩
set_option maxRecDepth 100000 in
theorem pm_m104 : pm_mOK 104 := ⟨pm_cw (pos := 441) rfl rfl, pm_wd_in (pos := 71) (by decide +kernel) rfl, by decide +kernel, ⟨by decide +kernel, by decide +kernel⟩, by decide +kernel, Or.inl ⟨rfl, pm_wd_in (pos := 439) (by decide +kernel) rfl, pm_wd_in (pos := 440) (by decide +kernel) rfl, rfl⟩⟩
set_option maxRecDepth 100000 in
theorem pm_m105 : pm_mOK 105 := ⟨pm_cw (pos := 449) rfl rfl, pm_wd_in (pos := 71) (by decide +kernel) rfl, by decide +kernel, ⟨by decide +kernel, by decide +kernel⟩, by decide +kernel, Or.inl ⟨rfl, pm_wd_in (pos := 447) (by decide +kernel) rfl, pm_wd_in (pos := 448) (by decide +kernel) rfl, rfl⟩⟩
set_option maxRecDepth 100000 in
theorem pm_m106 : pm_mOK 106 := ⟨pm_cw (pos := 453) rfl rfl, pm_wd_in (pos := 71) (by decide +kernel) rfl, by decide +kernel, ⟨by decide +kernel, by decide +kernel⟩, by decide +kernel, Or.inl ⟨rfl, pm_wd_in (pos := 451) (by decide +kernel) rfl, pm_wd_in (pos := 452) (by decide +kernel) rfl, rfl⟩⟩
set_option maxRecDepth 100000 in
theorem pm_m107 : pm_mOK 107 := ⟨pm_cw (pos := 465) rfl rfl, pm_wd_in (pos := 71) (by decide +kernel) rfl, by decide +kernel, ⟨by decide +kernel, by decide +kernel⟩, by decide +kernel, Or.inl ⟨rfl, pm_wd_in (pos := 463) (by decide +kernel) rfl, pm_wd_in (pos := 464) (by decide +kernel) rfl, rfl⟩⟩
set_option maxRecDepth 100000 in
theorem pm_m108 : pm_mOK 108 := ⟨pm_cw (pos := 589) rfl rfl, pm_wd_in (pos := 71) (by decide +kernel) rfl, by decide +kernel, ⟨by decide +kernel, by decide +kernel⟩, by decide +kernel, Or.inl ⟨rfl, pm_wd_in (pos := 587) (by decide +kernel) rfl, pm_wd_in (pos := 588) (by decide +kernel) rfl, rfl⟩⟩
set_option maxRecDepth 100000 in
theorem pm_m109 : pm_mOK 109 := ⟨pm_cw (pos := 612) rfl rfl, pm_wd_in (pos := 71) (by decide +kernel) rfl, by decide +kernel, ⟨by decide +kernel, by decide +kernel⟩, by decide +kernel, Or.inl ⟨rfl, pm_wd_in (pos := 610) (by decide +kernel) rfl, pm_wd_in (pos := 611) (by decide +kernel) rfl, rfl⟩⟩
set_option maxRecDepth 100000 in
theorem pm_m110 : pm_mOK 110 := ⟨pm_cw (pos := 801) rfl rfl, pm_wd_in (pos := 71) (by decide +kernel) rfl, by decide +kernel, ⟨by decide +kernel, by decide +kernel⟩, by decide +kernel, Or.inl ⟨rfl, pm_wd_in (pos := 799) (by decide +kernel) rfl, pm_wd_in (pos := 800) (by decide +kernel) rfl, rfl⟩⟩
set_option maxRecDepth 100000 in
theorem pm_m111 : pm_mOK 111 := ⟨pm_cw (pos := 933) rfl rfl, pm_wd_in (pos := 84) (by decide +kernel) rfl, by decide +kernel, ⟨by decide +kernel, by decide +kernel⟩, by decide +kernel, Or.inr (Or.inr ⟨rfl, pm_wd_in (pos := 932) (by decide +kernel) rfl, rfl, rfl⟩)⟩
set_option maxRecDepth 100000 in
theorem pm_m112 : pm_mOK 112 := ⟨pm_cw (pos := 1035) rfl rfl, pm_wd_in (pos := 84) (by decide +kernel) rfl, by decide +kernel, ⟨by decide +kernel, by decide +kernel⟩, by decide +kernel, Or.inl ⟨rfl, pm_wd_in (pos := 1033) (by decide +kernel) rfl, pm_wd_in (pos := 1034) (by decide +kernel) rfl, rfl⟩⟩
set_option maxRecDepth 100000 in
theorem pm_m113 : pm_mOK 113 := ⟨pm_cw (pos := 1049) rfl rfl, pm_wd_in (pos := 84) (by decide +kernel) rfl, by decide +kernel, ⟨by decide +kernel, by decide +kernel⟩, by decide +kernel, Or.inr (Or.inl ⟨rfl, pm_wd_in (pos := 1048) (by decide +kernel) rfl⟩)⟩
set_option maxRecDepth 100000 in
theorem pm_m114 : pm_mOK 114 := ⟨pm_cw (pos := 1046) rfl rfl, pm_wd_in (pos := 84) (by decide +kernel) rfl, by decide +kernel, ⟨by decide +kernel, by decide +kernel⟩, by decide +kernel, Or.inr (Or.inl ⟨rfl, pm_wd_in (pos := 1045) (by decide +kernel) rfl⟩)⟩
set_option maxRecDepth 100000 in
theorem pm_m115 : pm_mOK 115 := ⟨pm_cw (pos := 1155) rfl rfl, pm_wd_in (pos := 84) (by decide +kernel) rfl, by decide +kernel, ⟨by decide +kernel, by decide +kernel⟩, by decide +kernel, Or.inr (Or.inl ⟨rfl, pm_wd_in (pos := 1154) (by decide +kernel) rfl⟩)⟩
set_option maxRecDepth 100000 in
theorem pm_m116 : pm_mOK 116 := ⟨pm_cw (pos := 1148) rfl rfl, pm_wd_in (pos := 84) (by decide +kernel) rfl, by decide +kernel, ⟨by decide +kernel, by decide +kernel⟩, by decide +kernel, Or.inl ⟨rfl, pm_wd_in (pos := 1147) (by decide +kernel) rfl, pm_wd_in (pos := 48) (by decide +kernel) rfl, rfl⟩⟩
set_option maxRecDepth 100000 in
theorem pm_m117 : pm_mOK 117 := ⟨pm_cw (pos := 1144) rfl rfl, pm_wd_in (pos := 84) (by decide +kernel) rfl, by decide +kernel, ⟨by decide +kernel, by decide +kernel⟩, by decide +kernel, Or.inl ⟨rfl, pm_wd_in (pos := 1143) (by decide +kernel) rfl, pm_wd_in (pos := 47) (by decide +kernel) rfl, rfl⟩⟩
set_option maxRecDepth 100000 in
theorem pm_m118 : pm_mOK 118 := ⟨pm_cw (pos := 1221) rfl rfl, pm_wd_in (pos := 84) (by decide +kernel) rfl, by decide +kernel, ⟨by decide +kernel, by decide +kernel⟩, by decide +kernel, Or.inl ⟨rfl, pm_wd_in (pos := 1220) (by decide +kernel) rfl, pm_wd_in (pos := 63) (by decide +kernel) rfl, rfl⟩⟩
set_option maxRecDepth 100000 in
theorem pm_m119 : pm_mOK 119 := ⟨pm_cw (pos := 1039) rfl rfl, pm_wd_in (pos := 84) (by decide +kernel) rfl, by decide +kernel, ⟨by decide +kernel, by decide +kernel⟩, by decide +kernel, Or.inl ⟨rfl, pm_wd_in (pos := 1037) (by decide +kernel) rfl, pm_wd_in (pos := 1038) (by decide +kernel) rfl, rfl⟩⟩
set_option maxRecDepth 100000 in
theorem pm_m120 : pm_mOK 120 := ⟨pm_cw (pos := 1043) rfl rfl, pm_wd_in (pos := 84) (by decide +kernel) rfl, by decide +kernel, ⟨by decide +kernel, by decide +kernel⟩, by decide +kernel, Or.inl ⟨rfl, pm_wd_in (pos := 1041) (by decide +kernel) rfl, pm_wd_in (pos := 1042) (by decide +kernel) rfl, rfl⟩⟩
set_option maxRecDepth 100000 in
theorem pm_m121 : pm_mOK 121 := ⟨pm_cw (pos := 1056) rfl rfl, pm_wd_in (pos := 84) (by decide +kernel) rfl, by decide +kernel, ⟨by decide +kernel, by decide +kernel⟩, by decide +kernel, Or.inr (Or.inl ⟨rfl, pm_wd_in (pos := 1055) (by decide +kernel) rfl⟩)⟩
set_option maxRecDepth 100000 in
theorem pm_m122 : pm_mOK 122 := ⟨pm_cw (pos := 1053) rfl rfl, pm_wd_in (pos := 84) (by decide +kernel) rfl, by decide +kernel, ⟨by decide +kernel, by decide +kernel⟩, by decide +kernel, Or.inl ⟨rfl, pm_wd_in (pos := 1051) (by decide +kernel) rfl, pm_wd_in (pos := 1052) (by decide +kernel) rfl, rfl⟩⟩
set_option maxRecDepth 100000 in
theorem pm_m123 : pm_mOK 123 := ⟨pm_cw (pos := 1060) rfl rfl, pm_wd_in (pos := 84) (by decide +kernel) rfl, by decide +kernel, ⟨by decide +kernel, by decide +kernel⟩, by decide +kernel, Or.inl ⟨rfl, pm_wd_in (pos := 1058) (by decide +kernel) rfl, pm_wd_in (pos := 1059) (by decide +kernel) rfl, rfl⟩⟩
set_option maxRecDepth 100000 in
theorem pm_m124 : pm_mOK 124 := ⟨pm_cw (pos := 1064) rfl rfl, pm_wd_in (pos := 84) (by decide +kernel) rfl, by decide +kernel, ⟨by decide +kernel, by decide +kernel⟩, by decide +kernel, Or.inl ⟨rfl, pm_wd_in (pos := 1062) (by decide +kernel) rfl, pm_wd_in (pos := 1063) (by decide +kernel) rfl, rfl⟩⟩
set_option maxRecDepth 100000 in
theorem pm_m125 : pm_mOK 125 := ⟨pm_cw (pos := 1069) rfl rfl, pm_wd_in (pos := 84) (by decide +kernel) rfl, by decide +kernel, ⟨by decide +kernel, by decide +kernel⟩, by decide +kernel, Or.inl ⟨rfl, pm_wd_in (pos := 1067) (by decide +kernel) rfl, pm_wd_in (pos := 1068) (by decide +kernel) rfl, rfl⟩⟩
set_option maxRecDepth 100000 in
theorem pm_m126 : pm_mOK 126 := ⟨pm_cw (pos := 1073) rfl rfl, pm_wd_in (pos := 84) (by decide +kernel) rfl, by decide +kernel, ⟨by decide +kernel, by decide +kernel⟩, by decide +kernel, Or.inl ⟨rfl, pm_wd_in (pos := 1071) (by decide +kernel) rfl, pm_wd_in (pos := 1072) (by decide +kernel) rfl, rfl⟩⟩
set_option maxRecDepth 100000 in
theorem pm_m127 : pm_mOK 127 := ⟨pm_cw (pos := 1077) rfl rfl, pm_wd_in (pos := 84) (by decide +kernel) rfl, by decide +kernel, ⟨by decide +kernel, by decide +kernel⟩, by decide +kernel, Or.inl ⟨rfl, pm_wd_in (pos := 1075) (by decide +kernel) rfl, pm_wd_in (pos := 1076) (by decide +kernel) rfl, rfl⟩⟩
set_option maxRecDepth 100000 in
theorem pm_m128 : pm_mOK 128 := ⟨pm_cw (pos := 1089) rfl rfl, pm_wd_in (pos := 84) (by decide +kernel) rfl, by decide +kernel, ⟨by decide +kernel, by decide +kernel⟩, by decide +kernel, Or.inl ⟨rfl, pm_wd_in (pos := 1088) (by decide +kernel) rfl, pm_wd_in (pos := 36) (by decide +kernel) rfl, rfl⟩⟩
set_option maxRecDepth 100000 in
theorem pm_m129 : pm_mOK 129 := ⟨pm_cw (pos := 1101) rfl rfl, pm_wd_in (pos := 84) (by decide +kernel) rfl, by decide +kernel, ⟨by decide +kernel, by decide +kernel⟩, by decide +kernel, Or.inl ⟨rfl, pm_wd_in (pos := 1100) (by decide +kernel) rfl, pm_wd_in (pos := 39) (by decide +kernel) rfl, rfl⟩⟩
set_option maxRecDepth 100000 in
theorem pm_m130 : pm_mOK 130 := ⟨pm_cw (pos := 1105) rfl rfl, pm_wd_in (pos := 84) (by decide +kernel) rfl, by decide +kernel, ⟨by decide +kernel, by decide +kernel⟩, by decide +kernel, Or.inl ⟨rfl, pm_wd_in (pos := 1104) (by decide +kernel) rfl, pm_wd_in (pos := 40) (by decide +kernel) rfl, rfl⟩⟩
set_option maxRecDepth 100000 in
theorem pm_m131 : pm_mOK 131 := ⟨pm_cw (pos := 1097) rfl rfl, pm_wd_in (pos := 84) (by decide +kernel) rfl, by decide +kernel, ⟨by decide +kernel, by decide +kernel⟩, by decide +kernel, Or.inl ⟨rfl, pm_wd_in (pos := 1096) (by decide +kernel) rfl, pm_wd_in (pos := 38) (by decide +kernel) rfl, rfl⟩⟩
set_option maxRecDepth 100000 in
theorem pm_m132 : pm_mOK 132 := ⟨pm_cw (pos := 1093) rfl rfl, pm_wd_in (pos := 84) (by decide +kernel) rfl, by decide +kernel, ⟨by decide +kernel, by decide +kernel⟩, by decide +kernel, Or.inl ⟨rfl, pm_wd_in (pos := 1092) (by decide +kernel) rfl, pm_wd_in (pos := 37) (by decide +kernel) rfl, rfl⟩⟩
set_option maxRecDepth 100000 in
theorem pm_m133 : pm_mOK 133 := ⟨pm_cw (pos := 1085) rfl rfl, pm_wd_in (pos := 84) (by decide +kernel) rfl, by decide +kernel, ⟨by decide +kernel, by decide +kernel⟩, by decide +kernel, Or.inl ⟨rfl, pm_wd_in (pos := 1084) (by decide +kernel) rfl, pm_wd_in (pos := 35) (by decide +kernel) rfl, rfl⟩⟩
set_option maxRecDepth 100000 in
theorem pm_m134 : pm_mOK 134 := ⟨pm_cw (pos := 1081) rfl rfl, pm_wd_in (pos := 84) (by decide +kernel) rfl, by decide +kernel, ⟨by decide +kernel, by decide +kernel⟩, by decide +kernel, Or.inl ⟨rfl, pm_wd_in (pos := 1079) (by decide +kernel) rfl, pm_wd_in (pos := 1080) (by decide +kernel) rfl, rfl⟩⟩
set_option maxRecDepth 100000 in
theorem pm_m135 : pm_mOK 135 := ⟨pm_cw (pos := 1109) rfl rfl, pm_wd_in (pos := 84) (by decide +kernel) rfl, by decide +kernel, ⟨by decide +kernel, by decide +kernel⟩, by decide +kernel, Or.inl ⟨rfl, pm_wd_in (pos := 1107) (by decide +kernel) rfl, pm_wd_in (pos := 1108) (by decide +kernel) rfl, rfl⟩⟩
set_option maxRecDepth 100000 in
theorem pm_m136 : pm_mOK 136 := ⟨pm_cw (pos := 1124) rfl rfl, pm_wd_in (pos := 84) (by decide +kernel) rfl, by decide +kernel, ⟨by decide +kernel, by decide +kernel⟩, by decide +kernel, Or.inr (Or.inl ⟨rfl, pm_wd_in (pos := 1123) (by decide +kernel) rfl⟩)⟩
set_option maxRecDepth 100000 in
theorem pm_m137 : pm_mOK 137 := ⟨pm_cw (pos := 1121) rfl rfl, pm_wd_in (pos := 84) (by decide +kernel) rfl, by decide +kernel, ⟨by decide +kernel, by decide +kernel⟩, by decide +kernel, Or.inl ⟨rfl, pm_wd_in (pos := 1120) (by decide +kernel) rfl, pm_wd_in (pos := 42) (by decide +kernel) rfl, rfl⟩⟩
set_option maxRecDepth 100000 in
theorem pm_m138 : pm_mOK 138 := ⟨pm_cw (pos := 1117) rfl rfl, pm_wd_in (pos := 84) (by decide +kernel) rfl, by decide +kernel, ⟨by decide +kernel, by decide +kernel⟩, by decide +kernel, Or.inl ⟨rfl, pm_wd_in (pos := 1116) (by decide +kernel) rfl, pm_wd_in (pos := 41) (by decide +kernel) rfl, rfl⟩⟩
set_option maxRecDepth 100000 in
theorem pm_m139 : pm_mOK 139 := ⟨pm_cw (pos := 1159) rfl rfl, pm_wd_in (pos := 84) (by decide +kernel) rfl, by decide +kernel, ⟨by decide +kernel, by decide +kernel⟩, by decide +kernel, Or.inl ⟨rfl, pm_wd_in (pos := 1158) (by decide +kernel) rfl, pm_wd_in (pos := 50) (by decide +kernel) rfl, rfl⟩⟩
set_option maxRecDepth 100000 in
theorem pm_m140 : pm_mOK 140 := ⟨pm_cw (pos := 1177) rfl rfl, pm_wd_in (pos := 84) (by decide +kernel) rfl, by decide +kernel, ⟨by decide +kernel, by decide +kernel⟩, by decide +kernel, Or.inr (Or.inl ⟨rfl, pm_wd_in (pos := 1176) (by decide +kernel) rfl⟩)⟩
set_option maxRecDepth 100000 in
theorem pm_m141 : pm_mOK 141 := ⟨pm_cw (pos := 1166) rfl rfl, pm_wd_in (pos := 84) (by decide +kernel) rfl, by decide +kernel, ⟨by decide +kernel, by decide +kernel⟩, by decide +kernel, Or.inr (Or.inl ⟨rfl, pm_wd_in (pos := 1165) (by decide +kernel) rfl⟩)⟩
set_option maxRecDepth 100000 in
theorem pm_m142 : pm_mOK 142 := ⟨pm_cw (pos := 1170) rfl rfl, pm_wd_in (pos := 84) (by decide +kernel) rfl, by decide +kernel, ⟨by decide +kernel, by decide +kernel⟩, by decide +kernel, Or.inl ⟨rfl, pm_wd_in (pos := 1169) (by decide +kernel) rfl, pm_wd_in (pos := 52) (by decide +kernel) rfl, rfl⟩⟩
set_option maxRecDepth 100000 in
theorem pm_m143 : pm_mOK 143 := ⟨pm_cw (pos := 1181) rfl rfl, pm_wd_in (pos := 84) (by decide +kernel) rfl, by decide +kernel, ⟨by decide +kernel, by decide +kernel⟩, by decide +kernel, Or.inl ⟨rfl, pm_wd_in (pos := 1180) (by decide +kernel) rfl, pm_wd_in (pos := 54) (by decide +kernel) rfl, rfl⟩⟩
set_option maxRecDepth 100000 in
theorem pm_m144 : pm_mOK 144 := ⟨pm_cw (pos := 1174) rfl rfl, pm_wd_in (pos := 84) (by decide +kernel) rfl, by decide +kernel, ⟨by decide +kernel, by decide +kernel⟩, by decide +kernel, Or.inl ⟨rfl, pm_wd_in (pos := 1173) (by decide +kernel) rfl, pm_wd_in (pos := 53) (by decide +kernel) rfl, rfl⟩⟩
set_option maxRecDepth 100000 in
theorem pm_m145 : pm_mOK 145 := ⟨pm_cw (pos := 1185) rfl rfl, pm_wd_in (pos := 84) (by decide +kernel) rfl, by decide +kernel, ⟨by decide +kernel, by decide +kernel⟩, by decide +kernel, Or.inl ⟨rfl, pm_wd_in (pos := 1184) (by decide +kernel) rfl, pm_wd_in (pos := 55) (by decide +kernel) rfl, rfl⟩⟩
set_option maxRecDepth 100000 in
theorem pm_m146 : pm_mOK 146 := ⟨pm_cw (pos := 1189) rfl rfl, pm_wd_in (pos := 84) (by decide +kernel) rfl, by decide +kernel, ⟨by decide +kernel, by decide +kernel⟩, by decide +kernel, Or.inl ⟨rfl, pm_wd_in (pos := 1188) (by decide +kernel) rfl, pm_wd_in (pos := 56) (by decide +kernel) rfl, rfl⟩⟩
set_option maxRecDepth 100000 in
theorem pm_m147 : pm_mOK 147 := ⟨pm_cw (pos := 1193) rfl rfl, pm_wd_in (pos := 84) (by decide +kernel) rfl, by decide +kernel, ⟨by decide +kernel, by decide +kernel⟩, by decide +kernel, Or.inl ⟨rfl, pm_wd_in (pos := 1192) (by decide +kernel) rfl, pm_wd_in (pos := 57) (by decide +kernel) rfl, rfl⟩⟩
set_option maxRecDepth 100000 in
theorem pm_m148 : pm_mOK 148 := ⟨pm_cw (pos := 1201) rfl rfl, pm_wd_in (pos := 84) (by decide +kernel) rfl, by decide +kernel, ⟨by decide +kernel, by decide +kernel⟩, by decide +kernel, Or.inl ⟨rfl, pm_wd_in (pos := 1200) (by decide +kernel) rfl, pm_wd_in (pos := 59) (by decide +kernel) rfl, rfl⟩⟩
set_option maxRecDepth 100000 in
theorem pm_m149 : pm_mOK 149 := ⟨pm_cw (pos := 1205) rfl rfl, pm_wd_in (pos := 84) (by decide +kernel) rfl, by decide +kernel, ⟨by decide +kernel, by decide +kernel⟩, by decide +kernel, Or.inl ⟨rfl, pm_wd_in (pos := 1204) (by decide +kernel) rfl, pm_wd_in (pos := 60) (by decide +kernel) rfl, rfl⟩⟩
set_option maxRecDepth 100000 in
theorem pm_m150 : pm_mOK 150 := ⟨pm_cw (pos := 1197) rfl rfl, pm_wd_in (pos := 84) (by decide +kernel) rfl, by decide +kernel, ⟨by decide +kernel, by decide +kernel⟩, by decide +kernel, Or.inl ⟨rfl, pm_wd_in (pos := 1196) (by decide +kernel) rfl, pm_wd_in (pos := 58) (by decide +kernel) rfl, rfl⟩⟩
set_option maxRecDepth 100000 in
theorem pm_m151 : pm_mOK 151 := ⟨pm_cw (pos := 1163) rfl rfl, pm_wd_in (pos := 84) (by decide +kernel) rfl, by decide +kernel, ⟨by decide +kernel, by decide +kernel⟩, by decide +kernel, Or.inl ⟨rfl, pm_wd_in (pos := 1162) (by decide +kernel) rfl, pm_wd_in (pos := 51) (by decide +kernel) rfl, rfl⟩⟩
set_option maxRecDepth 100000 in
theorem pm_m152 : pm_mOK 152 := ⟨pm_cw (pos := 1128) rfl rfl, pm_wd_in (pos := 84) (by decide +kernel) rfl, by decide +kernel, ⟨by decide +kernel, by decide +kernel⟩, by decide +kernel, Or.inl ⟨rfl, pm_wd_in (pos := 1127) (by decide +kernel) rfl, pm_wd_in (pos := 43) (by decide +kernel) rfl, rfl⟩⟩
set_option maxRecDepth 100000 in
theorem pm_m153 : pm_mOK 153 := ⟨pm_cw (pos := 1136) rfl rfl, pm_wd_in (pos := 84) (by decide +kernel) rfl, by decide +kernel, ⟨by decide +kernel, by decide +kernel⟩, by decide +kernel, Or.inl ⟨rfl, pm_wd_in (pos := 1135) (by decide +kernel) rfl, pm_wd_in (pos := 45) (by decide +kernel) rfl, rfl⟩⟩
set_option maxRecDepth 100000 in
theorem pm_m154 : pm_mOK 154 := ⟨pm_cw (pos := 1140) rfl rfl, pm_wd_in (pos := 84) (by decide +kernel) rfl, by decide +kernel, ⟨by decide +kernel, by decide +kernel⟩, by decide +kernel, Or.inl ⟨rfl, pm_wd_in (pos := 1139) (by decide +kernel) rfl, pm_wd_in (pos := 46) (by decide +kernel) rfl, rfl⟩⟩
set_option maxRecDepth 100000 in
theorem pm_m155 : pm_mOK 155 := ⟨pm_cw (pos := 1152) rfl rfl, pm_wd_in (pos := 84) (by decide +kernel) rfl, by decide +kernel, ⟨by decide +kernel, by decide +kernel⟩, by decide +kernel, Or.inl ⟨rfl, pm_wd_in (pos := 1151) (by decide +kernel) rfl, pm_wd_in (pos := 49) (by decide +kernel) rfl, rfl⟩⟩
set_option maxRecDepth 100000 in
theorem pm_m156 : pm_mOK 156 := ⟨pm_cw (pos := 1132) rfl rfl, pm_wd_in (pos := 84) (by decide +kernel) rfl, by decide +kernel, ⟨by decide +kernel, by decide +kernel⟩, by decide +kernel, Or.inl ⟨rfl, pm_wd_in (pos := 1131) (by decide +kernel) rfl, pm_wd_in (pos := 44) (by decide +kernel) rfl, rfl⟩⟩
set_option maxRecDepth 100000 in
theorem pm_m157 : pm_mOK 157 := ⟨pm_cw (pos := 1113) rfl rfl, pm_wd_in (pos := 84) (by decide +kernel) rfl, by decide +kernel, ⟨by decide +kernel, by decide +kernel⟩, by decide +kernel, Or.inl ⟨rfl, pm_wd_in (pos := 1111) (by decide +kernel) rfl, pm_wd_in (pos := 1112) (by decide +kernel) rfl, rfl⟩⟩
set_option maxRecDepth 100000 in
theorem pm_m158 : pm_mOK 158 := ⟨pm_cw (pos := 1217) rfl rfl, pm_wd_in (pos := 84) (by decide +kernel) rfl, by decide +kernel, ⟨by decide +kernel, by decide +kernel⟩, by decide +kernel, Or.inl ⟨rfl, pm_wd_in (pos := 1216) (by decide +kernel) rfl, pm_wd_in (pos := 62) (by decide +kernel) rfl, rfl⟩⟩
set_option maxRecDepth 100000 in
theorem pm_m159 : pm_mOK 159 := ⟨pm_cw (pos := 1225) rfl rfl, pm_wd_in (pos := 84) (by decide +kernel) rfl, by decide +kernel, ⟨by decide +kernel, by decide +kernel⟩, by decide +kernel, Or.inl ⟨rfl, pm_wd_in (pos := 1224) (by decide +kernel) rfl, pm_wd_in (pos := 64) (by decide +kernel) rfl, rfl⟩⟩
set_option maxRecDepth 100000 in
theorem pm_m160 : pm_mOK 160 := ⟨pm_cw (pos := 1229) rfl rfl, pm_wd_in (pos := 84) (by decide +kernel) rfl, by decide +kernel, ⟨by decide +kernel, by decide +kernel⟩, by decide +kernel, Or.inl ⟨rfl, pm_wd_in (pos := 1228) (by decide +kernel) rfl, pm_wd_in (pos := 65) (by decide +kernel) rfl, rfl⟩⟩
set_option maxRecDepth 100000 in
theorem pm_m161 : pm_mOK 161 := ⟨pm_cw (pos := 1213) rfl rfl, pm_wd_in (pos := 84) (by decide +kernel) rfl, by decide +kernel, ⟨by decide +kernel, by decide +kernel⟩, by decide +kernel, Or.inl ⟨rfl, pm_wd_in (pos := 1212) (by decide +kernel) rfl, pm_wd_in (pos := 61) (by decide +kernel) rfl, rfl⟩⟩
set_option maxRecDepth 100000 in
theorem pm_m162 : pm_mOK 162 := ⟨pm_cw (pos := 1241) rfl rfl, pm_wd_in (pos := 84) (by decide +kernel) rfl, by decide +kernel, ⟨by decide +kernel, by decide +kernel⟩, by decide +kernel, Or.inl ⟨rfl, pm_wd_in (pos := 1240) (by decide +kernel) rfl, pm_wd_in (pos := 68) (by decide +kernel) rfl, rfl⟩⟩
set_option maxRecDepth 100000 in
theorem pm_m163 : pm_mOK 163 := ⟨pm_cw (pos := 1245) rfl rfl, pm_wd_in (pos := 84) (by decide +kernel) rfl, by decide +kernel, ⟨by decide +kernel, by decide +kernel⟩, by decide +kernel, Or.inl ⟨rfl, pm_wd_in (pos := 1244) (by decide +kernel) rfl, pm_wd_in (pos := 69) (by decide +kernel) rfl, rfl⟩⟩
set_option maxRecDepth 100000 in
theorem pm_m164 : pm_mOK 164 := ⟨pm_cw (pos := 1237) rfl rfl, pm_wd_in (pos := 84) (by decide +kernel) rfl, by decide +kernel, ⟨by decide +kernel, by decide +kernel⟩, by decide +kernel, Or.inl ⟨rfl, pm_wd_in (pos := 1236) (by decide +kernel) rfl, pm_wd_in (pos := 67) (by decide +kernel) rfl, rfl⟩⟩
set_option maxRecDepth 100000 in
theorem pm_m165 : pm_mOK 165 := ⟨pm_cw (pos := 1233) rfl rfl, pm_wd_in (pos := 84) (by decide +kernel) rfl, by decide +kernel, ⟨by decide +kernel, by decide +kernel⟩, by decide +kernel, Or.inl ⟨rfl, pm_wd_in (pos := 1232) (by decide +kernel) rfl, pm_wd_in (pos := 66) (by decide +kernel) rfl, rfl⟩⟩
set_option maxRecDepth 100000 in
theorem pm_m166 : pm_mOK 166 := ⟨pm_cw (pos := 1209) rfl rfl, pm_wd_in (pos := 84) (by decide +kernel) rfl, by decide +kernel, ⟨by decide +kernel, by decide +kernel⟩, by decide +kernel, Or.inl ⟨rfl, pm_wd_in (pos := 1207) (by decide +kernel) rfl, pm_wd_in (pos := 1208) (by decide +kernel) rfl, rfl⟩⟩
set_option maxRecDepth 100000 in
theorem pm_m167 : pm_mOK 167 := ⟨pm_cw (pos := 134) rfl rfl, pm_wd_in (pos := 74) (by decide +kernel) rfl, by decide +kernel, ⟨by decide +kernel, by decide +kernel⟩, by decide +kernel, Or.inr (Or.inl ⟨rfl, pm_wd_in (pos := 133) (by decide +kernel) rfl⟩)⟩
theorem pm_mok : ∀ k, k < 168 → pm_mOK k := by
  intro k hk
  match k, hk with
  | 0, _ => exact pm_m0
  | 1, _ => exact pm_m1
  | 2, _ => exact pm_m2
  | 3, _ => exact pm_m3
  | 4, _ => exact pm_m4
  | 5, _ => exact pm_m5
  | 6, _ => exact pm_m6
  | 7, _ => exact pm_m7
  | 8, _ => exact pm_m8
  | 9, _ => exact pm_m9
  | 10, _ => exact pm_m10
  | 11, _ => exact pm_m11
  | 12, _ => exact pm_m12
  | 13, _ => exact pm_m13
  | 14, _ => exact pm_m14
  | 15, _ => exact pm_m15
  | 16, _ => exact pm_m16
  | 17, _ => exact pm_m17
  | 18, _ => exact pm_m18
  | 19, _ => exact pm_m19
  | 20, _ => exact pm_m20
  | 21, _ => exact pm_m21
  | 22, _ => exact pm_m22
  | 23, _ => exact pm_m23
  | 24, _ => exact pm_m24
  | 25, _ => exact pm_m25
  | 26, _ => exact pm_m26
  | 27, _ => exact pm_m27
  | 28, _ => exact pm_m28
  | 29, _ => exact pm_m29
  | 30, _ => exact pm_m30
  | 31, _ => exact pm_m31
  | 32, _ => exact pm_m32
  | 33, _ => exact pm_m33
  | 34, _ => exact pm_m34
  | 35, _ => exact pm_m35
  | 36, _ => exact pm_m36
  | 37, _ => exact pm_m37
  | 38, _ => exact pm_m38
  | 39, _ => exact pm_m39
  | 40, _ => exact pm_m40
  | 41, _ => exact pm_m41
  | 42, _ => exact pm_m42
  | 43, _ => exact pm_m43
  | 44, _ => exact pm_m44
  | 45, _ => exact pm_m45
  | 46, _ => exact pm_m46
  | 47, _ => exact pm_m47
  | 48, _ => exact pm_m48
  | 49, _ => exact pm_m49
  | 50, _ => exact pm_m50
  | 51, _ => exact pm_m51
  | 52, _ => exact pm_m52
  | 53, _ => exact pm_m53
  | 54, _ => exact pm_m54
  | 55, _ => exact pm_m55
  | 56, _ => exact pm_m56
  | 57, _ => exact pm_m57
  | 58, _ => exact pm_m58
  | 59, _ => exact pm_m59
  | 60, _ => exact pm_m60
  | 61, _ => exact pm_m61
  | 62, _ => exact pm_m62
  | 63, _ => exact pm_m63
  | 64, _ => exact pm_m64
  | 65, _ => exact pm_m65
  | 66, _ => exact pm_m66
  | 67, _ => exact pm_m67
  | 68, _ => exact pm_m68
  | 69, _ => exact pm_m69
  | 70, _ => exact pm_m70
  | 71, _ => exact pm_m71
  | 72, _ => exact pm_m72
  | 73, _ => exact pm_m73
  | 74, _ => exact pm_m74
  | 75, _ => exact pm_m75
  | 76, _ => exact pm_m76
  | 77, _ => exact pm_m77
  | 78, _ => exact pm_m78
  | 79, _ => exact pm_m79
  | 80, _ => exact pm_m80
  | 81, _ => exact pm_m81
  | 82, _ => exact pm_m82
  | 83, _ => exact pm_m83
  | 84, _ => exact pm_m84
  | 85, _ => exact pm_m85
  | 86, _ => exact pm_m86
  | 87, _ => exact pm_m87
  | 88, _ => exact pm_m88
  | 89, _ => exact pm_m89
  | 90, _ => exact pm_m90
  | 91, _ => exact pm_m91
  | 92, _ => exact pm_m92
  | 93, _ => exact pm_m93
  | 94, _ => exact pm_m94
  | 95, _ => exact pm_m95
  | 96, _ => exact pm_m96
  | 97, _ => exact pm_m97
  | 98, _ => exact pm_m98
  | 99, _ => exact pm_m99
  | 100, _ => exact pm_m100
  | 101, _ => exact pm_m101
  | 102, _ => exact pm_m102
  | 103, _ => exact pm_m103
  | 104, _ => exact pm_m104
  | 105, _ => exact pm_m105
  | 106, _ => exact pm_m106
  | 107, _ => exact pm_m107
  | 108, _ => exact pm_m108
  | 109, _ => exact pm_m109
  | 110, _ => exact pm_m110
  | 111, _ => exact pm_m111
  | 112, _ => exact pm_m112
  | 113, _ => exact pm_m113
  | 114, _ => exact pm_m114
  | 115, _ => exact pm_m115
  | 116, _ => exact pm_m116
  | 117, _ => exact pm_m117
  | 118, _ => exact pm_m118
  | 119, _ => exact pm_m119
  | 120, _ => exact pm_m120
  | 121, _ => exact pm_m121
  | 122, _ => exact pm_m122
  | 123, _ => exact pm_m123
  | 124, _ => exact pm_m124
  | 125, _ => exact pm_m125
  | 126, _ => exact pm_m126
  | 127, _ => exact pm_m127
  | 128, _ => exact pm_m128
  | 129, _ => exact pm_m129
  | 130, _ => exact pm_m130
  | 131, _ => exact pm_m131
  | 132, _ => exact pm_m132
  | 133, _ => exact pm_m133
  | 134, _ => exact pm_m134
  | 135, _ => exact pm_m135
  | 136, _ => exact pm_m136
  | 137, _ => exact pm_m137
  | 138, _ => exact pm_m138
  | 139, _ => exact pm_m139
  | 140, _ => exact pm_m140
  | 141, _ => exact pm_m141
  | 142, _ => exact pm_m142
  | 143, _ => exact pm_m143
  | 144, _ => exact pm_m144
  | 145, _ => exact pm_m145
  | 146, _ => exact pm_m146
  | 147, _ => exact pm_m147
  | 148, _ => exact pm_m148
  | 149, _ => exact pm_m149
  | 150, _ => exact pm_m150
  | 151, _ => exact pm_m151
  | 152, _ => exact pm_m152
  | 153, _ => exact pm_m153
  | 154, _ => exact pm_m154
  | 155, _ => exact pm_m155
  | 156, _ => exact pm_m156
  | 157, _ => exact pm_m157
  | 158, _ => exact pm_m158
  | 159, _ => exact pm_m159
  | 160, _ => exact pm_m160
  | 161, _ => exact pm_m161
  | 162, _ => exact pm_m162
  | 163, _ => exact pm_m163
  | 164, _ => exact pm_m164
  | 165, _ => exact pm_m165
  | 166, _ => exact pm_m166
  | 167, _ => exact pm_m167
  | n + 168, hk => exact absurd hk (by omega)
theorem pm_okr : ∀ k, k < 169 → pm_okk k = true := by
  intro k hk
  by_cases h0 : k < 12
  · exact List.all_eq_true.mp pm_okr_0 k (List.mem_range'_1.mpr ⟨by omega, by omega⟩)
  by_cases h12 : k < 24
  · exact List.all_eq_true.mp pm_okr_12 k (List.mem_range'_1.mpr ⟨by omega, by omega⟩)
  by_cases h24 : k < 36
  · exact List.all_eq_true.mp pm_okr_24 k (List.mem_range'_1.mpr ⟨by omega, by omega⟩)
  by_cases h36 : k < 48
  · exact List.all_eq_true.mp pm_okr_36 k (List.mem_range'_1.mpr ⟨by omega, by omega⟩)
  by_cases h48 : k < 60
  · exact List.all_eq_true.mp pm_okr_48 k (List.mem_range'_1.mpr ⟨by omega, by omega⟩)
  by_cases h60 : k < 72
  · exact List.all_eq_true.mp pm_okr_60 k (List.mem_range'_1.mpr ⟨by omega, by omega⟩)
  by_cases h72 : k < 84
  · exact List.all_eq_true.mp pm_okr_72 k (List.mem_range'_1.mpr ⟨by omega, by omega⟩)
  by_cases h84 : k < 96
  · exact List.all_eq_true.mp pm_okr_84 k (List.mem_range'_1.mpr ⟨by omega, by omega⟩)
  by_cases h96 : k < 108
  · exact List.all_eq_true.mp pm_okr_96 k (List.mem_range'_1.mpr ⟨by omega, by omega⟩)
  by_cases h108 : k < 120
  · exact List.all_eq_true.mp pm_okr_108 k (List.mem_range'_1.mpr ⟨by omega, by omega⟩)
  by_cases h120 : k < 132
  · exact List.all_eq_true.mp pm_okr_120 k (List.mem_range'_1.mpr ⟨by omega, by omega⟩)
  by_cases h132 : k < 144
  · exact List.all_eq_true.mp pm_okr_132 k (List.mem_range'_1.mpr ⟨by omega, by omega⟩)
  by_cases h144 : k < 156
  · exact List.all_eq_true.mp pm_okr_144 k (List.mem_range'_1.mpr ⟨by omega, by omega⟩)
  by_cases h156 : k < 168
  · exact List.all_eq_true.mp pm_okr_156 k (List.mem_range'_1.mpr ⟨by omega, by omega⟩)
  by_cases h168 : k < 169
  · exact List.all_eq_true.mp pm_okr_168 k (List.mem_range'_1.mpr ⟨by omega, by omega⟩)
  omega
theorem pm_ac0 : Jvm.Cond.arrayClass .int ∈ pm_ws := pm_wd_in (pos := 131) (by decide +kernel) rfl
theorem pm_ac1 : Jvm.Cond.arrayClass .boolean ∈ pm_ws := pm_wd_in (pos := 190) (by decide +kernel) rfl
theorem pm_ac2 : Jvm.Cond.arrayClass .long ∈ pm_ws := pm_wd_in (pos := 1247) (by decide +kernel) rfl
theorem pm_ay1 : Jvm.Cond.native arraycopyName ∈ pm_ws := pm_wd_in (pos := 481) (by decide +kernel) rfl
theorem pm_ay2 : Jvm.Cond.static arraycopyName ∈ pm_ws := pm_wd_in (pos := 480) (by decide +kernel) rfl
theorem pm_ay3 : Jvm.Cond.initialized "java/lang/System" ∈ pm_ws := pm_wd_in (pos := 85) (by decide +kernel) rfl
theorem pm_oi1 : Jvm.Cond.instanceMethod objectInit ∈ pm_ws := pm_wd_in (pos := 98) (by decide +kernel) rfl
theorem pm_mi0 : Jvm.Cond.initialized "java/lang/Math" ∈ pm_ws := pm_wd_in (pos := 90) (by decide +kernel) rfl
theorem pm_mx1 : Jvm.Cond.static Lib.Math.max.name ∈ pm_ws := pm_wd_in (pos := 759) (by decide +kernel) rfl
theorem pm_mn1 : Jvm.Cond.static Lib.Math.min.name ∈ pm_ws := pm_wd_in (pos := 879) (by decide +kernel) rfl
theorem pm_mb1 : Jvm.Cond.static Lib.Math.abs.name ∈ pm_ws := pm_wd_in (pos := 893) (by decide +kernel) rfl
set_option maxRecDepth 100000 in
theorem pm_oi2 : Jvm.Cond.code objectInit ⟨#[0xb1]⟩ 1 none ∈ pm_ws := pm_cw (pos := 99) rfl rfl
set_option maxRecDepth 100000 in
theorem pm_mx2 : Jvm.Cond.code Lib.Math.max.name Lib.Math.max.code 2 (some .int) ∈ pm_ws := pm_cw (pos := 760) rfl rfl
set_option maxRecDepth 100000 in
theorem pm_mn2 : Jvm.Cond.code Lib.Math.min.name Lib.Math.min.code 2 (some .int) ∈ pm_ws := pm_cw (pos := 880) rfl rfl
set_option maxRecDepth 100000 in
theorem pm_mb2 : Jvm.Cond.code Lib.Math.abs.name Lib.Math.abs.code 1 (some .int) ∈ pm_ws := pm_cw (pos := 894) rfl rfl
