theorem hd_X5_thrown : yX5_thrown.cls = RX5 ∧ yX5_thrown.cls ≠ "java/lang/invoke/MethodHandle" ∧ yX5_thrown.cls ≠ "java/lang/invoke/VarHandle" ∧ (parseMethodDescriptor yX5_thrown.desc).map (fun d => d.parameters.length) = some 0 := by decide +kernel
set_option maxHeartbeats 4000000 in
set_option maxRecDepth 100000 in
theorem c_X5_thrown (l : Launch) (G : GA) (a : Nat → Nat) (z : St) (o : St) (sz : Nat) : Met l yX5_thrown wsX5_thrown ({ frames := 0, cells := 0, slots := 0, locals := 0 }) (va_Pc [.ref (a 0)] (PW G (mp G a z o) sz)) (va_Qi (fun (r : Int32) (u : St × St) => r = o 0 0 ∧ u.1 = z ∧ u.2 = o) (fun (u : St × St) t => va_P G.1 gcl (mp G a u.1 u.2) t.heap) (va_A (mp G a z o) sz)) 0 0 (va_A (mp G a z o) sz) := by
  refine met_st (cc := cX5_thrown) (maxL := 1) (ret := (some .int)) (fun A => va_Qi (fun (r : Int32) (u : St × St) => r = o 0 0 ∧ u.1 = z ∧ u.2 = o) (fun (u : St × St) t => va_P G.1 gcl (mp G a u.1 u.2) t.heap) A) (by decide) rfl (Nat.le_of_ble_eq_true rfl) ?_
  intro p e s m args below meth c R Q A H ls hR hQ S hr hlk _ hK hsz hH hAe hA hw hl
  have hl : lv_has ls 1 [(0, .ref (a 0))] := hl
  have LX5 : ∀ w ∈ u_ws RX5 TX5 12, w.before args s = true := fun w h => S.2.2.2.2 w ((by decide +kernel : ∀ w ∈ u_ws RX5 TX5 12, w ∈ wsX5_thrown) w h)
  have k1 : (Cond.fieldLink RX5 22 "GossipMembershipModel" "thrown" "I").before args s = true := S.2.2.2.2 _ (by decide +kernel : (Cond.fieldLink RX5 22 "GossipMembershipModel" "thrown" "I") ∈ wsX5_thrown)
  refine lv_aload_n S.1 S.2.1 dX5_thrown_0 rfl (lv_at hl 0 rfl) ?_
  refine gt_X5_0 (v := .int (o 0 0)) S hK hw 0 rfl rfl LX5 k1 dX5_thrown_1 ?_
  exact en_i (v := (o 0 0)) ((z, o) : St × St) hQ S hr hlk hw (by exact ⟨rfl, rfl, rfl⟩) dX5_thrown_4

theorem hd_X5_fails : yX5_fails.cls = RX5 ∧ yX5_fails.cls ≠ "java/lang/invoke/MethodHandle" ∧ yX5_fails.cls ≠ "java/lang/invoke/VarHandle" ∧ (parseMethodDescriptor yX5_fails.desc).map (fun d => d.parameters.length) = some 1 := by decide +kernel
set_option maxHeartbeats 4000000 in
set_option maxRecDepth 100000 in
theorem c_X5_fails (l : Launch) (G : GA) (a : Nat → Nat) (z : St) (o : St) (sz : Nat) (cd : Int32) : Met l yX5_fails wsX5_fails ({ frames := 0, cells := 0, slots := 0, locals := 0 }) (va_Pc [.ref (a 0), .int (cd)] (PW G (mp G a z o) sz)) (va_Qi (fun (r : Int32) (u : St × St) => r = 0 ∧ u.1 = z ∧ RT o u.2 ∧ u.2 0 0 = cd) (fun (u : St × St) t => va_P G.1 gcl (mp G a u.1 u.2) t.heap) (va_A (mp G a z o) sz)) 0 0 (va_A (mp G a z o) sz) := by
  refine met_st (cc := cX5_fails) (maxL := 2) (ret := (some .int)) (fun A => va_Qi (fun (r : Int32) (u : St × St) => r = 0 ∧ u.1 = z ∧ RT o u.2 ∧ u.2 0 0 = cd) (fun (u : St × St) t => va_P G.1 gcl (mp G a u.1 u.2) t.heap) A) (by decide) rfl (Nat.le_of_ble_eq_true rfl) ?_
  intro p e s m args below meth c R Q A H ls hR hQ S hr hlk _ hK hsz hH hAe hA hw hl
  have hl : lv_has ls 2 [(0, .ref (a 0)), (1, .int (cd))] := hl
  have LX5 : ∀ w ∈ u_ws RX5 TX5 12, w.before args s = true := fun w h => S.2.2.2.2 w ((by decide +kernel : ∀ w ∈ u_ws RX5 TX5 12, w ∈ wsX5_fails) w h)
  have k1 : (Cond.fieldLink RX5 22 "GossipMembershipModel" "thrown" "I").before args s = true := S.2.2.2.2 _ (by decide +kernel : (Cond.fieldLink RX5 22 "GossipMembershipModel" "thrown" "I") ∈ wsX5_fails)
  refine lv_aload_n S.1 S.2.1 dX5_fails_0 rfl (lv_at hl 0 rfl) ?_
  refine lv_iload_n S.1 S.2.1 dX5_fails_1 rfl (lv_at hl 1 rfl) ?_
  refine pt_X5_0 (ws' := (mp G a z (st o 0 0 (cd)))) S hK hw 0 rfl LX5 k1 rfl (Nat.le_of_ble_eq_true rfl) dX5_fails_2 (fun H locs hw => ?_)
  obtain ⟨o1, eo1⟩ : ∃ zz, zz = st o 0 0 (cd) := ⟨_, rfl⟩
  have hw : WD G (mp G a z o1) A s H locs := by rw [eo1]; exact hw
  have ro1 : RT o o1 := by rw [eo1]; exact RT.put (RT.rf o) _
  have to1 : o1 0 0 = (cd) := by rw [eo1]; exact st_s _ _ _ _
  refine lv_iconst (v := 0) S.1 S.2.1 dX5_fails_5 (by decide) ?_
  exact en_i (v := (0)) ((z, o1) : St × St) hQ S hr hlk hw (by exact ⟨rfl, rfl, ro1, to1⟩) dX5_fails_6

theorem hd_X5_sets : yX5_sets.cls = RX5 ∧ yX5_sets.cls ≠ "java/lang/invoke/MethodHandle" ∧ yX5_sets.cls ≠ "java/lang/invoke/VarHandle" ∧ (parseMethodDescriptor yX5_sets.desc).map (fun d => d.parameters.length) = some 4 := by decide +kernel
set_option maxHeartbeats 4000000 in
set_option maxRecDepth 100000 in
theorem c_X5_sets (l : Launch) (G : GA) (a : Nat → Nat) (z : St) (o : St) (sz : Nat) (k : Nat) (lo : Int32) (hi : Int32) (v : Int32) (hk : k < 10) : Met l yX5_sets wsX5_sets ({ frames := 1, cells := 0, slots := 0, locals := 22 }) (va_Pc [.ref (a 0), .int (nI (k)), .int (lo), .int (hi), .int (v)] (PW G (mp G a z o) sz)) (va_Qi (fun (r : Int32) (u : St × St) => r = (pS k lo hi v z).2.1 ∧ u.1 = (pS k lo hi v z).2.2 ∧ RT o u.2 ∧ u.2 0 0 = (pS k lo hi v z).1) (fun (u : St × St) t => va_P G.1 gcl (mp G a u.1 u.2) t.heap) (va_A (mp G a z o) sz)) 0 0 (va_A (mp G a z o) sz) := by
  refine met_st (cc := cX5_sets) (maxL := 6) (ret := (some .int)) (fun A => va_Qi (fun (r : Int32) (u : St × St) => r = (pS k lo hi v z).2.1 ∧ u.1 = (pS k lo hi v z).2.2 ∧ RT o u.2 ∧ u.2 0 0 = (pS k lo hi v z).1) (fun (u : St × St) t => va_P G.1 gcl (mp G a u.1 u.2) t.heap) A) (by decide) rfl (Nat.le_of_ble_eq_true rfl) ?_
  intro p e s m args below meth c R Q A H ls hR hQ S hr hlk _ hK hsz hH hAe hA hw hl
  have hl : lv_has ls 6 [(0, .ref (a 0)), (1, .int (nI (k))), (2, .int (lo)), (3, .int (hi)), (4, .int (v))] := hl
  have LX5 : ∀ w ∈ u_ws RX5 TX5 12, w.before args s = true := fun w h => S.2.2.2.2 w ((by decide +kernel : ∀ w ∈ u_ws RX5 TX5 12, w ∈ wsX5_sets) w h)
  have k1 : (Cond.fieldLink RX5 22 "GossipMembershipModel" "thrown" "I").before args s = true := S.2.2.2.2 _ (by decide +kernel : (Cond.fieldLink RX5 22 "GossipMembershipModel" "thrown" "I") ∈ wsX5_sets)
  have k2 : (Cond.fieldLink RX5 7 "GossipMembershipModel" "s" "[I").before args s = true := S.2.2.2.2 _ (by decide +kernel : (Cond.fieldLink RX5 7 "GossipMembershipModel" "s" "[I") ∈ wsX5_sets)
  refine lv_aload_n S.1 S.2.1 dX5_sets_0 rfl (lv_at hl 0 rfl) ?_
  refine lv_iconst (v := 0) S.1 S.2.1 dX5_sets_1 (by decide) ?_
  refine pt_X5_0 (ws' := (mp G a z (st o 0 0 (0)))) S hK hw 0 rfl LX5 k1 rfl (Nat.le_of_ble_eq_true rfl) dX5_sets_2 (fun H locs hw => ?_)
  obtain ⟨o1, eo1⟩ : ∃ zz, zz = st o 0 0 (0) := ⟨_, rfl⟩
  have hw : WD G (mp G a z o1) A s H locs := by rw [eo1]; exact hw
  have ro1 : RT o o1 := by rw [eo1]; exact RT.put (RT.rf o) _
  have to1 : o1 0 0 = (0) := by rw [eo1]; exact st_s _ _ _ _
  refine lv_iload S.1 S.2.1 dX5_sets_5 (lv_at hl 4 rfl) ?_
  refine lv_iload_n S.1 S.2.1 dX5_sets_7 rfl (lv_at hl 2 rfl) ?_
  refine lv_iload_n S.1 S.2.1 dX5_sets_8 rfl (lv_at hl 3 rfl) ?_
  refine vp_callSi (va_runS (As := [.int (v), .int (lo), .int (hi)]) (rest := []) S (c_X5_in l (v) (lo) (hi) ) (va_cwS 3 S.2.2.2.2 gX5_sets_X5_in rfl rfl rfl hd_X5_in ⟨by rw [hR]; exact Nat.le_of_ble_eq_true rfl, by rw [hR]; exact Nat.le_of_ble_eq_true rfl⟩) ⟨blind_T, fun U hU hW => ⟨rfl, trivial⟩⟩ rfl rfl hl.1 rfl (lv_room (Nat.le_of_ble_eq_true rfl)) dX5_sets_9 ⟨Nat.zero_le _, Nat.zero_le _⟩).run (fun r2 h3 => ?_)
  subst h3
  refine brB_ne (b := inB ((v)) ((lo)) ((hi))) S (tgt := 21) dX5_sets_12 (by decide) (fun c4 => ?_) (fun c4 => ?_)
  · skip
    refine lv_aload_n S.1 S.2.1 dX5_sets_21 rfl (lv_at hl 0 rfl) ?_
    refine gt_X5_1 (v := .ref (a 1)) S hK hw 0 rfl rfl LX5 k2 dX5_sets_22 ?_
    refine lv_iload_n S.1 S.2.1 dX5_sets_25 rfl (lv_at hl 1 rfl) ?_
    refine ald_i (v := z 0 (k)) (k := k) S hK hw 1 rfl (by omega) (by decide) (fl_0 z (by omega)) dX5_sets_26 ?_
    refine lv_istore (lv' := [(5, .int (z 0 (k))), (0, .ref (a 0)), (1, .int (nI (k))), (2, .int (lo)), (3, .int (hi)), (4, .int (v))]) S.1 S.2.1 dX5_sets_27 hl (by decide) rfl (fun ls hl => ?_)
    refine lv_aload_n S.1 S.2.1 dX5_sets_29 rfl (lv_at hl 1 rfl) ?_
    refine gt_X5_1 (v := .ref (a 1)) S hK hw 0 rfl rfl LX5 k2 dX5_sets_30 ?_
    refine lv_iload_n S.1 S.2.1 dX5_sets_33 rfl (lv_at hl 2 rfl) ?_
    refine lv_iload S.1 S.2.1 dX5_sets_34 (lv_at hl 5 rfl) ?_
    refine ast_i (ws' := (mp G a (st z 0 (k) (v)) o1)) (k := k) S hK hw 1 rfl (by omega) (by decide) (mp_set (fu_0 z (by omega) _)) dX5_sets_36 (fun H locs hw => ?_)
    obtain ⟨z5, ez5⟩ : ∃ zz, zz = st z 0 (k) (v) := ⟨_, rfl⟩
    have hw : WD G (mp G a z5 o1) A s H locs := by rw [ez5]; exact hw
    refine lv_iload S.1 S.2.1 dX5_sets_37 (lv_at hl 0 rfl) ?_
    exact en_i (v := (z 0 (k))) ((z5, o1) : St × St) hQ S hr hlk hw (by have hp : pS k (lo) (hi) (v) z = ((0), (z 0 (k)), z5) := (by subst ez5 eo1; simp [pS, endq, b2, on1, on2, c4]); rw [hp]; exact ⟨rfl, rfl, ro1, to1⟩) dX5_sets_39
  · skip
    refine lv_aload_n S.1 S.2.1 dX5_sets_15 rfl (lv_at hl 0 rfl) ?_
    refine lv_iconst (v := 1) S.1 S.2.1 dX5_sets_16 (by decide) ?_
    refine cl_i (va_runV (As := [.int 1]) (rest := []) S (c_X5_fails l G a z o1 H.size (1) ) (cwV 1 S.2.2.2.2 gX5_sets_X5_fails rfl rfl rfl hd_X5_fails ⟨by rw [hR]; exact Nat.le_of_ble_eq_true rfl, by rw [hR]; exact Nat.le_of_ble_eq_true rfl⟩) ⟨PW.blind, va_recv hK.1 hw.1 (ci := 5) (q0 := 0) rfl rfl, fun U hU hW => ⟨rfl, PW.of hK hw hU hW⟩⟩ rfl rfl hl.1 rfl (lv_room (Nat.le_of_ble_eq_true rfl)) dX5_sets_17 ⟨Nat.zero_le _, Nat.zero_le _⟩) hw hA (fun _ => rfl) (fun r6 z7 H locs h8 hw => ?_)
    obtain ⟨z9, o10⟩ := z7
    try dsimp only at h8 hw
    obtain ⟨rfl, qz9, eo10, to10⟩ := h8
    rw [qz9] at hw
    exact en_i (v := (0)) ((z, o10) : St × St) hQ S hr hlk hw (by have hp : pS k (lo) (hi) (v) z = ((1), (0), z) := (by subst eo1; simp [pS, endq, b2, on1, on2, c4]); rw [hp]; exact ⟨rfl, rfl, (RT.tr ro1 eo10), to10⟩) dX5_sets_20

theorem hd_X5_setPatience : yX5_setPatience.cls = RX5 ∧ yX5_setPatience.cls ≠ "java/lang/invoke/MethodHandle" ∧ yX5_setPatience.cls ≠ "java/lang/invoke/VarHandle" ∧ (parseMethodDescriptor yX5_setPatience.desc).map (fun d => d.parameters.length) = some 1 := by decide +kernel
set_option maxHeartbeats 4000000 in
set_option maxRecDepth 100000 in
theorem c_X5_setPatience (l : Launch) (G : GA) (a : Nat → Nat) (z : St) (o : St) (sz : Nat) (v : Int32) : Met l yX5_setPatience wsX5_setPatience ({ frames := 2, cells := 0, slots := 0, locals := 47 }) (va_Pc [.ref (a 0), .int (v)] (PW G (mp G a z o) sz)) (va_Qi (fun (r : Int32) (u : St × St) => r = (pS 2 1 20 v z).2.1 ∧ u.1 = (pS 2 1 20 v z).2.2 ∧ RT o u.2 ∧ u.2 0 0 = (pS 2 1 20 v z).1) (fun (u : St × St) t => va_P G.1 gcl (mp G a u.1 u.2) t.heap) (va_A (mp G a z o) sz)) 0 0 (va_A (mp G a z o) sz) := by
  refine met_st (cc := cX5_setPatience) (maxL := 2) (ret := (some .int)) (fun A => va_Qi (fun (r : Int32) (u : St × St) => r = (pS 2 1 20 v z).2.1 ∧ u.1 = (pS 2 1 20 v z).2.2 ∧ RT o u.2 ∧ u.2 0 0 = (pS 2 1 20 v z).1) (fun (u : St × St) t => va_P G.1 gcl (mp G a u.1 u.2) t.heap) A) (by decide) rfl (Nat.le_of_ble_eq_true rfl) ?_
  intro p e s m args below meth c R Q A H ls hR hQ S hr hlk _ hK hsz hH hAe hA hw hl
  have hl : lv_has ls 2 [(0, .ref (a 0)), (1, .int (v))] := hl
  refine lv_aload_n S.1 S.2.1 dX5_setPatience_0 rfl (lv_at hl 0 rfl) ?_
  refine lv_iconst (v := 2) S.1 S.2.1 dX5_setPatience_1 (by decide) ?_
  refine lv_iconst (v := 1) S.1 S.2.1 dX5_setPatience_2 (by decide) ?_
  refine lv_bipush (v := 20) S.1 S.2.1 dX5_setPatience_3 (by decide) ?_
  refine lv_iload_n S.1 S.2.1 dX5_setPatience_5 rfl (lv_at hl 1 rfl) ?_
  refine cl_i (va_runV (As := [.int 2, .int 1, .int 20, .int (v)]) (rest := []) S (c_X5_sets l G a z o H.size (2) (1) (20) (v) (by omega)) (cwV 4 S.2.2.2.2 gX5_setPatience_X5_sets rfl rfl rfl hd_X5_sets ⟨by rw [hR]; exact Nat.le_of_ble_eq_true rfl, by rw [hR]; exact Nat.le_of_ble_eq_true rfl⟩) ⟨PW.blind, va_recv hK.1 hw.1 (ci := 5) (q0 := 0) rfl rfl, fun U hU hW => ⟨rfl, PW.of hK hw hU hW⟩⟩ rfl rfl hl.1 rfl (lv_room (Nat.le_of_ble_eq_true rfl)) dX5_setPatience_6 ⟨Nat.zero_le _, Nat.zero_le _⟩) hw hA (fun _ => rfl) (fun r1 z2 H locs h3 hw => ?_)
  obtain ⟨z4, o5⟩ := z2
  try dsimp only at h3 hw
  obtain ⟨rfl, ez4, eo5, to5⟩ := h3
  exact en_i (v := ((pS (2) (1) (20) (v) z).2.1)) ((z4, o5) : St × St) hQ S hr hlk hw (by exact ⟨rfl, ez4, (RT.tr (RT.rf o) eo5), to5⟩) dX5_setPatience_9

theorem hd_X5_setFanOut : yX5_setFanOut.cls = RX5 ∧ yX5_setFanOut.cls ≠ "java/lang/invoke/MethodHandle" ∧ yX5_setFanOut.cls ≠ "java/lang/invoke/VarHandle" ∧ (parseMethodDescriptor yX5_setFanOut.desc).map (fun d => d.parameters.length) = some 1 := by decide +kernel
set_option maxHeartbeats 4000000 in
set_option maxRecDepth 100000 in
theorem c_X5_setFanOut (l : Launch) (G : GA) (a : Nat → Nat) (z : St) (o : St) (sz : Nat) (v : Int32) : Met l yX5_setFanOut wsX5_setFanOut ({ frames := 2, cells := 0, slots := 0, locals := 47 }) (va_Pc [.ref (a 0), .int (v)] (PW G (mp G a z o) sz)) (va_Qi (fun (r : Int32) (u : St × St) => r = (pS 3 1 9 v z).2.1 ∧ u.1 = (pS 3 1 9 v z).2.2 ∧ RT o u.2 ∧ u.2 0 0 = (pS 3 1 9 v z).1) (fun (u : St × St) t => va_P G.1 gcl (mp G a u.1 u.2) t.heap) (va_A (mp G a z o) sz)) 0 0 (va_A (mp G a z o) sz) := by
  refine met_st (cc := cX5_setFanOut) (maxL := 2) (ret := (some .int)) (fun A => va_Qi (fun (r : Int32) (u : St × St) => r = (pS 3 1 9 v z).2.1 ∧ u.1 = (pS 3 1 9 v z).2.2 ∧ RT o u.2 ∧ u.2 0 0 = (pS 3 1 9 v z).1) (fun (u : St × St) t => va_P G.1 gcl (mp G a u.1 u.2) t.heap) A) (by decide) rfl (Nat.le_of_ble_eq_true rfl) ?_
  intro p e s m args below meth c R Q A H ls hR hQ S hr hlk _ hK hsz hH hAe hA hw hl
  have hl : lv_has ls 2 [(0, .ref (a 0)), (1, .int (v))] := hl
  refine lv_aload_n S.1 S.2.1 dX5_setFanOut_0 rfl (lv_at hl 0 rfl) ?_
  refine lv_iconst (v := 3) S.1 S.2.1 dX5_setFanOut_1 (by decide) ?_
  refine lv_iconst (v := 1) S.1 S.2.1 dX5_setFanOut_2 (by decide) ?_
  refine lv_bipush (v := 9) S.1 S.2.1 dX5_setFanOut_3 (by decide) ?_
  refine lv_iload_n S.1 S.2.1 dX5_setFanOut_5 rfl (lv_at hl 1 rfl) ?_
  refine cl_i (va_runV (As := [.int 3, .int 1, .int 9, .int (v)]) (rest := []) S (c_X5_sets l G a z o H.size (3) (1) (9) (v) (by omega)) (cwV 4 S.2.2.2.2 gX5_setFanOut_X5_sets rfl rfl rfl hd_X5_sets ⟨by rw [hR]; exact Nat.le_of_ble_eq_true rfl, by rw [hR]; exact Nat.le_of_ble_eq_true rfl⟩) ⟨PW.blind, va_recv hK.1 hw.1 (ci := 5) (q0 := 0) rfl rfl, fun U hU hW => ⟨rfl, PW.of hK hw hU hW⟩⟩ rfl rfl hl.1 rfl (lv_room (Nat.le_of_ble_eq_true rfl)) dX5_setFanOut_6 ⟨Nat.zero_le _, Nat.zero_le _⟩) hw hA (fun _ => rfl) (fun r1 z2 H locs h3 hw => ?_)
  obtain ⟨z4, o5⟩ := z2
  try dsimp only at h3 hw
  obtain ⟨rfl, ez4, eo5, to5⟩ := h3
  exact en_i (v := ((pS (3) (1) (9) (v) z).2.1)) ((z4, o5) : St × St) hQ S hr hlk hw (by exact ⟨rfl, ez4, (RT.tr (RT.rf o) eo5), to5⟩) dX5_setFanOut_9

theorem hd_X5_setHelpers : yX5_setHelpers.cls = RX5 ∧ yX5_setHelpers.cls ≠ "java/lang/invoke/MethodHandle" ∧ yX5_setHelpers.cls ≠ "java/lang/invoke/VarHandle" ∧ (parseMethodDescriptor yX5_setHelpers.desc).map (fun d => d.parameters.length) = some 1 := by decide +kernel
set_option maxHeartbeats 4000000 in
set_option maxRecDepth 100000 in
theorem c_X5_setHelpers (l : Launch) (G : GA) (a : Nat → Nat) (z : St) (o : St) (sz : Nat) (v : Int32) : Met l yX5_setHelpers wsX5_setHelpers ({ frames := 2, cells := 0, slots := 0, locals := 47 }) (va_Pc [.ref (a 0), .int (v)] (PW G (mp G a z o) sz)) (va_Qi (fun (r : Int32) (u : St × St) => r = (pS 4 0 3 v z).2.1 ∧ u.1 = (pS 4 0 3 v z).2.2 ∧ RT o u.2 ∧ u.2 0 0 = (pS 4 0 3 v z).1) (fun (u : St × St) t => va_P G.1 gcl (mp G a u.1 u.2) t.heap) (va_A (mp G a z o) sz)) 0 0 (va_A (mp G a z o) sz) := by
  refine met_st (cc := cX5_setHelpers) (maxL := 2) (ret := (some .int)) (fun A => va_Qi (fun (r : Int32) (u : St × St) => r = (pS 4 0 3 v z).2.1 ∧ u.1 = (pS 4 0 3 v z).2.2 ∧ RT o u.2 ∧ u.2 0 0 = (pS 4 0 3 v z).1) (fun (u : St × St) t => va_P G.1 gcl (mp G a u.1 u.2) t.heap) A) (by decide) rfl (Nat.le_of_ble_eq_true rfl) ?_
  intro p e s m args below meth c R Q A H ls hR hQ S hr hlk _ hK hsz hH hAe hA hw hl
  have hl : lv_has ls 2 [(0, .ref (a 0)), (1, .int (v))] := hl
  refine lv_aload_n S.1 S.2.1 dX5_setHelpers_0 rfl (lv_at hl 0 rfl) ?_
  refine lv_iconst (v := 4) S.1 S.2.1 dX5_setHelpers_1 (by decide) ?_
  refine lv_iconst (v := 0) S.1 S.2.1 dX5_setHelpers_2 (by decide) ?_
  refine lv_iconst (v := 3) S.1 S.2.1 dX5_setHelpers_3 (by decide) ?_
  refine lv_iload_n S.1 S.2.1 dX5_setHelpers_4 rfl (lv_at hl 1 rfl) ?_
  refine cl_i (va_runV (As := [.int 4, .int 0, .int 3, .int (v)]) (rest := []) S (c_X5_sets l G a z o H.size (4) (0) (3) (v) (by omega)) (cwV 4 S.2.2.2.2 gX5_setHelpers_X5_sets rfl rfl rfl hd_X5_sets ⟨by rw [hR]; exact Nat.le_of_ble_eq_true rfl, by rw [hR]; exact Nat.le_of_ble_eq_true rfl⟩) ⟨PW.blind, va_recv hK.1 hw.1 (ci := 5) (q0 := 0) rfl rfl, fun U hU hW => ⟨rfl, PW.of hK hw hU hW⟩⟩ rfl rfl hl.1 rfl (lv_room (Nat.le_of_ble_eq_true rfl)) dX5_setHelpers_5 ⟨Nat.zero_le _, Nat.zero_le _⟩) hw hA (fun _ => rfl) (fun r1 z2 H locs h3 hw => ?_)
  obtain ⟨z4, o5⟩ := z2
  try dsimp only at h3 hw
  obtain ⟨rfl, ez4, eo5, to5⟩ := h3
  exact en_i (v := ((pS (4) (0) (3) (v) z).2.1)) ((z4, o5) : St × St) hQ S hr hlk hw (by exact ⟨rfl, ez4, (RT.tr (RT.rf o) eo5), to5⟩) dX5_setHelpers_8

theorem hd_X5_setSeed : yX5_setSeed.cls = RX5 ∧ yX5_setSeed.cls ≠ "java/lang/invoke/MethodHandle" ∧ yX5_setSeed.cls ≠ "java/lang/invoke/VarHandle" ∧ (parseMethodDescriptor yX5_setSeed.desc).map (fun d => d.parameters.length) = some 1 := by decide +kernel
set_option maxHeartbeats 4000000 in
set_option maxRecDepth 100000 in
theorem c_X5_setSeed (l : Launch) (G : GA) (a : Nat → Nat) (z : St) (o : St) (sz : Nat) (v : Int32) : Met l yX5_setSeed wsX5_setSeed ({ frames := 2, cells := 0, slots := 0, locals := 47 }) (va_Pc [.ref (a 0), .int (v)] (PW G (mp G a z o) sz)) (va_Qi (fun (r : Int32) (u : St × St) => r = (pS 1 0 2147483647 v z).2.1 ∧ u.1 = (pS 1 0 2147483647 v z).2.2 ∧ RT o u.2 ∧ u.2 0 0 = (pS 1 0 2147483647 v z).1) (fun (u : St × St) t => va_P G.1 gcl (mp G a u.1 u.2) t.heap) (va_A (mp G a z o) sz)) 0 0 (va_A (mp G a z o) sz) := by
  refine met_st (cc := cX5_setSeed) (maxL := 2) (ret := (some .int)) (fun A => va_Qi (fun (r : Int32) (u : St × St) => r = (pS 1 0 2147483647 v z).2.1 ∧ u.1 = (pS 1 0 2147483647 v z).2.2 ∧ RT o u.2 ∧ u.2 0 0 = (pS 1 0 2147483647 v z).1) (fun (u : St × St) t => va_P G.1 gcl (mp G a u.1 u.2) t.heap) A) (by decide) rfl (Nat.le_of_ble_eq_true rfl) ?_
  intro p e s m args below meth c R Q A H ls hR hQ S hr hlk _ hK hsz hH hAe hA hw hl
  have hl : lv_has ls 2 [(0, .ref (a 0)), (1, .int (v))] := hl
  have k1 : (Cond.constant RX5 107 (2147483647)).before args s = true := S.2.2.2.2 _ (by decide +kernel : (Cond.constant RX5 107 (2147483647)) ∈ wsX5_setSeed)
  refine lv_aload_n S.1 S.2.1 dX5_setSeed_0 rfl (lv_at hl 0 rfl) ?_
  refine lv_iconst (v := 1) S.1 S.2.1 dX5_setSeed_1 (by decide) ?_
  refine lv_iconst (v := 0) S.1 S.2.1 dX5_setSeed_2 (by decide) ?_
  refine lv_ldc (v := (2147483647)) S.1 S.2.1 S.2.2.2.1 k1 dX5_setSeed_3 ?_
  refine lv_iload_n S.1 S.2.1 dX5_setSeed_5 rfl (lv_at hl 1 rfl) ?_
  refine cl_i (va_runV (As := [.int 1, .int 0, .int 2147483647, .int (v)]) (rest := []) S (c_X5_sets l G a z o H.size (1) (0) (2147483647) (v) (by omega)) (cwV 4 S.2.2.2.2 gX5_setSeed_X5_sets rfl rfl rfl hd_X5_sets ⟨by rw [hR]; exact Nat.le_of_ble_eq_true rfl, by rw [hR]; exact Nat.le_of_ble_eq_true rfl⟩) ⟨PW.blind, va_recv hK.1 hw.1 (ci := 5) (q0 := 0) rfl rfl, fun U hU hW => ⟨rfl, PW.of hK hw hU hW⟩⟩ rfl rfl hl.1 rfl (lv_room (Nat.le_of_ble_eq_true rfl)) dX5_setSeed_6 ⟨Nat.zero_le _, Nat.zero_le _⟩) hw hA (fun _ => rfl) (fun r1 z2 H locs h3 hw => ?_)
  obtain ⟨z4, o5⟩ := z2
  try dsimp only at h3 hw
  obtain ⟨rfl, ez4, eo5, to5⟩ := h3
  exact en_i (v := ((pS (1) (0) (2147483647) (v) z).2.1)) ((z4, o5) : St × St) hQ S hr hlk hw (by exact ⟨rfl, ez4, (RT.tr (RT.rf o) eo5), to5⟩) dX5_setSeed_9

theorem hd_X5_seed : yX5_seed.cls = RX5 ∧ yX5_seed.cls ≠ "java/lang/invoke/MethodHandle" ∧ yX5_seed.cls ≠ "java/lang/invoke/VarHandle" ∧ (parseMethodDescriptor yX5_seed.desc).map (fun d => d.parameters.length) = some 0 := by decide +kernel
set_option maxHeartbeats 4000000 in
set_option maxRecDepth 100000 in
theorem c_X5_seed (l : Launch) (G : GA) (a : Nat → Nat) (z : St) (o : St) (sz : Nat) : Met l yX5_seed wsX5_seed ({ frames := 0, cells := 0, slots := 0, locals := 0 }) (va_Pc [.ref (a 0)] (PW G (mp G a z o) sz)) (va_Qi (fun (r : Int32) (u : St × St) => r = z 0 1 ∧ u.1 = z ∧ RT o u.2 ∧ u.2 0 0 = 0) (fun (u : St × St) t => va_P G.1 gcl (mp G a u.1 u.2) t.heap) (va_A (mp G a z o) sz)) 0 0 (va_A (mp G a z o) sz) := by
  refine met_st (cc := cX5_seed) (maxL := 1) (ret := (some .int)) (fun A => va_Qi (fun (r : Int32) (u : St × St) => r = z 0 1 ∧ u.1 = z ∧ RT o u.2 ∧ u.2 0 0 = 0) (fun (u : St × St) t => va_P G.1 gcl (mp G a u.1 u.2) t.heap) A) (by decide) rfl (Nat.le_of_ble_eq_true rfl) ?_
  intro p e s m args below meth c R Q A H ls hR hQ S hr hlk _ hK hsz hH hAe hA hw hl
  have hl : lv_has ls 1 [(0, .ref (a 0))] := hl
  have LX5 : ∀ w ∈ u_ws RX5 TX5 12, w.before args s = true := fun w h => S.2.2.2.2 w ((by decide +kernel : ∀ w ∈ u_ws RX5 TX5 12, w ∈ wsX5_seed) w h)
  have k1 : (Cond.fieldLink RX5 22 "GossipMembershipModel" "thrown" "I").before args s = true := S.2.2.2.2 _ (by decide +kernel : (Cond.fieldLink RX5 22 "GossipMembershipModel" "thrown" "I") ∈ wsX5_seed)
  have k2 : (Cond.fieldLink RX5 7 "GossipMembershipModel" "s" "[I").before args s = true := S.2.2.2.2 _ (by decide +kernel : (Cond.fieldLink RX5 7 "GossipMembershipModel" "s" "[I") ∈ wsX5_seed)
  refine lv_aload_n S.1 S.2.1 dX5_seed_0 rfl (lv_at hl 0 rfl) ?_
  refine lv_iconst (v := 0) S.1 S.2.1 dX5_seed_1 (by decide) ?_
  refine pt_X5_0 (ws' := (mp G a z (st o 0 0 (0)))) S hK hw 0 rfl LX5 k1 rfl (Nat.le_of_ble_eq_true rfl) dX5_seed_2 (fun H locs hw => ?_)
  obtain ⟨o1, eo1⟩ : ∃ zz, zz = st o 0 0 (0) := ⟨_, rfl⟩
  have hw : WD G (mp G a z o1) A s H locs := by rw [eo1]; exact hw
  have ro1 : RT o o1 := by rw [eo1]; exact RT.put (RT.rf o) _
  have to1 : o1 0 0 = (0) := by rw [eo1]; exact st_s _ _ _ _
  refine lv_aload_n S.1 S.2.1 dX5_seed_5 rfl (lv_at hl 0 rfl) ?_
  refine gt_X5_1 (v := .ref (a 1)) S hK hw 0 rfl rfl LX5 k2 dX5_seed_6 ?_
  refine lv_iconst (v := 1) S.1 S.2.1 dX5_seed_9 (by decide) ?_
  refine ald_i (v := z 0 (1)) (k := 1) S hK hw 1 rfl (by omega) (by decide) (fl_0 z (by omega)) dX5_seed_10 ?_
  exact en_i (v := (z 0 (1))) ((z, o1) : St × St) hQ S hr hlk hw (by exact ⟨rfl, rfl, ro1, to1⟩) dX5_seed_11

theorem hd_X5_round : yX5_round.cls = RX5 ∧ yX5_round.cls ≠ "java/lang/invoke/MethodHandle" ∧ yX5_round.cls ≠ "java/lang/invoke/VarHandle" ∧ (parseMethodDescriptor yX5_round.desc).map (fun d => d.parameters.length) = some 0 := by decide +kernel
set_option maxHeartbeats 4000000 in
set_option maxRecDepth 100000 in
theorem c_X5_round (l : Launch) (G : GA) (a : Nat → Nat) (z : St) (o : St) (sz : Nat) : Met l yX5_round wsX5_round ({ frames := 0, cells := 0, slots := 0, locals := 0 }) (va_Pc [.ref (a 0)] (PW G (mp G a z o) sz)) (va_Qi (fun (r : Int32) (u : St × St) => r = z 0 0 ∧ u.1 = z ∧ RT o u.2 ∧ u.2 0 0 = 0) (fun (u : St × St) t => va_P G.1 gcl (mp G a u.1 u.2) t.heap) (va_A (mp G a z o) sz)) 0 0 (va_A (mp G a z o) sz) := by
  refine met_st (cc := cX5_round) (maxL := 1) (ret := (some .int)) (fun A => va_Qi (fun (r : Int32) (u : St × St) => r = z 0 0 ∧ u.1 = z ∧ RT o u.2 ∧ u.2 0 0 = 0) (fun (u : St × St) t => va_P G.1 gcl (mp G a u.1 u.2) t.heap) A) (by decide) rfl (Nat.le_of_ble_eq_true rfl) ?_
  intro p e s m args below meth c R Q A H ls hR hQ S hr hlk _ hK hsz hH hAe hA hw hl
  have hl : lv_has ls 1 [(0, .ref (a 0))] := hl
  have LX5 : ∀ w ∈ u_ws RX5 TX5 12, w.before args s = true := fun w h => S.2.2.2.2 w ((by decide +kernel : ∀ w ∈ u_ws RX5 TX5 12, w ∈ wsX5_round) w h)
  have k1 : (Cond.fieldLink RX5 22 "GossipMembershipModel" "thrown" "I").before args s = true := S.2.2.2.2 _ (by decide +kernel : (Cond.fieldLink RX5 22 "GossipMembershipModel" "thrown" "I") ∈ wsX5_round)
  have k2 : (Cond.fieldLink RX5 7 "GossipMembershipModel" "s" "[I").before args s = true := S.2.2.2.2 _ (by decide +kernel : (Cond.fieldLink RX5 7 "GossipMembershipModel" "s" "[I") ∈ wsX5_round)
  refine lv_aload_n S.1 S.2.1 dX5_round_0 rfl (lv_at hl 0 rfl) ?_
  refine lv_iconst (v := 0) S.1 S.2.1 dX5_round_1 (by decide) ?_
  refine pt_X5_0 (ws' := (mp G a z (st o 0 0 (0)))) S hK hw 0 rfl LX5 k1 rfl (Nat.le_of_ble_eq_true rfl) dX5_round_2 (fun H locs hw => ?_)
  obtain ⟨o1, eo1⟩ : ∃ zz, zz = st o 0 0 (0) := ⟨_, rfl⟩
  have hw : WD G (mp G a z o1) A s H locs := by rw [eo1]; exact hw
  have ro1 : RT o o1 := by rw [eo1]; exact RT.put (RT.rf o) _
  have to1 : o1 0 0 = (0) := by rw [eo1]; exact st_s _ _ _ _
  refine lv_aload_n S.1 S.2.1 dX5_round_5 rfl (lv_at hl 0 rfl) ?_
  refine gt_X5_1 (v := .ref (a 1)) S hK hw 0 rfl rfl LX5 k2 dX5_round_6 ?_
  refine lv_iconst (v := 0) S.1 S.2.1 dX5_round_9 (by decide) ?_
  refine ald_i (v := z 0 (0)) (k := 0) S hK hw 1 rfl (by omega) (by decide) (fl_0 z (by omega)) dX5_round_10 ?_
  exact en_i (v := (z 0 (0))) ((z, o1) : St × St) hQ S hr hlk hw (by exact ⟨rfl, rfl, ro1, to1⟩) dX5_round_11

theorem hd_X5_greets : yX5_greets.cls = RX5 ∧ yX5_greets.cls ≠ "java/lang/invoke/MethodHandle" ∧ yX5_greets.cls ≠ "java/lang/invoke/VarHandle" ∧ (parseMethodDescriptor yX5_greets.desc).map (fun d => d.parameters.length) = some 2 := by decide +kernel
set_option maxHeartbeats 4000000 in
set_option maxRecDepth 100000 in
theorem c_X5_greets (l : Launch) (G : GA) (a : Nat → Nat) (z : St) (o : St) (sz : Nat) (n : Nat) (b : Nat) (hn : n < 8) (hb : b < 8) : Met l yX5_greets wsX5_greets ({ frames := 4, cells := 0, slots := 0, locals := 96 }) (va_Pc [.ref (a 0), .int (nI (n)), .int (nI (b))] (PW G (mp G a z o) sz)) (va_Qv (fun (u : St × St) => u.1 = intr z n b ∧ u.2 = o) (fun (u : St × St) t => va_P G.1 gcl (mp G a u.1 u.2) t.heap) (va_A (mp G a z o) sz)) 0 0 (va_A (mp G a z o) sz) := by
  refine met_st (cc := cX5_greets) (maxL := 5) (ret := none) (fun A => va_Qv (fun (u : St × St) => u.1 = intr z n b ∧ u.2 = o) (fun (u : St × St) t => va_P G.1 gcl (mp G a u.1 u.2) t.heap) A) (by decide) rfl (Nat.le_of_ble_eq_true rfl) ?_
  intro p e s m args below meth c R Q A H ls hR hQ S hr hlk _ hK hsz hH hAe hA hw hl
  have hl : lv_has ls 5 [(0, .ref (a 0)), (1, .int (nI (n))), (2, .int (nI (b)))] := hl
  have LX5 : ∀ w ∈ u_ws RX5 TX5 12, w.before args s = true := fun w h => S.2.2.2.2 w ((by decide +kernel : ∀ w ∈ u_ws RX5 TX5 12, w ∈ wsX5_greets) w h)
  have k1 : (Cond.fieldLink RX5 7 "GossipMembershipModel" "s" "[I").before args s = true := S.2.2.2.2 _ (by decide +kernel : (Cond.fieldLink RX5 7 "GossipMembershipModel" "s" "[I") ∈ wsX5_greets)
  refine lv_iconst (v := 0) S.1 S.2.1 dX5_greets_0 (by decide) ?_
  refine lv_istore_n (lv' := [(3, .int 0), (0, .ref (a 0)), (1, .int (nI (n))), (2, .int (nI (b)))]) S.1 S.2.1 dX5_greets_1 rfl hl (by decide) rfl (fun ls hl => ?_)
  have K2 : ∀ (fu : Nat) (k : Nat) (t : St) (H : Heap) (locs : List Loc) (ls : Array Slot), 8 - k < fu → k ≤ 8 → t = inK n b z k → WD G (mp G a t o) A s H locs → lv_has ls 5 [(0, .ref (a 0)), (1, .int (nI (n))), (2, .int (nI (b))), (3, .int (nI (k)))] → W p l e R s m args below meth c H locs 0 0 Q (F0 m 2 ls []) := by
    intro fu
    induction fu with
    | zero => exact fun _ _ _ _ _ h => absurd h (Nat.not_lt_zero _)
    | succ fu ih2 =>
      intro k t H locs ls hm2 hk ht hw hl
      refine lv_iload_n S.1 S.2.1 dX5_greets_2 rfl (lv_at hl 3 rfl) ?_
      refine lv_bipush (v := 8) S.1 S.2.1 dX5_greets_3 (by decide) ?_
      refine brN_ge (a := k) (b := 8) S (by omega) (by omega) (tgt := 86) dX5_greets_5 (by decide) (fun c1 => ?_) (fun c1 => ?_)
      · skip
        have hk9 : k = 8 := by omega
        subst hk9
        refine lv_aload_n S.1 S.2.1 dX5_greets_86 rfl (lv_at hl 0 rfl) ?_
        refine lv_iload_n S.1 S.2.1 dX5_greets_87 rfl (lv_at hl 2 rfl) ?_
        refine lv_iload_n S.1 S.2.1 dX5_greets_88 rfl (lv_at hl 1 rfl) ?_
        refine lv_iconst (v := 1) S.1 S.2.1 dX5_greets_89 (by decide) ?_
        refine lv_aload_n S.1 S.2.1 dX5_greets_90 rfl (lv_at hl 0 rfl) ?_
        refine gt_X5_1 (v := .ref (a 1)) S hK hw 0 rfl rfl LX5 k1 dX5_greets_91 ?_
        refine lv_bipush (v := 34) S.1 S.2.1 dX5_greets_94 (by decide) ?_
        refine lv_iload_n S.1 S.2.1 dX5_greets_96 rfl (lv_at hl 1 rfl) ?_
        refine addN (a := 34) (b := n) S dX5_greets_97 ?_
        refine ald_i (v := t 4 (n)) (k := 34 + n) S hK hw 1 rfl (by omega) (by decide) (fl_4 t (by omega)) dX5_greets_98 ?_
        refine cl_i (va_runV (As := [.int (nI (b)), .int (nI (n)), .int 1, .int (t 4 (n))]) (rest := []) S (c_X5_takesIn l G a t o H.size (b) (n) (1) (t 4 (n)) (by omega) (by omega)) (cwV 4 S.2.2.2.2 gX5_greets_X5_takesIn rfl rfl rfl hd_X5_takesIn ⟨by rw [hR]; exact Nat.le_of_ble_eq_true rfl, by rw [hR]; exact Nat.le_of_ble_eq_true rfl⟩) ⟨PW.blind, va_recv hK.1 hw.1 (ci := 5) (q0 := 0) rfl rfl, fun U hU hW => ⟨rfl, PW.of hK hw hU hW⟩⟩ rfl rfl hl.1 rfl (lv_room (Nat.le_of_ble_eq_true rfl)) dX5_greets_99 ⟨Nat.zero_le _, Nat.zero_le _⟩) hw hA (fun _ => rfl) (fun r2 z3 H locs h4 hw => ?_)
        obtain ⟨z5, o6⟩ := z3
        try dsimp only at h4 hw
        obtain ⟨rfl, ez5, qo6⟩ := h4
        rw [qo6] at hw
        refine lv_pop S.1 S.2.1 dX5_greets_102 rfl ?_
        exact en_v ((z5, o) : St × St) hQ S hr hlk hw (by subst ez5; subst ht; exact ⟨rfl, rfl⟩) dX5_greets_103
      · skip
        refine lv_iload_n S.1 S.2.1 dX5_greets_8 rfl (lv_at hl 2 rfl) ?_
        refine lv_iload_n S.1 S.2.1 dX5_greets_9 rfl (lv_at hl 3 rfl) ?_
        refine pr_m (n := b) (b := k) S hl.1 gX5_greets_X5_pair ⟨by rw [hR]; exact Nat.le_of_ble_eq_true rfl, by rw [hR]; exact Nat.le_of_ble_eq_true rfl⟩ (Nat.zero_le _) (Nat.zero_le _) (Nat.le_of_ble_eq_true rfl) dX5_greets_10 ?_
        refine lv_istore (lv' := [(4, .int (nI (8 * b + k))), (0, .ref (a 0)), (1, .int (nI (n))), (2, .int (nI (b))), (3, .int (nI (k)))]) S.1 S.2.1 dX5_greets_13 hl (by decide) rfl (fun ls hl => ?_)
        refine lv_iload_n S.1 S.2.1 dX5_greets_15 rfl (lv_at hl 4 rfl) ?_
        refine lv_iload_n S.1 S.2.1 dX5_greets_16 rfl (lv_at hl 3 rfl) ?_
        refine brN_ne (a := k) (b := b) S (by omega) (by omega) (tgt := 40) dX5_greets_17 (by decide) (fun c7 => ?_) (fun c7 => ?_)
        · skip
          refine lv_aload_n S.1 S.2.1 dX5_greets_40 rfl (lv_at hl 1 rfl) ?_
          refine gt_X5_1 (v := .ref (a 1)) S hK hw 0 rfl rfl LX5 k1 dX5_greets_41 ?_
          refine lv_bipush (v := 42) S.1 S.2.1 dX5_greets_44 (by decide) ?_
          refine lv_iload S.1 S.2.1 dX5_greets_46 (lv_at hl 0 rfl) ?_
          refine addN (a := 42) (b := 8 * b + k) S dX5_greets_48 ?_
          refine ald_i (v := t 5 ((8 * b + k))) (k := 42 + (8 * b + k)) S hK hw 1 rfl (by omega) (by decide) (fl_5 t (by omega)) dX5_greets_49 ?_
          refine lv_if_eq (tgt := 80) S.1 S.2.1 dX5_greets_50 (by decide) (fun c8 => ?_) (fun c8 => ?_)
          · skip
            refine lv_iinc (v := (nI (k + 1))) (lv' := [(3, .int (nI (k + 1))), (4, .int (nI (8 * b + k))), (0, .ref (a 0)), (1, .int (nI (n))), (2, .int (nI (b)))]) S.1 S.2.1 dX5_greets_80 hl (k := 4) rfl (nI_add _ _) (by decide) rfl (fun ls hl => ?_)
            refine lv_goto (tgt := 2) S.1 S.2.1 dX5_greets_83 (by decide) ?_
            exact ih2 (k + 1) (t) _ _ _ (by omega) (by omega) (by skip; subst ht; rw [inK, toS, toI]; simp [c1, c7, c8]) hw (lv_sub hl [2, 3, 4, 0] rfl)
          · skip
            refine lv_aload_n S.1 S.2.1 dX5_greets_53 rfl (lv_at hl 1 rfl) ?_
            refine lv_iload_n S.1 S.2.1 dX5_greets_54 rfl (lv_at hl 2 rfl) ?_
            refine lv_iload_n S.1 S.2.1 dX5_greets_55 rfl (lv_at hl 4 rfl) ?_
            refine lv_aload_n S.1 S.2.1 dX5_greets_56 rfl (lv_at hl 1 rfl) ?_
            refine gt_X5_1 (v := .ref (a 1)) S hK hw 0 rfl rfl LX5 k1 dX5_greets_57 ?_
            refine lv_bipush (v := 42) S.1 S.2.1 dX5_greets_60 (by decide) ?_
            refine lv_iload S.1 S.2.1 dX5_greets_62 (lv_at hl 0 rfl) ?_
            refine addN (a := 42) (b := 8 * b + k) S dX5_greets_64 ?_
            refine ald_i (v := t 5 ((8 * b + k))) (k := 42 + (8 * b + k)) S hK hw 1 rfl (by omega) (by decide) (fl_5 t (by omega)) dX5_greets_65 ?_
            refine lv_aload_n S.1 S.2.1 dX5_greets_66 rfl (lv_at hl 1 rfl) ?_
            refine gt_X5_1 (v := .ref (a 1)) S hK hw 0 rfl rfl LX5 k1 dX5_greets_67 ?_
            refine lv_bipush (v := 106) S.1 S.2.1 dX5_greets_70 (by decide) ?_
            refine lv_iload S.1 S.2.1 dX5_greets_72 (lv_at hl 0 rfl) ?_
            refine addN (a := 106) (b := 8 * b + k) S dX5_greets_74 ?_
            refine ald_i (v := t 6 ((8 * b + k))) (k := 106 + (8 * b + k)) S hK hw 1 rfl (by omega) (by decide) (fl_6 t (by omega)) dX5_greets_75 ?_
            refine cl_i (va_runV (As := [.int (nI (n)), .int (nI (k)), .int (t 5 ((8 * b + k))), .int (t 6 ((8 * b + k)))]) (rest := []) S (c_X5_takesIn l G a t o H.size (n) (k) (t 5 ((8 * b + k))) (t 6 ((8 * b + k))) (by omega) (by omega)) (cwV 4 S.2.2.2.2 gX5_greets_X5_takesIn rfl rfl rfl hd_X5_takesIn ⟨by rw [hR]; exact Nat.le_of_ble_eq_true rfl, by rw [hR]; exact Nat.le_of_ble_eq_true rfl⟩) ⟨PW.blind, va_recv hK.1 hw.1 (ci := 5) (q0 := 0) rfl rfl, fun U hU hW => ⟨rfl, PW.of hK hw hU hW⟩⟩ rfl rfl hl.1 rfl (lv_room (Nat.le_of_ble_eq_true rfl)) dX5_greets_76 ⟨Nat.zero_le _, Nat.zero_le _⟩) hw hA (fun _ => rfl) (fun r9 z10 H locs h11 hw => ?_)
            obtain ⟨z12, o13⟩ := z10
            try dsimp only at h11 hw
            obtain ⟨rfl, ez12, qo13⟩ := h11
            rw [qo13] at hw
            refine lv_pop S.1 S.2.1 dX5_greets_79 rfl ?_
            refine lv_iinc (v := (nI (k + 1))) (lv' := [(3, .int (nI (k + 1))), (4, .int (nI (8 * b + k))), (0, .ref (a 0)), (1, .int (nI (n))), (2, .int (nI (b)))]) S.1 S.2.1 dX5_greets_80 hl (k := 4) rfl (nI_add _ _) (by decide) rfl (fun ls hl => ?_)
            refine lv_goto (tgt := 2) S.1 S.2.1 dX5_greets_83 (by decide) ?_
            exact ih2 (k + 1) (z12) _ _ _ (by omega) (by omega) (by subst ez12; subst ht; rw [inK, toS, toI]; simp [c1, c7, c8]) hw (lv_sub hl [2, 3, 4, 0] rfl)
        · skip
          refine lv_aload_n S.1 S.2.1 dX5_greets_20 rfl (lv_at hl 1 rfl) ?_
          refine lv_iload_n S.1 S.2.1 dX5_greets_21 rfl (lv_at hl 2 rfl) ?_
          refine lv_iload_n S.1 S.2.1 dX5_greets_22 rfl (lv_at hl 4 rfl) ?_
          refine lv_iconst (v := 1) S.1 S.2.1 dX5_greets_23 (by decide) ?_
          refine lv_aload_n S.1 S.2.1 dX5_greets_24 rfl (lv_at hl 1 rfl) ?_
          refine gt_X5_1 (v := .ref (a 1)) S hK hw 0 rfl rfl LX5 k1 dX5_greets_25 ?_
          refine lv_bipush (v := 34) S.1 S.2.1 dX5_greets_28 (by decide) ?_
          refine lv_iload_n S.1 S.2.1 dX5_greets_30 rfl (lv_at hl 3 rfl) ?_
          refine addN (a := 34) (b := b) S dX5_greets_31 ?_
          refine ald_i (v := t 4 (b)) (k := 34 + b) S hK hw 1 rfl (by omega) (by decide) (fl_4 t (by omega)) dX5_greets_32 ?_
          refine cl_i (va_runV (As := [.int (nI (n)), .int (nI (k)), .int 1, .int (t 4 (b))]) (rest := []) S (c_X5_takesIn l G a t o H.size (n) (k) (1) (t 4 (b)) (by omega) (by omega)) (cwV 4 S.2.2.2.2 gX5_greets_X5_takesIn rfl rfl rfl hd_X5_takesIn ⟨by rw [hR]; exact Nat.le_of_ble_eq_true rfl, by rw [hR]; exact Nat.le_of_ble_eq_true rfl⟩) ⟨PW.blind, va_recv hK.1 hw.1 (ci := 5) (q0 := 0) rfl rfl, fun U hU hW => ⟨rfl, PW.of hK hw hU hW⟩⟩ rfl rfl hl.1 rfl (lv_room (Nat.le_of_ble_eq_true rfl)) dX5_greets_33 ⟨Nat.zero_le _, Nat.zero_le _⟩) hw hA (fun _ => rfl) (fun r14 z15 H locs h16 hw => ?_)
          obtain ⟨z17, o18⟩ := z15
          try dsimp only at h16 hw
          obtain ⟨rfl, ez17, qo18⟩ := h16
          rw [qo18] at hw
          refine lv_pop S.1 S.2.1 dX5_greets_36 rfl ?_
          refine lv_goto (tgt := 80) S.1 S.2.1 dX5_greets_37 (by decide) ?_
          refine lv_iinc (v := (nI (k + 1))) (lv' := [(3, .int (nI (k + 1))), (4, .int (nI (8 * b + k))), (0, .ref (a 0)), (1, .int (nI (n))), (2, .int (nI (b)))]) S.1 S.2.1 dX5_greets_80 hl (k := 4) rfl (nI_add _ _) (by decide) rfl (fun ls hl => ?_)
          refine lv_goto (tgt := 2) S.1 S.2.1 dX5_greets_83 (by decide) ?_
          exact ih2 (k + 1) (z17) _ _ _ (by omega) (by omega) (by subst ez17; subst ht; rw [inK, toS, toI]; simp [c1, c7]) hw (lv_sub hl [2, 3, 4, 0] rfl)
  exact K2 (9) (0) (z) _ _ _ (by omega) (by omega) (by rfl) hw (lv_sub hl [1, 2, 3, 0] rfl)

theorem hd_X5_crash : yX5_crash.cls = RX5 ∧ yX5_crash.cls ≠ "java/lang/invoke/MethodHandle" ∧ yX5_crash.cls ≠ "java/lang/invoke/VarHandle" ∧ (parseMethodDescriptor yX5_crash.desc).map (fun d => d.parameters.length) = some 1 := by decide +kernel
set_option maxHeartbeats 4000000 in
set_option maxRecDepth 100000 in
theorem c_X5_crash (l : Launch) (G : GA) (a : Nat → Nat) (z : St) (o : St) (sz : Nat) (v : Int32) (iz : Inv z) : Met l yX5_crash wsX5_crash ({ frames := 2, cells := 0, slots := 0, locals := 42 }) (va_Pc [.ref (a 0), .int (v)] (PW G (mp G a z o) sz)) (va_Qi (fun (r : Int32) (u : St × St) => r = (pC v z).2.1 ∧ u.1 = (pC v z).2.2 ∧ RT o u.2 ∧ u.2 0 0 = (pC v z).1) (fun (u : St × St) t => va_P G.1 gcl (mp G a u.1 u.2) t.heap) (va_A (mp G a z o) sz)) 0 0 (va_A (mp G a z o) sz) := by
  refine met_st (cc := cX5_crash) (maxL := 4) (ret := (some .int)) (fun A => va_Qi (fun (r : Int32) (u : St × St) => r = (pC v z).2.1 ∧ u.1 = (pC v z).2.2 ∧ RT o u.2 ∧ u.2 0 0 = (pC v z).1) (fun (u : St × St) t => va_P G.1 gcl (mp G a u.1 u.2) t.heap) A) (by decide) rfl (Nat.le_of_ble_eq_true rfl) ?_
  intro p e s m args below meth c R Q A H ls hR hQ S hr hlk _ hK hsz hH hAe hA hw hl
  have hl : lv_has ls 4 [(0, .ref (a 0)), (1, .int (v))] := hl
  have LX5 : ∀ w ∈ u_ws RX5 TX5 12, w.before args s = true := fun w h => S.2.2.2.2 w ((by decide +kernel : ∀ w ∈ u_ws RX5 TX5 12, w ∈ wsX5_crash) w h)
  have k1 : (Cond.fieldLink RX5 22 "GossipMembershipModel" "thrown" "I").before args s = true := S.2.2.2.2 _ (by decide +kernel : (Cond.fieldLink RX5 22 "GossipMembershipModel" "thrown" "I") ∈ wsX5_crash)
  have k2 : (Cond.fieldLink RX5 7 "GossipMembershipModel" "s" "[I").before args s = true := S.2.2.2.2 _ (by decide +kernel : (Cond.fieldLink RX5 7 "GossipMembershipModel" "s" "[I") ∈ wsX5_crash)
  refine lv_aload_n S.1 S.2.1 dX5_crash_0 rfl (lv_at hl 0 rfl) ?_
  refine lv_iconst (v := 0) S.1 S.2.1 dX5_crash_1 (by decide) ?_
  refine pt_X5_0 (ws' := (mp G a z (st o 0 0 (0)))) S hK hw 0 rfl LX5 k1 rfl (Nat.le_of_ble_eq_true rfl) dX5_crash_2 (fun H locs hw => ?_)
  obtain ⟨o1, eo1⟩ : ∃ zz, zz = st o 0 0 (0) := ⟨_, rfl⟩
  have hw : WD G (mp G a z o1) A s H locs := by rw [eo1]; exact hw
  have ro1 : RT o o1 := by rw [eo1]; exact RT.put (RT.rf o) _
  have to1 : o1 0 0 = (0) := by rw [eo1]; exact st_s _ _ _ _
  refine lv_iload_n S.1 S.2.1 dX5_crash_5 rfl (lv_at hl 1 rfl) ?_
  refine vp_callSi (va_runS (As := [.int (v)]) (rest := []) S (c_X5_isNode l (v) ) (va_cwS 1 S.2.2.2.2 gX5_crash_X5_isNode rfl rfl rfl hd_X5_isNode ⟨by rw [hR]; exact Nat.le_of_ble_eq_true rfl, by rw [hR]; exact Nat.le_of_ble_eq_true rfl⟩) ⟨blind_T, fun U hU hW => ⟨rfl, trivial⟩⟩ rfl rfl hl.1 rfl (lv_room (Nat.le_of_ble_eq_true rfl)) dX5_crash_6 ⟨Nat.zero_le _, Nat.zero_le _⟩).run (fun r2 h3 => ?_)
  subst h3
  refine brB_ne (b := nd ((v))) S (tgt := 18) dX5_crash_9 (by decide) (fun c4 => ?_) (fun c4 => ?_)
  · skip
    obtain ⟨n, hn, en9⟩ := nd_of c4
    subst en9
    refine lv_aload_n S.1 S.2.1 dX5_crash_18 rfl (lv_at hl 0 rfl) ?_
    refine gt_X5_1 (v := .ref (a 1)) S hK hw 0 rfl rfl LX5 k2 dX5_crash_19 ?_
    refine lv_bipush (v := 10) S.1 S.2.1 dX5_crash_22 (by decide) ?_
    refine lv_iload_n S.1 S.2.1 dX5_crash_24 rfl (lv_at hl 1 rfl) ?_
    refine addN (a := 10) (b := n) S dX5_crash_25 ?_
    refine ald_i (v := z 1 (n)) (k := 10 + n) S hK hw 1 rfl (by omega) (by decide) (fl_1 z (by omega)) dX5_crash_26 ?_
    refine lv_if_ne (tgt := 36) S.1 S.2.1 dX5_crash_27 (by decide) (fun c5 => ?_) (fun c5 => ?_)
    · skip
      refine lv_aload_n S.1 S.2.1 dX5_crash_36 rfl (lv_at hl 0 rfl) ?_
      refine gt_X5_1 (v := .ref (a 1)) S hK hw 0 rfl rfl LX5 k2 dX5_crash_37 ?_
      refine lv_bipush (v := 10) S.1 S.2.1 dX5_crash_40 (by decide) ?_
      refine lv_iload_n S.1 S.2.1 dX5_crash_42 rfl (lv_at hl 1 rfl) ?_
      refine addN (a := 10) (b := n) S dX5_crash_43 ?_
      refine lv_iconst (v := 0) S.1 S.2.1 dX5_crash_44 (by decide) ?_
      refine ast_i (ws' := (mp G a (st z 1 (n) (0)) o1)) (k := 10 + n) S hK hw 1 rfl (by omega) (by decide) (mp_set (fu_1 z (by omega) _)) dX5_crash_45 (fun H locs hw => ?_)
      obtain ⟨z6, ez6⟩ : ∃ zz, zz = st z 1 (n) (0) := ⟨_, rfl⟩
      have hw : WD G (mp G a z6 o1) A s H locs := by rw [ez6]; exact hw
      have iz6 : Inv z6 := by rw [ez6]; exact inv_1 iz (by decide) (by decide)
      refine lv_aload_n S.1 S.2.1 dX5_crash_46 rfl (lv_at hl 0 rfl) ?_
      refine gt_X5_1 (v := .ref (a 1)) S hK hw 0 rfl rfl LX5 k2 dX5_crash_47 ?_
      refine lv_bipush (v := 9) S.1 S.2.1 dX5_crash_50 (by decide) ?_
      refine lv_aload_n S.1 S.2.1 dX5_crash_52 rfl (lv_at hl 0 rfl) ?_
      refine gt_X5_1 (v := .ref (a 1)) S hK hw 0 rfl rfl LX5 k2 dX5_crash_53 ?_
      refine lv_iconst (v := 0) S.1 S.2.1 dX5_crash_56 (by decide) ?_
      refine ald_i (v := z6 0 (0)) (k := 0) S hK hw 1 rfl (by omega) (by decide) (fl_0 z6 (by omega)) dX5_crash_57 ?_
      refine ast_i (ws' := (mp G a (st z6 0 (9) (z6 0 (0))) o1)) (k := 9) S hK hw 1 rfl (by omega) (by decide) (mp_set (fu_0 z6 (by omega) _)) dX5_crash_58 (fun H locs hw => ?_)
      obtain ⟨z7, ez7⟩ : ∃ zz, zz = st z6 0 (9) (z6 0 (0)) := ⟨_, rfl⟩
      have hw : WD G (mp G a z7 o1) A s H locs := by rw [ez7]; exact hw
      have iz7 : Inv z7 := by rw [ez7]; exact inv_o iz6 (by decide) (by decide)
      refine lv_iconst (v := 0) S.1 S.2.1 dX5_crash_59 (by decide) ?_
      refine lv_istore_n (lv' := [(2, .int 0), (0, .ref (a 0)), (1, .int (nI (n)))]) S.1 S.2.1 dX5_crash_60 rfl hl (by decide) rfl (fun ls hl => ?_)
      refine lv_iconst (v := 0) S.1 S.2.1 dX5_crash_61 (by decide) ?_
      refine lv_istore_n (lv' := [(3, .int 0), (2, .int 0), (0, .ref (a 0)), (1, .int (nI (n)))]) S.1 S.2.1 dX5_crash_62 rfl hl (by decide) rfl (fun ls hl => ?_)
      have K63 : ∀ (fu : Nat) (k : Nat) (H : Heap) (locs : List Loc) (ls : Array Slot), 8 - k < fu → k ≤ 8 → WD G (mp G a z7 o1) A s H locs → lv_has ls 4 [(0, .ref (a 0)), (1, .int (nI (n))), (2, .int (nI (cup z7 k))), (3, .int (nI (k)))] → W p l e R s m args below meth c H locs 0 0 Q (F0 m 63 ls []) := by
        intro fu
        induction fu with
        | zero => exact fun _ _ _ _ h => absurd h (Nat.not_lt_zero _)
        | succ fu ih63 =>
          intro k H locs ls hm63 hk hw hl
          refine lv_iload_n S.1 S.2.1 dX5_crash_63 rfl (lv_at hl 3 rfl) ?_
          refine lv_bipush (v := 8) S.1 S.2.1 dX5_crash_64 (by decide) ?_
          refine brN_ge (a := k) (b := 8) S (by omega) (by omega) (tgt := 87) dX5_crash_66 (by decide) (fun c8 => ?_) (fun c8 => ?_)
          · skip
            have hk9 : k = 8 := by omega
            subst hk9
            refine lv_iload_n S.1 S.2.1 dX5_crash_87 rfl (lv_at hl 2 rfl) ?_
            exact en_i (v := (nI (cup z7 8))) ((z7, o1) : St × St) hQ S hr hlk hw (by have hp : pC (nI (n)) z = ((0), (nI (cup z7 8)), z7) := (by subst ez7 ez6 eo1; simp [pC, endq, b2, on1, on2, hn, nd_n hn, tN_n hn, c4, c5, c8]); rw [hp]; exact ⟨rfl, rfl, ro1, to1⟩) dX5_crash_88
          · skip
            refine lv_iload_n S.1 S.2.1 dX5_crash_69 rfl (lv_at hl 2 rfl) ?_
            refine lv_aload_n S.1 S.2.1 dX5_crash_70 rfl (lv_at hl 0 rfl) ?_
            refine gt_X5_1 (v := .ref (a 1)) S hK hw 0 rfl rfl LX5 k2 dX5_crash_71 ?_
            refine lv_bipush (v := 10) S.1 S.2.1 dX5_crash_74 (by decide) ?_
            refine lv_iload_n S.1 S.2.1 dX5_crash_76 rfl (lv_at hl 3 rfl) ?_
            refine addN (a := 10) (b := k) S dX5_crash_77 ?_
            refine ald_i (v := z7 1 (k)) (k := 10 + k) S hK hw 1 rfl (by omega) (by decide) (fl_1 z7 (by omega)) dX5_crash_78 ?_
            refine iadd_to (v := nI (cup z7 (k + 1))) S (cup_add (iz7.1 k (by omega))) dX5_crash_79 ?_
            refine lv_istore_n (lv' := [(2, .int (nI (cup z7 (k + 1)))), (0, .ref (a 0)), (1, .int (nI (n))), (3, .int (nI (k)))]) S.1 S.2.1 dX5_crash_80 rfl hl (by decide) rfl (fun ls hl => ?_)
            refine lv_iinc (v := (nI (k + 1))) (lv' := [(3, .int (nI (k + 1))), (2, .int (nI (cup z7 (k + 1)))), (0, .ref (a 0)), (1, .int (nI (n)))]) S.1 S.2.1 dX5_crash_81 hl (k := 3) rfl (nI_add _ _) (by decide) rfl (fun ls hl => ?_)
            refine lv_goto (tgt := 63) S.1 S.2.1 dX5_crash_84 (by decide) ?_
            exact ih63 (k + 1) _ _ _ (by omega) (by omega) hw (lv_sub hl [2, 3, 1, 0] rfl)
      exact K63 (9) (0) _ _ _ (by omega) (by omega) hw (lv_sub hl [2, 3, 1, 0] rfl)
    · skip
      refine lv_aload_n S.1 S.2.1 dX5_crash_30 rfl (lv_at hl 0 rfl) ?_
      refine lv_iconst (v := 2) S.1 S.2.1 dX5_crash_31 (by decide) ?_
      refine cl_i (va_runV (As := [.int 2]) (rest := []) S (c_X5_fails l G a z o1 H.size (2) ) (cwV 1 S.2.2.2.2 gX5_crash_X5_fails rfl rfl rfl hd_X5_fails ⟨by rw [hR]; exact Nat.le_of_ble_eq_true rfl, by rw [hR]; exact Nat.le_of_ble_eq_true rfl⟩) ⟨PW.blind, va_recv hK.1 hw.1 (ci := 5) (q0 := 0) rfl rfl, fun U hU hW => ⟨rfl, PW.of hK hw hU hW⟩⟩ rfl rfl hl.1 rfl (lv_room (Nat.le_of_ble_eq_true rfl)) dX5_crash_32 ⟨Nat.zero_le _, Nat.zero_le _⟩) hw hA (fun _ => rfl) (fun r9 z10 H locs h11 hw => ?_)
      obtain ⟨z12, o13⟩ := z10
      try dsimp only at h11 hw
      obtain ⟨rfl, qz12, eo13, to13⟩ := h11
      rw [qz12] at hw
      exact en_i (v := (0)) ((z, o13) : St × St) hQ S hr hlk hw (by have hp : pC (nI (n)) z = ((2), (0), z) := (by subst eo1; simp [pC, endq, b2, on1, on2, hn, nd_n hn, tN_n hn, c4, c5]); rw [hp]; exact ⟨rfl, rfl, (RT.tr ro1 eo13), to13⟩) dX5_crash_35
  · skip
    refine lv_aload_n S.1 S.2.1 dX5_crash_12 rfl (lv_at hl 0 rfl) ?_
    refine lv_iconst (v := 1) S.1 S.2.1 dX5_crash_13 (by decide) ?_
    refine cl_i (va_runV (As := [.int 1]) (rest := []) S (c_X5_fails l G a z o1 H.size (1) ) (cwV 1 S.2.2.2.2 gX5_crash_X5_fails rfl rfl rfl hd_X5_fails ⟨by rw [hR]; exact Nat.le_of_ble_eq_true rfl, by rw [hR]; exact Nat.le_of_ble_eq_true rfl⟩) ⟨PW.blind, va_recv hK.1 hw.1 (ci := 5) (q0 := 0) rfl rfl, fun U hU hW => ⟨rfl, PW.of hK hw hU hW⟩⟩ rfl rfl hl.1 rfl (lv_room (Nat.le_of_ble_eq_true rfl)) dX5_crash_14 ⟨Nat.zero_le _, Nat.zero_le _⟩) hw hA (fun _ => rfl) (fun r14 z15 H locs h16 hw => ?_)
    obtain ⟨z17, o18⟩ := z15
    try dsimp only at h16 hw
    obtain ⟨rfl, qz17, eo18, to18⟩ := h16
    rw [qz17] at hw
    exact en_i (v := (0)) ((z, o18) : St × St) hQ S hr hlk hw (by have hp : pC (v) z = ((1), (0), z) := (by subst eo1; simp [pC, endq, b2, on1, on2, c4]); rw [hp]; exact ⟨rfl, rfl, (RT.tr ro1 eo18), to18⟩) dX5_crash_17

theorem hd_X5_move : yX5_move.cls = RX5 ∧ yX5_move.cls ≠ "java/lang/invoke/MethodHandle" ∧ yX5_move.cls ≠ "java/lang/invoke/VarHandle" ∧ (parseMethodDescriptor yX5_move.desc).map (fun d => d.parameters.length) = some 2 := by decide +kernel
set_option maxHeartbeats 4000000 in
set_option maxRecDepth 100000 in
theorem c_X5_move (l : Launch) (G : GA) (a : Nat → Nat) (z : St) (o : St) (sz : Nat) (v : Int32) (q : Int32) (iz : Inv z) : Met l yX5_move wsX5_move ({ frames := 2, cells := 0, slots := 0, locals := 42 }) (va_Pc [.ref (a 0), .int (v), .int (q)] (PW G (mp G a z o) sz)) (va_Qi (fun (r : Int32) (u : St × St) => r = (pM v q z).2.1 ∧ u.1 = (pM v q z).2.2 ∧ RT o u.2 ∧ u.2 0 0 = (pM v q z).1) (fun (u : St × St) t => va_P G.1 gcl (mp G a u.1 u.2) t.heap) (va_A (mp G a z o) sz)) 0 0 (va_A (mp G a z o) sz) := by
  refine met_st (cc := cX5_move) (maxL := 4) (ret := (some .int)) (fun A => va_Qi (fun (r : Int32) (u : St × St) => r = (pM v q z).2.1 ∧ u.1 = (pM v q z).2.2 ∧ RT o u.2 ∧ u.2 0 0 = (pM v q z).1) (fun (u : St × St) t => va_P G.1 gcl (mp G a u.1 u.2) t.heap) A) (by decide) rfl (Nat.le_of_ble_eq_true rfl) ?_
  intro p e s m args below meth c R Q A H ls hR hQ S hr hlk _ hK hsz hH hAe hA hw hl
  have hl : lv_has ls 4 [(0, .ref (a 0)), (1, .int (v)), (2, .int (q))] := hl
  have LX5 : ∀ w ∈ u_ws RX5 TX5 12, w.before args s = true := fun w h => S.2.2.2.2 w ((by decide +kernel : ∀ w ∈ u_ws RX5 TX5 12, w ∈ wsX5_move) w h)
  have k1 : (Cond.fieldLink RX5 22 "GossipMembershipModel" "thrown" "I").before args s = true := S.2.2.2.2 _ (by decide +kernel : (Cond.fieldLink RX5 22 "GossipMembershipModel" "thrown" "I") ∈ wsX5_move)
  have k2 : (Cond.fieldLink RX5 7 "GossipMembershipModel" "s" "[I").before args s = true := S.2.2.2.2 _ (by decide +kernel : (Cond.fieldLink RX5 7 "GossipMembershipModel" "s" "[I") ∈ wsX5_move)
  refine lv_aload_n S.1 S.2.1 dX5_move_0 rfl (lv_at hl 0 rfl) ?_
  refine lv_iconst (v := 0) S.1 S.2.1 dX5_move_1 (by decide) ?_
  refine pt_X5_0 (ws' := (mp G a z (st o 0 0 (0)))) S hK hw 0 rfl LX5 k1 rfl (Nat.le_of_ble_eq_true rfl) dX5_move_2 (fun H locs hw => ?_)
  obtain ⟨o1, eo1⟩ : ∃ zz, zz = st o 0 0 (0) := ⟨_, rfl⟩
  have hw : WD G (mp G a z o1) A s H locs := by rw [eo1]; exact hw
  have ro1 : RT o o1 := by rw [eo1]; exact RT.put (RT.rf o) _
  have to1 : o1 0 0 = (0) := by rw [eo1]; exact st_s _ _ _ _
  refine lv_iload_n S.1 S.2.1 dX5_move_5 rfl (lv_at hl 1 rfl) ?_
  refine vp_callSi (va_runS (As := [.int (v)]) (rest := []) S (c_X5_isNode l (v) ) (va_cwS 1 S.2.2.2.2 gX5_move_X5_isNode rfl rfl rfl hd_X5_isNode ⟨by rw [hR]; exact Nat.le_of_ble_eq_true rfl, by rw [hR]; exact Nat.le_of_ble_eq_true rfl⟩) ⟨blind_T, fun U hU hW => ⟨rfl, trivial⟩⟩ rfl rfl hl.1 rfl (lv_room (Nat.le_of_ble_eq_true rfl)) dX5_move_6 ⟨Nat.zero_le _, Nat.zero_le _⟩).run (fun r2 h3 => ?_)
  subst h3
  refine brB_ne (b := nd ((v))) S (tgt := 18) dX5_move_9 (by decide) (fun c4 => ?_) (fun c4 => ?_)
  · skip
    obtain ⟨n, hn, en9⟩ := nd_of c4
    subst en9
    refine lv_iload_n S.1 S.2.1 dX5_move_18 rfl (lv_at hl 2 rfl) ?_
    refine lv_iconst (v := 0) S.1 S.2.1 dX5_move_19 (by decide) ?_
    refine lv_iconst (v := 3) S.1 S.2.1 dX5_move_20 (by decide) ?_
    refine vp_callSi (va_runS (As := [.int (q), .int 0, .int 3]) (rest := []) S (c_X5_in l (q) (0) (3) ) (va_cwS 3 S.2.2.2.2 gX5_move_X5_in rfl rfl rfl hd_X5_in ⟨by rw [hR]; exact Nat.le_of_ble_eq_true rfl, by rw [hR]; exact Nat.le_of_ble_eq_true rfl⟩) ⟨blind_T, fun U hU hW => ⟨rfl, trivial⟩⟩ rfl rfl hl.1 rfl (lv_room (Nat.le_of_ble_eq_true rfl)) dX5_move_21 ⟨Nat.zero_le _, Nat.zero_le _⟩).run (fun r5 h6 => ?_)
    subst h6
    refine brB_ne (b := inB ((q)) ((0)) ((3))) S (tgt := 33) dX5_move_24 (by decide) (fun c7 => ?_) (fun c7 => ?_)
    · skip
      refine lv_aload_n S.1 S.2.1 dX5_move_33 rfl (lv_at hl 0 rfl) ?_
      refine gt_X5_1 (v := .ref (a 1)) S hK hw 0 rfl rfl LX5 k2 dX5_move_34 ?_
      refine lv_bipush (v := 26) S.1 S.2.1 dX5_move_37 (by decide) ?_
      refine lv_iload_n S.1 S.2.1 dX5_move_39 rfl (lv_at hl 1 rfl) ?_
      refine addN (a := 26) (b := n) S dX5_move_40 ?_
      refine ald_i (v := z 3 (n)) (k := 26 + n) S hK hw 1 rfl (by omega) (by decide) (fl_3 z (by omega)) dX5_move_41 ?_
      refine lv_istore_n (lv' := [(3, .int (z 3 (n))), (0, .ref (a 0)), (1, .int (nI (n))), (2, .int (q))]) S.1 S.2.1 dX5_move_42 rfl hl (by decide) rfl (fun ls hl => ?_)
      refine lv_aload_n S.1 S.2.1 dX5_move_43 rfl (lv_at hl 1 rfl) ?_
      refine gt_X5_1 (v := .ref (a 1)) S hK hw 0 rfl rfl LX5 k2 dX5_move_44 ?_
      refine lv_bipush (v := 26) S.1 S.2.1 dX5_move_47 (by decide) ?_
      refine lv_iload_n S.1 S.2.1 dX5_move_49 rfl (lv_at hl 2 rfl) ?_
      refine addN (a := 26) (b := n) S dX5_move_50 ?_
      refine lv_iload_n S.1 S.2.1 dX5_move_51 rfl (lv_at hl 3 rfl) ?_
      refine ast_i (ws' := (mp G a (st z 3 (n) (q)) o1)) (k := 26 + n) S hK hw 1 rfl (by omega) (by decide) (mp_set (fu_3 z (by omega) _)) dX5_move_52 (fun H locs hw => ?_)
      obtain ⟨z8, ez8⟩ : ∃ zz, zz = st z 3 (n) (q) := ⟨_, rfl⟩
      have hw : WD G (mp G a z8 o1) A s H locs := by rw [ez8]; exact hw
      have iz8 : Inv z8 := by rw [ez8]; exact inv_o iz (by decide) (by simp)
      refine lv_aload_n S.1 S.2.1 dX5_move_53 rfl (lv_at hl 1 rfl) ?_
      refine gt_X5_1 (v := .ref (a 1)) S hK hw 0 rfl rfl LX5 k2 dX5_move_54 ?_
      refine lv_bipush (v := 9) S.1 S.2.1 dX5_move_57 (by decide) ?_
      refine lv_aload_n S.1 S.2.1 dX5_move_59 rfl (lv_at hl 1 rfl) ?_
      refine gt_X5_1 (v := .ref (a 1)) S hK hw 0 rfl rfl LX5 k2 dX5_move_60 ?_
      refine lv_iconst (v := 0) S.1 S.2.1 dX5_move_63 (by decide) ?_
      refine ald_i (v := z8 0 (0)) (k := 0) S hK hw 1 rfl (by omega) (by decide) (fl_0 z8 (by omega)) dX5_move_64 ?_
      refine ast_i (ws' := (mp G a (st z8 0 (9) (z8 0 (0))) o1)) (k := 9) S hK hw 1 rfl (by omega) (by decide) (mp_set (fu_0 z8 (by omega) _)) dX5_move_65 (fun H locs hw => ?_)
      obtain ⟨z9, ez9⟩ : ∃ zz, zz = st z8 0 (9) (z8 0 (0)) := ⟨_, rfl⟩
      have hw : WD G (mp G a z9 o1) A s H locs := by rw [ez9]; exact hw
      have iz9 : Inv z9 := by rw [ez9]; exact inv_o iz8 (by decide) (by decide)
      refine lv_iload_n S.1 S.2.1 dX5_move_66 rfl (lv_at hl 0 rfl) ?_
      exact en_i (v := (z 3 (n))) ((z9, o1) : St × St) hQ S hr hlk hw (by have hp : pM (nI (n)) (q) z = ((0), (z 3 (n)), z9) := (by subst ez9 ez8 eo1; simp [pM, endq, b2, on1, on2, hn, nd_n hn, tN_n hn, c4, c7]); rw [hp]; exact ⟨rfl, rfl, ro1, to1⟩) dX5_move_67
    · skip
      refine lv_aload_n S.1 S.2.1 dX5_move_27 rfl (lv_at hl 0 rfl) ?_
      refine lv_iconst (v := 2) S.1 S.2.1 dX5_move_28 (by decide) ?_
      refine cl_i (va_runV (As := [.int 2]) (rest := []) S (c_X5_fails l G a z o1 H.size (2) ) (cwV 1 S.2.2.2.2 gX5_move_X5_fails rfl rfl rfl hd_X5_fails ⟨by rw [hR]; exact Nat.le_of_ble_eq_true rfl, by rw [hR]; exact Nat.le_of_ble_eq_true rfl⟩) ⟨PW.blind, va_recv hK.1 hw.1 (ci := 5) (q0 := 0) rfl rfl, fun U hU hW => ⟨rfl, PW.of hK hw hU hW⟩⟩ rfl rfl hl.1 rfl (lv_room (Nat.le_of_ble_eq_true rfl)) dX5_move_29 ⟨Nat.zero_le _, Nat.zero_le _⟩) hw hA (fun _ => rfl) (fun r10 z11 H locs h12 hw => ?_)
      obtain ⟨z13, o14⟩ := z11
      try dsimp only at h12 hw
      obtain ⟨rfl, qz13, eo14, to14⟩ := h12
      rw [qz13] at hw
      exact en_i (v := (0)) ((z, o14) : St × St) hQ S hr hlk hw (by have hp : pM (nI (n)) (q) z = ((2), (0), z) := (by subst eo1; simp [pM, endq, b2, on1, on2, hn, nd_n hn, tN_n hn, c4, c7]); rw [hp]; exact ⟨rfl, rfl, (RT.tr ro1 eo14), to14⟩) dX5_move_32
  · skip
    refine lv_aload_n S.1 S.2.1 dX5_move_12 rfl (lv_at hl 0 rfl) ?_
    refine lv_iconst (v := 1) S.1 S.2.1 dX5_move_13 (by decide) ?_
    refine cl_i (va_runV (As := [.int 1]) (rest := []) S (c_X5_fails l G a z o1 H.size (1) ) (cwV 1 S.2.2.2.2 gX5_move_X5_fails rfl rfl rfl hd_X5_fails ⟨by rw [hR]; exact Nat.le_of_ble_eq_true rfl, by rw [hR]; exact Nat.le_of_ble_eq_true rfl⟩) ⟨PW.blind, va_recv hK.1 hw.1 (ci := 5) (q0 := 0) rfl rfl, fun U hU hW => ⟨rfl, PW.of hK hw hU hW⟩⟩ rfl rfl hl.1 rfl (lv_room (Nat.le_of_ble_eq_true rfl)) dX5_move_14 ⟨Nat.zero_le _, Nat.zero_le _⟩) hw hA (fun _ => rfl) (fun r15 z16 H locs h17 hw => ?_)
    obtain ⟨z18, o19⟩ := z16
    try dsimp only at h17 hw
    obtain ⟨rfl, qz18, eo19, to19⟩ := h17
    rw [qz18] at hw
    exact en_i (v := (0)) ((z, o19) : St × St) hQ S hr hlk hw (by have hp : pM (v) (q) z = ((1), (0), z) := (by subst eo1; simp [pM, endq, b2, on1, on2, c4]); rw [hp]; exact ⟨rfl, rfl, (RT.tr ro1 eo19), to19⟩) dX5_move_17

theorem hd_X5_rounds : yX5_rounds.cls = RX5 ∧ yX5_rounds.cls ≠ "java/lang/invoke/MethodHandle" ∧ yX5_rounds.cls ≠ "java/lang/invoke/VarHandle" ∧ (parseMethodDescriptor yX5_rounds.desc).map (fun d => d.parameters.length) = some 1 := by decide +kernel
set_option maxHeartbeats 4000000 in
set_option maxRecDepth 100000 in
theorem c_X5_rounds (l : Launch) (G : GA) (a : Nat → Nat) (z : St) (o : St) (sz : Nat) (q : Int32) (iz : Inv z) : Met l yX5_rounds wsX5_rounds ({ frames := 7, cells := 0, slots := 0, locals := 165 }) (va_Pc [.ref (a 0), .int (q)] (PW G (mp G a z o) sz)) (va_Qi (fun (r : Int32) (u : St × St) => r = (pR q z).2.1 ∧ u.1 = (pR q z).2.2 ∧ RT o u.2 ∧ u.2 0 0 = (pR q z).1) (fun (u : St × St) t => va_P G.1 gcl (mp G a u.1 u.2) t.heap) (va_A (mp G a z o) sz)) 0 0 (va_A (mp G a z o) sz) := by
  refine met_st (cc := cX5_rounds) (maxL := 3) (ret := (some .int)) (fun A => va_Qi (fun (r : Int32) (u : St × St) => r = (pR q z).2.1 ∧ u.1 = (pR q z).2.2 ∧ RT o u.2 ∧ u.2 0 0 = (pR q z).1) (fun (u : St × St) t => va_P G.1 gcl (mp G a u.1 u.2) t.heap) A) (by decide) rfl (Nat.le_of_ble_eq_true rfl) ?_
  intro p e s m args below meth c R Q A H ls hR hQ S hr hlk _ hK hsz hH hAe hA hw hl
  have hl : lv_has ls 3 [(0, .ref (a 0)), (1, .int (q))] := hl
  have LX5 : ∀ w ∈ u_ws RX5 TX5 12, w.before args s = true := fun w h => S.2.2.2.2 w ((by decide +kernel : ∀ w ∈ u_ws RX5 TX5 12, w ∈ wsX5_rounds) w h)
  have k1 : (Cond.fieldLink RX5 22 "GossipMembershipModel" "thrown" "I").before args s = true := S.2.2.2.2 _ (by decide +kernel : (Cond.fieldLink RX5 22 "GossipMembershipModel" "thrown" "I") ∈ wsX5_rounds)
  have k2 : (Cond.fieldLink RX5 7 "GossipMembershipModel" "s" "[I").before args s = true := S.2.2.2.2 _ (by decide +kernel : (Cond.fieldLink RX5 7 "GossipMembershipModel" "s" "[I") ∈ wsX5_rounds)
  refine lv_aload_n S.1 S.2.1 dX5_rounds_0 rfl (lv_at hl 0 rfl) ?_
  refine lv_iconst (v := 0) S.1 S.2.1 dX5_rounds_1 (by decide) ?_
  refine pt_X5_0 (ws' := (mp G a z (st o 0 0 (0)))) S hK hw 0 rfl LX5 k1 rfl (Nat.le_of_ble_eq_true rfl) dX5_rounds_2 (fun H locs hw => ?_)
  obtain ⟨o1, eo1⟩ : ∃ zz, zz = st o 0 0 (0) := ⟨_, rfl⟩
  have hw : WD G (mp G a z o1) A s H locs := by rw [eo1]; exact hw
  have ro1 : RT o o1 := by rw [eo1]; exact RT.put (RT.rf o) _
  have to1 : o1 0 0 = (0) := by rw [eo1]; exact st_s _ _ _ _
  refine lv_iload_n S.1 S.2.1 dX5_rounds_5 rfl (lv_at hl 1 rfl) ?_
  refine lv_iconst (v := 1) S.1 S.2.1 dX5_rounds_6 (by decide) ?_
  refine lv_bipush (v := 50) S.1 S.2.1 dX5_rounds_7 (by decide) ?_
  refine vp_callSi (va_runS (As := [.int (q), .int 1, .int 50]) (rest := []) S (c_X5_in l (q) (1) (50) ) (va_cwS 3 S.2.2.2.2 gX5_rounds_X5_in rfl rfl rfl hd_X5_in ⟨by rw [hR]; exact Nat.le_of_ble_eq_true rfl, by rw [hR]; exact Nat.le_of_ble_eq_true rfl⟩) ⟨blind_T, fun U hU hW => ⟨rfl, trivial⟩⟩ rfl rfl hl.1 rfl (lv_room (Nat.le_of_ble_eq_true rfl)) dX5_rounds_9 ⟨Nat.zero_le _, Nat.zero_le _⟩).run (fun r2 h3 => ?_)
  subst h3
  refine brB_ne (b := inB ((q)) ((1)) ((50))) S (tgt := 21) dX5_rounds_12 (by decide) (fun c4 => ?_) (fun c4 => ?_)
  · skip
    obtain ⟨q9, h50, eq9⟩ := inB_50 c4
    subst eq9
    refine lv_iconst (v := 0) S.1 S.2.1 dX5_rounds_21 (by decide) ?_
    refine lv_istore_n (lv' := [(2, .int 0), (0, .ref (a 0)), (1, .int (nI (q9)))]) S.1 S.2.1 dX5_rounds_22 rfl hl (by decide) rfl (fun ls hl => ?_)
    have K23 : ∀ (fu : Nat) (d : Nat) (t : St) (w : St) (H : Heap) (locs : List Loc) (ls : Array Slot), q9 - d < fu → d ≤ q9 → t = rds z d → Inv t → RT o w → w 0 0 = 0 → WD G (mp G a t w) A s H locs → lv_has ls 3 [(0, .ref (a 0)), (1, .int (nI (q9))), (2, .int (nI (d)))] → W p l e R s m args below meth c H locs 0 0 Q (F0 m 23 ls []) := by
      intro fu
      induction fu with
      | zero => exact fun _ _ _ _ _ _ h => absurd h (Nat.not_lt_zero _)
      | succ fu ih23 =>
        intro d t w H locs ls hm23 hd ht it hrt hth hw hl
        refine lv_iload_n S.1 S.2.1 dX5_rounds_23 rfl (lv_at hl 2 rfl) ?_
        refine lv_iload_n S.1 S.2.1 dX5_rounds_24 rfl (lv_at hl 1 rfl) ?_
        refine brN_ge (a := d) (b := q9) S (by omega) (by omega) (tgt := 38) dX5_rounds_25 (by decide) (fun c5 => ?_) (fun c5 => ?_)
        · skip
          have hde : q9 = d := by omega
          subst hde
          refine lv_aload_n S.1 S.2.1 dX5_rounds_38 rfl (lv_at hl 0 rfl) ?_
          refine gt_X5_1 (v := .ref (a 1)) S hK hw 0 rfl rfl LX5 k2 dX5_rounds_39 ?_
          refine lv_iconst (v := 0) S.1 S.2.1 dX5_rounds_42 (by decide) ?_
          refine ald_i (v := t 0 (0)) (k := 0) S hK hw 1 rfl (by omega) (by decide) (fl_0 t (by omega)) dX5_rounds_43 ?_
          exact en_i (v := (t 0 (0))) ((t, w) : St × St) hQ S hr hlk hw (by have hp : pR (nI (q9)) z = (0, (t 0 (0)), t) := (by subst eo1; first | (subst ht; simp [pR, tN_q (Nat.le_trans h50 (by decide)), c4, c5]; done) | (simp [pR, c4, c5]; done)); rw [hp]; exact ⟨rfl, rfl, hrt, hth⟩) dX5_rounds_44
        · skip
          refine lv_aload_n S.1 S.2.1 dX5_rounds_28 rfl (lv_at hl 0 rfl) ?_
          refine cl_v (va_runV (As := []) (rest := []) S (c_X5_round1 l G a t w H.size  (by exact it)) (cwV 0 S.2.2.2.2 gX5_rounds_X5_round1 rfl rfl rfl hd_X5_round1 ⟨by rw [hR]; exact Nat.le_of_ble_eq_true rfl, by rw [hR]; exact Nat.le_of_ble_eq_true rfl⟩) ⟨PW.blind, va_recv hK.1 hw.1 (ci := 5) (q0 := 0) rfl rfl, fun U hU hW => ⟨rfl, PW.of hK hw hU hW⟩⟩ rfl rfl hl.1 rfl (lv_room (Nat.le_of_ble_eq_true rfl)) dX5_rounds_29 ⟨Nat.zero_le _, Nat.zero_le _⟩) hw hA (fun _ => rfl) (fun z7 H locs h8 hw => ?_)
          obtain ⟨z9, o10⟩ := z7
          try dsimp only at h8 hw
          obtain ⟨ez9, eo10⟩ := h8
          have iz9 : Inv z9 := by rw [ez9]; exact inv_rd it
          refine lv_iinc (v := (nI (d + 1))) (lv' := [(2, .int (nI (d + 1))), (0, .ref (a 0)), (1, .int (nI (q9)))]) S.1 S.2.1 dX5_rounds_32 hl (k := 2) rfl (nI_add _ _) (by decide) rfl (fun ls hl => ?_)
          refine lv_goto (tgt := 23) S.1 S.2.1 dX5_rounds_35 (by decide) ?_
          exact ih23 (d + 1) (z9) (o10) _ _ _ (by omega) (by omega) (by rw [ez9, ht, rds]) (by exact iz9) (by exact (RT.sc hrt eo10)) (by exact ((eo10 0 0 (by decide) (by decide)).trans hth)) hw (lv_sub hl [1, 2, 0] rfl)
    exact K23 (q9 + 1) (0) (z) (o1) _ _ _ (by omega) (by exact Nat.zero_le _) (by rfl) (by exact iz) (by exact ro1) (by exact to1) hw (lv_sub hl [1, 2, 0] rfl)
  · skip
    refine lv_aload_n S.1 S.2.1 dX5_rounds_15 rfl (lv_at hl 0 rfl) ?_
    refine lv_iconst (v := 1) S.1 S.2.1 dX5_rounds_16 (by decide) ?_
    refine cl_i (va_runV (As := [.int 1]) (rest := []) S (c_X5_fails l G a z o1 H.size (1) ) (cwV 1 S.2.2.2.2 gX5_rounds_X5_fails rfl rfl rfl hd_X5_fails ⟨by rw [hR]; exact Nat.le_of_ble_eq_true rfl, by rw [hR]; exact Nat.le_of_ble_eq_true rfl⟩) ⟨PW.blind, va_recv hK.1 hw.1 (ci := 5) (q0 := 0) rfl rfl, fun U hU hW => ⟨rfl, PW.of hK hw hU hW⟩⟩ rfl rfl hl.1 rfl (lv_room (Nat.le_of_ble_eq_true rfl)) dX5_rounds_17 ⟨Nat.zero_le _, Nat.zero_le _⟩) hw hA (fun _ => rfl) (fun r11 z12 H locs h13 hw => ?_)
    obtain ⟨z14, o15⟩ := z12
    try dsimp only at h13 hw
    obtain ⟨rfl, qz14, eo15, to15⟩ := h13
    rw [qz14] at hw
    exact en_i (v := (0)) ((z, o15) : St × St) hQ S hr hlk hw (by have hp : pR (q) z = ((1), (0), z) := (by subst eo1; first | (subst ht; simp [pR, tN_q (Nat.le_trans h50 (by decide)), c4]; done) | (simp [pR, c4]; done)); rw [hp]; exact ⟨rfl, rfl, (RT.tr ro1 eo15), to15⟩) dX5_rounds_20

theorem hd_X5_differences : yX5_differences.cls = RX5 ∧ yX5_differences.cls ≠ "java/lang/invoke/MethodHandle" ∧ yX5_differences.cls ≠ "java/lang/invoke/VarHandle" ∧ (parseMethodDescriptor yX5_differences.desc).map (fun d => d.parameters.length) = some 2 := by decide +kernel
set_option maxHeartbeats 4000000 in
set_option maxRecDepth 100000 in
theorem c_X5_differences (l : Launch) (G : GA) (a : Nat → Nat) (z : St) (o : St) (sz : Nat) (n : Nat) (b : Nat) (hn : n < 8) (hb : b < 8) : Met l yX5_differences wsX5_differences ({ frames := 1, cells := 0, slots := 0, locals := 21 }) (va_Pc [.ref (a 0), .int (nI (n)), .int (nI (b))] (PW G (mp G a z o) sz)) (va_Qi (fun (r : Int32) (u : St × St) => r = nI (cdf z n b 8) ∧ u.1 = z ∧ u.2 = o) (fun (u : St × St) t => va_P G.1 gcl (mp G a u.1 u.2) t.heap) (va_A (mp G a z o) sz)) 0 0 (va_A (mp G a z o) sz) := by
  refine met_st (cc := cX5_differences) (maxL := 6) (ret := (some .int)) (fun A => va_Qi (fun (r : Int32) (u : St × St) => r = nI (cdf z n b 8) ∧ u.1 = z ∧ u.2 = o) (fun (u : St × St) t => va_P G.1 gcl (mp G a u.1 u.2) t.heap) A) (by decide) rfl (Nat.le_of_ble_eq_true rfl) ?_
  intro p e s m args below meth c R Q A H ls hR hQ S hr hlk _ hK hsz hH hAe hA hw hl
  have hl : lv_has ls 6 [(0, .ref (a 0)), (1, .int (nI (n))), (2, .int (nI (b)))] := hl
  have LX5 : ∀ w ∈ u_ws RX5 TX5 12, w.before args s = true := fun w h => S.2.2.2.2 w ((by decide +kernel : ∀ w ∈ u_ws RX5 TX5 12, w ∈ wsX5_differences) w h)
  have k1 : (Cond.fieldLink RX5 7 "GossipMembershipModel" "s" "[I").before args s = true := S.2.2.2.2 _ (by decide +kernel : (Cond.fieldLink RX5 7 "GossipMembershipModel" "s" "[I") ∈ wsX5_differences)
  refine lv_iconst (v := 0) S.1 S.2.1 dX5_differences_0 (by decide) ?_
  refine lv_istore_n (lv' := [(3, .int 0), (0, .ref (a 0)), (1, .int (nI (n))), (2, .int (nI (b)))]) S.1 S.2.1 dX5_differences_1 rfl hl (by decide) rfl (fun ls hl => ?_)
  refine lv_iconst (v := 0) S.1 S.2.1 dX5_differences_2 (by decide) ?_
  refine lv_istore (lv' := [(4, .int 0), (3, .int 0), (0, .ref (a 0)), (1, .int (nI (n))), (2, .int (nI (b)))]) S.1 S.2.1 dX5_differences_3 hl (by decide) rfl (fun ls hl => ?_)
  have K5 : ∀ (fu : Nat) (k : Nat) (H : Heap) (locs : List Loc) (ls : Array Slot), 8 - k < fu → k ≤ 8 → WD G (mp G a z o) A s H locs → lv_has ls 6 [(0, .ref (a 0)), (1, .int (nI (n))), (2, .int (nI (b))), (3, .int (nI (cdf z n b k))), (4, .int (nI (k)))] → W p l e R s m args below meth c H locs 0 0 Q (F0 m 5 ls []) := by
    intro fu
    induction fu with
    | zero => exact fun _ _ _ _ h => absurd h (Nat.not_lt_zero _)
    | succ fu ih5 =>
      intro k H locs ls hm5 hk hw hl
      refine lv_iload S.1 S.2.1 dX5_differences_5 (lv_at hl 4 rfl) ?_
      refine lv_bipush (v := 8) S.1 S.2.1 dX5_differences_7 (by decide) ?_
      refine brN_ge (a := k) (b := 8) S (by omega) (by omega) (tgt := 112) dX5_differences_9 (by decide) (fun c1 => ?_) (fun c1 => ?_)
      · skip
        have hk9 : k = 8 := by omega
        subst hk9
        refine lv_iload_n S.1 S.2.1 dX5_differences_112 rfl (lv_at hl 3 rfl) ?_
        exact en_i (v := (nI (cdf z n b 8))) ((z, o) : St × St) hQ S hr hlk hw (by exact ⟨rfl, rfl, rfl⟩) dX5_differences_113
      · skip
        refine lv_aload_n S.1 S.2.1 dX5_differences_12 rfl (lv_at hl 0 rfl) ?_
        refine gt_X5_1 (v := .ref (a 1)) S hK hw 0 rfl rfl LX5 k1 dX5_differences_13 ?_
        refine lv_bipush (v := 42) S.1 S.2.1 dX5_differences_16 (by decide) ?_
        refine lv_iload_n S.1 S.2.1 dX5_differences_18 rfl (lv_at hl 1 rfl) ?_
        refine lv_iload S.1 S.2.1 dX5_differences_19 (lv_at hl 4 rfl) ?_
        refine pr_m (n := n) (b := k) S hl.1 gX5_differences_X5_pair ⟨by rw [hR]; exact Nat.le_of_ble_eq_true rfl, by rw [hR]; exact Nat.le_of_ble_eq_true rfl⟩ (Nat.zero_le _) (Nat.zero_le _) (Nat.le_of_ble_eq_true rfl) dX5_differences_21 ?_
        refine addN (a := 42) (b := 8 * n + k) S dX5_differences_24 ?_
        refine ald_i (v := z 5 ((8 * n + k))) (k := 42 + (8 * n + k)) S hK hw 1 rfl (by omega) (by decide) (fl_5 z (by omega)) dX5_differences_25 ?_
        refine lv_aload_n S.1 S.2.1 dX5_differences_26 rfl (lv_at hl 0 rfl) ?_
        refine gt_X5_1 (v := .ref (a 1)) S hK hw 0 rfl rfl LX5 k1 dX5_differences_27 ?_
        refine lv_bipush (v := 42) S.1 S.2.1 dX5_differences_30 (by decide) ?_
        refine lv_iload_n S.1 S.2.1 dX5_differences_32 rfl (lv_at hl 2 rfl) ?_
        refine lv_iload S.1 S.2.1 dX5_differences_33 (lv_at hl 4 rfl) ?_
        refine pr_m (n := b) (b := k) S hl.1 gX5_differences_X5_pair ⟨by rw [hR]; exact Nat.le_of_ble_eq_true rfl, by rw [hR]; exact Nat.le_of_ble_eq_true rfl⟩ (Nat.zero_le _) (Nat.zero_le _) (Nat.le_of_ble_eq_true rfl) dX5_differences_35 ?_
        refine addN (a := 42) (b := 8 * b + k) S dX5_differences_38 ?_
        refine ald_i (v := z 5 ((8 * b + k))) (k := 42 + (8 * b + k)) S hK hw 1 rfl (by omega) (by decide) (fl_5 z (by omega)) dX5_differences_39 ?_
        refine lv_icmp_ne (tgt := 78) S.1 S.2.1 dX5_differences_40 (by decide) (fun c2 => ?_) (fun c2 => ?_)
        · skip
          refine lv_iconst (v := 0) S.1 S.2.1 dX5_differences_78 (by decide) ?_
          refine lv_istore (lv' := [(5, .int 0), (0, .ref (a 0)), (1, .int (nI (n))), (2, .int (nI (b))), (3, .int (nI (cdf z n b k))), (4, .int (nI (k)))]) S.1 S.2.1 dX5_differences_79 hl (by decide) rfl (fun ls hl => ?_)
          refine lv_iload_n S.1 S.2.1 dX5_differences_81 rfl (lv_at hl 4 rfl) ?_
          refine lv_iload S.1 S.2.1 dX5_differences_82 (lv_at hl 5 rfl) ?_
          refine lv_iload_n S.1 S.2.1 dX5_differences_84 rfl (lv_at hl 2 rfl) ?_
          refine brN_eq (a := k) (b := n) S (by omega) (by omega) (tgt := 99) dX5_differences_85 (by decide) (fun c3 => ?_) (fun c3 => ?_)
          · skip
            refine lv_iconst (v := 0) S.1 S.2.1 dX5_differences_99 (by decide) ?_
            refine lv_goto (tgt := 104) S.1 S.2.1 dX5_differences_100 (by decide) ?_
            refine iadd_to (v := nI (cdf z n b (k + 1))) S (by rw [show cdf z n b (k + 1) = cdf z n b k by simp [cdf, dfr, c1, c2, c3]]; exact Int32.add_zero _) dX5_differences_104 ?_
            refine lv_istore_n (lv' := [(3, .int (nI (cdf z n b (k + 1)))), (5, .int 0), (0, .ref (a 0)), (1, .int (nI (n))), (2, .int (nI (b))), (4, .int (nI (k)))]) S.1 S.2.1 dX5_differences_105 rfl hl (by decide) rfl (fun ls hl => ?_)
            refine lv_iinc (v := (nI (k + 1))) (lv' := [(4, .int (nI (k + 1))), (3, .int (nI (cdf z n b (k + 1)))), (5, .int 0), (0, .ref (a 0)), (1, .int (nI (n))), (2, .int (nI (b)))]) S.1 S.2.1 dX5_differences_106 hl (k := 5) rfl (nI_add _ _) (by decide) rfl (fun ls hl => ?_)
            refine lv_goto (tgt := 5) S.1 S.2.1 dX5_differences_109 (by decide) ?_
            exact ih5 (k + 1) _ _ _ (by omega) (by omega) hw (lv_sub hl [3, 4, 5, 1, 0] rfl)
          · skip
            refine lv_iload S.1 S.2.1 dX5_differences_88 (lv_at hl 5 rfl) ?_
            refine lv_iload_n S.1 S.2.1 dX5_differences_90 rfl (lv_at hl 3 rfl) ?_
            refine brN_eq (a := k) (b := b) S (by omega) (by omega) (tgt := 99) dX5_differences_91 (by decide) (fun c4 => ?_) (fun c4 => ?_)
            · skip
              refine lv_iconst (v := 0) S.1 S.2.1 dX5_differences_99 (by decide) ?_
              refine lv_goto (tgt := 104) S.1 S.2.1 dX5_differences_100 (by decide) ?_
              refine iadd_to (v := nI (cdf z n b (k + 1))) S (by rw [show cdf z n b (k + 1) = cdf z n b k by simp [cdf, dfr, c1, c2, c3, c4]]; exact Int32.add_zero _) dX5_differences_104 ?_
              refine lv_istore_n (lv' := [(3, .int (nI (cdf z n b (k + 1)))), (5, .int 0), (0, .ref (a 0)), (1, .int (nI (n))), (2, .int (nI (b))), (4, .int (nI (k)))]) S.1 S.2.1 dX5_differences_105 rfl hl (by decide) rfl (fun ls hl => ?_)
              refine lv_iinc (v := (nI (k + 1))) (lv' := [(4, .int (nI (k + 1))), (3, .int (nI (cdf z n b (k + 1)))), (5, .int 0), (0, .ref (a 0)), (1, .int (nI (n))), (2, .int (nI (b)))]) S.1 S.2.1 dX5_differences_106 hl (k := 5) rfl (nI_add _ _) (by decide) rfl (fun ls hl => ?_)
              refine lv_goto (tgt := 5) S.1 S.2.1 dX5_differences_109 (by decide) ?_
              exact ih5 (k + 1) _ _ _ (by omega) (by omega) hw (lv_sub hl [3, 4, 5, 1, 0] rfl)
            · skip
              refine lv_iload S.1 S.2.1 dX5_differences_94 (lv_at hl 0 rfl) ?_
              refine lv_if_eq (tgt := 103) S.1 S.2.1 dX5_differences_96 (by decide) (fun c5 => ?_) (fun c5 => ?_)
              · skip
                refine lv_iconst (v := 1) S.1 S.2.1 dX5_differences_103 (by decide) ?_
                refine iadd_to (v := nI (cdf z n b (k + 1))) S (by rw [show cdf z n b (k + 1) = cdf z n b k + 1 by simp [cdf, dfr, c1, c2, c3, c4, c5]]; exact nI_1 _) dX5_differences_104 ?_
                refine lv_istore_n (lv' := [(3, .int (nI (cdf z n b (k + 1)))), (5, .int 0), (0, .ref (a 0)), (1, .int (nI (n))), (2, .int (nI (b))), (4, .int (nI (k)))]) S.1 S.2.1 dX5_differences_105 rfl hl (by decide) rfl (fun ls hl => ?_)
                refine lv_iinc (v := (nI (k + 1))) (lv' := [(4, .int (nI (k + 1))), (3, .int (nI (cdf z n b (k + 1)))), (5, .int 0), (0, .ref (a 0)), (1, .int (nI (n))), (2, .int (nI (b)))]) S.1 S.2.1 dX5_differences_106 hl (k := 5) rfl (nI_add _ _) (by decide) rfl (fun ls hl => ?_)
                refine lv_goto (tgt := 5) S.1 S.2.1 dX5_differences_109 (by decide) ?_
                exact ih5 (k + 1) _ _ _ (by omega) (by omega) hw (lv_sub hl [3, 4, 5, 1, 0] rfl)
              · skip
                exact absurd c5 (by decide)
        · skip
          refine lv_aload_n S.1 S.2.1 dX5_differences_43 rfl (lv_at hl 0 rfl) ?_
          refine gt_X5_1 (v := .ref (a 1)) S hK hw 0 rfl rfl LX5 k1 dX5_differences_44 ?_
          refine lv_bipush (v := 106) S.1 S.2.1 dX5_differences_47 (by decide) ?_
          refine lv_iload_n S.1 S.2.1 dX5_differences_49 rfl (lv_at hl 1 rfl) ?_
          refine lv_iload S.1 S.2.1 dX5_differences_50 (lv_at hl 4 rfl) ?_
          refine pr_m (n := n) (b := k) S hl.1 gX5_differences_X5_pair ⟨by rw [hR]; exact Nat.le_of_ble_eq_true rfl, by rw [hR]; exact Nat.le_of_ble_eq_true rfl⟩ (Nat.zero_le _) (Nat.zero_le _) (Nat.le_of_ble_eq_true rfl) dX5_differences_52 ?_
          refine addN (a := 106) (b := 8 * n + k) S dX5_differences_55 ?_
          refine ald_i (v := z 6 ((8 * n + k))) (k := 106 + (8 * n + k)) S hK hw 1 rfl (by omega) (by decide) (fl_6 z (by omega)) dX5_differences_56 ?_
          refine lv_aload_n S.1 S.2.1 dX5_differences_57 rfl (lv_at hl 0 rfl) ?_
          refine gt_X5_1 (v := .ref (a 1)) S hK hw 0 rfl rfl LX5 k1 dX5_differences_58 ?_
          refine lv_bipush (v := 106) S.1 S.2.1 dX5_differences_61 (by decide) ?_
          refine lv_iload_n S.1 S.2.1 dX5_differences_63 rfl (lv_at hl 2 rfl) ?_
          refine lv_iload S.1 S.2.1 dX5_differences_64 (lv_at hl 4 rfl) ?_
          refine pr_m (n := b) (b := k) S hl.1 gX5_differences_X5_pair ⟨by rw [hR]; exact Nat.le_of_ble_eq_true rfl, by rw [hR]; exact Nat.le_of_ble_eq_true rfl⟩ (Nat.zero_le _) (Nat.zero_le _) (Nat.le_of_ble_eq_true rfl) dX5_differences_66 ?_
          refine addN (a := 106) (b := 8 * b + k) S dX5_differences_69 ?_
          refine ald_i (v := z 6 ((8 * b + k))) (k := 106 + (8 * b + k)) S hK hw 1 rfl (by omega) (by decide) (fl_6 z (by omega)) dX5_differences_70 ?_
          refine lv_icmp_ne (tgt := 78) S.1 S.2.1 dX5_differences_71 (by decide) (fun c6 => ?_) (fun c6 => ?_)
          · skip
            refine lv_iconst (v := 0) S.1 S.2.1 dX5_differences_78 (by decide) ?_
            refine lv_istore (lv' := [(5, .int 0), (0, .ref (a 0)), (1, .int (nI (n))), (2, .int (nI (b))), (3, .int (nI (cdf z n b k))), (4, .int (nI (k)))]) S.1 S.2.1 dX5_differences_79 hl (by decide) rfl (fun ls hl => ?_)
            refine lv_iload_n S.1 S.2.1 dX5_differences_81 rfl (lv_at hl 4 rfl) ?_
            refine lv_iload S.1 S.2.1 dX5_differences_82 (lv_at hl 5 rfl) ?_
            refine lv_iload_n S.1 S.2.1 dX5_differences_84 rfl (lv_at hl 2 rfl) ?_
            refine brN_eq (a := k) (b := n) S (by omega) (by omega) (tgt := 99) dX5_differences_85 (by decide) (fun c7 => ?_) (fun c7 => ?_)
            · skip
              refine lv_iconst (v := 0) S.1 S.2.1 dX5_differences_99 (by decide) ?_
              refine lv_goto (tgt := 104) S.1 S.2.1 dX5_differences_100 (by decide) ?_
              refine iadd_to (v := nI (cdf z n b (k + 1))) S (by rw [show cdf z n b (k + 1) = cdf z n b k by simp [cdf, dfr, c1, c2, c6, c7]]; exact Int32.add_zero _) dX5_differences_104 ?_
              refine lv_istore_n (lv' := [(3, .int (nI (cdf z n b (k + 1)))), (5, .int 0), (0, .ref (a 0)), (1, .int (nI (n))), (2, .int (nI (b))), (4, .int (nI (k)))]) S.1 S.2.1 dX5_differences_105 rfl hl (by decide) rfl (fun ls hl => ?_)
              refine lv_iinc (v := (nI (k + 1))) (lv' := [(4, .int (nI (k + 1))), (3, .int (nI (cdf z n b (k + 1)))), (5, .int 0), (0, .ref (a 0)), (1, .int (nI (n))), (2, .int (nI (b)))]) S.1 S.2.1 dX5_differences_106 hl (k := 5) rfl (nI_add _ _) (by decide) rfl (fun ls hl => ?_)
              refine lv_goto (tgt := 5) S.1 S.2.1 dX5_differences_109 (by decide) ?_
              exact ih5 (k + 1) _ _ _ (by omega) (by omega) hw (lv_sub hl [3, 4, 5, 1, 0] rfl)
            · skip
              refine lv_iload S.1 S.2.1 dX5_differences_88 (lv_at hl 5 rfl) ?_
              refine lv_iload_n S.1 S.2.1 dX5_differences_90 rfl (lv_at hl 3 rfl) ?_
              refine brN_eq (a := k) (b := b) S (by omega) (by omega) (tgt := 99) dX5_differences_91 (by decide) (fun c8 => ?_) (fun c8 => ?_)
              · skip
                refine lv_iconst (v := 0) S.1 S.2.1 dX5_differences_99 (by decide) ?_
                refine lv_goto (tgt := 104) S.1 S.2.1 dX5_differences_100 (by decide) ?_
                refine iadd_to (v := nI (cdf z n b (k + 1))) S (by rw [show cdf z n b (k + 1) = cdf z n b k by simp [cdf, dfr, c1, c2, c6, c7, c8]]; exact Int32.add_zero _) dX5_differences_104 ?_
                refine lv_istore_n (lv' := [(3, .int (nI (cdf z n b (k + 1)))), (5, .int 0), (0, .ref (a 0)), (1, .int (nI (n))), (2, .int (nI (b))), (4, .int (nI (k)))]) S.1 S.2.1 dX5_differences_105 rfl hl (by decide) rfl (fun ls hl => ?_)
                refine lv_iinc (v := (nI (k + 1))) (lv' := [(4, .int (nI (k + 1))), (3, .int (nI (cdf z n b (k + 1)))), (5, .int 0), (0, .ref (a 0)), (1, .int (nI (n))), (2, .int (nI (b)))]) S.1 S.2.1 dX5_differences_106 hl (k := 5) rfl (nI_add _ _) (by decide) rfl (fun ls hl => ?_)
                refine lv_goto (tgt := 5) S.1 S.2.1 dX5_differences_109 (by decide) ?_
                exact ih5 (k + 1) _ _ _ (by omega) (by omega) hw (lv_sub hl [3, 4, 5, 1, 0] rfl)
              · skip
                refine lv_iload S.1 S.2.1 dX5_differences_94 (lv_at hl 0 rfl) ?_
                refine lv_if_eq (tgt := 103) S.1 S.2.1 dX5_differences_96 (by decide) (fun c9 => ?_) (fun c9 => ?_)
                · skip
                  refine lv_iconst (v := 1) S.1 S.2.1 dX5_differences_103 (by decide) ?_
                  refine iadd_to (v := nI (cdf z n b (k + 1))) S (by rw [show cdf z n b (k + 1) = cdf z n b k + 1 by simp [cdf, dfr, c1, c2, c6, c7, c8, c9]]; exact nI_1 _) dX5_differences_104 ?_
                  refine lv_istore_n (lv' := [(3, .int (nI (cdf z n b (k + 1)))), (5, .int 0), (0, .ref (a 0)), (1, .int (nI (n))), (2, .int (nI (b))), (4, .int (nI (k)))]) S.1 S.2.1 dX5_differences_105 rfl hl (by decide) rfl (fun ls hl => ?_)
                  refine lv_iinc (v := (nI (k + 1))) (lv' := [(4, .int (nI (k + 1))), (3, .int (nI (cdf z n b (k + 1)))), (5, .int 0), (0, .ref (a 0)), (1, .int (nI (n))), (2, .int (nI (b)))]) S.1 S.2.1 dX5_differences_106 hl (k := 5) rfl (nI_add _ _) (by decide) rfl (fun ls hl => ?_)
                  refine lv_goto (tgt := 5) S.1 S.2.1 dX5_differences_109 (by decide) ?_
                  exact ih5 (k + 1) _ _ _ (by omega) (by omega) hw (lv_sub hl [3, 4, 5, 1, 0] rfl)
                · skip
                  exact absurd c9 (by decide)
          · skip
            refine lv_iconst (v := 1) S.1 S.2.1 dX5_differences_74 (by decide) ?_
            refine lv_goto (tgt := 79) S.1 S.2.1 dX5_differences_75 (by decide) ?_
            refine lv_istore (lv' := [(5, .int 1), (0, .ref (a 0)), (1, .int (nI (n))), (2, .int (nI (b))), (3, .int (nI (cdf z n b k))), (4, .int (nI (k)))]) S.1 S.2.1 dX5_differences_79 hl (by decide) rfl (fun ls hl => ?_)
            refine lv_iload_n S.1 S.2.1 dX5_differences_81 rfl (lv_at hl 4 rfl) ?_
            refine lv_iload S.1 S.2.1 dX5_differences_82 (lv_at hl 5 rfl) ?_
            refine lv_iload_n S.1 S.2.1 dX5_differences_84 rfl (lv_at hl 2 rfl) ?_
            refine brN_eq (a := k) (b := n) S (by omega) (by omega) (tgt := 99) dX5_differences_85 (by decide) (fun c10 => ?_) (fun c10 => ?_)
            · skip
              refine lv_iconst (v := 0) S.1 S.2.1 dX5_differences_99 (by decide) ?_
              refine lv_goto (tgt := 104) S.1 S.2.1 dX5_differences_100 (by decide) ?_
              refine iadd_to (v := nI (cdf z n b (k + 1))) S (by rw [show cdf z n b (k + 1) = cdf z n b k by simp [cdf, dfr, c1, c2, c6, c10]]; exact Int32.add_zero _) dX5_differences_104 ?_
              refine lv_istore_n (lv' := [(3, .int (nI (cdf z n b (k + 1)))), (5, .int 1), (0, .ref (a 0)), (1, .int (nI (n))), (2, .int (nI (b))), (4, .int (nI (k)))]) S.1 S.2.1 dX5_differences_105 rfl hl (by decide) rfl (fun ls hl => ?_)
              refine lv_iinc (v := (nI (k + 1))) (lv' := [(4, .int (nI (k + 1))), (3, .int (nI (cdf z n b (k + 1)))), (5, .int 1), (0, .ref (a 0)), (1, .int (nI (n))), (2, .int (nI (b)))]) S.1 S.2.1 dX5_differences_106 hl (k := 5) rfl (nI_add _ _) (by decide) rfl (fun ls hl => ?_)
              refine lv_goto (tgt := 5) S.1 S.2.1 dX5_differences_109 (by decide) ?_
              exact ih5 (k + 1) _ _ _ (by omega) (by omega) hw (lv_sub hl [3, 4, 5, 1, 0] rfl)
            · skip
              refine lv_iload S.1 S.2.1 dX5_differences_88 (lv_at hl 5 rfl) ?_
              refine lv_iload_n S.1 S.2.1 dX5_differences_90 rfl (lv_at hl 3 rfl) ?_
              refine brN_eq (a := k) (b := b) S (by omega) (by omega) (tgt := 99) dX5_differences_91 (by decide) (fun c11 => ?_) (fun c11 => ?_)
              · skip
                refine lv_iconst (v := 0) S.1 S.2.1 dX5_differences_99 (by decide) ?_
                refine lv_goto (tgt := 104) S.1 S.2.1 dX5_differences_100 (by decide) ?_
                refine iadd_to (v := nI (cdf z n b (k + 1))) S (by rw [show cdf z n b (k + 1) = cdf z n b k by simp [cdf, dfr, c1, c2, c6, c10, c11]]; exact Int32.add_zero _) dX5_differences_104 ?_
                refine lv_istore_n (lv' := [(3, .int (nI (cdf z n b (k + 1)))), (5, .int 1), (0, .ref (a 0)), (1, .int (nI (n))), (2, .int (nI (b))), (4, .int (nI (k)))]) S.1 S.2.1 dX5_differences_105 rfl hl (by decide) rfl (fun ls hl => ?_)
                refine lv_iinc (v := (nI (k + 1))) (lv' := [(4, .int (nI (k + 1))), (3, .int (nI (cdf z n b (k + 1)))), (5, .int 1), (0, .ref (a 0)), (1, .int (nI (n))), (2, .int (nI (b)))]) S.1 S.2.1 dX5_differences_106 hl (k := 5) rfl (nI_add _ _) (by decide) rfl (fun ls hl => ?_)
                refine lv_goto (tgt := 5) S.1 S.2.1 dX5_differences_109 (by decide) ?_
                exact ih5 (k + 1) _ _ _ (by omega) (by omega) hw (lv_sub hl [3, 4, 5, 1, 0] rfl)
              · skip
                refine lv_iload S.1 S.2.1 dX5_differences_94 (lv_at hl 0 rfl) ?_
                refine lv_if_eq (tgt := 103) S.1 S.2.1 dX5_differences_96 (by decide) (fun c12 => ?_) (fun c12 => ?_)
                · skip
                  exact absurd c12 (by decide)
                · skip
                  refine lv_iconst (v := 0) S.1 S.2.1 dX5_differences_99 (by decide) ?_
                  refine lv_goto (tgt := 104) S.1 S.2.1 dX5_differences_100 (by decide) ?_
                  refine iadd_to (v := nI (cdf z n b (k + 1))) S (by rw [show cdf z n b (k + 1) = cdf z n b k by simp [cdf, dfr, c1, c2, c6, c10, c11, c12]]; exact Int32.add_zero _) dX5_differences_104 ?_
                  refine lv_istore_n (lv' := [(3, .int (nI (cdf z n b (k + 1)))), (5, .int 1), (0, .ref (a 0)), (1, .int (nI (n))), (2, .int (nI (b))), (4, .int (nI (k)))]) S.1 S.2.1 dX5_differences_105 rfl hl (by decide) rfl (fun ls hl => ?_)
                  refine lv_iinc (v := (nI (k + 1))) (lv' := [(4, .int (nI (k + 1))), (3, .int (nI (cdf z n b (k + 1)))), (5, .int 1), (0, .ref (a 0)), (1, .int (nI (n))), (2, .int (nI (b)))]) S.1 S.2.1 dX5_differences_106 hl (k := 5) rfl (nI_add _ _) (by decide) rfl (fun ls hl => ?_)
                  refine lv_goto (tgt := 5) S.1 S.2.1 dX5_differences_109 (by decide) ?_
                  exact ih5 (k + 1) _ _ _ (by omega) (by omega) hw (lv_sub hl [3, 4, 5, 1, 0] rfl)
  exact K5 (9) (0) _ _ _ (by omega) (by omega) hw (lv_sub hl [2, 3, 4, 1, 0] rfl)

theorem hd_X5_allDifferences : yX5_allDifferences.cls = RX5 ∧ yX5_allDifferences.cls ≠ "java/lang/invoke/MethodHandle" ∧ yX5_allDifferences.cls ≠ "java/lang/invoke/VarHandle" ∧ (parseMethodDescriptor yX5_allDifferences.desc).map (fun d => d.parameters.length) = some 0 := by decide +kernel
set_option maxHeartbeats 4000000 in
set_option maxRecDepth 100000 in
theorem c_X5_allDifferences (l : Launch) (G : GA) (a : Nat → Nat) (z : St) (o : St) (sz : Nat) (iz : Inv z) : Met l yX5_allDifferences wsX5_allDifferences ({ frames := 3, cells := 0, slots := 0, locals := 65 }) (va_Pc [.ref (a 0)] (PW G (mp G a z o) sz)) (va_Qi (fun (r : Int32) (u : St × St) => r = nI (cdT z 8) ∧ u.1 = z ∧ u.2 = o) (fun (u : St × St) t => va_P G.1 gcl (mp G a u.1 u.2) t.heap) (va_A (mp G a z o) sz)) 0 0 (va_A (mp G a z o) sz) := by
  refine met_st (cc := cX5_allDifferences) (maxL := 4) (ret := (some .int)) (fun A => va_Qi (fun (r : Int32) (u : St × St) => r = nI (cdT z 8) ∧ u.1 = z ∧ u.2 = o) (fun (u : St × St) t => va_P G.1 gcl (mp G a u.1 u.2) t.heap) A) (by decide) rfl (Nat.le_of_ble_eq_true rfl) ?_
  intro p e s m args below meth c R Q A H ls hR hQ S hr hlk _ hK hsz hH hAe hA hw hl
  have hl : lv_has ls 4 [(0, .ref (a 0))] := hl
  refine lv_iconst (v := 0) S.1 S.2.1 dX5_allDifferences_0 (by decide) ?_
  refine lv_istore_n (lv' := [(1, .int 0), (0, .ref (a 0))]) S.1 S.2.1 dX5_allDifferences_1 rfl hl (by decide) rfl (fun ls hl => ?_)
  refine lv_iconst (v := 0) S.1 S.2.1 dX5_allDifferences_2 (by decide) ?_
  refine lv_istore_n (lv' := [(2, .int 0), (1, .int 0), (0, .ref (a 0))]) S.1 S.2.1 dX5_allDifferences_3 rfl hl (by decide) rfl (fun ls hl => ?_)
  have K4 : ∀ (fu : Nat) (i : Nat) (H : Heap) (locs : List Loc) (ls : Array Slot), 8 - i < fu → i ≤ 8 → WD G (mp G a z o) A s H locs → lv_has ls 4 [(0, .ref (a 0)), (1, .int (nI (cdT z i))), (2, .int (nI (i)))] → W p l e R s m args below meth c H locs 0 0 Q (F0 m 4 ls []) := by
    intro fu
    induction fu with
    | zero => exact fun _ _ _ _ h => absurd h (Nat.not_lt_zero _)
    | succ fu ih4 =>
      intro i H locs ls hm4 hi hw hl
      refine lv_iload_n S.1 S.2.1 dX5_allDifferences_4 rfl (lv_at hl 2 rfl) ?_
      refine lv_bipush (v := 8) S.1 S.2.1 dX5_allDifferences_5 (by decide) ?_
      refine brN_ge (a := i) (b := 8) S (by omega) (by omega) (tgt := 54) dX5_allDifferences_7 (by decide) (fun c1 => ?_) (fun c1 => ?_)
      · skip
        have hi9 : i = 8 := by omega
        subst hi9
        refine lv_iload_n S.1 S.2.1 dX5_allDifferences_54 rfl (lv_at hl 1 rfl) ?_
        exact en_i (v := (nI (cdT z 8))) ((z, o) : St × St) hQ S hr hlk hw (by exact ⟨rfl, rfl, rfl⟩) dX5_allDifferences_55
      · skip
        refine lv_iload_n S.1 S.2.1 dX5_allDifferences_10 rfl (lv_at hl 2 rfl) ?_
        refine lv_iconst (v := 1) S.1 S.2.1 dX5_allDifferences_11 (by decide) ?_
        refine addN (a := i) (b := 1) S dX5_allDifferences_12 ?_
        refine lv_istore_n (lv' := [(3, .int (nI (i + 1))), (0, .ref (a 0)), (1, .int (nI (cdT z i))), (2, .int (nI (i)))]) S.1 S.2.1 dX5_allDifferences_13 rfl hl (by decide) rfl (fun ls hl => ?_)
        have K14 : ∀ (fu : Nat) (j : Nat) (H : Heap) (locs : List Loc) (ls : Array Slot), 8 - j < fu → j ≤ 8 → i < j → WD G (mp G a z o) A s H locs → lv_has ls 4 [(0, .ref (a 0)), (1, .int (nI (cdT z i + cdR z i j))), (2, .int (nI (i))), (3, .int (nI (j)))] → W p l e R s m args below meth c H locs 0 0 Q (F0 m 14 ls []) := by
          intro fu
          induction fu with
          | zero => exact fun _ _ _ _ h => absurd h (Nat.not_lt_zero _)
          | succ fu ih14 =>
            intro j H locs ls hm14 hj hij hw hl
            refine lv_iload_n S.1 S.2.1 dX5_allDifferences_14 rfl (lv_at hl 3 rfl) ?_
            refine lv_bipush (v := 8) S.1 S.2.1 dX5_allDifferences_15 (by decide) ?_
            refine brN_ge (a := j) (b := 8) S (by omega) (by omega) (tgt := 48) dX5_allDifferences_17 (by decide) (fun c2 => ?_) (fun c2 => ?_)
            · skip
              have hj9 : j = 8 := by omega
              subst hj9
              have hl : lv_has ls 4 [(0, .ref (a 0)), (1, .int (nI (cdT z (i + 1)))), (2, .int (nI (i))), (3, .int (nI (8)))] := hl
              refine lv_iinc (v := (nI (i + 1))) (lv' := [(2, .int (nI (i + 1))), (0, .ref (a 0)), (1, .int (nI (cdT z (i + 1)))), (3, .int (nI (8)))]) S.1 S.2.1 dX5_allDifferences_48 hl (k := 2) rfl (nI_add _ _) (by decide) rfl (fun ls hl => ?_)
              refine lv_goto (tgt := 4) S.1 S.2.1 dX5_allDifferences_51 (by decide) ?_
              exact ih4 (i + 1) _ _ _ (by omega) (by omega) hw (lv_sub hl [1, 2, 0] rfl)
            · skip
              refine lv_iload_n S.1 S.2.1 dX5_allDifferences_20 rfl (lv_at hl 1 rfl) ?_
              refine lv_aload_n S.1 S.2.1 dX5_allDifferences_21 rfl (lv_at hl 0 rfl) ?_
              refine lv_iload_n S.1 S.2.1 dX5_allDifferences_22 rfl (lv_at hl 2 rfl) ?_
              refine lv_iload_n S.1 S.2.1 dX5_allDifferences_23 rfl (lv_at hl 3 rfl) ?_
              refine cl_i (va_runV (As := [.int (nI (i)), .int (nI (j))]) (rest := [.int (nI (cdT z i + cdR z i j))]) S (c_X5_canReach l G a z o H.size (i) (j) (by omega) (by omega) (by exact iz)) (cwV 2 S.2.2.2.2 gX5_allDifferences_X5_canReach rfl rfl rfl hd_X5_canReach ⟨by rw [hR]; exact Nat.le_of_ble_eq_true rfl, by rw [hR]; exact Nat.le_of_ble_eq_true rfl⟩) ⟨PW.blind, va_recv hK.1 hw.1 (ci := 5) (q0 := 0) rfl rfl, fun U hU hW => ⟨rfl, PW.of hK hw hU hW⟩⟩ rfl rfl hl.1 rfl (lv_room (Nat.le_of_ble_eq_true rfl)) dX5_allDifferences_24 ⟨Nat.zero_le _, Nat.zero_le _⟩) hw hA (fun _ => rfl) (fun r3 z4 H locs h5 hw => ?_)
              obtain ⟨z6, o7⟩ := z4
              try dsimp only at h5 hw
              obtain ⟨rfl, qz6, qo7⟩ := h5
              rw [qz6] at hw
              rw [qo7] at hw
              refine brB_eq (b := cnn z (i) (j)) S (tgt := 39) dX5_allDifferences_27 (by decide) (fun c8 => ?_) (fun c8 => ?_)
              · skip
                refine lv_iconst (v := 0) S.1 S.2.1 dX5_allDifferences_39 (by decide) ?_
                refine iadd_to (v := nI (cdT z i + cdR z i (j + 1))) S (by rw [cdR, if_neg (by rw [c8]; simp)]; exact Int32.add_zero _) dX5_allDifferences_40 ?_
                refine lv_istore_n (lv' := [(1, .int (nI (cdT z i + cdR z i (j + 1)))), (0, .ref (a 0)), (2, .int (nI (i))), (3, .int (nI (j)))]) S.1 S.2.1 dX5_allDifferences_41 rfl hl (by decide) rfl (fun ls hl => ?_)
                refine lv_iinc (v := (nI (j + 1))) (lv' := [(3, .int (nI (j + 1))), (1, .int (nI (cdT z i + cdR z i (j + 1)))), (0, .ref (a 0)), (2, .int (nI (i)))]) S.1 S.2.1 dX5_allDifferences_42 hl (k := 3) rfl (nI_add _ _) (by decide) rfl (fun ls hl => ?_)
                refine lv_goto (tgt := 14) S.1 S.2.1 dX5_allDifferences_45 (by decide) ?_
                exact ih14 (j + 1) _ _ _ (by omega) (by omega) (by omega) hw (lv_sub hl [2, 1, 3, 0] rfl)
              · skip
                refine lv_aload_n S.1 S.2.1 dX5_allDifferences_30 rfl (lv_at hl 0 rfl) ?_
                refine lv_iload_n S.1 S.2.1 dX5_allDifferences_31 rfl (lv_at hl 2 rfl) ?_
                refine lv_iload_n S.1 S.2.1 dX5_allDifferences_32 rfl (lv_at hl 3 rfl) ?_
                refine cl_i (va_runV (As := [.int (nI (i)), .int (nI (j))]) (rest := [.int (nI (cdT z i + cdR z i j))]) S (c_X5_differences l G a z o H.size (i) (j) (by omega) (by omega)) (cwV 2 S.2.2.2.2 gX5_allDifferences_X5_differences rfl rfl rfl hd_X5_differences ⟨by rw [hR]; exact Nat.le_of_ble_eq_true rfl, by rw [hR]; exact Nat.le_of_ble_eq_true rfl⟩) ⟨PW.blind, va_recv hK.1 hw.1 (ci := 5) (q0 := 0) rfl rfl, fun U hU hW => ⟨rfl, PW.of hK hw hU hW⟩⟩ rfl rfl hl.1 rfl (lv_room (Nat.le_of_ble_eq_true rfl)) dX5_allDifferences_33 ⟨Nat.zero_le _, Nat.zero_le _⟩) hw hA (fun _ => rfl) (fun r9 z10 H locs h11 hw => ?_)
                obtain ⟨z12, o13⟩ := z10
                try dsimp only at h11 hw
                obtain ⟨rfl, qz12, qo13⟩ := h11
                rw [qz12] at hw
                rw [qo13] at hw
                refine lv_goto (tgt := 40) S.1 S.2.1 dX5_allDifferences_36 (by decide) ?_
                refine iadd_to (v := nI (cdT z i + cdR z i (j + 1))) S (by rw [cdR, if_pos ⟨by omega, by assumption⟩, ← Nat.add_assoc]; exact nI_add _ _) dX5_allDifferences_40 ?_
                refine lv_istore_n (lv' := [(1, .int (nI (cdT z i + cdR z i (j + 1)))), (0, .ref (a 0)), (2, .int (nI (i))), (3, .int (nI (j)))]) S.1 S.2.1 dX5_allDifferences_41 rfl hl (by decide) rfl (fun ls hl => ?_)
                refine lv_iinc (v := (nI (j + 1))) (lv' := [(3, .int (nI (j + 1))), (1, .int (nI (cdT z i + cdR z i (j + 1)))), (0, .ref (a 0)), (2, .int (nI (i)))]) S.1 S.2.1 dX5_allDifferences_42 hl (k := 3) rfl (nI_add _ _) (by decide) rfl (fun ls hl => ?_)
                refine lv_goto (tgt := 14) S.1 S.2.1 dX5_allDifferences_45 (by decide) ?_
                exact ih14 (j + 1) _ _ _ (by omega) (by omega) (by omega) hw (lv_sub hl [2, 1, 3, 0] rfl)
        have hz9 : cdT z i + cdR z i (i + 1) = cdT z i := by rw [cdR_0 z i (i + 1) (by omega)]; rfl
        rw [← hz9] at hl
        exact K14 (9) (i + 1) _ _ _ (by omega) (by omega) (by omega) hw (lv_sub hl [1, 2, 3, 0] rfl)
  exact K4 (9) (0) _ _ _ (by omega) (by omega) hw (lv_sub hl [2, 1, 0] rfl)

theorem hd_X5_knows : yX5_knows.cls = RX5 ∧ yX5_knows.cls ≠ "java/lang/invoke/MethodHandle" ∧ yX5_knows.cls ≠ "java/lang/invoke/VarHandle" ∧ (parseMethodDescriptor yX5_knows.desc).map (fun d => d.parameters.length) = some 2 := by decide +kernel
set_option maxHeartbeats 4000000 in
set_option maxRecDepth 100000 in
theorem c_X5_knows (l : Launch) (G : GA) (a : Nat → Nat) (z : St) (o : St) (sz : Nat) (n : Nat) (b : Nat) (hn : n < 8) (hb : b < 8) : Met l yX5_knows wsX5_knows ({ frames := 1, cells := 0, slots := 0, locals := 21 }) (va_Pc [.ref (a 0), .int (nI (n)), .int (nI (b))] (PW G (mp G a z o) sz)) (va_Qi (fun (r : Int32) (u : St × St) => r = b2 (utd z n b) ∧ u.1 = z ∧ u.2 = o) (fun (u : St × St) t => va_P G.1 gcl (mp G a u.1 u.2) t.heap) (va_A (mp G a z o) sz)) 0 0 (va_A (mp G a z o) sz) := by
  refine met_st (cc := cX5_knows) (maxL := 3) (ret := (some .boolean)) (fun A => va_Qi (fun (r : Int32) (u : St × St) => r = b2 (utd z n b) ∧ u.1 = z ∧ u.2 = o) (fun (u : St × St) t => va_P G.1 gcl (mp G a u.1 u.2) t.heap) A) (by decide) rfl (Nat.le_of_ble_eq_true rfl) ?_
  intro p e s m args below meth c R Q A H ls hR hQ S hr hlk _ hK hsz hH hAe hA hw hl
  have hl : lv_has ls 3 [(0, .ref (a 0)), (1, .int (nI (n))), (2, .int (nI (b)))] := hl
  have LX5 : ∀ w ∈ u_ws RX5 TX5 12, w.before args s = true := fun w h => S.2.2.2.2 w ((by decide +kernel : ∀ w ∈ u_ws RX5 TX5 12, w ∈ wsX5_knows) w h)
  have k1 : (Cond.fieldLink RX5 7 "GossipMembershipModel" "s" "[I").before args s = true := S.2.2.2.2 _ (by decide +kernel : (Cond.fieldLink RX5 7 "GossipMembershipModel" "s" "[I") ∈ wsX5_knows)
  refine lv_aload_n S.1 S.2.1 dX5_knows_0 rfl (lv_at hl 0 rfl) ?_
  refine gt_X5_1 (v := .ref (a 1)) S hK hw 0 rfl rfl LX5 k1 dX5_knows_1 ?_
  refine lv_bipush (v := 42) S.1 S.2.1 dX5_knows_4 (by decide) ?_
  refine lv_iload_n S.1 S.2.1 dX5_knows_6 rfl (lv_at hl 1 rfl) ?_
  refine lv_iload_n S.1 S.2.1 dX5_knows_7 rfl (lv_at hl 2 rfl) ?_
  refine pr_m (n := n) (b := b) S hl.1 gX5_knows_X5_pair ⟨by rw [hR]; exact Nat.le_of_ble_eq_true rfl, by rw [hR]; exact Nat.le_of_ble_eq_true rfl⟩ (Nat.zero_le _) (Nat.zero_le _) (Nat.le_of_ble_eq_true rfl) dX5_knows_8 ?_
  refine addN (a := 42) (b := 8 * n + b) S dX5_knows_11 ?_
  refine ald_i (v := z 5 ((8 * n + b))) (k := 42 + (8 * n + b)) S hK hw 1 rfl (by omega) (by decide) (fl_5 z (by omega)) dX5_knows_12 ?_
  refine lv_iconst (v := 1) S.1 S.2.1 dX5_knows_13 (by decide) ?_
  refine lv_icmp_ne (tgt := 46) S.1 S.2.1 dX5_knows_14 (by decide) (fun c1 => ?_) (fun c1 => ?_)
  · skip
    refine lv_iconst (v := 0) S.1 S.2.1 dX5_knows_46 (by decide) ?_
    exact en_z (v := (0)) ((z, o) : St × St) hQ S hr hlk rfl hw (by refine ⟨?_, rfl, rfl⟩; simp [utd, b2, c1]) dX5_knows_47
  · skip
    refine lv_aload_n S.1 S.2.1 dX5_knows_17 rfl (lv_at hl 0 rfl) ?_
    refine gt_X5_1 (v := .ref (a 1)) S hK hw 0 rfl rfl LX5 k1 dX5_knows_18 ?_
    refine lv_bipush (v := 106) S.1 S.2.1 dX5_knows_21 (by decide) ?_
    refine lv_iload_n S.1 S.2.1 dX5_knows_23 rfl (lv_at hl 1 rfl) ?_
    refine lv_iload_n S.1 S.2.1 dX5_knows_24 rfl (lv_at hl 2 rfl) ?_
    refine pr_m (n := n) (b := b) S hl.1 gX5_knows_X5_pair ⟨by rw [hR]; exact Nat.le_of_ble_eq_true rfl, by rw [hR]; exact Nat.le_of_ble_eq_true rfl⟩ (Nat.zero_le _) (Nat.zero_le _) (Nat.le_of_ble_eq_true rfl) dX5_knows_25 ?_
    refine addN (a := 106) (b := 8 * n + b) S dX5_knows_28 ?_
    refine ald_i (v := z 6 ((8 * n + b))) (k := 106 + (8 * n + b)) S hK hw 1 rfl (by omega) (by decide) (fl_6 z (by omega)) dX5_knows_29 ?_
    refine lv_aload_n S.1 S.2.1 dX5_knows_30 rfl (lv_at hl 0 rfl) ?_
    refine gt_X5_1 (v := .ref (a 1)) S hK hw 0 rfl rfl LX5 k1 dX5_knows_31 ?_
    refine lv_bipush (v := 34) S.1 S.2.1 dX5_knows_34 (by decide) ?_
    refine lv_iload_n S.1 S.2.1 dX5_knows_36 rfl (lv_at hl 2 rfl) ?_
    refine addN (a := 34) (b := b) S dX5_knows_37 ?_
    refine ald_i (v := z 4 (b)) (k := 34 + b) S hK hw 1 rfl (by omega) (by decide) (fl_4 z (by omega)) dX5_knows_38 ?_
    refine lv_icmp_ne (tgt := 46) S.1 S.2.1 dX5_knows_39 (by decide) (fun c2 => ?_) (fun c2 => ?_)
    · skip
      refine lv_iconst (v := 0) S.1 S.2.1 dX5_knows_46 (by decide) ?_
      exact en_z (v := (0)) ((z, o) : St × St) hQ S hr hlk rfl hw (by refine ⟨?_, rfl, rfl⟩; simp [utd, b2, c1, c2]) dX5_knows_47
    · skip
      refine lv_iconst (v := 1) S.1 S.2.1 dX5_knows_42 (by decide) ?_
      refine lv_goto (tgt := 47) S.1 S.2.1 dX5_knows_43 (by decide) ?_
      exact en_z (v := (1)) ((z, o) : St × St) hQ S hr hlk rfl hw (by refine ⟨?_, rfl, rfl⟩; simp [utd, b2, c1, c2]) dX5_knows_47

theorem hd_X5_doAgree : yX5_doAgree.cls = RX5 ∧ yX5_doAgree.cls ≠ "java/lang/invoke/MethodHandle" ∧ yX5_doAgree.cls ≠ "java/lang/invoke/VarHandle" ∧ (parseMethodDescriptor yX5_doAgree.desc).map (fun d => d.parameters.length) = some 0 := by decide +kernel
set_option maxHeartbeats 4000000 in
set_option maxRecDepth 100000 in
theorem c_X5_doAgree (l : Launch) (G : GA) (a : Nat → Nat) (z : St) (o : St) (sz : Nat) (iz : Inv z) : Met l yX5_doAgree wsX5_doAgree ({ frames := 4, cells := 0, slots := 0, locals := 88 }) (va_Pc [.ref (a 0)] (PW G (mp G a z o) sz)) (va_Qi (fun (r : Int32) (u : St × St) => r = b2 (agB z) ∧ u.1 = z ∧ u.2 = o) (fun (u : St × St) t => va_P G.1 gcl (mp G a u.1 u.2) t.heap) (va_A (mp G a z o) sz)) 0 0 (va_A (mp G a z o) sz) := by
  refine met_st (cc := cX5_doAgree) (maxL := 4) (ret := (some .boolean)) (fun A => va_Qi (fun (r : Int32) (u : St × St) => r = b2 (agB z) ∧ u.1 = z ∧ u.2 = o) (fun (u : St × St) t => va_P G.1 gcl (mp G a u.1 u.2) t.heap) A) (by decide) rfl (Nat.le_of_ble_eq_true rfl) ?_
  intro p e s m args below meth c R Q A H ls hR hQ S hr hlk _ hK hsz hH hAe hA hw hl
  have hl : lv_has ls 4 [(0, .ref (a 0))] := hl
  refine lv_aload_n S.1 S.2.1 dX5_doAgree_0 rfl (lv_at hl 0 rfl) ?_
  refine cl_i (va_runV (As := []) (rest := []) S (c_X5_allDifferences l G a z o H.size  (by exact iz)) (cwV 0 S.2.2.2.2 gX5_doAgree_X5_allDifferences rfl rfl rfl hd_X5_allDifferences ⟨by rw [hR]; exact Nat.le_of_ble_eq_true rfl, by rw [hR]; exact Nat.le_of_ble_eq_true rfl⟩) ⟨PW.blind, va_recv hK.1 hw.1 (ci := 5) (q0 := 0) rfl rfl, fun U hU hW => ⟨rfl, PW.of hK hw hU hW⟩⟩ rfl rfl hl.1 rfl (lv_room (Nat.le_of_ble_eq_true rfl)) dX5_doAgree_1 ⟨Nat.zero_le _, Nat.zero_le _⟩) hw hA (fun _ => rfl) (fun r1 z2 H locs h3 hw => ?_)
  obtain ⟨z4, o5⟩ := z2
  try dsimp only at h3 hw
  obtain ⟨rfl, qz4, qo5⟩ := h3
  rw [qz4] at hw
  rw [qo5] at hw
  have K15 : ∀ (fu : Nat) (i : Nat) (H : Heap) (locs : List Loc) (ls : Array Slot), 8 - i < fu → i ≤ 8 → WD G (mp G a z o) A s H locs → lv_has ls 4 [(0, .ref (a 0)), (1, .int (b2 ((knA z i && decide (cdT z 8 = 0))))), (2, .int (nI (i)))] → W p l e R s m args below meth c H locs 0 0 Q (F0 m 15 ls []) := by
    intro fu
    induction fu with
    | zero => exact fun _ _ _ _ h => absurd h (Nat.not_lt_zero _)
    | succ fu ih15 =>
      intro i H locs ls hm15 hi hw hl
      refine lv_iload_n S.1 S.2.1 dX5_doAgree_15 rfl (lv_at hl 2 rfl) ?_
      refine lv_bipush (v := 8) S.1 S.2.1 dX5_doAgree_16 (by decide) ?_
      refine brN_ge (a := i) (b := 8) S (by first | omega | exact Nat.lt_of_le_of_lt (cdT_le z 8) (by decide)) (by first | omega | exact Nat.lt_of_le_of_lt (cdT_le z 8) (by decide)) (tgt := 69) dX5_doAgree_18 (by decide) (fun c6 => ?_) (fun c6 => ?_)
      · skip
        have hi9 : i = 8 := by omega
        subst hi9
        refine lv_iload_n S.1 S.2.1 dX5_doAgree_69 rfl (lv_at hl 1 rfl) ?_
        exact en_z (v := (b2 ((knA z 8 && decide (cdT z 8 = 0))))) ((z, o) : St × St) hQ S hr hlk (b2_narrow _) hw (by refine ⟨?_, rfl, rfl⟩; rw [agB_kn iz, Bool.and_comm]) dX5_doAgree_70
      · skip
        refine lv_iconst (v := 0) S.1 S.2.1 dX5_doAgree_21 (by decide) ?_
        refine lv_istore_n (lv' := [(3, .int 0), (0, .ref (a 0)), (1, .int (b2 ((knA z i && decide (cdT z 8 = 0))))), (2, .int (nI (i)))]) S.1 S.2.1 dX5_doAgree_22 rfl hl (by decide) rfl (fun ls hl => ?_)
        have K23 : ∀ (fu : Nat) (j : Nat) (H : Heap) (locs : List Loc) (ls : Array Slot), 8 - j < fu → j ≤ 8 → WD G (mp G a z o) A s H locs → lv_has ls 4 [(0, .ref (a 0)), (1, .int (b2 ((kn1 z i j && (knA z i && decide (cdT z 8 = 0)))))), (2, .int (nI (i))), (3, .int (nI (j)))] → W p l e R s m args below meth c H locs 0 0 Q (F0 m 23 ls []) := by
          intro fu
          induction fu with
          | zero => exact fun _ _ _ _ h => absurd h (Nat.not_lt_zero _)
          | succ fu ih23 =>
            intro j H locs ls hm23 hj hw hl
            refine lv_iload_n S.1 S.2.1 dX5_doAgree_23 rfl (lv_at hl 3 rfl) ?_
            refine lv_bipush (v := 8) S.1 S.2.1 dX5_doAgree_24 (by decide) ?_
            refine brN_ge (a := j) (b := 8) S (by first | omega | exact Nat.lt_of_le_of_lt (cdT_le z 8) (by decide)) (by first | omega | exact Nat.lt_of_le_of_lt (cdT_le z 8) (by decide)) (tgt := 63) dX5_doAgree_26 (by decide) (fun c7 => ?_) (fun c7 => ?_)
            · skip
              have hj9 : j = 8 := by omega
              subst hj9
              have hz9 : (kn1 z i 8 && (knA z i && decide (cdT z 8 = 0))) = (knA z (i + 1) && decide (cdT z 8 = 0)) := by rw [knA, Bool.and_comm (knA z i) (kn1 z i 8), Bool.and_assoc]
              rw [hz9] at hl
              refine lv_iinc (v := (nI (i + 1))) (lv' := [(2, .int (nI (i + 1))), (0, .ref (a 0)), (1, .int (b2 ((knA z (i + 1) && decide (cdT z 8 = 0))))), (3, .int (nI (8)))]) S.1 S.2.1 dX5_doAgree_63 hl (k := 2) rfl (nI_add _ _) (by decide) rfl (fun ls hl => ?_)
              refine lv_goto (tgt := 15) S.1 S.2.1 dX5_doAgree_66 (by decide) ?_
              exact ih15 (i + 1) _ _ _ (by omega) (by omega) hw (lv_sub hl [1, 2, 0] rfl)
            · skip
              refine lv_iload_n S.1 S.2.1 dX5_doAgree_29 rfl (lv_at hl 1 rfl) ?_
              refine brB_eq (b := (kn1 z i j && (knA z i && decide (cdT z 8 = 0)))) S (tgt := 55) dX5_doAgree_30 (by decide) (fun c8 => ?_) (fun c8 => ?_)
              · skip
                refine lv_iconst (v := 0) S.1 S.2.1 dX5_doAgree_55 (by decide) ?_
                refine top_to (v := (b2 ((kn1 z i (j + 1) && (knA z i && decide (cdT z 8 = 0)))))) S (by rw [kn1]; first | exact da_1 (by assumption) (Or.inl (by assumption)) | exact da_1 (by assumption) (Or.inr (by assumption)) | exact da_0 (Or.inl (by assumption)) | exact da_0 (Or.inr ⟨by assumption, by assumption⟩)) ?_
                refine lv_istore_n (lv' := [(1, .int (b2 ((kn1 z i (j + 1) && (knA z i && decide (cdT z 8 = 0)))))), (0, .ref (a 0)), (2, .int (nI (i))), (3, .int (nI (j)))]) S.1 S.2.1 dX5_doAgree_56 rfl hl (by decide) rfl (fun ls hl => ?_)
                refine lv_iinc (v := (nI (j + 1))) (lv' := [(3, .int (nI (j + 1))), (1, .int (b2 ((kn1 z i (j + 1) && (knA z i && decide (cdT z 8 = 0)))))), (0, .ref (a 0)), (2, .int (nI (i)))]) S.1 S.2.1 dX5_doAgree_57 hl (k := 3) rfl (nI_add _ _) (by decide) rfl (fun ls hl => ?_)
                refine lv_goto (tgt := 23) S.1 S.2.1 dX5_doAgree_60 (by decide) ?_
                exact ih23 (j + 1) _ _ _ (by omega) (by omega) hw (lv_sub hl [2, 1, 3, 0] rfl)
              · skip
                refine lv_aload_n S.1 S.2.1 dX5_doAgree_33 rfl (lv_at hl 0 rfl) ?_
                refine lv_iload_n S.1 S.2.1 dX5_doAgree_34 rfl (lv_at hl 2 rfl) ?_
                refine lv_iload_n S.1 S.2.1 dX5_doAgree_35 rfl (lv_at hl 3 rfl) ?_
                refine cl_i (va_runV (As := [.int (nI (i)), .int (nI (j))]) (rest := []) S (c_X5_canReach l G a z o H.size (i) (j) (by omega) (by omega) (by exact iz)) (cwV 2 S.2.2.2.2 gX5_doAgree_X5_canReach rfl rfl rfl hd_X5_canReach ⟨by rw [hR]; exact Nat.le_of_ble_eq_true rfl, by rw [hR]; exact Nat.le_of_ble_eq_true rfl⟩) ⟨PW.blind, va_recv hK.1 hw.1 (ci := 5) (q0 := 0) rfl rfl, fun U hU hW => ⟨rfl, PW.of hK hw hU hW⟩⟩ rfl rfl hl.1 rfl (lv_room (Nat.le_of_ble_eq_true rfl)) dX5_doAgree_36 ⟨Nat.zero_le _, Nat.zero_le _⟩) hw hA (fun _ => rfl) (fun r9 z10 H locs h11 hw => ?_)
                obtain ⟨z12, o13⟩ := z10
                try dsimp only at h11 hw
                obtain ⟨rfl, qz12, qo13⟩ := h11
                rw [qz12] at hw
                rw [qo13] at hw
                refine brB_eq (b := cnn z (i) (j)) S (tgt := 51) dX5_doAgree_39 (by decide) (fun c14 => ?_) (fun c14 => ?_)
                · skip
                  refine lv_iconst (v := 1) S.1 S.2.1 dX5_doAgree_51 (by decide) ?_
                  refine lv_goto (tgt := 56) S.1 S.2.1 dX5_doAgree_52 (by decide) ?_
                  refine top_to (v := (b2 ((kn1 z i (j + 1) && (knA z i && decide (cdT z 8 = 0)))))) S (by rw [kn1]; first | exact da_1 (by assumption) (Or.inl (by assumption)) | exact da_1 (by assumption) (Or.inr (by assumption)) | exact da_0 (Or.inl (by assumption)) | exact da_0 (Or.inr ⟨by assumption, by assumption⟩)) ?_
                  refine lv_istore_n (lv' := [(1, .int (b2 ((kn1 z i (j + 1) && (knA z i && decide (cdT z 8 = 0)))))), (0, .ref (a 0)), (2, .int (nI (i))), (3, .int (nI (j)))]) S.1 S.2.1 dX5_doAgree_56 rfl hl (by decide) rfl (fun ls hl => ?_)
                  refine lv_iinc (v := (nI (j + 1))) (lv' := [(3, .int (nI (j + 1))), (1, .int (b2 ((kn1 z i (j + 1) && (knA z i && decide (cdT z 8 = 0)))))), (0, .ref (a 0)), (2, .int (nI (i)))]) S.1 S.2.1 dX5_doAgree_57 hl (k := 3) rfl (nI_add _ _) (by decide) rfl (fun ls hl => ?_)
                  refine lv_goto (tgt := 23) S.1 S.2.1 dX5_doAgree_60 (by decide) ?_
                  exact ih23 (j + 1) _ _ _ (by omega) (by omega) hw (lv_sub hl [2, 1, 3, 0] rfl)
                · skip
                  refine lv_aload_n S.1 S.2.1 dX5_doAgree_42 rfl (lv_at hl 0 rfl) ?_
                  refine lv_iload_n S.1 S.2.1 dX5_doAgree_43 rfl (lv_at hl 2 rfl) ?_
                  refine lv_iload_n S.1 S.2.1 dX5_doAgree_44 rfl (lv_at hl 3 rfl) ?_
                  refine cl_i (va_runV (As := [.int (nI (i)), .int (nI (j))]) (rest := []) S (c_X5_knows l G a z o H.size (i) (j) (by omega) (by omega)) (cwV 2 S.2.2.2.2 gX5_doAgree_X5_knows rfl rfl rfl hd_X5_knows ⟨by rw [hR]; exact Nat.le_of_ble_eq_true rfl, by rw [hR]; exact Nat.le_of_ble_eq_true rfl⟩) ⟨PW.blind, va_recv hK.1 hw.1 (ci := 5) (q0 := 0) rfl rfl, fun U hU hW => ⟨rfl, PW.of hK hw hU hW⟩⟩ rfl rfl hl.1 rfl (lv_room (Nat.le_of_ble_eq_true rfl)) dX5_doAgree_45 ⟨Nat.zero_le _, Nat.zero_le _⟩) hw hA (fun _ => rfl) (fun r15 z16 H locs h17 hw => ?_)
                  obtain ⟨z18, o19⟩ := z16
                  try dsimp only at h17 hw
                  obtain ⟨rfl, qz18, qo19⟩ := h17
                  rw [qz18] at hw
                  rw [qo19] at hw
                  refine brB_eq (b := utd z (i) (j)) S (tgt := 55) dX5_doAgree_48 (by decide) (fun c20 => ?_) (fun c20 => ?_)
                  · skip
                    refine lv_iconst (v := 0) S.1 S.2.1 dX5_doAgree_55 (by decide) ?_
                    refine top_to (v := (b2 ((kn1 z i (j + 1) && (knA z i && decide (cdT z 8 = 0)))))) S (by rw [kn1]; first | exact da_1 (by assumption) (Or.inl (by assumption)) | exact da_1 (by assumption) (Or.inr (by assumption)) | exact da_0 (Or.inl (by assumption)) | exact da_0 (Or.inr ⟨by assumption, by assumption⟩)) ?_
                    refine lv_istore_n (lv' := [(1, .int (b2 ((kn1 z i (j + 1) && (knA z i && decide (cdT z 8 = 0)))))), (0, .ref (a 0)), (2, .int (nI (i))), (3, .int (nI (j)))]) S.1 S.2.1 dX5_doAgree_56 rfl hl (by decide) rfl (fun ls hl => ?_)
                    refine lv_iinc (v := (nI (j + 1))) (lv' := [(3, .int (nI (j + 1))), (1, .int (b2 ((kn1 z i (j + 1) && (knA z i && decide (cdT z 8 = 0)))))), (0, .ref (a 0)), (2, .int (nI (i)))]) S.1 S.2.1 dX5_doAgree_57 hl (k := 3) rfl (nI_add _ _) (by decide) rfl (fun ls hl => ?_)
                    refine lv_goto (tgt := 23) S.1 S.2.1 dX5_doAgree_60 (by decide) ?_
                    exact ih23 (j + 1) _ _ _ (by omega) (by omega) hw (lv_sub hl [2, 1, 3, 0] rfl)
                  · skip
                    refine lv_iconst (v := 1) S.1 S.2.1 dX5_doAgree_51 (by decide) ?_
                    refine lv_goto (tgt := 56) S.1 S.2.1 dX5_doAgree_52 (by decide) ?_
                    refine top_to (v := (b2 ((kn1 z i (j + 1) && (knA z i && decide (cdT z 8 = 0)))))) S (by rw [kn1]; first | exact da_1 (by assumption) (Or.inl (by assumption)) | exact da_1 (by assumption) (Or.inr (by assumption)) | exact da_0 (Or.inl (by assumption)) | exact da_0 (Or.inr ⟨by assumption, by assumption⟩)) ?_
                    refine lv_istore_n (lv' := [(1, .int (b2 ((kn1 z i (j + 1) && (knA z i && decide (cdT z 8 = 0)))))), (0, .ref (a 0)), (2, .int (nI (i))), (3, .int (nI (j)))]) S.1 S.2.1 dX5_doAgree_56 rfl hl (by decide) rfl (fun ls hl => ?_)
                    refine lv_iinc (v := (nI (j + 1))) (lv' := [(3, .int (nI (j + 1))), (1, .int (b2 ((kn1 z i (j + 1) && (knA z i && decide (cdT z 8 = 0)))))), (0, .ref (a 0)), (2, .int (nI (i)))]) S.1 S.2.1 dX5_doAgree_57 hl (k := 3) rfl (nI_add _ _) (by decide) rfl (fun ls hl => ?_)
                    refine lv_goto (tgt := 23) S.1 S.2.1 dX5_doAgree_60 (by decide) ?_
                    exact ih23 (j + 1) _ _ _ (by omega) (by omega) hw (lv_sub hl [2, 1, 3, 0] rfl)
        exact K23 (9) (0) _ _ _ (by omega) (by omega) hw (lv_sub hl [1, 2, 3, 0] rfl)
  refine brN0_ne (a := cdT z 8) S (by first | omega | exact Nat.lt_of_le_of_lt (cdT_le z 8) (by decide)) (tgt := 11) dX5_doAgree_4 (by decide) (fun c21 => ?_) (fun c21 => ?_)
  · skip
    refine lv_iconst (v := 0) S.1 S.2.1 dX5_doAgree_11 (by decide) ?_
    refine top_to (v := (b2 (decide (cdT z 8 = 0)))) S (by simp [b2, c21]) ?_
    refine lv_istore_n (lv' := [(1, .int (b2 (decide (cdT z 8 = 0)))), (0, .ref (a 0))]) S.1 S.2.1 dX5_doAgree_12 rfl hl (by decide) rfl (fun ls hl => ?_)
    refine lv_iconst (v := 0) S.1 S.2.1 dX5_doAgree_13 (by decide) ?_
    refine lv_istore_n (lv' := [(2, .int 0), (1, .int (b2 (decide (cdT z 8 = 0)))), (0, .ref (a 0))]) S.1 S.2.1 dX5_doAgree_14 rfl hl (by decide) rfl (fun ls hl => ?_)
    exact K15 (9) (0) _ _ _ (by omega) (by omega) hw (lv_sub hl [2, 1, 0] rfl)
  · skip
    refine lv_iconst (v := 1) S.1 S.2.1 dX5_doAgree_7 (by decide) ?_
    refine lv_goto (tgt := 12) S.1 S.2.1 dX5_doAgree_8 (by decide) ?_
    refine top_to (v := (b2 (decide (cdT z 8 = 0)))) S (by simp [b2, c21]) ?_
    refine lv_istore_n (lv' := [(1, .int (b2 (decide (cdT z 8 = 0)))), (0, .ref (a 0))]) S.1 S.2.1 dX5_doAgree_12 rfl hl (by decide) rfl (fun ls hl => ?_)
    refine lv_iconst (v := 0) S.1 S.2.1 dX5_doAgree_13 (by decide) ?_
    refine lv_istore_n (lv' := [(2, .int 0), (1, .int (b2 (decide (cdT z 8 = 0)))), (0, .ref (a 0))]) S.1 S.2.1 dX5_doAgree_14 rfl hl (by decide) rfl (fun ls hl => ?_)
    exact K15 (9) (0) _ _ _ (by omega) (by omega) hw (lv_sub hl [2, 1, 0] rfl)

theorem hd_X5_agree : yX5_agree.cls = RX5 ∧ yX5_agree.cls ≠ "java/lang/invoke/MethodHandle" ∧ yX5_agree.cls ≠ "java/lang/invoke/VarHandle" ∧ (parseMethodDescriptor yX5_agree.desc).map (fun d => d.parameters.length) = some 0 := by decide +kernel
set_option maxHeartbeats 4000000 in
set_option maxRecDepth 100000 in
theorem c_X5_agree (l : Launch) (G : GA) (a : Nat → Nat) (z : St) (o : St) (sz : Nat) (iz : Inv z) : Met l yX5_agree wsX5_agree ({ frames := 5, cells := 0, slots := 0, locals := 111 }) (va_Pc [.ref (a 0)] (PW G (mp G a z o) sz)) (va_Qi (fun (r : Int32) (u : St × St) => r = b2 (agB z) ∧ u.1 = z ∧ RT o u.2 ∧ u.2 0 0 = 0) (fun (u : St × St) t => va_P G.1 gcl (mp G a u.1 u.2) t.heap) (va_A (mp G a z o) sz)) 0 0 (va_A (mp G a z o) sz) := by
  refine met_st (cc := cX5_agree) (maxL := 1) (ret := (some .boolean)) (fun A => va_Qi (fun (r : Int32) (u : St × St) => r = b2 (agB z) ∧ u.1 = z ∧ RT o u.2 ∧ u.2 0 0 = 0) (fun (u : St × St) t => va_P G.1 gcl (mp G a u.1 u.2) t.heap) A) (by decide) rfl (Nat.le_of_ble_eq_true rfl) ?_
  intro p e s m args below meth c R Q A H ls hR hQ S hr hlk _ hK hsz hH hAe hA hw hl
  have hl : lv_has ls 1 [(0, .ref (a 0))] := hl
  have LX5 : ∀ w ∈ u_ws RX5 TX5 12, w.before args s = true := fun w h => S.2.2.2.2 w ((by decide +kernel : ∀ w ∈ u_ws RX5 TX5 12, w ∈ wsX5_agree) w h)
  have k1 : (Cond.fieldLink RX5 22 "GossipMembershipModel" "thrown" "I").before args s = true := S.2.2.2.2 _ (by decide +kernel : (Cond.fieldLink RX5 22 "GossipMembershipModel" "thrown" "I") ∈ wsX5_agree)
  refine lv_aload_n S.1 S.2.1 dX5_agree_0 rfl (lv_at hl 0 rfl) ?_
  refine lv_iconst (v := 0) S.1 S.2.1 dX5_agree_1 (by decide) ?_
  refine pt_X5_0 (ws' := (mp G a z (st o 0 0 (0)))) S hK hw 0 rfl LX5 k1 rfl (Nat.le_of_ble_eq_true rfl) dX5_agree_2 (fun H locs hw => ?_)
  obtain ⟨o1, eo1⟩ : ∃ zz, zz = st o 0 0 (0) := ⟨_, rfl⟩
  have hw : WD G (mp G a z o1) A s H locs := by rw [eo1]; exact hw
  have ro1 : RT o o1 := by rw [eo1]; exact RT.put (RT.rf o) _
  have to1 : o1 0 0 = (0) := by rw [eo1]; exact st_s _ _ _ _
  refine lv_aload_n S.1 S.2.1 dX5_agree_5 rfl (lv_at hl 0 rfl) ?_
  refine cl_i (va_runV (As := []) (rest := []) S (c_X5_doAgree l G a z o1 H.size  (by exact iz)) (cwV 0 S.2.2.2.2 gX5_agree_X5_doAgree rfl rfl rfl hd_X5_doAgree ⟨by rw [hR]; exact Nat.le_of_ble_eq_true rfl, by rw [hR]; exact Nat.le_of_ble_eq_true rfl⟩) ⟨PW.blind, va_recv hK.1 hw.1 (ci := 5) (q0 := 0) rfl rfl, fun U hU hW => ⟨rfl, PW.of hK hw hU hW⟩⟩ rfl rfl hl.1 rfl (lv_room (Nat.le_of_ble_eq_true rfl)) dX5_agree_6 ⟨Nat.zero_le _, Nat.zero_le _⟩) hw hA (fun _ => rfl) (fun r2 z3 H locs h4 hw => ?_)
  obtain ⟨z5, o6⟩ := z3
  try dsimp only at h4 hw
  obtain ⟨rfl, qz5, qo6⟩ := h4
  rw [qz5] at hw
  rw [qo6] at hw
  exact en_z (v := (b2 (agB z))) ((z, o1) : St × St) hQ S hr hlk (b2_narrow _) hw (by exact ⟨rfl, rfl, ro1, to1⟩) dX5_agree_9

theorem hd_X5_disagreements : yX5_disagreements.cls = RX5 ∧ yX5_disagreements.cls ≠ "java/lang/invoke/MethodHandle" ∧ yX5_disagreements.cls ≠ "java/lang/invoke/VarHandle" ∧ (parseMethodDescriptor yX5_disagreements.desc).map (fun d => d.parameters.length) = some 0 := by decide +kernel
set_option maxHeartbeats 4000000 in
set_option maxRecDepth 100000 in
theorem c_X5_disagreements (l : Launch) (G : GA) (a : Nat → Nat) (z : St) (o : St) (sz : Nat) (iz : Inv z) : Met l yX5_disagreements wsX5_disagreements ({ frames := 4, cells := 0, slots := 0, locals := 88 }) (va_Pc [.ref (a 0)] (PW G (mp G a z o) sz)) (va_Qi (fun (r : Int32) (u : St × St) => r = nI (cdT z 8) ∧ u.1 = z ∧ RT o u.2 ∧ u.2 0 0 = 0) (fun (u : St × St) t => va_P G.1 gcl (mp G a u.1 u.2) t.heap) (va_A (mp G a z o) sz)) 0 0 (va_A (mp G a z o) sz) := by
  refine met_st (cc := cX5_disagreements) (maxL := 1) (ret := (some .int)) (fun A => va_Qi (fun (r : Int32) (u : St × St) => r = nI (cdT z 8) ∧ u.1 = z ∧ RT o u.2 ∧ u.2 0 0 = 0) (fun (u : St × St) t => va_P G.1 gcl (mp G a u.1 u.2) t.heap) A) (by decide) rfl (Nat.le_of_ble_eq_true rfl) ?_
  intro p e s m args below meth c R Q A H ls hR hQ S hr hlk _ hK hsz hH hAe hA hw hl
  have hl : lv_has ls 1 [(0, .ref (a 0))] := hl
  have LX5 : ∀ w ∈ u_ws RX5 TX5 12, w.before args s = true := fun w h => S.2.2.2.2 w ((by decide +kernel : ∀ w ∈ u_ws RX5 TX5 12, w ∈ wsX5_disagreements) w h)
  have k1 : (Cond.fieldLink RX5 22 "GossipMembershipModel" "thrown" "I").before args s = true := S.2.2.2.2 _ (by decide +kernel : (Cond.fieldLink RX5 22 "GossipMembershipModel" "thrown" "I") ∈ wsX5_disagreements)
  refine lv_aload_n S.1 S.2.1 dX5_disagreements_0 rfl (lv_at hl 0 rfl) ?_
  refine lv_iconst (v := 0) S.1 S.2.1 dX5_disagreements_1 (by decide) ?_
  refine pt_X5_0 (ws' := (mp G a z (st o 0 0 (0)))) S hK hw 0 rfl LX5 k1 rfl (Nat.le_of_ble_eq_true rfl) dX5_disagreements_2 (fun H locs hw => ?_)
  obtain ⟨o1, eo1⟩ : ∃ zz, zz = st o 0 0 (0) := ⟨_, rfl⟩
  have hw : WD G (mp G a z o1) A s H locs := by rw [eo1]; exact hw
  have ro1 : RT o o1 := by rw [eo1]; exact RT.put (RT.rf o) _
  have to1 : o1 0 0 = (0) := by rw [eo1]; exact st_s _ _ _ _
  refine lv_aload_n S.1 S.2.1 dX5_disagreements_5 rfl (lv_at hl 0 rfl) ?_
  refine cl_i (va_runV (As := []) (rest := []) S (c_X5_allDifferences l G a z o1 H.size  (by exact iz)) (cwV 0 S.2.2.2.2 gX5_disagreements_X5_allDifferences rfl rfl rfl hd_X5_allDifferences ⟨by rw [hR]; exact Nat.le_of_ble_eq_true rfl, by rw [hR]; exact Nat.le_of_ble_eq_true rfl⟩) ⟨PW.blind, va_recv hK.1 hw.1 (ci := 5) (q0 := 0) rfl rfl, fun U hU hW => ⟨rfl, PW.of hK hw hU hW⟩⟩ rfl rfl hl.1 rfl (lv_room (Nat.le_of_ble_eq_true rfl)) dX5_disagreements_6 ⟨Nat.zero_le _, Nat.zero_le _⟩) hw hA (fun _ => rfl) (fun r2 z3 H locs h4 hw => ?_)
  obtain ⟨z5, o6⟩ := z3
  try dsimp only at h4 hw
  obtain ⟨rfl, qz5, qo6⟩ := h4
  rw [qz5] at hw
  rw [qo6] at hw
  exact en_i (v := (nI (cdT z 8))) ((z, o1) : St × St) hQ S hr hlk hw (by exact ⟨rfl, rfl, ro1, to1⟩) dX5_disagreements_9

theorem hd_X5_plain : yX5_plain.cls = RX5 ∧ yX5_plain.cls ≠ "java/lang/invoke/MethodHandle" ∧ yX5_plain.cls ≠ "java/lang/invoke/VarHandle" ∧ (parseMethodDescriptor yX5_plain.desc).map (fun d => d.parameters.length) = some 1 := by decide +kernel
set_option maxHeartbeats 4000000 in
set_option maxRecDepth 100000 in
theorem c_X5_plain (l : Launch) (G : GA) (a : Nat → Nat) (z : St) (o : St) (sz : Nat) (k : Nat) (hk : k < 10) : Met l yX5_plain wsX5_plain ({ frames := 0, cells := 0, slots := 0, locals := 0 }) (va_Pc [.ref (a 0), .int (nI (k))] (PW G (mp G a z o) sz)) (va_Qi (fun (r : Int32) (u : St × St) => r = z 0 k ∧ u.1 = z ∧ RT o u.2 ∧ u.2 0 0 = 0) (fun (u : St × St) t => va_P G.1 gcl (mp G a u.1 u.2) t.heap) (va_A (mp G a z o) sz)) 0 0 (va_A (mp G a z o) sz) := by
  refine met_st (cc := cX5_plain) (maxL := 2) (ret := (some .int)) (fun A => va_Qi (fun (r : Int32) (u : St × St) => r = z 0 k ∧ u.1 = z ∧ RT o u.2 ∧ u.2 0 0 = 0) (fun (u : St × St) t => va_P G.1 gcl (mp G a u.1 u.2) t.heap) A) (by decide) rfl (Nat.le_of_ble_eq_true rfl) ?_
  intro p e s m args below meth c R Q A H ls hR hQ S hr hlk _ hK hsz hH hAe hA hw hl
  have hl : lv_has ls 2 [(0, .ref (a 0)), (1, .int (nI (k)))] := hl
  have LX5 : ∀ w ∈ u_ws RX5 TX5 12, w.before args s = true := fun w h => S.2.2.2.2 w ((by decide +kernel : ∀ w ∈ u_ws RX5 TX5 12, w ∈ wsX5_plain) w h)
  have k1 : (Cond.fieldLink RX5 22 "GossipMembershipModel" "thrown" "I").before args s = true := S.2.2.2.2 _ (by decide +kernel : (Cond.fieldLink RX5 22 "GossipMembershipModel" "thrown" "I") ∈ wsX5_plain)
  have k2 : (Cond.fieldLink RX5 7 "GossipMembershipModel" "s" "[I").before args s = true := S.2.2.2.2 _ (by decide +kernel : (Cond.fieldLink RX5 7 "GossipMembershipModel" "s" "[I") ∈ wsX5_plain)
  refine lv_aload_n S.1 S.2.1 dX5_plain_0 rfl (lv_at hl 0 rfl) ?_
  refine lv_iconst (v := 0) S.1 S.2.1 dX5_plain_1 (by decide) ?_
  refine pt_X5_0 (ws' := (mp G a z (st o 0 0 (0)))) S hK hw 0 rfl LX5 k1 rfl (Nat.le_of_ble_eq_true rfl) dX5_plain_2 (fun H locs hw => ?_)
  obtain ⟨o1, eo1⟩ : ∃ zz, zz = st o 0 0 (0) := ⟨_, rfl⟩
  have hw : WD G (mp G a z o1) A s H locs := by rw [eo1]; exact hw
  have ro1 : RT o o1 := by rw [eo1]; exact RT.put (RT.rf o) _
  have to1 : o1 0 0 = (0) := by rw [eo1]; exact st_s _ _ _ _
  refine lv_aload_n S.1 S.2.1 dX5_plain_5 rfl (lv_at hl 0 rfl) ?_
  refine gt_X5_1 (v := .ref (a 1)) S hK hw 0 rfl rfl LX5 k2 dX5_plain_6 ?_
  refine lv_iload_n S.1 S.2.1 dX5_plain_9 rfl (lv_at hl 1 rfl) ?_
  refine ald_i (v := z 0 (k)) (k := k) S hK hw 1 rfl (by omega) (by decide) (fl_0 z (by omega)) dX5_plain_10 ?_
  exact en_i (v := (z 0 (k))) ((z, o1) : St × St) hQ S hr hlk hw (by exact ⟨rfl, rfl, ro1, to1⟩) dX5_plain_11

theorem hd_X5_declarations : yX5_declarations.cls = RX5 ∧ yX5_declarations.cls ≠ "java/lang/invoke/MethodHandle" ∧ yX5_declarations.cls ≠ "java/lang/invoke/VarHandle" ∧ (parseMethodDescriptor yX5_declarations.desc).map (fun d => d.parameters.length) = some 0 := by decide +kernel
set_option maxHeartbeats 4000000 in
set_option maxRecDepth 100000 in
theorem c_X5_declarations (l : Launch) (G : GA) (a : Nat → Nat) (z : St) (o : St) (sz : Nat) : Met l yX5_declarations wsX5_declarations ({ frames := 1, cells := 0, slots := 0, locals := 21 }) (va_Pc [.ref (a 0)] (PW G (mp G a z o) sz)) (va_Qi (fun (r : Int32) (u : St × St) => r = z 0 5 ∧ u.1 = z ∧ RT o u.2 ∧ u.2 0 0 = 0) (fun (u : St × St) t => va_P G.1 gcl (mp G a u.1 u.2) t.heap) (va_A (mp G a z o) sz)) 0 0 (va_A (mp G a z o) sz) := by
  refine met_st (cc := cX5_declarations) (maxL := 1) (ret := (some .int)) (fun A => va_Qi (fun (r : Int32) (u : St × St) => r = z 0 5 ∧ u.1 = z ∧ RT o u.2 ∧ u.2 0 0 = 0) (fun (u : St × St) t => va_P G.1 gcl (mp G a u.1 u.2) t.heap) A) (by decide) rfl (Nat.le_of_ble_eq_true rfl) ?_
  intro p e s m args below meth c R Q A H ls hR hQ S hr hlk _ hK hsz hH hAe hA hw hl
  have hl : lv_has ls 1 [(0, .ref (a 0))] := hl
  refine lv_aload_n S.1 S.2.1 dX5_declarations_0 rfl (lv_at hl 0 rfl) ?_
  refine lv_iconst (v := 5) S.1 S.2.1 dX5_declarations_1 (by decide) ?_
  refine cl_i (va_runV (As := [.int 5]) (rest := []) S (c_X5_plain l G a z o H.size (5) (by omega)) (cwV 1 S.2.2.2.2 gX5_declarations_X5_plain rfl rfl rfl hd_X5_plain ⟨by rw [hR]; exact Nat.le_of_ble_eq_true rfl, by rw [hR]; exact Nat.le_of_ble_eq_true rfl⟩) ⟨PW.blind, va_recv hK.1 hw.1 (ci := 5) (q0 := 0) rfl rfl, fun U hU hW => ⟨rfl, PW.of hK hw hU hW⟩⟩ rfl rfl hl.1 rfl (lv_room (Nat.le_of_ble_eq_true rfl)) dX5_declarations_2 ⟨Nat.zero_le _, Nat.zero_le _⟩) hw hA (fun _ => rfl) (fun r1 z2 H locs h3 hw => ?_)
  obtain ⟨z4, o5⟩ := z2
  try dsimp only at h3 hw
  obtain ⟨rfl, qz4, eo5, to5⟩ := h3
  rw [qz4] at hw
  exact en_i (v := (z 0 (5))) ((z, o5) : St × St) hQ S hr hlk hw (by exact ⟨rfl, rfl, (RT.tr (RT.rf o) eo5), to5⟩) dX5_declarations_5

theorem hd_X5_falseDeclarations : yX5_falseDeclarations.cls = RX5 ∧ yX5_falseDeclarations.cls ≠ "java/lang/invoke/MethodHandle" ∧ yX5_falseDeclarations.cls ≠ "java/lang/invoke/VarHandle" ∧ (parseMethodDescriptor yX5_falseDeclarations.desc).map (fun d => d.parameters.length) = some 0 := by decide +kernel
set_option maxHeartbeats 4000000 in
set_option maxRecDepth 100000 in
theorem c_X5_falseDeclarations (l : Launch) (G : GA) (a : Nat → Nat) (z : St) (o : St) (sz : Nat) : Met l yX5_falseDeclarations wsX5_falseDeclarations ({ frames := 1, cells := 0, slots := 0, locals := 21 }) (va_Pc [.ref (a 0)] (PW G (mp G a z o) sz)) (va_Qi (fun (r : Int32) (u : St × St) => r = z 0 6 ∧ u.1 = z ∧ RT o u.2 ∧ u.2 0 0 = 0) (fun (u : St × St) t => va_P G.1 gcl (mp G a u.1 u.2) t.heap) (va_A (mp G a z o) sz)) 0 0 (va_A (mp G a z o) sz) := by
  refine met_st (cc := cX5_falseDeclarations) (maxL := 1) (ret := (some .int)) (fun A => va_Qi (fun (r : Int32) (u : St × St) => r = z 0 6 ∧ u.1 = z ∧ RT o u.2 ∧ u.2 0 0 = 0) (fun (u : St × St) t => va_P G.1 gcl (mp G a u.1 u.2) t.heap) A) (by decide) rfl (Nat.le_of_ble_eq_true rfl) ?_
  intro p e s m args below meth c R Q A H ls hR hQ S hr hlk _ hK hsz hH hAe hA hw hl
  have hl : lv_has ls 1 [(0, .ref (a 0))] := hl
  refine lv_aload_n S.1 S.2.1 dX5_falseDeclarations_0 rfl (lv_at hl 0 rfl) ?_
  refine lv_bipush (v := 6) S.1 S.2.1 dX5_falseDeclarations_1 (by decide) ?_
  refine cl_i (va_runV (As := [.int 6]) (rest := []) S (c_X5_plain l G a z o H.size (6) (by omega)) (cwV 1 S.2.2.2.2 gX5_falseDeclarations_X5_plain rfl rfl rfl hd_X5_plain ⟨by rw [hR]; exact Nat.le_of_ble_eq_true rfl, by rw [hR]; exact Nat.le_of_ble_eq_true rfl⟩) ⟨PW.blind, va_recv hK.1 hw.1 (ci := 5) (q0 := 0) rfl rfl, fun U hU hW => ⟨rfl, PW.of hK hw hU hW⟩⟩ rfl rfl hl.1 rfl (lv_room (Nat.le_of_ble_eq_true rfl)) dX5_falseDeclarations_3 ⟨Nat.zero_le _, Nat.zero_le _⟩) hw hA (fun _ => rfl) (fun r1 z2 H locs h3 hw => ?_)
  obtain ⟨z4, o5⟩ := z2
  try dsimp only at h3 hw
  obtain ⟨rfl, qz4, eo5, to5⟩ := h3
  rw [qz4] at hw
  exact en_i (v := (z 0 (6))) ((z, o5) : St × St) hQ S hr hlk hw (by exact ⟨rfl, rfl, (RT.tr (RT.rf o) eo5), to5⟩) dX5_falseDeclarations_6

theorem hd_X5_refutations : yX5_refutations.cls = RX5 ∧ yX5_refutations.cls ≠ "java/lang/invoke/MethodHandle" ∧ yX5_refutations.cls ≠ "java/lang/invoke/VarHandle" ∧ (parseMethodDescriptor yX5_refutations.desc).map (fun d => d.parameters.length) = some 0 := by decide +kernel
set_option maxHeartbeats 4000000 in
set_option maxRecDepth 100000 in
theorem c_X5_refutations (l : Launch) (G : GA) (a : Nat → Nat) (z : St) (o : St) (sz : Nat) : Met l yX5_refutations wsX5_refutations ({ frames := 1, cells := 0, slots := 0, locals := 21 }) (va_Pc [.ref (a 0)] (PW G (mp G a z o) sz)) (va_Qi (fun (r : Int32) (u : St × St) => r = z 0 7 ∧ u.1 = z ∧ RT o u.2 ∧ u.2 0 0 = 0) (fun (u : St × St) t => va_P G.1 gcl (mp G a u.1 u.2) t.heap) (va_A (mp G a z o) sz)) 0 0 (va_A (mp G a z o) sz) := by
  refine met_st (cc := cX5_refutations) (maxL := 1) (ret := (some .int)) (fun A => va_Qi (fun (r : Int32) (u : St × St) => r = z 0 7 ∧ u.1 = z ∧ RT o u.2 ∧ u.2 0 0 = 0) (fun (u : St × St) t => va_P G.1 gcl (mp G a u.1 u.2) t.heap) A) (by decide) rfl (Nat.le_of_ble_eq_true rfl) ?_
  intro p e s m args below meth c R Q A H ls hR hQ S hr hlk _ hK hsz hH hAe hA hw hl
  have hl : lv_has ls 1 [(0, .ref (a 0))] := hl
  refine lv_aload_n S.1 S.2.1 dX5_refutations_0 rfl (lv_at hl 0 rfl) ?_
  refine lv_bipush (v := 7) S.1 S.2.1 dX5_refutations_1 (by decide) ?_
  refine cl_i (va_runV (As := [.int 7]) (rest := []) S (c_X5_plain l G a z o H.size (7) (by omega)) (cwV 1 S.2.2.2.2 gX5_refutations_X5_plain rfl rfl rfl hd_X5_plain ⟨by rw [hR]; exact Nat.le_of_ble_eq_true rfl, by rw [hR]; exact Nat.le_of_ble_eq_true rfl⟩) ⟨PW.blind, va_recv hK.1 hw.1 (ci := 5) (q0 := 0) rfl rfl, fun U hU hW => ⟨rfl, PW.of hK hw hU hW⟩⟩ rfl rfl hl.1 rfl (lv_room (Nat.le_of_ble_eq_true rfl)) dX5_refutations_3 ⟨Nat.zero_le _, Nat.zero_le _⟩) hw hA (fun _ => rfl) (fun r1 z2 H locs h3 hw => ?_)
  obtain ⟨z4, o5⟩ := z2
  try dsimp only at h3 hw
  obtain ⟨rfl, qz4, eo5, to5⟩ := h3
  rw [qz4] at hw
  exact en_i (v := (z 0 (7))) ((z, o5) : St × St) hQ S hr hlk hw (by exact ⟨rfl, rfl, (RT.tr (RT.rf o) eo5), to5⟩) dX5_refutations_6

theorem hd_X5_messages : yX5_messages.cls = RX5 ∧ yX5_messages.cls ≠ "java/lang/invoke/MethodHandle" ∧ yX5_messages.cls ≠ "java/lang/invoke/VarHandle" ∧ (parseMethodDescriptor yX5_messages.desc).map (fun d => d.parameters.length) = some 0 := by decide +kernel
set_option maxHeartbeats 4000000 in
set_option maxRecDepth 100000 in
theorem c_X5_messages (l : Launch) (G : GA) (a : Nat → Nat) (z : St) (o : St) (sz : Nat) : Met l yX5_messages wsX5_messages ({ frames := 1, cells := 0, slots := 0, locals := 21 }) (va_Pc [.ref (a 0)] (PW G (mp G a z o) sz)) (va_Qi (fun (r : Int32) (u : St × St) => r = z 0 8 ∧ u.1 = z ∧ RT o u.2 ∧ u.2 0 0 = 0) (fun (u : St × St) t => va_P G.1 gcl (mp G a u.1 u.2) t.heap) (va_A (mp G a z o) sz)) 0 0 (va_A (mp G a z o) sz) := by
  refine met_st (cc := cX5_messages) (maxL := 1) (ret := (some .int)) (fun A => va_Qi (fun (r : Int32) (u : St × St) => r = z 0 8 ∧ u.1 = z ∧ RT o u.2 ∧ u.2 0 0 = 0) (fun (u : St × St) t => va_P G.1 gcl (mp G a u.1 u.2) t.heap) A) (by decide) rfl (Nat.le_of_ble_eq_true rfl) ?_
  intro p e s m args below meth c R Q A H ls hR hQ S hr hlk _ hK hsz hH hAe hA hw hl
  have hl : lv_has ls 1 [(0, .ref (a 0))] := hl
  refine lv_aload_n S.1 S.2.1 dX5_messages_0 rfl (lv_at hl 0 rfl) ?_
  refine lv_bipush (v := 8) S.1 S.2.1 dX5_messages_1 (by decide) ?_
  refine cl_i (va_runV (As := [.int 8]) (rest := []) S (c_X5_plain l G a z o H.size (8) (by omega)) (cwV 1 S.2.2.2.2 gX5_messages_X5_plain rfl rfl rfl hd_X5_plain ⟨by rw [hR]; exact Nat.le_of_ble_eq_true rfl, by rw [hR]; exact Nat.le_of_ble_eq_true rfl⟩) ⟨PW.blind, va_recv hK.1 hw.1 (ci := 5) (q0 := 0) rfl rfl, fun U hU hW => ⟨rfl, PW.of hK hw hU hW⟩⟩ rfl rfl hl.1 rfl (lv_room (Nat.le_of_ble_eq_true rfl)) dX5_messages_3 ⟨Nat.zero_le _, Nat.zero_le _⟩) hw hA (fun _ => rfl) (fun r1 z2 H locs h3 hw => ?_)
  obtain ⟨z4, o5⟩ := z2
  try dsimp only at h3 hw
  obtain ⟨rfl, qz4, eo5, to5⟩ := h3
  rw [qz4] at hw
  exact en_i (v := (z 0 (8))) ((z, o5) : St × St) hQ S hr hlk hw (by exact ⟨rfl, rfl, (RT.tr (RT.rf o) eo5), to5⟩) dX5_messages_6

theorem hd_X5_quietRounds : yX5_quietRounds.cls = RX5 ∧ yX5_quietRounds.cls ≠ "java/lang/invoke/MethodHandle" ∧ yX5_quietRounds.cls ≠ "java/lang/invoke/VarHandle" ∧ (parseMethodDescriptor yX5_quietRounds.desc).map (fun d => d.parameters.length) = some 0 := by decide +kernel
set_option maxHeartbeats 4000000 in
set_option maxRecDepth 100000 in
theorem c_X5_quietRounds (l : Launch) (G : GA) (a : Nat → Nat) (z : St) (o : St) (sz : Nat) : Met l yX5_quietRounds wsX5_quietRounds ({ frames := 1, cells := 0, slots := 0, locals := 21 }) (va_Pc [.ref (a 0)] (PW G (mp G a z o) sz)) (va_Qi (fun (r : Int32) (u : St × St) => r = z 0 0 - z 0 9 ∧ u.1 = z ∧ RT o u.2 ∧ u.2 0 0 = 0) (fun (u : St × St) t => va_P G.1 gcl (mp G a u.1 u.2) t.heap) (va_A (mp G a z o) sz)) 0 0 (va_A (mp G a z o) sz) := by
  refine met_st (cc := cX5_quietRounds) (maxL := 1) (ret := (some .int)) (fun A => va_Qi (fun (r : Int32) (u : St × St) => r = z 0 0 - z 0 9 ∧ u.1 = z ∧ RT o u.2 ∧ u.2 0 0 = 0) (fun (u : St × St) t => va_P G.1 gcl (mp G a u.1 u.2) t.heap) A) (by decide) rfl (Nat.le_of_ble_eq_true rfl) ?_
  intro p e s m args below meth c R Q A H ls hR hQ S hr hlk _ hK hsz hH hAe hA hw hl
  have hl : lv_has ls 1 [(0, .ref (a 0))] := hl
  have LX5 : ∀ w ∈ u_ws RX5 TX5 12, w.before args s = true := fun w h => S.2.2.2.2 w ((by decide +kernel : ∀ w ∈ u_ws RX5 TX5 12, w ∈ wsX5_quietRounds) w h)
  have k1 : (Cond.fieldLink RX5 7 "GossipMembershipModel" "s" "[I").before args s = true := S.2.2.2.2 _ (by decide +kernel : (Cond.fieldLink RX5 7 "GossipMembershipModel" "s" "[I") ∈ wsX5_quietRounds)
  refine lv_aload_n S.1 S.2.1 dX5_quietRounds_0 rfl (lv_at hl 0 rfl) ?_
  refine lv_iconst (v := 0) S.1 S.2.1 dX5_quietRounds_1 (by decide) ?_
  refine cl_i (va_runV (As := [.int 0]) (rest := []) S (c_X5_plain l G a z o H.size (0) (by omega)) (cwV 1 S.2.2.2.2 gX5_quietRounds_X5_plain rfl rfl rfl hd_X5_plain ⟨by rw [hR]; exact Nat.le_of_ble_eq_true rfl, by rw [hR]; exact Nat.le_of_ble_eq_true rfl⟩) ⟨PW.blind, va_recv hK.1 hw.1 (ci := 5) (q0 := 0) rfl rfl, fun U hU hW => ⟨rfl, PW.of hK hw hU hW⟩⟩ rfl rfl hl.1 rfl (lv_room (Nat.le_of_ble_eq_true rfl)) dX5_quietRounds_2 ⟨Nat.zero_le _, Nat.zero_le _⟩) hw hA (fun _ => rfl) (fun r1 z2 H locs h3 hw => ?_)
  obtain ⟨z4, o5⟩ := z2
  try dsimp only at h3 hw
  obtain ⟨rfl, qz4, eo5, to5⟩ := h3
  rw [qz4] at hw
  refine lv_aload_n S.1 S.2.1 dX5_quietRounds_5 rfl (lv_at hl 0 rfl) ?_
  refine gt_X5_1 (v := .ref (a 1)) S hK hw 0 rfl rfl LX5 k1 dX5_quietRounds_6 ?_
  refine lv_bipush (v := 9) S.1 S.2.1 dX5_quietRounds_9 (by decide) ?_
  refine ald_i (v := z 0 (9)) (k := 9) S hK hw 1 rfl (by omega) (by decide) (fl_0 z (by omega)) dX5_quietRounds_11 ?_
  refine lv_isub S.1 S.2.1 dX5_quietRounds_12 ?_
  exact en_i (v := ((z 0 (0)) - (z 0 (9)))) ((z, o5) : St × St) hQ S hr hlk hw (by exact ⟨rfl, rfl, (RT.tr (RT.rf o) eo5), to5⟩) dX5_quietRounds_13

theorem hd_X5_roundsUntilAgreement : yX5_roundsUntilAgreement.cls = RX5 ∧ yX5_roundsUntilAgreement.cls ≠ "java/lang/invoke/MethodHandle" ∧ yX5_roundsUntilAgreement.cls ≠ "java/lang/invoke/VarHandle" ∧ (parseMethodDescriptor yX5_roundsUntilAgreement.desc).map (fun d => d.parameters.length) = some 1 := by decide +kernel
set_option maxHeartbeats 4000000 in
set_option maxRecDepth 100000 in
theorem c_X5_roundsUntilAgreement (l : Launch) (G : GA) (a : Nat → Nat) (z : St) (o : St) (sz : Nat) (q : Int32) (iz : Inv z) : Met l yX5_roundsUntilAgreement wsX5_roundsUntilAgreement ({ frames := 7, cells := 0, slots := 0, locals := 165 }) (va_Pc [.ref (a 0), .int (q)] (PW G (mp G a z o) sz)) (va_Qi (fun (r : Int32) (u : St × St) => r = (pU q z).2.1 ∧ u.1 = (pU q z).2.2 ∧ RT o u.2 ∧ u.2 0 0 = (pU q z).1) (fun (u : St × St) t => va_P G.1 gcl (mp G a u.1 u.2) t.heap) (va_A (mp G a z o) sz)) 0 0 (va_A (mp G a z o) sz) := by
  refine met_st (cc := cX5_roundsUntilAgreement) (maxL := 3) (ret := (some .int)) (fun A => va_Qi (fun (r : Int32) (u : St × St) => r = (pU q z).2.1 ∧ u.1 = (pU q z).2.2 ∧ RT o u.2 ∧ u.2 0 0 = (pU q z).1) (fun (u : St × St) t => va_P G.1 gcl (mp G a u.1 u.2) t.heap) A) (by decide) rfl (Nat.le_of_ble_eq_true rfl) ?_
  intro p e s m args below meth c R Q A H ls hR hQ S hr hlk _ hK hsz hH hAe hA hw hl
  have hl : lv_has ls 3 [(0, .ref (a 0)), (1, .int (q))] := hl
  have LX5 : ∀ w ∈ u_ws RX5 TX5 12, w.before args s = true := fun w h => S.2.2.2.2 w ((by decide +kernel : ∀ w ∈ u_ws RX5 TX5 12, w ∈ wsX5_roundsUntilAgreement) w h)
  have k1 : (Cond.fieldLink RX5 22 "GossipMembershipModel" "thrown" "I").before args s = true := S.2.2.2.2 _ (by decide +kernel : (Cond.fieldLink RX5 22 "GossipMembershipModel" "thrown" "I") ∈ wsX5_roundsUntilAgreement)
  refine lv_aload_n S.1 S.2.1 dX5_roundsUntilAgreement_0 rfl (lv_at hl 0 rfl) ?_
  refine lv_iconst (v := 0) S.1 S.2.1 dX5_roundsUntilAgreement_1 (by decide) ?_
  refine pt_X5_0 (ws' := (mp G a z (st o 0 0 (0)))) S hK hw 0 rfl LX5 k1 rfl (Nat.le_of_ble_eq_true rfl) dX5_roundsUntilAgreement_2 (fun H locs hw => ?_)
  obtain ⟨o1, eo1⟩ : ∃ zz, zz = st o 0 0 (0) := ⟨_, rfl⟩
  have hw : WD G (mp G a z o1) A s H locs := by rw [eo1]; exact hw
  have ro1 : RT o o1 := by rw [eo1]; exact RT.put (RT.rf o) _
  have to1 : o1 0 0 = (0) := by rw [eo1]; exact st_s _ _ _ _
  refine lv_iload_n S.1 S.2.1 dX5_roundsUntilAgreement_5 rfl (lv_at hl 1 rfl) ?_
  refine lv_iconst (v := 1) S.1 S.2.1 dX5_roundsUntilAgreement_6 (by decide) ?_
  refine lv_bipush (v := 100) S.1 S.2.1 dX5_roundsUntilAgreement_7 (by decide) ?_
  refine vp_callSi (va_runS (As := [.int (q), .int 1, .int 100]) (rest := []) S (c_X5_in l (q) (1) (100) ) (va_cwS 3 S.2.2.2.2 gX5_roundsUntilAgreement_X5_in rfl rfl rfl hd_X5_in ⟨by rw [hR]; exact Nat.le_of_ble_eq_true rfl, by rw [hR]; exact Nat.le_of_ble_eq_true rfl⟩) ⟨blind_T, fun U hU hW => ⟨rfl, trivial⟩⟩ rfl rfl hl.1 rfl (lv_room (Nat.le_of_ble_eq_true rfl)) dX5_roundsUntilAgreement_9 ⟨Nat.zero_le _, Nat.zero_le _⟩).run (fun r2 h3 => ?_)
  subst h3
  refine brB_ne (b := inB ((q)) ((1)) ((100))) S (tgt := 21) dX5_roundsUntilAgreement_12 (by decide) (fun c4 => ?_) (fun c4 => ?_)
  · skip
    obtain ⟨q9, h50, eq9⟩ := inB_100 c4
    subst eq9
    refine lv_iconst (v := 0) S.1 S.2.1 dX5_roundsUntilAgreement_21 (by decide) ?_
    refine lv_istore_n (lv' := [(2, .int 0), (0, .ref (a 0)), (1, .int (nI (q9)))]) S.1 S.2.1 dX5_roundsUntilAgreement_22 rfl hl (by decide) rfl (fun ls hl => ?_)
    have K23 : ∀ (fu : Nat) (d : Nat) (t : St) (w : St) (H : Heap) (locs : List Loc) (ls : Array Slot), q9 - d < fu → d ≤ q9 → t = rds z d → Inv t → RT o w → w 0 0 = 0 → (∀ j, j < d → agB (rds z j) = false) → WD G (mp G a t w) A s H locs → lv_has ls 3 [(0, .ref (a 0)), (1, .int (nI (q9))), (2, .int (nI (d)))] → W p l e R s m args below meth c H locs 0 0 Q (F0 m 23 ls []) := by
      intro fu
      induction fu with
      | zero => exact fun _ _ _ _ _ _ h => absurd h (Nat.not_lt_zero _)
      | succ fu ih23 =>
        intro d t w H locs ls hm23 hd ht it hrt hth ho hw hl
        refine lv_iload_n S.1 S.2.1 dX5_roundsUntilAgreement_23 rfl (lv_at hl 2 rfl) ?_
        refine lv_iload_n S.1 S.2.1 dX5_roundsUntilAgreement_24 rfl (lv_at hl 1 rfl) ?_
        refine brN_ge (a := d) (b := q9) S (by omega) (by omega) (tgt := 45) dX5_roundsUntilAgreement_25 (by decide) (fun c5 => ?_) (fun c5 => ?_)
        · skip
          refine lv_aload_n S.1 S.2.1 dX5_roundsUntilAgreement_45 rfl (lv_at hl 0 rfl) ?_
          refine cl_i (va_runV (As := []) (rest := []) S (c_X5_doAgree l G a t w H.size  (by exact it)) (cwV 0 S.2.2.2.2 gX5_roundsUntilAgreement_X5_doAgree rfl rfl rfl hd_X5_doAgree ⟨by rw [hR]; exact Nat.le_of_ble_eq_true rfl, by rw [hR]; exact Nat.le_of_ble_eq_true rfl⟩) ⟨PW.blind, va_recv hK.1 hw.1 (ci := 5) (q0 := 0) rfl rfl, fun U hU hW => ⟨rfl, PW.of hK hw hU hW⟩⟩ rfl rfl hl.1 rfl (lv_room (Nat.le_of_ble_eq_true rfl)) dX5_roundsUntilAgreement_46 ⟨Nat.zero_le _, Nat.zero_le _⟩) hw hA (fun _ => rfl) (fun r6 z7 H locs h8 hw => ?_)
          obtain ⟨z9, o10⟩ := z7
          try dsimp only at h8 hw
          obtain ⟨rfl, qz9, qo10⟩ := h8
          rw [qz9] at hw
          rw [qo10] at hw
          refine brB_eq (b := agB t) S (tgt := 56) dX5_roundsUntilAgreement_49 (by decide) (fun c11 => ?_) (fun c11 => ?_)
          · skip
            refine lv_aload_n S.1 S.2.1 dX5_roundsUntilAgreement_56 rfl (lv_at hl 0 rfl) ?_
            refine lv_iconst (v := 2) S.1 S.2.1 dX5_roundsUntilAgreement_57 (by decide) ?_
            refine cl_i (va_runV (As := [.int 2]) (rest := []) S (c_X5_fails l G a t w H.size (2) ) (cwV 1 S.2.2.2.2 gX5_roundsUntilAgreement_X5_fails rfl rfl rfl hd_X5_fails ⟨by rw [hR]; exact Nat.le_of_ble_eq_true rfl, by rw [hR]; exact Nat.le_of_ble_eq_true rfl⟩) ⟨PW.blind, va_recv hK.1 hw.1 (ci := 5) (q0 := 0) rfl rfl, fun U hU hW => ⟨rfl, PW.of hK hw hU hW⟩⟩ rfl rfl hl.1 rfl (lv_room (Nat.le_of_ble_eq_true rfl)) dX5_roundsUntilAgreement_58 ⟨Nat.zero_le _, Nat.zero_le _⟩) hw hA (fun _ => rfl) (fun r12 z13 H locs h14 hw => ?_)
            obtain ⟨z15, o16⟩ := z13
            try dsimp only at h14 hw
            obtain ⟨rfl, qz15, eo16, to16⟩ := h14
            rw [qz15] at hw
            exact en_i (v := (0)) ((t, o16) : St × St) hQ S hr hlk hw (by have hp : pU (nI (q9)) z = ((2), (0), t) := (by first | (simp [pU, c4, c5, c11]; done) | (have hr9 : ru z q9 = d := ru_eq q9 d hd ho (by first | exact Or.inl (by omega) | exact Or.inr (by rw [← ht]; assumption)); rw [pU, if_pos (by assumption), tN_q h50, hr9, ← ht]; first | (rw [if_pos (by assumption)]; done) | (rw [if_neg (by rw [c11]; decide)]; done))); rw [hp]; exact ⟨rfl, rfl, (RT.tr hrt eo16), to16⟩) dX5_roundsUntilAgreement_61
          · skip
            refine lv_iload_n S.1 S.2.1 dX5_roundsUntilAgreement_52 rfl (lv_at hl 2 rfl) ?_
            refine lv_goto (tgt := 61) S.1 S.2.1 dX5_roundsUntilAgreement_53 (by decide) ?_
            exact en_i (v := (nI (d))) ((t, w) : St × St) hQ S hr hlk hw (by have hp : pU (nI (q9)) z = (0, (nI (d)), t) := (by first | (simp [pU, c4, c5, c11]; done) | (have hr9 : ru z q9 = d := ru_eq q9 d hd ho (by first | exact Or.inl (by omega) | exact Or.inr (by rw [← ht]; assumption)); rw [pU, if_pos (by assumption), tN_q h50, hr9, ← ht]; first | (rw [if_pos (by assumption)]; done) | (rw [if_neg (by rw [c11]; decide)]; done))); rw [hp]; exact ⟨rfl, rfl, hrt, hth⟩) dX5_roundsUntilAgreement_61
        · skip
          refine lv_aload_n S.1 S.2.1 dX5_roundsUntilAgreement_28 rfl (lv_at hl 0 rfl) ?_
          refine cl_i (va_runV (As := []) (rest := []) S (c_X5_doAgree l G a t w H.size  (by exact it)) (cwV 0 S.2.2.2.2 gX5_roundsUntilAgreement_X5_doAgree rfl rfl rfl hd_X5_doAgree ⟨by rw [hR]; exact Nat.le_of_ble_eq_true rfl, by rw [hR]; exact Nat.le_of_ble_eq_true rfl⟩) ⟨PW.blind, va_recv hK.1 hw.1 (ci := 5) (q0 := 0) rfl rfl, fun U hU hW => ⟨rfl, PW.of hK hw hU hW⟩⟩ rfl rfl hl.1 rfl (lv_room (Nat.le_of_ble_eq_true rfl)) dX5_roundsUntilAgreement_29 ⟨Nat.zero_le _, Nat.zero_le _⟩) hw hA (fun _ => rfl) (fun r17 z18 H locs h19 hw => ?_)
          obtain ⟨z20, o21⟩ := z18
          try dsimp only at h19 hw
          obtain ⟨rfl, qz20, qo21⟩ := h19
          rw [qz20] at hw
          rw [qo21] at hw
          refine brB_ne (b := agB t) S (tgt := 45) dX5_roundsUntilAgreement_32 (by decide) (fun c22 => ?_) (fun c22 => ?_)
          · skip
            refine lv_aload_n S.1 S.2.1 dX5_roundsUntilAgreement_45 rfl (lv_at hl 0 rfl) ?_
            refine cl_i (va_runV (As := []) (rest := []) S (c_X5_doAgree l G a t w H.size  (by exact it)) (cwV 0 S.2.2.2.2 gX5_roundsUntilAgreement_X5_doAgree rfl rfl rfl hd_X5_doAgree ⟨by rw [hR]; exact Nat.le_of_ble_eq_true rfl, by rw [hR]; exact Nat.le_of_ble_eq_true rfl⟩) ⟨PW.blind, va_recv hK.1 hw.1 (ci := 5) (q0 := 0) rfl rfl, fun U hU hW => ⟨rfl, PW.of hK hw hU hW⟩⟩ rfl rfl hl.1 rfl (lv_room (Nat.le_of_ble_eq_true rfl)) dX5_roundsUntilAgreement_46 ⟨Nat.zero_le _, Nat.zero_le _⟩) hw hA (fun _ => rfl) (fun r23 z24 H locs h25 hw => ?_)
            obtain ⟨z26, o27⟩ := z24
            try dsimp only at h25 hw
            obtain ⟨rfl, qz26, qo27⟩ := h25
            rw [qz26] at hw
            rw [qo27] at hw
            refine brB_eq (b := agB t) S (tgt := 56) dX5_roundsUntilAgreement_49 (by decide) (fun c28 => ?_) (fun c28 => ?_)
            · skip
              exact absurd (c22.symm.trans c28) (by decide)
            · skip
              refine lv_iload_n S.1 S.2.1 dX5_roundsUntilAgreement_52 rfl (lv_at hl 2 rfl) ?_
              refine lv_goto (tgt := 61) S.1 S.2.1 dX5_roundsUntilAgreement_53 (by decide) ?_
              exact en_i (v := (nI (d))) ((t, w) : St × St) hQ S hr hlk hw (by have hp : pU (nI (q9)) z = (0, (nI (d)), t) := (by first | (simp [pU, c4, c5, c22, c28]; done) | (have hr9 : ru z q9 = d := ru_eq q9 d hd ho (by first | exact Or.inl (by omega) | exact Or.inr (by rw [← ht]; assumption)); rw [pU, if_pos (by assumption), tN_q h50, hr9, ← ht]; first | (rw [if_pos (by assumption)]; done) | (rw [if_neg (by rw [c28]; decide)]; done))); rw [hp]; exact ⟨rfl, rfl, hrt, hth⟩) dX5_roundsUntilAgreement_61
          · skip
            refine lv_aload_n S.1 S.2.1 dX5_roundsUntilAgreement_35 rfl (lv_at hl 0 rfl) ?_
            refine cl_v (va_runV (As := []) (rest := []) S (c_X5_round1 l G a t w H.size  (by exact it)) (cwV 0 S.2.2.2.2 gX5_roundsUntilAgreement_X5_round1 rfl rfl rfl hd_X5_round1 ⟨by rw [hR]; exact Nat.le_of_ble_eq_true rfl, by rw [hR]; exact Nat.le_of_ble_eq_true rfl⟩) ⟨PW.blind, va_recv hK.1 hw.1 (ci := 5) (q0 := 0) rfl rfl, fun U hU hW => ⟨rfl, PW.of hK hw hU hW⟩⟩ rfl rfl hl.1 rfl (lv_room (Nat.le_of_ble_eq_true rfl)) dX5_roundsUntilAgreement_36 ⟨Nat.zero_le _, Nat.zero_le _⟩) hw hA (fun _ => rfl) (fun z30 H locs h31 hw => ?_)
            obtain ⟨z32, o33⟩ := z30
            try dsimp only at h31 hw
            obtain ⟨ez32, eo33⟩ := h31
            have iz32 : Inv z32 := by rw [ez32]; exact inv_rd it
            refine lv_iinc (v := (nI (d + 1))) (lv' := [(2, .int (nI (d + 1))), (0, .ref (a 0)), (1, .int (nI (q9)))]) S.1 S.2.1 dX5_roundsUntilAgreement_39 hl (k := 2) rfl (nI_add _ _) (by decide) rfl (fun ls hl => ?_)
            refine lv_goto (tgt := 23) S.1 S.2.1 dX5_roundsUntilAgreement_42 (by decide) ?_
            exact ih23 (d + 1) (z32) (o33) _ _ _ (by omega) (by omega) (by rw [ez32, ht, rds]) (by exact iz32) (by exact (RT.sc hrt eo33)) (by exact ((eo33 0 0 (by decide) (by decide)).trans hth)) (by exact fun j hj => if e : j = d then (by rw [e, ← ht]; assumption) else ho j (by omega)) hw (lv_sub hl [1, 2, 0] rfl)
    exact K23 (q9 + 1) (0) (z) (o1) _ _ _ (by omega) (by exact Nat.zero_le _) (by rfl) (by exact iz) (by exact ro1) (by exact to1) (by exact fun j hj => absurd hj (Nat.not_lt_zero _)) hw (lv_sub hl [1, 2, 0] rfl)
  · skip
    refine lv_aload_n S.1 S.2.1 dX5_roundsUntilAgreement_15 rfl (lv_at hl 0 rfl) ?_
    refine lv_iconst (v := 1) S.1 S.2.1 dX5_roundsUntilAgreement_16 (by decide) ?_
    refine cl_i (va_runV (As := [.int 1]) (rest := []) S (c_X5_fails l G a z o1 H.size (1) ) (cwV 1 S.2.2.2.2 gX5_roundsUntilAgreement_X5_fails rfl rfl rfl hd_X5_fails ⟨by rw [hR]; exact Nat.le_of_ble_eq_true rfl, by rw [hR]; exact Nat.le_of_ble_eq_true rfl⟩) ⟨PW.blind, va_recv hK.1 hw.1 (ci := 5) (q0 := 0) rfl rfl, fun U hU hW => ⟨rfl, PW.of hK hw hU hW⟩⟩ rfl rfl hl.1 rfl (lv_room (Nat.le_of_ble_eq_true rfl)) dX5_roundsUntilAgreement_17 ⟨Nat.zero_le _, Nat.zero_le _⟩) hw hA (fun _ => rfl) (fun r34 z35 H locs h36 hw => ?_)
    obtain ⟨z37, o38⟩ := z35
    try dsimp only at h36 hw
    obtain ⟨rfl, qz37, eo38, to38⟩ := h36
    rw [qz37] at hw
    exact en_i (v := (0)) ((z, o38) : St × St) hQ S hr hlk hw (by have hp : pU (q) z = ((1), (0), z) := (by first | (simp [pU, c4]; done) | (have hr9 : ru z q9 = d := ru_eq q9 d hd ho (by first | exact Or.inl (by omega) | exact Or.inr (by rw [← ht]; assumption)); rw [pU, if_pos (by assumption), tN_q h50, hr9, ← ht]; first | (rw [if_pos (by assumption)]; done) | (rw [if_neg (by rw [c4]; decide)]; done))); rw [hp]; exact ⟨rfl, rfl, (RT.tr ro1 eo38), to38⟩) dX5_roundsUntilAgreement_20

theorem hd_X5_isUp : yX5_isUp.cls = RX5 ∧ yX5_isUp.cls ≠ "java/lang/invoke/MethodHandle" ∧ yX5_isUp.cls ≠ "java/lang/invoke/VarHandle" ∧ (parseMethodDescriptor yX5_isUp.desc).map (fun d => d.parameters.length) = some 1 := by decide +kernel
set_option maxHeartbeats 4000000 in
set_option maxRecDepth 100000 in
theorem c_X5_isUp (l : Launch) (G : GA) (a : Nat → Nat) (z : St) (o : St) (sz : Nat) (v : Int32) (iz : Inv z) : Met l yX5_isUp wsX5_isUp ({ frames := 2, cells := 0, slots := 0, locals := 42 }) (va_Pc [.ref (a 0), .int (v)] (PW G (mp G a z o) sz)) (va_Qi (fun (r : Int32) (u : St × St) => r = (pUp v z).2.1 ∧ u.1 = (pUp v z).2.2 ∧ RT o u.2 ∧ u.2 0 0 = (pUp v z).1) (fun (u : St × St) t => va_P G.1 gcl (mp G a u.1 u.2) t.heap) (va_A (mp G a z o) sz)) 0 0 (va_A (mp G a z o) sz) := by
  refine met_st (cc := cX5_isUp) (maxL := 2) (ret := (some .boolean)) (fun A => va_Qi (fun (r : Int32) (u : St × St) => r = (pUp v z).2.1 ∧ u.1 = (pUp v z).2.2 ∧ RT o u.2 ∧ u.2 0 0 = (pUp v z).1) (fun (u : St × St) t => va_P G.1 gcl (mp G a u.1 u.2) t.heap) A) (by decide) rfl (Nat.le_of_ble_eq_true rfl) ?_
  intro p e s m args below meth c R Q A H ls hR hQ S hr hlk _ hK hsz hH hAe hA hw hl
  have hl : lv_has ls 2 [(0, .ref (a 0)), (1, .int (v))] := hl
  have LX5 : ∀ w ∈ u_ws RX5 TX5 12, w.before args s = true := fun w h => S.2.2.2.2 w ((by decide +kernel : ∀ w ∈ u_ws RX5 TX5 12, w ∈ wsX5_isUp) w h)
  have k1 : (Cond.fieldLink RX5 22 "GossipMembershipModel" "thrown" "I").before args s = true := S.2.2.2.2 _ (by decide +kernel : (Cond.fieldLink RX5 22 "GossipMembershipModel" "thrown" "I") ∈ wsX5_isUp)
  have k2 : (Cond.fieldLink RX5 7 "GossipMembershipModel" "s" "[I").before args s = true := S.2.2.2.2 _ (by decide +kernel : (Cond.fieldLink RX5 7 "GossipMembershipModel" "s" "[I") ∈ wsX5_isUp)
  refine lv_aload_n S.1 S.2.1 dX5_isUp_0 rfl (lv_at hl 0 rfl) ?_
  refine lv_iload_n S.1 S.2.1 dX5_isUp_1 rfl (lv_at hl 1 rfl) ?_
  refine vp_callSi (va_runS (As := [.int (v)]) (rest := [.ref (a 0)]) S (c_X5_isNode l (v) ) (va_cwS 1 S.2.2.2.2 gX5_isUp_X5_isNode rfl rfl rfl hd_X5_isNode ⟨by rw [hR]; exact Nat.le_of_ble_eq_true rfl, by rw [hR]; exact Nat.le_of_ble_eq_true rfl⟩) ⟨blind_T, fun U hU hW => ⟨rfl, trivial⟩⟩ rfl rfl hl.1 rfl (lv_room (Nat.le_of_ble_eq_true rfl)) dX5_isUp_2 ⟨Nat.zero_le _, Nat.zero_le _⟩).run (fun r1 h2 => ?_)
  subst h2
  refine brB_eq (b := nd ((v))) S (tgt := 12) dX5_isUp_5 (by decide) (fun c3 => ?_) (fun c3 => ?_)
  · skip
    refine lv_iconst (v := 1) S.1 S.2.1 dX5_isUp_12 (by decide) ?_
    refine pt_X5_0 (ws' := (mp G a z (st o 0 0 (1)))) S hK hw 0 rfl LX5 k1 rfl (Nat.le_of_ble_eq_true rfl) dX5_isUp_13 (fun H locs hw => ?_)
    obtain ⟨o4, eo4⟩ : ∃ zz, zz = st o 0 0 (1) := ⟨_, rfl⟩
    have hw : WD G (mp G a z o4) A s H locs := by rw [eo4]; exact hw
    have ro4 : RT o o4 := by rw [eo4]; exact RT.put (RT.rf o) _
    have to4 : o4 0 0 = (1) := by rw [eo4]; exact st_s _ _ _ _
    refine lv_aload_n S.1 S.2.1 dX5_isUp_16 rfl (lv_at hl 0 rfl) ?_
    refine gt_X5_0 (v := .int (o4 0 0)) S hK hw 0 rfl rfl LX5 k1 dX5_isUp_17 ?_
    refine top_to (v := (1)) S to4 ?_
    refine lv_if_ne (tgt := 40) S.1 S.2.1 dX5_isUp_20 (by decide) (fun c5 => ?_) (fun c5 => ?_)
    · skip
      refine lv_iconst (v := 0) S.1 S.2.1 dX5_isUp_40 (by decide) ?_
      exact en_z (v := (0)) ((z, o4) : St × St) hQ S hr hlk rfl hw (by have hp : pUp (v) z = ((1), (0), z) := (by subst eo4; simp [pUp, endq, b2, on1, on2, c3, c5]); rw [hp]; exact ⟨rfl, rfl, ro4, to4⟩) dX5_isUp_41
    · skip
      exact absurd c5 (by decide)
  · skip
    obtain ⟨n, hn, en9⟩ := nd_of c3
    subst en9
    refine lv_iconst (v := 0) S.1 S.2.1 dX5_isUp_8 (by decide) ?_
    refine lv_goto (tgt := 13) S.1 S.2.1 dX5_isUp_9 (by decide) ?_
    refine pt_X5_0 (ws' := (mp G a z (st o 0 0 (0)))) S hK hw 0 rfl LX5 k1 rfl (Nat.le_of_ble_eq_true rfl) dX5_isUp_13 (fun H locs hw => ?_)
    obtain ⟨o6, eo6⟩ : ∃ zz, zz = st o 0 0 (0) := ⟨_, rfl⟩
    have hw : WD G (mp G a z o6) A s H locs := by rw [eo6]; exact hw
    have ro6 : RT o o6 := by rw [eo6]; exact RT.put (RT.rf o) _
    have to6 : o6 0 0 = (0) := by rw [eo6]; exact st_s _ _ _ _
    refine lv_aload_n S.1 S.2.1 dX5_isUp_16 rfl (lv_at hl 0 rfl) ?_
    refine gt_X5_0 (v := .int (o6 0 0)) S hK hw 0 rfl rfl LX5 k1 dX5_isUp_17 ?_
    refine top_to (v := (0)) S to6 ?_
    refine lv_if_ne (tgt := 40) S.1 S.2.1 dX5_isUp_20 (by decide) (fun c7 => ?_) (fun c7 => ?_)
    · skip
      exact absurd c7 (by decide)
    · skip
      refine lv_aload_n S.1 S.2.1 dX5_isUp_23 rfl (lv_at hl 0 rfl) ?_
      refine gt_X5_1 (v := .ref (a 1)) S hK hw 0 rfl rfl LX5 k2 dX5_isUp_24 ?_
      refine lv_bipush (v := 10) S.1 S.2.1 dX5_isUp_27 (by decide) ?_
      refine lv_iload_n S.1 S.2.1 dX5_isUp_29 rfl (lv_at hl 1 rfl) ?_
      refine addN (a := 10) (b := n) S dX5_isUp_30 ?_
      refine ald_i (v := z 1 (n)) (k := 10 + n) S hK hw 1 rfl (by omega) (by decide) (fl_1 z (by omega)) dX5_isUp_31 ?_
      refine lv_iconst (v := 1) S.1 S.2.1 dX5_isUp_32 (by decide) ?_
      refine lv_icmp_ne (tgt := 40) S.1 S.2.1 dX5_isUp_33 (by decide) (fun c8 => ?_) (fun c8 => ?_)
      · skip
        refine lv_iconst (v := 0) S.1 S.2.1 dX5_isUp_40 (by decide) ?_
        exact en_z (v := (0)) ((z, o6) : St × St) hQ S hr hlk rfl hw (by have hp : pUp (nI (n)) z = ((0), (0), z) := (by subst eo6; simp [pUp, endq, b2, on1, on2, hn, nd_n hn, tN_n hn, c3, c7, c8]); rw [hp]; exact ⟨rfl, rfl, ro6, to6⟩) dX5_isUp_41
      · skip
        refine lv_iconst (v := 1) S.1 S.2.1 dX5_isUp_36 (by decide) ?_
        refine lv_goto (tgt := 41) S.1 S.2.1 dX5_isUp_37 (by decide) ?_
        exact en_z (v := (1)) ((z, o6) : St × St) hQ S hr hlk rfl hw (by have hp : pUp (nI (n)) z = ((0), (1), z) := (by subst eo6; simp [pUp, endq, b2, on1, on2, hn, nd_n hn, tN_n hn, c3, c7, c8]); rw [hp]; exact ⟨rfl, rfl, ro6, to6⟩) dX5_isUp_41

theorem hd_X5_partition : yX5_partition.cls = RX5 ∧ yX5_partition.cls ≠ "java/lang/invoke/MethodHandle" ∧ yX5_partition.cls ≠ "java/lang/invoke/VarHandle" ∧ (parseMethodDescriptor yX5_partition.desc).map (fun d => d.parameters.length) = some 1 := by decide +kernel
set_option maxHeartbeats 4000000 in
set_option maxRecDepth 100000 in
theorem c_X5_partition (l : Launch) (G : GA) (a : Nat → Nat) (z : St) (o : St) (sz : Nat) (v : Int32) (iz : Inv z) : Met l yX5_partition wsX5_partition ({ frames := 2, cells := 0, slots := 0, locals := 42 }) (va_Pc [.ref (a 0), .int (v)] (PW G (mp G a z o) sz)) (va_Qi (fun (r : Int32) (u : St × St) => r = (pA1 3 v z).2.1 ∧ u.1 = (pA1 3 v z).2.2 ∧ RT o u.2 ∧ u.2 0 0 = (pA1 3 v z).1) (fun (u : St × St) t => va_P G.1 gcl (mp G a u.1 u.2) t.heap) (va_A (mp G a z o) sz)) 0 0 (va_A (mp G a z o) sz) := by
  refine met_st (cc := cX5_partition) (maxL := 2) (ret := (some .int)) (fun A => va_Qi (fun (r : Int32) (u : St × St) => r = (pA1 3 v z).2.1 ∧ u.1 = (pA1 3 v z).2.2 ∧ RT o u.2 ∧ u.2 0 0 = (pA1 3 v z).1) (fun (u : St × St) t => va_P G.1 gcl (mp G a u.1 u.2) t.heap) A) (by decide) rfl (Nat.le_of_ble_eq_true rfl) ?_
  intro p e s m args below meth c R Q A H ls hR hQ S hr hlk _ hK hsz hH hAe hA hw hl
  have hl : lv_has ls 2 [(0, .ref (a 0)), (1, .int (v))] := hl
  have LX5 : ∀ w ∈ u_ws RX5 TX5 12, w.before args s = true := fun w h => S.2.2.2.2 w ((by decide +kernel : ∀ w ∈ u_ws RX5 TX5 12, w ∈ wsX5_partition) w h)
  have k1 : (Cond.fieldLink RX5 22 "GossipMembershipModel" "thrown" "I").before args s = true := S.2.2.2.2 _ (by decide +kernel : (Cond.fieldLink RX5 22 "GossipMembershipModel" "thrown" "I") ∈ wsX5_partition)
  have k2 : (Cond.fieldLink RX5 7 "GossipMembershipModel" "s" "[I").before args s = true := S.2.2.2.2 _ (by decide +kernel : (Cond.fieldLink RX5 7 "GossipMembershipModel" "s" "[I") ∈ wsX5_partition)
  refine lv_aload_n S.1 S.2.1 dX5_partition_0 rfl (lv_at hl 0 rfl) ?_
  refine lv_iconst (v := 0) S.1 S.2.1 dX5_partition_1 (by decide) ?_
  refine pt_X5_0 (ws' := (mp G a z (st o 0 0 (0)))) S hK hw 0 rfl LX5 k1 rfl (Nat.le_of_ble_eq_true rfl) dX5_partition_2 (fun H locs hw => ?_)
  obtain ⟨o1, eo1⟩ : ∃ zz, zz = st o 0 0 (0) := ⟨_, rfl⟩
  have hw : WD G (mp G a z o1) A s H locs := by rw [eo1]; exact hw
  have ro1 : RT o o1 := by rw [eo1]; exact RT.put (RT.rf o) _
  have to1 : o1 0 0 = (0) := by rw [eo1]; exact st_s _ _ _ _
  refine lv_iload_n S.1 S.2.1 dX5_partition_5 rfl (lv_at hl 1 rfl) ?_
  refine vp_callSi (va_runS (As := [.int (v)]) (rest := []) S (c_X5_isNode l (v) ) (va_cwS 1 S.2.2.2.2 gX5_partition_X5_isNode rfl rfl rfl hd_X5_isNode ⟨by rw [hR]; exact Nat.le_of_ble_eq_true rfl, by rw [hR]; exact Nat.le_of_ble_eq_true rfl⟩) ⟨blind_T, fun U hU hW => ⟨rfl, trivial⟩⟩ rfl rfl hl.1 rfl (lv_room (Nat.le_of_ble_eq_true rfl)) dX5_partition_6 ⟨Nat.zero_le _, Nat.zero_le _⟩).run (fun r2 h3 => ?_)
  subst h3
  refine brB_eq (b := nd ((v))) S (tgt := 24) dX5_partition_9 (by decide) (fun c4 => ?_) (fun c4 => ?_)
  · skip
    refine lv_aload_n S.1 S.2.1 dX5_partition_24 rfl (lv_at hl 0 rfl) ?_
    refine lv_iconst (v := 1) S.1 S.2.1 dX5_partition_25 (by decide) ?_
    refine cl_i (va_runV (As := [.int 1]) (rest := []) S (c_X5_fails l G a z o1 H.size (1) ) (cwV 1 S.2.2.2.2 gX5_partition_X5_fails rfl rfl rfl hd_X5_fails ⟨by rw [hR]; exact Nat.le_of_ble_eq_true rfl, by rw [hR]; exact Nat.le_of_ble_eq_true rfl⟩) ⟨PW.blind, va_recv hK.1 hw.1 (ci := 5) (q0 := 0) rfl rfl, fun U hU hW => ⟨rfl, PW.of hK hw hU hW⟩⟩ rfl rfl hl.1 rfl (lv_room (Nat.le_of_ble_eq_true rfl)) dX5_partition_26 ⟨Nat.zero_le _, Nat.zero_le _⟩) hw hA (fun _ => rfl) (fun r5 z6 H locs h7 hw => ?_)
    obtain ⟨z8, o9⟩ := z6
    try dsimp only at h7 hw
    obtain ⟨rfl, qz8, eo9, to9⟩ := h7
    rw [qz8] at hw
    exact en_i (v := (0)) ((z, o9) : St × St) hQ S hr hlk hw (by have hp : pA1 3 (v) z = ((1), (0), z) := (by subst eo1; simp [pA1, endq, b2, on1, on2, c4]); rw [hp]; exact ⟨rfl, rfl, (RT.tr ro1 eo9), to9⟩) dX5_partition_29
  · skip
    obtain ⟨n, hn, en9⟩ := nd_of c4
    subst en9
    refine lv_aload_n S.1 S.2.1 dX5_partition_12 rfl (lv_at hl 0 rfl) ?_
    refine gt_X5_1 (v := .ref (a 1)) S hK hw 0 rfl rfl LX5 k2 dX5_partition_13 ?_
    refine lv_bipush (v := 26) S.1 S.2.1 dX5_partition_16 (by decide) ?_
    refine lv_iload_n S.1 S.2.1 dX5_partition_18 rfl (lv_at hl 1 rfl) ?_
    refine addN (a := 26) (b := n) S dX5_partition_19 ?_
    refine ald_i (v := z 3 (n)) (k := 26 + n) S hK hw 1 rfl (by omega) (by decide) (fl_3 z (by omega)) dX5_partition_20 ?_
    refine lv_goto (tgt := 29) S.1 S.2.1 dX5_partition_21 (by decide) ?_
    exact en_i (v := (z 3 (n))) ((z, o1) : St × St) hQ S hr hlk hw (by have hp : pA1 3 (nI (n)) z = ((0), (z 3 (n)), z) := (by subst eo1; simp [pA1, endq, b2, on1, on2, hn, nd_n hn, tN_n hn, c4]); rw [hp]; exact ⟨rfl, rfl, ro1, to1⟩) dX5_partition_29

theorem hd_X5_incarnation : yX5_incarnation.cls = RX5 ∧ yX5_incarnation.cls ≠ "java/lang/invoke/MethodHandle" ∧ yX5_incarnation.cls ≠ "java/lang/invoke/VarHandle" ∧ (parseMethodDescriptor yX5_incarnation.desc).map (fun d => d.parameters.length) = some 1 := by decide +kernel
set_option maxHeartbeats 4000000 in
set_option maxRecDepth 100000 in
theorem c_X5_incarnation (l : Launch) (G : GA) (a : Nat → Nat) (z : St) (o : St) (sz : Nat) (v : Int32) (iz : Inv z) : Met l yX5_incarnation wsX5_incarnation ({ frames := 2, cells := 0, slots := 0, locals := 42 }) (va_Pc [.ref (a 0), .int (v)] (PW G (mp G a z o) sz)) (va_Qi (fun (r : Int32) (u : St × St) => r = (pA1 4 v z).2.1 ∧ u.1 = (pA1 4 v z).2.2 ∧ RT o u.2 ∧ u.2 0 0 = (pA1 4 v z).1) (fun (u : St × St) t => va_P G.1 gcl (mp G a u.1 u.2) t.heap) (va_A (mp G a z o) sz)) 0 0 (va_A (mp G a z o) sz) := by
  refine met_st (cc := cX5_incarnation) (maxL := 2) (ret := (some .int)) (fun A => va_Qi (fun (r : Int32) (u : St × St) => r = (pA1 4 v z).2.1 ∧ u.1 = (pA1 4 v z).2.2 ∧ RT o u.2 ∧ u.2 0 0 = (pA1 4 v z).1) (fun (u : St × St) t => va_P G.1 gcl (mp G a u.1 u.2) t.heap) A) (by decide) rfl (Nat.le_of_ble_eq_true rfl) ?_
  intro p e s m args below meth c R Q A H ls hR hQ S hr hlk _ hK hsz hH hAe hA hw hl
  have hl : lv_has ls 2 [(0, .ref (a 0)), (1, .int (v))] := hl
  have LX5 : ∀ w ∈ u_ws RX5 TX5 12, w.before args s = true := fun w h => S.2.2.2.2 w ((by decide +kernel : ∀ w ∈ u_ws RX5 TX5 12, w ∈ wsX5_incarnation) w h)
  have k1 : (Cond.fieldLink RX5 22 "GossipMembershipModel" "thrown" "I").before args s = true := S.2.2.2.2 _ (by decide +kernel : (Cond.fieldLink RX5 22 "GossipMembershipModel" "thrown" "I") ∈ wsX5_incarnation)
  have k2 : (Cond.fieldLink RX5 7 "GossipMembershipModel" "s" "[I").before args s = true := S.2.2.2.2 _ (by decide +kernel : (Cond.fieldLink RX5 7 "GossipMembershipModel" "s" "[I") ∈ wsX5_incarnation)
  refine lv_aload_n S.1 S.2.1 dX5_incarnation_0 rfl (lv_at hl 0 rfl) ?_
  refine lv_iconst (v := 0) S.1 S.2.1 dX5_incarnation_1 (by decide) ?_
  refine pt_X5_0 (ws' := (mp G a z (st o 0 0 (0)))) S hK hw 0 rfl LX5 k1 rfl (Nat.le_of_ble_eq_true rfl) dX5_incarnation_2 (fun H locs hw => ?_)
  obtain ⟨o1, eo1⟩ : ∃ zz, zz = st o 0 0 (0) := ⟨_, rfl⟩
  have hw : WD G (mp G a z o1) A s H locs := by rw [eo1]; exact hw
  have ro1 : RT o o1 := by rw [eo1]; exact RT.put (RT.rf o) _
  have to1 : o1 0 0 = (0) := by rw [eo1]; exact st_s _ _ _ _
  refine lv_iload_n S.1 S.2.1 dX5_incarnation_5 rfl (lv_at hl 1 rfl) ?_
  refine vp_callSi (va_runS (As := [.int (v)]) (rest := []) S (c_X5_isNode l (v) ) (va_cwS 1 S.2.2.2.2 gX5_incarnation_X5_isNode rfl rfl rfl hd_X5_isNode ⟨by rw [hR]; exact Nat.le_of_ble_eq_true rfl, by rw [hR]; exact Nat.le_of_ble_eq_true rfl⟩) ⟨blind_T, fun U hU hW => ⟨rfl, trivial⟩⟩ rfl rfl hl.1 rfl (lv_room (Nat.le_of_ble_eq_true rfl)) dX5_incarnation_6 ⟨Nat.zero_le _, Nat.zero_le _⟩).run (fun r2 h3 => ?_)
  subst h3
  refine brB_eq (b := nd ((v))) S (tgt := 24) dX5_incarnation_9 (by decide) (fun c4 => ?_) (fun c4 => ?_)
  · skip
    refine lv_aload_n S.1 S.2.1 dX5_incarnation_24 rfl (lv_at hl 0 rfl) ?_
    refine lv_iconst (v := 1) S.1 S.2.1 dX5_incarnation_25 (by decide) ?_
    refine cl_i (va_runV (As := [.int 1]) (rest := []) S (c_X5_fails l G a z o1 H.size (1) ) (cwV 1 S.2.2.2.2 gX5_incarnation_X5_fails rfl rfl rfl hd_X5_fails ⟨by rw [hR]; exact Nat.le_of_ble_eq_true rfl, by rw [hR]; exact Nat.le_of_ble_eq_true rfl⟩) ⟨PW.blind, va_recv hK.1 hw.1 (ci := 5) (q0 := 0) rfl rfl, fun U hU hW => ⟨rfl, PW.of hK hw hU hW⟩⟩ rfl rfl hl.1 rfl (lv_room (Nat.le_of_ble_eq_true rfl)) dX5_incarnation_26 ⟨Nat.zero_le _, Nat.zero_le _⟩) hw hA (fun _ => rfl) (fun r5 z6 H locs h7 hw => ?_)
    obtain ⟨z8, o9⟩ := z6
    try dsimp only at h7 hw
    obtain ⟨rfl, qz8, eo9, to9⟩ := h7
    rw [qz8] at hw
    exact en_i (v := (0)) ((z, o9) : St × St) hQ S hr hlk hw (by have hp : pA1 4 (v) z = ((1), (0), z) := (by subst eo1; simp [pA1, endq, b2, on1, on2, c4]); rw [hp]; exact ⟨rfl, rfl, (RT.tr ro1 eo9), to9⟩) dX5_incarnation_29
  · skip
    obtain ⟨n, hn, en9⟩ := nd_of c4
    subst en9
    refine lv_aload_n S.1 S.2.1 dX5_incarnation_12 rfl (lv_at hl 0 rfl) ?_
    refine gt_X5_1 (v := .ref (a 1)) S hK hw 0 rfl rfl LX5 k2 dX5_incarnation_13 ?_
    refine lv_bipush (v := 34) S.1 S.2.1 dX5_incarnation_16 (by decide) ?_
    refine lv_iload_n S.1 S.2.1 dX5_incarnation_18 rfl (lv_at hl 1 rfl) ?_
    refine addN (a := 34) (b := n) S dX5_incarnation_19 ?_
    refine ald_i (v := z 4 (n)) (k := 34 + n) S hK hw 1 rfl (by omega) (by decide) (fl_4 z (by omega)) dX5_incarnation_20 ?_
    refine lv_goto (tgt := 29) S.1 S.2.1 dX5_incarnation_21 (by decide) ?_
    exact en_i (v := (z 4 (n))) ((z, o1) : St × St) hQ S hr hlk hw (by have hp : pA1 4 (nI (n)) z = ((0), (z 4 (n)), z) := (by subst eo1; simp [pA1, endq, b2, on1, on2, hn, nd_n hn, tN_n hn, c4]); rw [hp]; exact ⟨rfl, rfl, ro1, to1⟩) dX5_incarnation_29

theorem hd_X5_reaches : yX5_reaches.cls = RX5 ∧ yX5_reaches.cls ≠ "java/lang/invoke/MethodHandle" ∧ yX5_reaches.cls ≠ "java/lang/invoke/VarHandle" ∧ (parseMethodDescriptor yX5_reaches.desc).map (fun d => d.parameters.length) = some 2 := by decide +kernel
set_option maxHeartbeats 4000000 in
set_option maxRecDepth 100000 in
theorem c_X5_reaches (l : Launch) (G : GA) (a : Nat → Nat) (z : St) (o : St) (sz : Nat) (v : Int32) (w : Int32) (iz : Inv z) : Met l yX5_reaches wsX5_reaches ({ frames := 3, cells := 0, slots := 0, locals := 65 }) (va_Pc [.ref (a 0), .int (v), .int (w)] (PW G (mp G a z o) sz)) (va_Qi (fun (r : Int32) (u : St × St) => r = (pRe v w z).2.1 ∧ u.1 = (pRe v w z).2.2 ∧ RT o u.2 ∧ u.2 0 0 = (pRe v w z).1) (fun (u : St × St) t => va_P G.1 gcl (mp G a u.1 u.2) t.heap) (va_A (mp G a z o) sz)) 0 0 (va_A (mp G a z o) sz) := by
  refine met_st (cc := cX5_reaches) (maxL := 3) (ret := (some .boolean)) (fun A => va_Qi (fun (r : Int32) (u : St × St) => r = (pRe v w z).2.1 ∧ u.1 = (pRe v w z).2.2 ∧ RT o u.2 ∧ u.2 0 0 = (pRe v w z).1) (fun (u : St × St) t => va_P G.1 gcl (mp G a u.1 u.2) t.heap) A) (by decide) rfl (Nat.le_of_ble_eq_true rfl) ?_
  intro p e s m args below meth c R Q A H ls hR hQ S hr hlk _ hK hsz hH hAe hA hw hl
  have hl : lv_has ls 3 [(0, .ref (a 0)), (1, .int (v)), (2, .int (w))] := hl
  have LX5 : ∀ w ∈ u_ws RX5 TX5 12, w.before args s = true := fun w h => S.2.2.2.2 w ((by decide +kernel : ∀ w ∈ u_ws RX5 TX5 12, w ∈ wsX5_reaches) w h)
  have k1 : (Cond.fieldLink RX5 22 "GossipMembershipModel" "thrown" "I").before args s = true := S.2.2.2.2 _ (by decide +kernel : (Cond.fieldLink RX5 22 "GossipMembershipModel" "thrown" "I") ∈ wsX5_reaches)
  refine lv_aload_n S.1 S.2.1 dX5_reaches_0 rfl (lv_at hl 0 rfl) ?_
  refine lv_iload_n S.1 S.2.1 dX5_reaches_1 rfl (lv_at hl 1 rfl) ?_
  refine vp_callSi (va_runS (As := [.int (v)]) (rest := [.ref (a 0)]) S (c_X5_isNode l (v) ) (va_cwS 1 S.2.2.2.2 gX5_reaches_X5_isNode rfl rfl rfl hd_X5_isNode ⟨by rw [hR]; exact Nat.le_of_ble_eq_true rfl, by rw [hR]; exact Nat.le_of_ble_eq_true rfl⟩) ⟨blind_T, fun U hU hW => ⟨rfl, trivial⟩⟩ rfl rfl hl.1 rfl (lv_room (Nat.le_of_ble_eq_true rfl)) dX5_reaches_2 ⟨Nat.zero_le _, Nat.zero_le _⟩).run (fun r1 h2 => ?_)
  subst h2
  refine brB_eq (b := nd ((v))) S (tgt := 19) dX5_reaches_5 (by decide) (fun c3 => ?_) (fun c3 => ?_)
  · skip
    refine lv_iconst (v := 1) S.1 S.2.1 dX5_reaches_19 (by decide) ?_
    refine pt_X5_0 (ws' := (mp G a z (st o 0 0 (1)))) S hK hw 0 rfl LX5 k1 rfl (Nat.le_of_ble_eq_true rfl) dX5_reaches_20 (fun H locs hw => ?_)
    obtain ⟨o4, eo4⟩ : ∃ zz, zz = st o 0 0 (1) := ⟨_, rfl⟩
    have hw : WD G (mp G a z o4) A s H locs := by rw [eo4]; exact hw
    have ro4 : RT o o4 := by rw [eo4]; exact RT.put (RT.rf o) _
    have to4 : o4 0 0 = (1) := by rw [eo4]; exact st_s _ _ _ _
    refine lv_aload_n S.1 S.2.1 dX5_reaches_23 rfl (lv_at hl 0 rfl) ?_
    refine gt_X5_0 (v := .int (o4 0 0)) S hK hw 0 rfl rfl LX5 k1 dX5_reaches_24 ?_
    refine top_to (v := (1)) S to4 ?_
    refine lv_if_ne (tgt := 43) S.1 S.2.1 dX5_reaches_27 (by decide) (fun c5 => ?_) (fun c5 => ?_)
    · skip
      refine lv_iconst (v := 0) S.1 S.2.1 dX5_reaches_43 (by decide) ?_
      exact en_z (v := (0)) ((z, o4) : St × St) hQ S hr hlk rfl hw (by have hp : pRe (v) (w) z = ((1), (0), z) := (by subst eo4; simp [pRe, endq, b2, on1, on2, c3, c5]); rw [hp]; exact ⟨rfl, rfl, ro4, to4⟩) dX5_reaches_44
    · skip
      exact absurd c5 (by decide)
  · skip
    obtain ⟨n, hn, en9⟩ := nd_of c3
    subst en9
    refine lv_iload_n S.1 S.2.1 dX5_reaches_8 rfl (lv_at hl 2 rfl) ?_
    refine vp_callSi (va_runS (As := [.int (w)]) (rest := [.ref (a 0)]) S (c_X5_isNode l (w) ) (va_cwS 1 S.2.2.2.2 gX5_reaches_X5_isNode rfl rfl rfl hd_X5_isNode ⟨by rw [hR]; exact Nat.le_of_ble_eq_true rfl, by rw [hR]; exact Nat.le_of_ble_eq_true rfl⟩) ⟨blind_T, fun U hU hW => ⟨rfl, trivial⟩⟩ rfl rfl hl.1 rfl (lv_room (Nat.le_of_ble_eq_true rfl)) dX5_reaches_9 ⟨Nat.zero_le _, Nat.zero_le _⟩).run (fun r6 h7 => ?_)
    subst h7
    refine brB_eq (b := nd ((w))) S (tgt := 19) dX5_reaches_12 (by decide) (fun c8 => ?_) (fun c8 => ?_)
    · skip
      refine lv_iconst (v := 1) S.1 S.2.1 dX5_reaches_19 (by decide) ?_
      refine pt_X5_0 (ws' := (mp G a z (st o 0 0 (1)))) S hK hw 0 rfl LX5 k1 rfl (Nat.le_of_ble_eq_true rfl) dX5_reaches_20 (fun H locs hw => ?_)
      obtain ⟨o9, eo9⟩ : ∃ zz, zz = st o 0 0 (1) := ⟨_, rfl⟩
      have hw : WD G (mp G a z o9) A s H locs := by rw [eo9]; exact hw
      have ro9 : RT o o9 := by rw [eo9]; exact RT.put (RT.rf o) _
      have to9 : o9 0 0 = (1) := by rw [eo9]; exact st_s _ _ _ _
      refine lv_aload_n S.1 S.2.1 dX5_reaches_23 rfl (lv_at hl 0 rfl) ?_
      refine gt_X5_0 (v := .int (o9 0 0)) S hK hw 0 rfl rfl LX5 k1 dX5_reaches_24 ?_
      refine top_to (v := (1)) S to9 ?_
      refine lv_if_ne (tgt := 43) S.1 S.2.1 dX5_reaches_27 (by decide) (fun c10 => ?_) (fun c10 => ?_)
      · skip
        refine lv_iconst (v := 0) S.1 S.2.1 dX5_reaches_43 (by decide) ?_
        exact en_z (v := (0)) ((z, o9) : St × St) hQ S hr hlk rfl hw (by have hp : pRe (nI (n)) (w) z = ((1), (0), z) := (by subst eo9; simp [pRe, endq, b2, on1, on2, hn, nd_n hn, tN_n hn, c3, c8, c10]); rw [hp]; exact ⟨rfl, rfl, ro9, to9⟩) dX5_reaches_44
      · skip
        exact absurd c10 (by decide)
    · skip
      obtain ⟨b, hb, eb9⟩ := nd_of c8
      subst eb9
      refine lv_iconst (v := 0) S.1 S.2.1 dX5_reaches_15 (by decide) ?_
      refine lv_goto (tgt := 20) S.1 S.2.1 dX5_reaches_16 (by decide) ?_
      refine pt_X5_0 (ws' := (mp G a z (st o 0 0 (0)))) S hK hw 0 rfl LX5 k1 rfl (Nat.le_of_ble_eq_true rfl) dX5_reaches_20 (fun H locs hw => ?_)
      obtain ⟨o11, eo11⟩ : ∃ zz, zz = st o 0 0 (0) := ⟨_, rfl⟩
      have hw : WD G (mp G a z o11) A s H locs := by rw [eo11]; exact hw
      have ro11 : RT o o11 := by rw [eo11]; exact RT.put (RT.rf o) _
      have to11 : o11 0 0 = (0) := by rw [eo11]; exact st_s _ _ _ _
      refine lv_aload_n S.1 S.2.1 dX5_reaches_23 rfl (lv_at hl 0 rfl) ?_
      refine gt_X5_0 (v := .int (o11 0 0)) S hK hw 0 rfl rfl LX5 k1 dX5_reaches_24 ?_
      refine top_to (v := (0)) S to11 ?_
      refine lv_if_ne (tgt := 43) S.1 S.2.1 dX5_reaches_27 (by decide) (fun c12 => ?_) (fun c12 => ?_)
      · skip
        exact absurd c12 (by decide)
      · skip
        refine lv_aload_n S.1 S.2.1 dX5_reaches_30 rfl (lv_at hl 0 rfl) ?_
        refine lv_iload_n S.1 S.2.1 dX5_reaches_31 rfl (lv_at hl 1 rfl) ?_
        refine lv_iload_n S.1 S.2.1 dX5_reaches_32 rfl (lv_at hl 2 rfl) ?_
        refine cl_i (va_runV (As := [.int (nI (n)), .int (nI (b))]) (rest := []) S (c_X5_canReach l G a z o11 H.size (n) (b) (by omega) (by omega) (by exact iz)) (cwV 2 S.2.2.2.2 gX5_reaches_X5_canReach rfl rfl rfl hd_X5_canReach ⟨by rw [hR]; exact Nat.le_of_ble_eq_true rfl, by rw [hR]; exact Nat.le_of_ble_eq_true rfl⟩) ⟨PW.blind, va_recv hK.1 hw.1 (ci := 5) (q0 := 0) rfl rfl, fun U hU hW => ⟨rfl, PW.of hK hw hU hW⟩⟩ rfl rfl hl.1 rfl (lv_room (Nat.le_of_ble_eq_true rfl)) dX5_reaches_33 ⟨Nat.zero_le _, Nat.zero_le _⟩) hw hA (fun _ => rfl) (fun r13 z14 H locs h15 hw => ?_)
        obtain ⟨z16, o17⟩ := z14
        try dsimp only at h15 hw
        obtain ⟨rfl, qz16, qo17⟩ := h15
        rw [qz16] at hw
        rw [qo17] at hw
        refine brB_eq (b := cnn z (n) (b)) S (tgt := 43) dX5_reaches_36 (by decide) (fun c18 => ?_) (fun c18 => ?_)
        · skip
          refine lv_iconst (v := 0) S.1 S.2.1 dX5_reaches_43 (by decide) ?_
          exact en_z (v := (0)) ((z, o11) : St × St) hQ S hr hlk rfl hw (by have hp : pRe (nI (n)) (nI (b)) z = ((0), (0), z) := (by subst eo11; simp [pRe, endq, b2, on1, on2, hn, nd_n hn, tN_n hn, hb, nd_n hb, tN_n hb, c3, c8, c12, c18]); rw [hp]; exact ⟨rfl, rfl, ro11, to11⟩) dX5_reaches_44
        · skip
          refine lv_iconst (v := 1) S.1 S.2.1 dX5_reaches_39 (by decide) ?_
          refine lv_goto (tgt := 44) S.1 S.2.1 dX5_reaches_40 (by decide) ?_
          exact en_z (v := (1)) ((z, o11) : St × St) hQ S hr hlk rfl hw (by have hp : pRe (nI (n)) (nI (b)) z = ((0), (1), z) := (by subst eo11; simp [pRe, endq, b2, on1, on2, hn, nd_n hn, tN_n hn, hb, nd_n hb, tN_n hb, c3, c8, c12, c18]); rw [hp]; exact ⟨rfl, rfl, ro11, to11⟩) dX5_reaches_44

theorem hd_X5_viewRefusal : yX5_viewRefusal.cls = RX5 ∧ yX5_viewRefusal.cls ≠ "java/lang/invoke/MethodHandle" ∧ yX5_viewRefusal.cls ≠ "java/lang/invoke/VarHandle" ∧ (parseMethodDescriptor yX5_viewRefusal.desc).map (fun d => d.parameters.length) = some 2 := by decide +kernel
set_option maxHeartbeats 4000000 in
set_option maxRecDepth 100000 in
theorem c_X5_viewRefusal (l : Launch) (G : GA) (a : Nat → Nat) (z : St) (o : St) (sz : Nat) (v : Int32) (w : Int32) : Met l yX5_viewRefusal wsX5_viewRefusal ({ frames := 2, cells := 0, slots := 0, locals := 42 }) (va_Pc [.ref (a 0), .int (v), .int (w)] (PW G (mp G a z o) sz)) (va_Qi (fun (r : Int32) (u : St × St) => r = vr v w ∧ u.1 = z ∧ RT o u.2 ∧ u.2 0 0 = vr v w) (fun (u : St × St) t => va_P G.1 gcl (mp G a u.1 u.2) t.heap) (va_A (mp G a z o) sz)) 0 0 (va_A (mp G a z o) sz) := by
  refine met_st (cc := cX5_viewRefusal) (maxL := 3) (ret := (some .int)) (fun A => va_Qi (fun (r : Int32) (u : St × St) => r = vr v w ∧ u.1 = z ∧ RT o u.2 ∧ u.2 0 0 = vr v w) (fun (u : St × St) t => va_P G.1 gcl (mp G a u.1 u.2) t.heap) A) (by decide) rfl (Nat.le_of_ble_eq_true rfl) ?_
  intro p e s m args below meth c R Q A H ls hR hQ S hr hlk _ hK hsz hH hAe hA hw hl
  have hl : lv_has ls 3 [(0, .ref (a 0)), (1, .int (v)), (2, .int (w))] := hl
  have LX5 : ∀ w ∈ u_ws RX5 TX5 12, w.before args s = true := fun w h => S.2.2.2.2 w ((by decide +kernel : ∀ w ∈ u_ws RX5 TX5 12, w ∈ wsX5_viewRefusal) w h)
  have k1 : (Cond.fieldLink RX5 22 "GossipMembershipModel" "thrown" "I").before args s = true := S.2.2.2.2 _ (by decide +kernel : (Cond.fieldLink RX5 22 "GossipMembershipModel" "thrown" "I") ∈ wsX5_viewRefusal)
  refine lv_aload_n S.1 S.2.1 dX5_viewRefusal_0 rfl (lv_at hl 0 rfl) ?_
  refine lv_iload_n S.1 S.2.1 dX5_viewRefusal_1 rfl (lv_at hl 1 rfl) ?_
  refine vp_callSi (va_runS (As := [.int (v)]) (rest := [.ref (a 0)]) S (c_X5_isNode l (v) ) (va_cwS 1 S.2.2.2.2 gX5_viewRefusal_X5_isNode rfl rfl rfl hd_X5_isNode ⟨by rw [hR]; exact Nat.le_of_ble_eq_true rfl, by rw [hR]; exact Nat.le_of_ble_eq_true rfl⟩) ⟨blind_T, fun U hU hW => ⟨rfl, trivial⟩⟩ rfl rfl hl.1 rfl (lv_room (Nat.le_of_ble_eq_true rfl)) dX5_viewRefusal_2 ⟨Nat.zero_le _, Nat.zero_le _⟩).run (fun r1 h2 => ?_)
  subst h2
  refine brB_eq (b := nd ((v))) S (tgt := 15) dX5_viewRefusal_5 (by decide) (fun c3 => ?_) (fun c3 => ?_)
  · skip
    refine lv_iconst (v := 1) S.1 S.2.1 dX5_viewRefusal_15 (by decide) ?_
    refine lv_goto (tgt := 29) S.1 S.2.1 dX5_viewRefusal_16 (by decide) ?_
    refine pt_X5_0 (ws' := (mp G a z (st o 0 0 (1)))) S hK hw 0 rfl LX5 k1 rfl (Nat.le_of_ble_eq_true rfl) dX5_viewRefusal_29 (fun H locs hw => ?_)
    obtain ⟨o4, eo4⟩ : ∃ zz, zz = st o 0 0 (1) := ⟨_, rfl⟩
    have hw : WD G (mp G a z o4) A s H locs := by rw [eo4]; exact hw
    have ro4 : RT o o4 := by rw [eo4]; exact RT.put (RT.rf o) _
    have to4 : o4 0 0 = (1) := by rw [eo4]; exact st_s _ _ _ _
    refine lv_aload_n S.1 S.2.1 dX5_viewRefusal_32 rfl (lv_at hl 0 rfl) ?_
    refine gt_X5_0 (v := .int (o4 0 0)) S hK hw 0 rfl rfl LX5 k1 dX5_viewRefusal_33 ?_
    refine top_to (v := (1)) S to4 ?_
    exact en_i (v := ((1))) ((z, o4) : St × St) hQ S hr hlk hw (by first | (have hv9 : vr (nI n) (nI b) = (1) := (by simp [vr, c3]); rw [hv9]; exact ⟨rfl, rfl, ro4, to4⟩) | (have hv9 : vr (nI n) w = (1) := (by simp [vr, c3]); rw [hv9]; exact ⟨rfl, rfl, ro4, to4⟩) | (have hv9 : vr v w = (1) := (by simp [vr, c3]); rw [hv9]; exact ⟨rfl, rfl, ro4, to4⟩)) dX5_viewRefusal_36
  · skip
    obtain ⟨n, hn, en9⟩ := nd_of c3
    subst en9
    refine lv_iload_n S.1 S.2.1 dX5_viewRefusal_8 rfl (lv_at hl 2 rfl) ?_
    refine vp_callSi (va_runS (As := [.int (w)]) (rest := [.ref (a 0)]) S (c_X5_isNode l (w) ) (va_cwS 1 S.2.2.2.2 gX5_viewRefusal_X5_isNode rfl rfl rfl hd_X5_isNode ⟨by rw [hR]; exact Nat.le_of_ble_eq_true rfl, by rw [hR]; exact Nat.le_of_ble_eq_true rfl⟩) ⟨blind_T, fun U hU hW => ⟨rfl, trivial⟩⟩ rfl rfl hl.1 rfl (lv_room (Nat.le_of_ble_eq_true rfl)) dX5_viewRefusal_9 ⟨Nat.zero_le _, Nat.zero_le _⟩).run (fun r5 h6 => ?_)
    subst h6
    refine brB_ne (b := nd ((w))) S (tgt := 19) dX5_viewRefusal_12 (by decide) (fun c7 => ?_) (fun c7 => ?_)
    · skip
      obtain ⟨b, hb, eb9⟩ := nd_of c7
      subst eb9
      refine lv_iload_n S.1 S.2.1 dX5_viewRefusal_19 rfl (lv_at hl 1 rfl) ?_
      refine lv_iload_n S.1 S.2.1 dX5_viewRefusal_20 rfl (lv_at hl 2 rfl) ?_
      refine brN_ne (a := n) (b := b) S (by omega) (by omega) (tgt := 28) dX5_viewRefusal_21 (by decide) (fun c8 => ?_) (fun c8 => ?_)
      · skip
        refine lv_iconst (v := 0) S.1 S.2.1 dX5_viewRefusal_28 (by decide) ?_
        refine pt_X5_0 (ws' := (mp G a z (st o 0 0 (0)))) S hK hw 0 rfl LX5 k1 rfl (Nat.le_of_ble_eq_true rfl) dX5_viewRefusal_29 (fun H locs hw => ?_)
        obtain ⟨o9, eo9⟩ : ∃ zz, zz = st o 0 0 (0) := ⟨_, rfl⟩
        have hw : WD G (mp G a z o9) A s H locs := by rw [eo9]; exact hw
        have ro9 : RT o o9 := by rw [eo9]; exact RT.put (RT.rf o) _
        have to9 : o9 0 0 = (0) := by rw [eo9]; exact st_s _ _ _ _
        refine lv_aload_n S.1 S.2.1 dX5_viewRefusal_32 rfl (lv_at hl 0 rfl) ?_
        refine gt_X5_0 (v := .int (o9 0 0)) S hK hw 0 rfl rfl LX5 k1 dX5_viewRefusal_33 ?_
        refine top_to (v := (0)) S to9 ?_
        exact en_i (v := ((0))) ((z, o9) : St × St) hQ S hr hlk hw (by first | (have hv9 : vr (nI n) (nI b) = (0) := (by simp [vr, hn, nd_n hn, tN_n hn, hb, nd_n hb, tN_n hb, c3, c7, c8]); rw [hv9]; exact ⟨rfl, rfl, ro9, to9⟩) | (have hv9 : vr (nI n) w = (0) := (by simp [vr, hn, nd_n hn, tN_n hn, hb, nd_n hb, tN_n hb, c3, c7, c8]); rw [hv9]; exact ⟨rfl, rfl, ro9, to9⟩) | (have hv9 : vr v w = (0) := (by simp [vr, hn, nd_n hn, tN_n hn, hb, nd_n hb, tN_n hb, c3, c7, c8]); rw [hv9]; exact ⟨rfl, rfl, ro9, to9⟩)) dX5_viewRefusal_36
      · skip
        refine lv_iconst (v := 2) S.1 S.2.1 dX5_viewRefusal_24 (by decide) ?_
        refine lv_goto (tgt := 29) S.1 S.2.1 dX5_viewRefusal_25 (by decide) ?_
        refine pt_X5_0 (ws' := (mp G a z (st o 0 0 (2)))) S hK hw 0 rfl LX5 k1 rfl (Nat.le_of_ble_eq_true rfl) dX5_viewRefusal_29 (fun H locs hw => ?_)
        obtain ⟨o10, eo10⟩ : ∃ zz, zz = st o 0 0 (2) := ⟨_, rfl⟩
        have hw : WD G (mp G a z o10) A s H locs := by rw [eo10]; exact hw
        have ro10 : RT o o10 := by rw [eo10]; exact RT.put (RT.rf o) _
        have to10 : o10 0 0 = (2) := by rw [eo10]; exact st_s _ _ _ _
        refine lv_aload_n S.1 S.2.1 dX5_viewRefusal_32 rfl (lv_at hl 0 rfl) ?_
        refine gt_X5_0 (v := .int (o10 0 0)) S hK hw 0 rfl rfl LX5 k1 dX5_viewRefusal_33 ?_
        refine top_to (v := (2)) S to10 ?_
        exact en_i (v := ((2))) ((z, o10) : St × St) hQ S hr hlk hw (by first | (have hv9 : vr (nI n) (nI b) = (2) := (by simp [vr, hn, nd_n hn, tN_n hn, hb, nd_n hb, tN_n hb, c3, c7, c8]); rw [hv9]; exact ⟨rfl, rfl, ro10, to10⟩) | (have hv9 : vr (nI n) w = (2) := (by simp [vr, hn, nd_n hn, tN_n hn, hb, nd_n hb, tN_n hb, c3, c7, c8]); rw [hv9]; exact ⟨rfl, rfl, ro10, to10⟩) | (have hv9 : vr v w = (2) := (by simp [vr, hn, nd_n hn, tN_n hn, hb, nd_n hb, tN_n hb, c3, c7, c8]); rw [hv9]; exact ⟨rfl, rfl, ro10, to10⟩)) dX5_viewRefusal_36
    · skip
      refine lv_iconst (v := 1) S.1 S.2.1 dX5_viewRefusal_15 (by decide) ?_
      refine lv_goto (tgt := 29) S.1 S.2.1 dX5_viewRefusal_16 (by decide) ?_
      refine pt_X5_0 (ws' := (mp G a z (st o 0 0 (1)))) S hK hw 0 rfl LX5 k1 rfl (Nat.le_of_ble_eq_true rfl) dX5_viewRefusal_29 (fun H locs hw => ?_)
      obtain ⟨o11, eo11⟩ : ∃ zz, zz = st o 0 0 (1) := ⟨_, rfl⟩
      have hw : WD G (mp G a z o11) A s H locs := by rw [eo11]; exact hw
      have ro11 : RT o o11 := by rw [eo11]; exact RT.put (RT.rf o) _
      have to11 : o11 0 0 = (1) := by rw [eo11]; exact st_s _ _ _ _
      refine lv_aload_n S.1 S.2.1 dX5_viewRefusal_32 rfl (lv_at hl 0 rfl) ?_
      refine gt_X5_0 (v := .int (o11 0 0)) S hK hw 0 rfl rfl LX5 k1 dX5_viewRefusal_33 ?_
      refine top_to (v := (1)) S to11 ?_
      exact en_i (v := ((1))) ((z, o11) : St × St) hQ S hr hlk hw (by first | (have hv9 : vr (nI n) (nI b) = (1) := (by simp [vr, hn, nd_n hn, tN_n hn, c3, c7]); rw [hv9]; exact ⟨rfl, rfl, ro11, to11⟩) | (have hv9 : vr (nI n) w = (1) := (by simp [vr, hn, nd_n hn, tN_n hn, c3, c7]); rw [hv9]; exact ⟨rfl, rfl, ro11, to11⟩) | (have hv9 : vr v w = (1) := (by simp [vr, hn, nd_n hn, tN_n hn, c3, c7]); rw [hv9]; exact ⟨rfl, rfl, ro11, to11⟩)) dX5_viewRefusal_36

theorem hd_X5_view : yX5_view.cls = RX5 ∧ yX5_view.cls ≠ "java/lang/invoke/MethodHandle" ∧ yX5_view.cls ≠ "java/lang/invoke/VarHandle" ∧ (parseMethodDescriptor yX5_view.desc).map (fun d => d.parameters.length) = some 2 := by decide +kernel
set_option maxHeartbeats 4000000 in
set_option maxRecDepth 100000 in
theorem c_X5_view (l : Launch) (G : GA) (a : Nat → Nat) (z : St) (o : St) (sz : Nat) (v : Int32) (w : Int32) (iz : Inv z) : Met l yX5_view wsX5_view ({ frames := 3, cells := 0, slots := 0, locals := 64 }) (va_Pc [.ref (a 0), .int (v), .int (w)] (PW G (mp G a z o) sz)) (va_Qi (fun (r : Int32) (u : St × St) => r = (pV 5 v w z).2.1 ∧ u.1 = (pV 5 v w z).2.2 ∧ RT o u.2 ∧ u.2 0 0 = (pV 5 v w z).1) (fun (u : St × St) t => va_P G.1 gcl (mp G a u.1 u.2) t.heap) (va_A (mp G a z o) sz)) 0 0 (va_A (mp G a z o) sz) := by
  refine met_st (cc := cX5_view) (maxL := 3) (ret := (some .int)) (fun A => va_Qi (fun (r : Int32) (u : St × St) => r = (pV 5 v w z).2.1 ∧ u.1 = (pV 5 v w z).2.2 ∧ RT o u.2 ∧ u.2 0 0 = (pV 5 v w z).1) (fun (u : St × St) t => va_P G.1 gcl (mp G a u.1 u.2) t.heap) A) (by decide) rfl (Nat.le_of_ble_eq_true rfl) ?_
  intro p e s m args below meth c R Q A H ls hR hQ S hr hlk _ hK hsz hH hAe hA hw hl
  have hl : lv_has ls 3 [(0, .ref (a 0)), (1, .int (v)), (2, .int (w))] := hl
  have LX5 : ∀ w ∈ u_ws RX5 TX5 12, w.before args s = true := fun w h => S.2.2.2.2 w ((by decide +kernel : ∀ w ∈ u_ws RX5 TX5 12, w ∈ wsX5_view) w h)
  have k1 : (Cond.fieldLink RX5 7 "GossipMembershipModel" "s" "[I").before args s = true := S.2.2.2.2 _ (by decide +kernel : (Cond.fieldLink RX5 7 "GossipMembershipModel" "s" "[I") ∈ wsX5_view)
  refine lv_aload_n S.1 S.2.1 dX5_view_0 rfl (lv_at hl 0 rfl) ?_
  refine lv_iload_n S.1 S.2.1 dX5_view_1 rfl (lv_at hl 1 rfl) ?_
  refine lv_iload_n S.1 S.2.1 dX5_view_2 rfl (lv_at hl 2 rfl) ?_
  refine cl_i (va_runV (As := [.int (v), .int (w)]) (rest := []) S (c_X5_viewRefusal l G a z o H.size (v) (w) ) (cwV 2 S.2.2.2.2 gX5_view_X5_viewRefusal rfl rfl rfl hd_X5_viewRefusal ⟨by rw [hR]; exact Nat.le_of_ble_eq_true rfl, by rw [hR]; exact Nat.le_of_ble_eq_true rfl⟩) ⟨PW.blind, va_recv hK.1 hw.1 (ci := 5) (q0 := 0) rfl rfl, fun U hU hW => ⟨rfl, PW.of hK hw hU hW⟩⟩ rfl rfl hl.1 rfl (lv_room (Nat.le_of_ble_eq_true rfl)) dX5_view_3 ⟨Nat.zero_le _, Nat.zero_le _⟩) hw hA (fun _ => rfl) (fun r1 z2 H locs h3 hw => ?_)
  obtain ⟨z4, o5⟩ := z2
  try dsimp only at h3 hw
  obtain ⟨rfl, qz4, eo5, to5⟩ := h3
  rw [qz4] at hw
  refine lv_if_le (tgt := 13) S.1 S.2.1 dX5_view_6 (by decide) (fun c6 => ?_) (fun c6 => ?_)
  · skip
    obtain ⟨n, b, hn, hb, hnb, ev9, ew9, hvr⟩ := vr_yes c6
    subst ev9 ew9
    refine lv_aload_n S.1 S.2.1 dX5_view_13 rfl (lv_at hl 0 rfl) ?_
    refine gt_X5_1 (v := .ref (a 1)) S hK hw 0 rfl rfl LX5 k1 dX5_view_14 ?_
    refine lv_bipush (v := 42) S.1 S.2.1 dX5_view_17 (by decide) ?_
    refine lv_iload_n S.1 S.2.1 dX5_view_19 rfl (lv_at hl 1 rfl) ?_
    refine lv_iload_n S.1 S.2.1 dX5_view_20 rfl (lv_at hl 2 rfl) ?_
    refine pr_m (n := n) (b := b) S hl.1 gX5_view_X5_pair ⟨by rw [hR]; exact Nat.le_of_ble_eq_true rfl, by rw [hR]; exact Nat.le_of_ble_eq_true rfl⟩ (Nat.zero_le _) (Nat.zero_le _) (Nat.le_of_ble_eq_true rfl) dX5_view_21 ?_
    refine addN (a := 42) (b := 8 * n + b) S dX5_view_24 ?_
    refine ald_i (v := z 5 ((8 * n + b))) (k := 42 + (8 * n + b)) S hK hw 1 rfl (by omega) (by decide) (fl_5 z (by omega)) dX5_view_25 ?_
    exact en_i (v := (z 5 ((8 * n + b)))) ((z, o5) : St × St) hQ S hr hlk hw (by have hp : pV 5 (nI (n)) (nI (b)) z = (0, (z 5 ((8 * n + b))), z) := (by first | exact pV_no _ _ (by assumption) | (simp [pV, on2, hn, hb, nd_n hn, nd_n hb, tN_n hn, tN_n hb, hnb]; done)); rw [hp]; exact ⟨rfl, rfl, (RT.tr (RT.rf o) eo5), (to5.trans hvr)⟩) dX5_view_26
  · skip
    refine lv_iconst (v := 0) S.1 S.2.1 dX5_view_9 (by decide) ?_
    refine lv_goto (tgt := 26) S.1 S.2.1 dX5_view_10 (by decide) ?_
    exact en_i (v := (0)) ((z, o5) : St × St) hQ S hr hlk hw (by have hp : pV 5 (v) (w) z = (vr (v) (w), (0), z) := (by first | exact pV_no _ _ (by assumption) | (simp [pV, on2]; done)); rw [hp]; exact ⟨rfl, rfl, (RT.tr (RT.rf o) eo5), to5⟩) dX5_view_26

theorem hd_X5_viewIncarnation : yX5_viewIncarnation.cls = RX5 ∧ yX5_viewIncarnation.cls ≠ "java/lang/invoke/MethodHandle" ∧ yX5_viewIncarnation.cls ≠ "java/lang/invoke/VarHandle" ∧ (parseMethodDescriptor yX5_viewIncarnation.desc).map (fun d => d.parameters.length) = some 2 := by decide +kernel
set_option maxHeartbeats 4000000 in
set_option maxRecDepth 100000 in
theorem c_X5_viewIncarnation (l : Launch) (G : GA) (a : Nat → Nat) (z : St) (o : St) (sz : Nat) (v : Int32) (w : Int32) (iz : Inv z) : Met l yX5_viewIncarnation wsX5_viewIncarnation ({ frames := 3, cells := 0, slots := 0, locals := 64 }) (va_Pc [.ref (a 0), .int (v), .int (w)] (PW G (mp G a z o) sz)) (va_Qi (fun (r : Int32) (u : St × St) => r = (pV 6 v w z).2.1 ∧ u.1 = (pV 6 v w z).2.2 ∧ RT o u.2 ∧ u.2 0 0 = (pV 6 v w z).1) (fun (u : St × St) t => va_P G.1 gcl (mp G a u.1 u.2) t.heap) (va_A (mp G a z o) sz)) 0 0 (va_A (mp G a z o) sz) := by
  refine met_st (cc := cX5_viewIncarnation) (maxL := 3) (ret := (some .int)) (fun A => va_Qi (fun (r : Int32) (u : St × St) => r = (pV 6 v w z).2.1 ∧ u.1 = (pV 6 v w z).2.2 ∧ RT o u.2 ∧ u.2 0 0 = (pV 6 v w z).1) (fun (u : St × St) t => va_P G.1 gcl (mp G a u.1 u.2) t.heap) A) (by decide) rfl (Nat.le_of_ble_eq_true rfl) ?_
  intro p e s m args below meth c R Q A H ls hR hQ S hr hlk _ hK hsz hH hAe hA hw hl
  have hl : lv_has ls 3 [(0, .ref (a 0)), (1, .int (v)), (2, .int (w))] := hl
  have LX5 : ∀ w ∈ u_ws RX5 TX5 12, w.before args s = true := fun w h => S.2.2.2.2 w ((by decide +kernel : ∀ w ∈ u_ws RX5 TX5 12, w ∈ wsX5_viewIncarnation) w h)
  have k1 : (Cond.fieldLink RX5 7 "GossipMembershipModel" "s" "[I").before args s = true := S.2.2.2.2 _ (by decide +kernel : (Cond.fieldLink RX5 7 "GossipMembershipModel" "s" "[I") ∈ wsX5_viewIncarnation)
  refine lv_aload_n S.1 S.2.1 dX5_viewIncarnation_0 rfl (lv_at hl 0 rfl) ?_
  refine lv_iload_n S.1 S.2.1 dX5_viewIncarnation_1 rfl (lv_at hl 1 rfl) ?_
  refine lv_iload_n S.1 S.2.1 dX5_viewIncarnation_2 rfl (lv_at hl 2 rfl) ?_
  refine cl_i (va_runV (As := [.int (v), .int (w)]) (rest := []) S (c_X5_viewRefusal l G a z o H.size (v) (w) ) (cwV 2 S.2.2.2.2 gX5_viewIncarnation_X5_viewRefusal rfl rfl rfl hd_X5_viewRefusal ⟨by rw [hR]; exact Nat.le_of_ble_eq_true rfl, by rw [hR]; exact Nat.le_of_ble_eq_true rfl⟩) ⟨PW.blind, va_recv hK.1 hw.1 (ci := 5) (q0 := 0) rfl rfl, fun U hU hW => ⟨rfl, PW.of hK hw hU hW⟩⟩ rfl rfl hl.1 rfl (lv_room (Nat.le_of_ble_eq_true rfl)) dX5_viewIncarnation_3 ⟨Nat.zero_le _, Nat.zero_le _⟩) hw hA (fun _ => rfl) (fun r1 z2 H locs h3 hw => ?_)
  obtain ⟨z4, o5⟩ := z2
  try dsimp only at h3 hw
  obtain ⟨rfl, qz4, eo5, to5⟩ := h3
  rw [qz4] at hw
  refine lv_if_le (tgt := 13) S.1 S.2.1 dX5_viewIncarnation_6 (by decide) (fun c6 => ?_) (fun c6 => ?_)
  · skip
    obtain ⟨n, b, hn, hb, hnb, ev9, ew9, hvr⟩ := vr_yes c6
    subst ev9 ew9
    refine lv_aload_n S.1 S.2.1 dX5_viewIncarnation_13 rfl (lv_at hl 0 rfl) ?_
    refine gt_X5_1 (v := .ref (a 1)) S hK hw 0 rfl rfl LX5 k1 dX5_viewIncarnation_14 ?_
    refine lv_bipush (v := 106) S.1 S.2.1 dX5_viewIncarnation_17 (by decide) ?_
    refine lv_iload_n S.1 S.2.1 dX5_viewIncarnation_19 rfl (lv_at hl 1 rfl) ?_
    refine lv_iload_n S.1 S.2.1 dX5_viewIncarnation_20 rfl (lv_at hl 2 rfl) ?_
    refine pr_m (n := n) (b := b) S hl.1 gX5_viewIncarnation_X5_pair ⟨by rw [hR]; exact Nat.le_of_ble_eq_true rfl, by rw [hR]; exact Nat.le_of_ble_eq_true rfl⟩ (Nat.zero_le _) (Nat.zero_le _) (Nat.le_of_ble_eq_true rfl) dX5_viewIncarnation_21 ?_
    refine addN (a := 106) (b := 8 * n + b) S dX5_viewIncarnation_24 ?_
    refine ald_i (v := z 6 ((8 * n + b))) (k := 106 + (8 * n + b)) S hK hw 1 rfl (by omega) (by decide) (fl_6 z (by omega)) dX5_viewIncarnation_25 ?_
    exact en_i (v := (z 6 ((8 * n + b)))) ((z, o5) : St × St) hQ S hr hlk hw (by have hp : pV 6 (nI (n)) (nI (b)) z = (0, (z 6 ((8 * n + b))), z) := (by first | exact pV_no _ _ (by assumption) | (simp [pV, on2, hn, hb, nd_n hn, nd_n hb, tN_n hn, tN_n hb, hnb]; done)); rw [hp]; exact ⟨rfl, rfl, (RT.tr (RT.rf o) eo5), (to5.trans hvr)⟩) dX5_viewIncarnation_26
  · skip
    refine lv_iconst (v := 0) S.1 S.2.1 dX5_viewIncarnation_9 (by decide) ?_
    refine lv_goto (tgt := 26) S.1 S.2.1 dX5_viewIncarnation_10 (by decide) ?_
    exact en_i (v := (0)) ((z, o5) : St × St) hQ S hr hlk hw (by have hp : pV 6 (v) (w) z = (vr (v) (w), (0), z) := (by first | exact pV_no _ _ (by assumption) | (simp [pV, on2]; done)); rw [hp]; exact ⟨rfl, rfl, (RT.tr (RT.rf o) eo5), to5⟩) dX5_viewIncarnation_26

theorem hd_X5_deadline : yX5_deadline.cls = RX5 ∧ yX5_deadline.cls ≠ "java/lang/invoke/MethodHandle" ∧ yX5_deadline.cls ≠ "java/lang/invoke/VarHandle" ∧ (parseMethodDescriptor yX5_deadline.desc).map (fun d => d.parameters.length) = some 2 := by decide +kernel
set_option maxHeartbeats 4000000 in
set_option maxRecDepth 100000 in
theorem c_X5_deadline (l : Launch) (G : GA) (a : Nat → Nat) (z : St) (o : St) (sz : Nat) (v : Int32) (w : Int32) (iz : Inv z) : Met l yX5_deadline wsX5_deadline ({ frames := 3, cells := 0, slots := 0, locals := 64 }) (va_Pc [.ref (a 0), .int (v), .int (w)] (PW G (mp G a z o) sz)) (va_Qi (fun (r : Int32) (u : St × St) => r = (pD v w z).2.1 ∧ u.1 = (pD v w z).2.2 ∧ RT o u.2 ∧ u.2 0 0 = (pD v w z).1) (fun (u : St × St) t => va_P G.1 gcl (mp G a u.1 u.2) t.heap) (va_A (mp G a z o) sz)) 0 0 (va_A (mp G a z o) sz) := by
  refine met_st (cc := cX5_deadline) (maxL := 3) (ret := (some .int)) (fun A => va_Qi (fun (r : Int32) (u : St × St) => r = (pD v w z).2.1 ∧ u.1 = (pD v w z).2.2 ∧ RT o u.2 ∧ u.2 0 0 = (pD v w z).1) (fun (u : St × St) t => va_P G.1 gcl (mp G a u.1 u.2) t.heap) A) (by decide) rfl (Nat.le_of_ble_eq_true rfl) ?_
  intro p e s m args below meth c R Q A H ls hR hQ S hr hlk _ hK hsz hH hAe hA hw hl
  have hl : lv_has ls 3 [(0, .ref (a 0)), (1, .int (v)), (2, .int (w))] := hl
  have LX5 : ∀ w ∈ u_ws RX5 TX5 12, w.before args s = true := fun w h => S.2.2.2.2 w ((by decide +kernel : ∀ w ∈ u_ws RX5 TX5 12, w ∈ wsX5_deadline) w h)
  have k1 : (Cond.fieldLink RX5 7 "GossipMembershipModel" "s" "[I").before args s = true := S.2.2.2.2 _ (by decide +kernel : (Cond.fieldLink RX5 7 "GossipMembershipModel" "s" "[I") ∈ wsX5_deadline)
  refine lv_aload_n S.1 S.2.1 dX5_deadline_0 rfl (lv_at hl 0 rfl) ?_
  refine lv_iload_n S.1 S.2.1 dX5_deadline_1 rfl (lv_at hl 1 rfl) ?_
  refine lv_iload_n S.1 S.2.1 dX5_deadline_2 rfl (lv_at hl 2 rfl) ?_
  refine cl_i (va_runV (As := [.int (v), .int (w)]) (rest := []) S (c_X5_viewRefusal l G a z o H.size (v) (w) ) (cwV 2 S.2.2.2.2 gX5_deadline_X5_viewRefusal rfl rfl rfl hd_X5_viewRefusal ⟨by rw [hR]; exact Nat.le_of_ble_eq_true rfl, by rw [hR]; exact Nat.le_of_ble_eq_true rfl⟩) ⟨PW.blind, va_recv hK.1 hw.1 (ci := 5) (q0 := 0) rfl rfl, fun U hU hW => ⟨rfl, PW.of hK hw hU hW⟩⟩ rfl rfl hl.1 rfl (lv_room (Nat.le_of_ble_eq_true rfl)) dX5_deadline_3 ⟨Nat.zero_le _, Nat.zero_le _⟩) hw hA (fun _ => rfl) (fun r1 z2 H locs h3 hw => ?_)
  obtain ⟨z4, o5⟩ := z2
  try dsimp only at h3 hw
  obtain ⟨rfl, qz4, eo5, to5⟩ := h3
  rw [qz4] at hw
  refine lv_if_le (tgt := 11) S.1 S.2.1 dX5_deadline_6 (by decide) (fun c6 => ?_) (fun c6 => ?_)
  · skip
    obtain ⟨n, b, hn, hb, hnb, ev9, ew9, hvr⟩ := vr_yes c6
    subst ev9 ew9
    refine lv_aload_n S.1 S.2.1 dX5_deadline_11 rfl (lv_at hl 0 rfl) ?_
    refine gt_X5_1 (v := .ref (a 1)) S hK hw 0 rfl rfl LX5 k1 dX5_deadline_12 ?_
    refine lv_bipush (v := 42) S.1 S.2.1 dX5_deadline_15 (by decide) ?_
    refine lv_iload_n S.1 S.2.1 dX5_deadline_17 rfl (lv_at hl 1 rfl) ?_
    refine lv_iload_n S.1 S.2.1 dX5_deadline_18 rfl (lv_at hl 2 rfl) ?_
    refine pr_m (n := n) (b := b) S hl.1 gX5_deadline_X5_pair ⟨by rw [hR]; exact Nat.le_of_ble_eq_true rfl, by rw [hR]; exact Nat.le_of_ble_eq_true rfl⟩ (Nat.zero_le _) (Nat.zero_le _) (Nat.le_of_ble_eq_true rfl) dX5_deadline_19 ?_
    refine addN (a := 42) (b := 8 * n + b) S dX5_deadline_22 ?_
    refine ald_i (v := z 5 ((8 * n + b))) (k := 42 + (8 * n + b)) S hK hw 1 rfl (by omega) (by decide) (fl_5 z (by omega)) dX5_deadline_23 ?_
    refine lv_iconst (v := 2) S.1 S.2.1 dX5_deadline_24 (by decide) ?_
    refine lv_icmp_ne (tgt := 45) S.1 S.2.1 dX5_deadline_25 (by decide) (fun c7 => ?_) (fun c7 => ?_)
    · skip
      refine lv_aload_n S.1 S.2.1 dX5_deadline_45 rfl (lv_at hl 0 rfl) ?_
      refine lv_iconst (v := 3) S.1 S.2.1 dX5_deadline_46 (by decide) ?_
      refine cl_i (va_runV (As := [.int 3]) (rest := []) S (c_X5_fails l G a z o5 H.size (3) ) (cwV 1 S.2.2.2.2 gX5_deadline_X5_fails rfl rfl rfl hd_X5_fails ⟨by rw [hR]; exact Nat.le_of_ble_eq_true rfl, by rw [hR]; exact Nat.le_of_ble_eq_true rfl⟩) ⟨PW.blind, va_recv hK.1 hw.1 (ci := 5) (q0 := 0) rfl rfl, fun U hU hW => ⟨rfl, PW.of hK hw hU hW⟩⟩ rfl rfl hl.1 rfl (lv_room (Nat.le_of_ble_eq_true rfl)) dX5_deadline_47 ⟨Nat.zero_le _, Nat.zero_le _⟩) hw hA (fun _ => rfl) (fun r8 z9 H locs h10 hw => ?_)
      obtain ⟨z11, o12⟩ := z9
      try dsimp only at h10 hw
      obtain ⟨rfl, qz11, eo12, to12⟩ := h10
      rw [qz11] at hw
      exact en_i (v := (0)) ((z, o12) : St × St) hQ S hr hlk hw (by have hp : pD (nI (n)) (nI (b)) z = ((3), (0), z) := (by first | exact pD_no _ (by assumption) | (simp [pD, on2, hn, hb, nd_n hn, nd_n hb, tN_n hn, tN_n hb, hnb, c6, c7]; done)); rw [hp]; exact ⟨rfl, rfl, (RT.tr (RT.tr (RT.rf o) eo5) eo12), to12⟩) dX5_deadline_50
    · skip
      refine lv_aload_n S.1 S.2.1 dX5_deadline_28 rfl (lv_at hl 0 rfl) ?_
      refine gt_X5_1 (v := .ref (a 1)) S hK hw 0 rfl rfl LX5 k1 dX5_deadline_29 ?_
      refine lv_sipush (v := 170) S.1 S.2.1 dX5_deadline_32 (by decide) ?_
      refine lv_iload_n S.1 S.2.1 dX5_deadline_35 rfl (lv_at hl 1 rfl) ?_
      refine lv_iload_n S.1 S.2.1 dX5_deadline_36 rfl (lv_at hl 2 rfl) ?_
      refine pr_m (n := n) (b := b) S hl.1 gX5_deadline_X5_pair ⟨by rw [hR]; exact Nat.le_of_ble_eq_true rfl, by rw [hR]; exact Nat.le_of_ble_eq_true rfl⟩ (Nat.zero_le _) (Nat.zero_le _) (Nat.le_of_ble_eq_true rfl) dX5_deadline_37 ?_
      refine addN (a := 170) (b := 8 * n + b) S dX5_deadline_40 ?_
      refine ald_i (v := z 7 ((8 * n + b))) (k := 170 + (8 * n + b)) S hK hw 1 rfl (by omega) (by decide) (fl_7 z (by omega)) dX5_deadline_41 ?_
      refine lv_goto (tgt := 50) S.1 S.2.1 dX5_deadline_42 (by decide) ?_
      exact en_i (v := (z 7 ((8 * n + b)))) ((z, o5) : St × St) hQ S hr hlk hw (by have hp : pD (nI (n)) (nI (b)) z = (0, (z 7 ((8 * n + b))), z) := (by first | exact pD_no _ (by assumption) | (simp [pD, on2, hn, hb, nd_n hn, nd_n hb, tN_n hn, tN_n hb, hnb, c6, c7]; done)); rw [hp]; exact ⟨rfl, rfl, (RT.tr (RT.rf o) eo5), (to5.trans hvr)⟩) dX5_deadline_50
  · skip
    refine lv_iconst (v := 0) S.1 S.2.1 dX5_deadline_9 (by decide) ?_
    exact en_i (v := (0)) ((z, o5) : St × St) hQ S hr hlk hw (by have hp : pD (v) (w) z = (vr (v) (w), (0), z) := (by first | exact pD_no _ (by assumption) | (simp [pD, on2, c6]; done)); rw [hp]; exact ⟨rfl, rfl, (RT.tr (RT.rf o) eo5), to5⟩) dX5_deadline_10

theorem hd_X5_counter : yX5_counter.cls = RX5 ∧ yX5_counter.cls ≠ "java/lang/invoke/MethodHandle" ∧ yX5_counter.cls ≠ "java/lang/invoke/VarHandle" ∧ (parseMethodDescriptor yX5_counter.desc).map (fun d => d.parameters.length) = some 2 := by decide +kernel
set_option maxHeartbeats 4000000 in
set_option maxRecDepth 100000 in
theorem c_X5_counter (l : Launch) (G : GA) (a : Nat → Nat) (z : St) (o : St) (sz : Nat) (v : Int32) (w : Int32) (iz : Inv z) : Met l yX5_counter wsX5_counter ({ frames := 2, cells := 0, slots := 0, locals := 42 }) (va_Pc [.ref (a 0), .int (v), .int (w)] (PW G (mp G a z o) sz)) (va_Qi (fun (r : Int32) (u : St × St) => r = (pCt v w z).2.1 ∧ u.1 = (pCt v w z).2.2 ∧ RT o u.2 ∧ u.2 0 0 = (pCt v w z).1) (fun (u : St × St) t => va_P G.1 gcl (mp G a u.1 u.2) t.heap) (va_A (mp G a z o) sz)) 0 0 (va_A (mp G a z o) sz) := by
  refine met_st (cc := cX5_counter) (maxL := 3) (ret := (some .int)) (fun A => va_Qi (fun (r : Int32) (u : St × St) => r = (pCt v w z).2.1 ∧ u.1 = (pCt v w z).2.2 ∧ RT o u.2 ∧ u.2 0 0 = (pCt v w z).1) (fun (u : St × St) t => va_P G.1 gcl (mp G a u.1 u.2) t.heap) A) (by decide) rfl (Nat.le_of_ble_eq_true rfl) ?_
  intro p e s m args below meth c R Q A H ls hR hQ S hr hlk _ hK hsz hH hAe hA hw hl
  have hl : lv_has ls 3 [(0, .ref (a 0)), (1, .int (v)), (2, .int (w))] := hl
  have LX5 : ∀ w ∈ u_ws RX5 TX5 12, w.before args s = true := fun w h => S.2.2.2.2 w ((by decide +kernel : ∀ w ∈ u_ws RX5 TX5 12, w ∈ wsX5_counter) w h)
  have k1 : (Cond.fieldLink RX5 22 "GossipMembershipModel" "thrown" "I").before args s = true := S.2.2.2.2 _ (by decide +kernel : (Cond.fieldLink RX5 22 "GossipMembershipModel" "thrown" "I") ∈ wsX5_counter)
  have k2 : (Cond.fieldLink RX5 7 "GossipMembershipModel" "s" "[I").before args s = true := S.2.2.2.2 _ (by decide +kernel : (Cond.fieldLink RX5 7 "GossipMembershipModel" "s" "[I") ∈ wsX5_counter)
  refine lv_aload_n S.1 S.2.1 dX5_counter_0 rfl (lv_at hl 0 rfl) ?_
  refine lv_iconst (v := 0) S.1 S.2.1 dX5_counter_1 (by decide) ?_
  refine pt_X5_0 (ws' := (mp G a z (st o 0 0 (0)))) S hK hw 0 rfl LX5 k1 rfl (Nat.le_of_ble_eq_true rfl) dX5_counter_2 (fun H locs hw => ?_)
  obtain ⟨o1, eo1⟩ : ∃ zz, zz = st o 0 0 (0) := ⟨_, rfl⟩
  have hw : WD G (mp G a z o1) A s H locs := by rw [eo1]; exact hw
  have ro1 : RT o o1 := by rw [eo1]; exact RT.put (RT.rf o) _
  have to1 : o1 0 0 = (0) := by rw [eo1]; exact st_s _ _ _ _
  refine lv_iload_n S.1 S.2.1 dX5_counter_5 rfl (lv_at hl 1 rfl) ?_
  refine vp_callSi (va_runS (As := [.int (v)]) (rest := []) S (c_X5_isNode l (v) ) (va_cwS 1 S.2.2.2.2 gX5_counter_X5_isNode rfl rfl rfl hd_X5_isNode ⟨by rw [hR]; exact Nat.le_of_ble_eq_true rfl, by rw [hR]; exact Nat.le_of_ble_eq_true rfl⟩) ⟨blind_T, fun U hU hW => ⟨rfl, trivial⟩⟩ rfl rfl hl.1 rfl (lv_room (Nat.le_of_ble_eq_true rfl)) dX5_counter_6 ⟨Nat.zero_le _, Nat.zero_le _⟩).run (fun r2 h3 => ?_)
  subst h3
  refine brB_eq (b := nd ((v))) S (tgt := 36) dX5_counter_9 (by decide) (fun c4 => ?_) (fun c4 => ?_)
  · skip
    refine lv_aload_n S.1 S.2.1 dX5_counter_36 rfl (lv_at hl 0 rfl) ?_
    refine lv_iconst (v := 1) S.1 S.2.1 dX5_counter_37 (by decide) ?_
    refine cl_i (va_runV (As := [.int 1]) (rest := []) S (c_X5_fails l G a z o1 H.size (1) ) (cwV 1 S.2.2.2.2 gX5_counter_X5_fails rfl rfl rfl hd_X5_fails ⟨by rw [hR]; exact Nat.le_of_ble_eq_true rfl, by rw [hR]; exact Nat.le_of_ble_eq_true rfl⟩) ⟨PW.blind, va_recv hK.1 hw.1 (ci := 5) (q0 := 0) rfl rfl, fun U hU hW => ⟨rfl, PW.of hK hw hU hW⟩⟩ rfl rfl hl.1 rfl (lv_room (Nat.le_of_ble_eq_true rfl)) dX5_counter_38 ⟨Nat.zero_le _, Nat.zero_le _⟩) hw hA (fun _ => rfl) (fun r5 z6 H locs h7 hw => ?_)
    obtain ⟨z8, o9⟩ := z6
    try dsimp only at h7 hw
    obtain ⟨rfl, qz8, eo9, to9⟩ := h7
    rw [qz8] at hw
    exact en_i (v := (0)) ((z, o9) : St × St) hQ S hr hlk hw (by have hp : pCt (v) (w) z = ((1), (0), z) := (by subst eo1; simp [pCt, endq, b2, on1, on2, c4]); rw [hp]; exact ⟨rfl, rfl, (RT.tr ro1 eo9), to9⟩) dX5_counter_41
  · skip
    obtain ⟨n, hn, en9⟩ := nd_of c4
    subst en9
    refine lv_iload_n S.1 S.2.1 dX5_counter_12 rfl (lv_at hl 2 rfl) ?_
    refine vp_callSi (va_runS (As := [.int (w)]) (rest := []) S (c_X5_isNode l (w) ) (va_cwS 1 S.2.2.2.2 gX5_counter_X5_isNode rfl rfl rfl hd_X5_isNode ⟨by rw [hR]; exact Nat.le_of_ble_eq_true rfl, by rw [hR]; exact Nat.le_of_ble_eq_true rfl⟩) ⟨blind_T, fun U hU hW => ⟨rfl, trivial⟩⟩ rfl rfl hl.1 rfl (lv_room (Nat.le_of_ble_eq_true rfl)) dX5_counter_13 ⟨Nat.zero_le _, Nat.zero_le _⟩).run (fun r10 h11 => ?_)
    subst h11
    refine brB_eq (b := nd ((w))) S (tgt := 36) dX5_counter_16 (by decide) (fun c12 => ?_) (fun c12 => ?_)
    · skip
      refine lv_aload_n S.1 S.2.1 dX5_counter_36 rfl (lv_at hl 0 rfl) ?_
      refine lv_iconst (v := 1) S.1 S.2.1 dX5_counter_37 (by decide) ?_
      refine cl_i (va_runV (As := [.int 1]) (rest := []) S (c_X5_fails l G a z o1 H.size (1) ) (cwV 1 S.2.2.2.2 gX5_counter_X5_fails rfl rfl rfl hd_X5_fails ⟨by rw [hR]; exact Nat.le_of_ble_eq_true rfl, by rw [hR]; exact Nat.le_of_ble_eq_true rfl⟩) ⟨PW.blind, va_recv hK.1 hw.1 (ci := 5) (q0 := 0) rfl rfl, fun U hU hW => ⟨rfl, PW.of hK hw hU hW⟩⟩ rfl rfl hl.1 rfl (lv_room (Nat.le_of_ble_eq_true rfl)) dX5_counter_38 ⟨Nat.zero_le _, Nat.zero_le _⟩) hw hA (fun _ => rfl) (fun r13 z14 H locs h15 hw => ?_)
      obtain ⟨z16, o17⟩ := z14
      try dsimp only at h15 hw
      obtain ⟨rfl, qz16, eo17, to17⟩ := h15
      rw [qz16] at hw
      exact en_i (v := (0)) ((z, o17) : St × St) hQ S hr hlk hw (by have hp : pCt (nI (n)) (w) z = ((1), (0), z) := (by subst eo1; simp [pCt, endq, b2, on1, on2, hn, nd_n hn, tN_n hn, c4, c12]); rw [hp]; exact ⟨rfl, rfl, (RT.tr ro1 eo17), to17⟩) dX5_counter_41
    · skip
      obtain ⟨b, hb, eb9⟩ := nd_of c12
      subst eb9
      refine lv_aload_n S.1 S.2.1 dX5_counter_19 rfl (lv_at hl 0 rfl) ?_
      refine gt_X5_1 (v := .ref (a 1)) S hK hw 0 rfl rfl LX5 k2 dX5_counter_20 ?_
      refine lv_sipush (v := 234) S.1 S.2.1 dX5_counter_23 (by decide) ?_
      refine lv_iload_n S.1 S.2.1 dX5_counter_26 rfl (lv_at hl 1 rfl) ?_
      refine lv_iload_n S.1 S.2.1 dX5_counter_27 rfl (lv_at hl 2 rfl) ?_
      refine pr_m (n := n) (b := b) S hl.1 gX5_counter_X5_pair ⟨by rw [hR]; exact Nat.le_of_ble_eq_true rfl, by rw [hR]; exact Nat.le_of_ble_eq_true rfl⟩ (Nat.zero_le _) (Nat.zero_le _) (Nat.le_of_ble_eq_true rfl) dX5_counter_28 ?_
      refine addN (a := 234) (b := 8 * n + b) S dX5_counter_31 ?_
      refine ald_i (v := z 8 ((8 * n + b))) (k := 234 + (8 * n + b)) S hK hw 1 rfl (by omega) (by decide) (fl_8 z (by omega)) dX5_counter_32 ?_
      refine lv_goto (tgt := 41) S.1 S.2.1 dX5_counter_33 (by decide) ?_
      exact en_i (v := (z 8 ((8 * n + b)))) ((z, o1) : St × St) hQ S hr hlk hw (by have hp : pCt (nI (n)) (nI (b)) z = ((0), (z 8 ((8 * n + b))), z) := (by subst eo1; simp [pCt, endq, b2, on1, on2, hn, nd_n hn, tN_n hn, hb, nd_n hb, tN_n hb, c4, c12]); rw [hp]; exact ⟨rfl, rfl, ro1, to1⟩) dX5_counter_41

theorem hd_X5_alive : yX5_alive.cls = RX5 ∧ yX5_alive.cls ≠ "java/lang/invoke/MethodHandle" ∧ yX5_alive.cls ≠ "java/lang/invoke/VarHandle" ∧ (parseMethodDescriptor yX5_alive.desc).map (fun d => d.parameters.length) = some 1 := by decide +kernel
set_option maxHeartbeats 4000000 in
set_option maxRecDepth 100000 in
theorem c_X5_alive (l : Launch) (G : GA) (a : Nat → Nat) (z : St) (o : St) (sz : Nat) (v : Int32) (iz : Inv z) : Met l yX5_alive wsX5_alive ({ frames := 2, cells := 0, slots := 0, locals := 47 }) (va_Pc [.ref (a 0), .int (v)] (PW G (mp G a z o) sz)) (va_Qi (fun (r : Int32) (u : St × St) => r = (pAl v z).2.1 ∧ u.1 = (pAl v z).2.2 ∧ RT o u.2 ∧ u.2 0 0 = (pAl v z).1) (fun (u : St × St) t => va_P G.1 gcl (mp G a u.1 u.2) t.heap) (va_A (mp G a z o) sz)) 0 0 (va_A (mp G a z o) sz) := by
  refine met_st (cc := cX5_alive) (maxL := 2) (ret := (some .int)) (fun A => va_Qi (fun (r : Int32) (u : St × St) => r = (pAl v z).2.1 ∧ u.1 = (pAl v z).2.2 ∧ RT o u.2 ∧ u.2 0 0 = (pAl v z).1) (fun (u : St × St) t => va_P G.1 gcl (mp G a u.1 u.2) t.heap) A) (by decide) rfl (Nat.le_of_ble_eq_true rfl) ?_
  intro p e s m args below meth c R Q A H ls hR hQ S hr hlk _ hK hsz hH hAe hA hw hl
  have hl : lv_has ls 2 [(0, .ref (a 0)), (1, .int (v))] := hl
  have LX5 : ∀ w ∈ u_ws RX5 TX5 12, w.before args s = true := fun w h => S.2.2.2.2 w ((by decide +kernel : ∀ w ∈ u_ws RX5 TX5 12, w ∈ wsX5_alive) w h)
  have k1 : (Cond.fieldLink RX5 22 "GossipMembershipModel" "thrown" "I").before args s = true := S.2.2.2.2 _ (by decide +kernel : (Cond.fieldLink RX5 22 "GossipMembershipModel" "thrown" "I") ∈ wsX5_alive)
  refine lv_aload_n S.1 S.2.1 dX5_alive_0 rfl (lv_at hl 0 rfl) ?_
  refine lv_iconst (v := 0) S.1 S.2.1 dX5_alive_1 (by decide) ?_
  refine pt_X5_0 (ws' := (mp G a z (st o 0 0 (0)))) S hK hw 0 rfl LX5 k1 rfl (Nat.le_of_ble_eq_true rfl) dX5_alive_2 (fun H locs hw => ?_)
  obtain ⟨o1, eo1⟩ : ∃ zz, zz = st o 0 0 (0) := ⟨_, rfl⟩
  have hw : WD G (mp G a z o1) A s H locs := by rw [eo1]; exact hw
  have ro1 : RT o o1 := by rw [eo1]; exact RT.put (RT.rf o) _
  have to1 : o1 0 0 = (0) := by rw [eo1]; exact st_s _ _ _ _
  refine lv_iload_n S.1 S.2.1 dX5_alive_5 rfl (lv_at hl 1 rfl) ?_
  refine vp_callSi (va_runS (As := [.int (v)]) (rest := []) S (c_X5_isNode l (v) ) (va_cwS 1 S.2.2.2.2 gX5_alive_X5_isNode rfl rfl rfl hd_X5_isNode ⟨by rw [hR]; exact Nat.le_of_ble_eq_true rfl, by rw [hR]; exact Nat.le_of_ble_eq_true rfl⟩) ⟨blind_T, fun U hU hW => ⟨rfl, trivial⟩⟩ rfl rfl hl.1 rfl (lv_room (Nat.le_of_ble_eq_true rfl)) dX5_alive_6 ⟨Nat.zero_le _, Nat.zero_le _⟩).run (fun r2 h3 => ?_)
  subst h3
  refine brB_eq (b := nd ((v))) S (tgt := 22) dX5_alive_9 (by decide) (fun c4 => ?_) (fun c4 => ?_)
  · skip
    refine lv_aload_n S.1 S.2.1 dX5_alive_22 rfl (lv_at hl 0 rfl) ?_
    refine lv_iconst (v := 1) S.1 S.2.1 dX5_alive_23 (by decide) ?_
    refine cl_i (va_runV (As := [.int 1]) (rest := []) S (c_X5_fails l G a z o1 H.size (1) ) (cwV 1 S.2.2.2.2 gX5_alive_X5_fails rfl rfl rfl hd_X5_fails ⟨by rw [hR]; exact Nat.le_of_ble_eq_true rfl, by rw [hR]; exact Nat.le_of_ble_eq_true rfl⟩) ⟨PW.blind, va_recv hK.1 hw.1 (ci := 5) (q0 := 0) rfl rfl, fun U hU hW => ⟨rfl, PW.of hK hw hU hW⟩⟩ rfl rfl hl.1 rfl (lv_room (Nat.le_of_ble_eq_true rfl)) dX5_alive_24 ⟨Nat.zero_le _, Nat.zero_le _⟩) hw hA (fun _ => rfl) (fun r5 z6 H locs h7 hw => ?_)
    obtain ⟨z8, o9⟩ := z6
    try dsimp only at h7 hw
    obtain ⟨rfl, qz8, eo9, to9⟩ := h7
    rw [qz8] at hw
    exact en_i (v := (0)) ((z, o9) : St × St) hQ S hr hlk hw (by have hp : pAl (v) z = ((1), (0), z) := (by first | (rw [mk_ext 8 (fun j _ => vwd_1 iz hn j)]; simp [pAl, on1, c4]; done) | (simp [pAl, on1, c4]; done)); rw [hp]; exact ⟨rfl, rfl, (RT.tr ro1 eo9), to9⟩) dX5_alive_27
  · skip
    obtain ⟨n, hn, en9⟩ := nd_of c4
    subst en9
    refine lv_aload_n S.1 S.2.1 dX5_alive_12 rfl (lv_at hl 0 rfl) ?_
    refine lv_iload_n S.1 S.2.1 dX5_alive_13 rfl (lv_at hl 1 rfl) ?_
    refine lv_iconst (v := 1) S.1 S.2.1 dX5_alive_14 (by decide) ?_
    refine lv_iconst (v := 1) S.1 S.2.1 dX5_alive_15 (by decide) ?_
    refine cl_i (va_runV (As := [.int (nI (n)), .int 1, .int 1]) (rest := []) S (c_X5_viewed l G a z o1 H.size (n) (1) (1) (by omega)) (cwV 3 S.2.2.2.2 gX5_alive_X5_viewed rfl rfl rfl hd_X5_viewed ⟨by rw [hR]; exact Nat.le_of_ble_eq_true rfl, by rw [hR]; exact Nat.le_of_ble_eq_true rfl⟩) ⟨PW.blind, va_recv hK.1 hw.1 (ci := 5) (q0 := 0) rfl rfl, fun U hU hW => ⟨rfl, PW.of hK hw hU hW⟩⟩ rfl rfl hl.1 rfl (lv_room (Nat.le_of_ble_eq_true rfl)) dX5_alive_16 ⟨Nat.zero_le _, Nat.zero_le _⟩) hw hA (fun _ => rfl) (fun r10 z11 H locs h12 hw => ?_)
    obtain ⟨z13, o14⟩ := z11
    try dsimp only at h12 hw
    obtain ⟨rfl, qz13, qo14⟩ := h12
    rw [qz13] at hw
    rw [qo14] at hw
    refine lv_goto (tgt := 27) S.1 S.2.1 dX5_alive_19 (by decide) ?_
    exact en_i (v := (nI (mk (vwd z (n) (1) (1)) 8))) ((z, o1) : St × St) hQ S hr hlk hw (by have hp : pAl (nI (n)) z = ((0), (nI (mk (vwd z (n) (1) (1)) 8)), z) := (by first | (rw [mk_ext 8 (fun j _ => vwd_1 iz hn j)]; simp [pAl, on1, hn, nd_n hn, tN_n hn, c4]; done) | (simp [pAl, on1, hn, nd_n hn, tN_n hn, c4]; done)); rw [hp]; exact ⟨rfl, rfl, ro1, to1⟩) dX5_alive_27

theorem hd_X5_cut : yX5_cut.cls = RX5 ∧ yX5_cut.cls ≠ "java/lang/invoke/MethodHandle" ∧ yX5_cut.cls ≠ "java/lang/invoke/VarHandle" ∧ (parseMethodDescriptor yX5_cut.desc).map (fun d => d.parameters.length) = some 3 := by decide +kernel
set_option maxHeartbeats 4000000 in
set_option maxRecDepth 100000 in
theorem c_X5_cut (l : Launch) (G : GA) (a : Nat → Nat) (z : St) (o : St) (sz : Nat) (v : Int32) (w : Int32) (on : Bool) (iz : Inv z) : Met l yX5_cut wsX5_cut ({ frames := 2, cells := 0, slots := 0, locals := 42 }) (va_Pc [.ref (a 0), .int (v), .int (w), .int (b2 (on))] (PW G (mp G a z o) sz)) (va_Qi (fun (r : Int32) (u : St × St) => r = (pK v w on z).2.1 ∧ u.1 = (pK v w on z).2.2 ∧ RT o u.2 ∧ u.2 0 0 = (pK v w on z).1) (fun (u : St × St) t => va_P G.1 gcl (mp G a u.1 u.2) t.heap) (va_A (mp G a z o) sz)) 0 0 (va_A (mp G a z o) sz) := by
  refine met_st (cc := cX5_cut) (maxL := 5) (ret := (some .boolean)) (fun A => va_Qi (fun (r : Int32) (u : St × St) => r = (pK v w on z).2.1 ∧ u.1 = (pK v w on z).2.2 ∧ RT o u.2 ∧ u.2 0 0 = (pK v w on z).1) (fun (u : St × St) t => va_P G.1 gcl (mp G a u.1 u.2) t.heap) A) (by decide) rfl (Nat.le_of_ble_eq_true rfl) ?_
  intro p e s m args below meth c R Q A H ls hR hQ S hr hlk _ hK hsz hH hAe hA hw hl
  have hl : lv_has ls 5 [(0, .ref (a 0)), (1, .int (v)), (2, .int (w)), (3, .int (b2 (on)))] := hl
  have LX5 : ∀ w ∈ u_ws RX5 TX5 12, w.before args s = true := fun w h => S.2.2.2.2 w ((by decide +kernel : ∀ w ∈ u_ws RX5 TX5 12, w ∈ wsX5_cut) w h)
  have k1 : (Cond.fieldLink RX5 22 "GossipMembershipModel" "thrown" "I").before args s = true := S.2.2.2.2 _ (by decide +kernel : (Cond.fieldLink RX5 22 "GossipMembershipModel" "thrown" "I") ∈ wsX5_cut)
  have k2 : (Cond.fieldLink RX5 7 "GossipMembershipModel" "s" "[I").before args s = true := S.2.2.2.2 _ (by decide +kernel : (Cond.fieldLink RX5 7 "GossipMembershipModel" "s" "[I") ∈ wsX5_cut)
  refine lv_aload_n S.1 S.2.1 dX5_cut_0 rfl (lv_at hl 0 rfl) ?_
  refine lv_iload_n S.1 S.2.1 dX5_cut_1 rfl (lv_at hl 1 rfl) ?_
  refine vp_callSi (va_runS (As := [.int (v)]) (rest := [.ref (a 0)]) S (c_X5_isNode l (v) ) (va_cwS 1 S.2.2.2.2 gX5_cut_X5_isNode rfl rfl rfl hd_X5_isNode ⟨by rw [hR]; exact Nat.le_of_ble_eq_true rfl, by rw [hR]; exact Nat.le_of_ble_eq_true rfl⟩) ⟨blind_T, fun U hU hW => ⟨rfl, trivial⟩⟩ rfl rfl hl.1 rfl (lv_room (Nat.le_of_ble_eq_true rfl)) dX5_cut_2 ⟨Nat.zero_le _, Nat.zero_le _⟩).run (fun r1 h2 => ?_)
  subst h2
  refine brB_eq (b := nd ((v))) S (tgt := 15) dX5_cut_5 (by decide) (fun c3 => ?_) (fun c3 => ?_)
  · skip
    refine lv_iconst (v := 1) S.1 S.2.1 dX5_cut_15 (by decide) ?_
    refine lv_goto (tgt := 29) S.1 S.2.1 dX5_cut_16 (by decide) ?_
    refine pt_X5_0 (ws' := (mp G a z (st o 0 0 (1)))) S hK hw 0 rfl LX5 k1 rfl (Nat.le_of_ble_eq_true rfl) dX5_cut_29 (fun H locs hw => ?_)
    obtain ⟨o4, eo4⟩ : ∃ zz, zz = st o 0 0 (1) := ⟨_, rfl⟩
    have hw : WD G (mp G a z o4) A s H locs := by rw [eo4]; exact hw
    have ro4 : RT o o4 := by rw [eo4]; exact RT.put (RT.rf o) _
    have to4 : o4 0 0 = (1) := by rw [eo4]; exact st_s _ _ _ _
    refine lv_aload_n S.1 S.2.1 dX5_cut_32 rfl (lv_at hl 0 rfl) ?_
    refine gt_X5_0 (v := .int (o4 0 0)) S hK hw 0 rfl rfl LX5 k1 dX5_cut_33 ?_
    refine top_to (v := (1)) S to4 ?_
    refine lv_if_le (tgt := 41) S.1 S.2.1 dX5_cut_36 (by decide) (fun c5 => ?_) (fun c5 => ?_)
    · skip
      exact absurd c5 (by decide)
    · skip
      refine lv_iconst (v := 0) S.1 S.2.1 dX5_cut_39 (by decide) ?_
      exact en_z (v := (0)) ((z, o4) : St × St) hQ S hr hlk rfl hw (by have hp : pK (v) (w) on z = ((1), (0), z) := (by subst eo4; simp [pK, endq, sct, b2, on2, c3, c5]); rw [hp]; exact ⟨rfl, rfl, ro4, to4⟩) dX5_cut_40
  · skip
    obtain ⟨n, hn, en9⟩ := nd_of c3
    subst en9
    refine lv_iload_n S.1 S.2.1 dX5_cut_8 rfl (lv_at hl 2 rfl) ?_
    refine vp_callSi (va_runS (As := [.int (w)]) (rest := [.ref (a 0)]) S (c_X5_isNode l (w) ) (va_cwS 1 S.2.2.2.2 gX5_cut_X5_isNode rfl rfl rfl hd_X5_isNode ⟨by rw [hR]; exact Nat.le_of_ble_eq_true rfl, by rw [hR]; exact Nat.le_of_ble_eq_true rfl⟩) ⟨blind_T, fun U hU hW => ⟨rfl, trivial⟩⟩ rfl rfl hl.1 rfl (lv_room (Nat.le_of_ble_eq_true rfl)) dX5_cut_9 ⟨Nat.zero_le _, Nat.zero_le _⟩).run (fun r6 h7 => ?_)
    subst h7
    refine brB_ne (b := nd ((w))) S (tgt := 19) dX5_cut_12 (by decide) (fun c8 => ?_) (fun c8 => ?_)
    · skip
      obtain ⟨b, hb, eb9⟩ := nd_of c8
      subst eb9
      refine lv_iload_n S.1 S.2.1 dX5_cut_19 rfl (lv_at hl 1 rfl) ?_
      refine lv_iload_n S.1 S.2.1 dX5_cut_20 rfl (lv_at hl 2 rfl) ?_
      refine brN_ne (a := n) (b := b) S (by omega) (by omega) (tgt := 28) dX5_cut_21 (by decide) (fun c9 => ?_) (fun c9 => ?_)
      · skip
        refine lv_iconst (v := 0) S.1 S.2.1 dX5_cut_28 (by decide) ?_
        refine pt_X5_0 (ws' := (mp G a z (st o 0 0 (0)))) S hK hw 0 rfl LX5 k1 rfl (Nat.le_of_ble_eq_true rfl) dX5_cut_29 (fun H locs hw => ?_)
        obtain ⟨o10, eo10⟩ : ∃ zz, zz = st o 0 0 (0) := ⟨_, rfl⟩
        have hw : WD G (mp G a z o10) A s H locs := by rw [eo10]; exact hw
        have ro10 : RT o o10 := by rw [eo10]; exact RT.put (RT.rf o) _
        have to10 : o10 0 0 = (0) := by rw [eo10]; exact st_s _ _ _ _
        refine lv_aload_n S.1 S.2.1 dX5_cut_32 rfl (lv_at hl 0 rfl) ?_
        refine gt_X5_0 (v := .int (o10 0 0)) S hK hw 0 rfl rfl LX5 k1 dX5_cut_33 ?_
        refine top_to (v := (0)) S to10 ?_
        refine lv_if_le (tgt := 41) S.1 S.2.1 dX5_cut_36 (by decide) (fun c11 => ?_) (fun c11 => ?_)
        · skip
          refine lv_aload_n S.1 S.2.1 dX5_cut_41 rfl (lv_at hl 0 rfl) ?_
          refine gt_X5_1 (v := .ref (a 1)) S hK hw 0 rfl rfl LX5 k2 dX5_cut_42 ?_
          refine lv_sipush (v := 298) S.1 S.2.1 dX5_cut_45 (by decide) ?_
          refine lv_iload_n S.1 S.2.1 dX5_cut_48 rfl (lv_at hl 1 rfl) ?_
          refine lv_iload_n S.1 S.2.1 dX5_cut_49 rfl (lv_at hl 2 rfl) ?_
          refine pr_m (n := n) (b := b) S hl.1 gX5_cut_X5_pair ⟨by rw [hR]; exact Nat.le_of_ble_eq_true rfl, by rw [hR]; exact Nat.le_of_ble_eq_true rfl⟩ (Nat.zero_le _) (Nat.zero_le _) (Nat.le_of_ble_eq_true rfl) dX5_cut_50 ?_
          refine addN (a := 298) (b := 8 * n + b) S dX5_cut_53 ?_
          refine ald_i (v := z 9 ((8 * n + b))) (k := 298 + (8 * n + b)) S hK hw 1 rfl (by omega) (by decide) (fl_9 z _) dX5_cut_54 ?_
          refine lv_iconst (v := 1) S.1 S.2.1 dX5_cut_55 (by decide) ?_
          refine lv_icmp_ne (tgt := 63) S.1 S.2.1 dX5_cut_56 (by decide) (fun c12 => ?_) (fun c12 => ?_)
          · skip
            refine lv_iconst (v := 0) S.1 S.2.1 dX5_cut_63 (by decide) ?_
            refine lv_istore (lv' := [(4, .int 0), (0, .ref (a 0)), (1, .int (nI (n))), (2, .int (nI (b))), (3, .int (b2 (on)))]) S.1 S.2.1 dX5_cut_64 hl (by decide) rfl (fun ls hl => ?_)
            refine lv_aload_n S.1 S.2.1 dX5_cut_66 rfl (lv_at hl 1 rfl) ?_
            refine gt_X5_1 (v := .ref (a 1)) S hK hw 0 rfl rfl LX5 k2 dX5_cut_67 ?_
            refine lv_sipush (v := 298) S.1 S.2.1 dX5_cut_70 (by decide) ?_
            refine lv_iload_n S.1 S.2.1 dX5_cut_73 rfl (lv_at hl 2 rfl) ?_
            refine lv_iload_n S.1 S.2.1 dX5_cut_74 rfl (lv_at hl 3 rfl) ?_
            refine pr_m (n := n) (b := b) S hl.1 gX5_cut_X5_pair ⟨by rw [hR]; exact Nat.le_of_ble_eq_true rfl, by rw [hR]; exact Nat.le_of_ble_eq_true rfl⟩ (Nat.zero_le _) (Nat.zero_le _) (Nat.le_of_ble_eq_true rfl) dX5_cut_75 ?_
            refine addN (a := 298) (b := 8 * n + b) S dX5_cut_78 ?_
            refine lv_iload_n S.1 S.2.1 dX5_cut_79 rfl (lv_at hl 4 rfl) ?_
            refine brB_eq (b := on) S (tgt := 87) dX5_cut_80 (by decide) (fun c13 => ?_) (fun c13 => ?_)
            · skip
              refine lv_iconst (v := 0) S.1 S.2.1 dX5_cut_87 (by decide) ?_
              refine ast_i (ws' := (mp G a (st z 9 ((8 * n + b)) (0)) o10)) (k := 298 + (8 * n + b)) S hK hw 1 rfl (by omega) (by decide) (mp_set (fu_9 z (by omega) _)) dX5_cut_88 (fun H locs hw => ?_)
              obtain ⟨z14, ez14⟩ : ∃ zz, zz = st z 9 ((8 * n + b)) (0) := ⟨_, rfl⟩
              have hw : WD G (mp G a z14 o10) A s H locs := by rw [ez14]; exact hw
              refine lv_aload_n S.1 S.2.1 dX5_cut_89 rfl (lv_at hl 1 rfl) ?_
              refine gt_X5_1 (v := .ref (a 1)) S hK hw 0 rfl rfl LX5 k2 dX5_cut_90 ?_
              refine lv_sipush (v := 298) S.1 S.2.1 dX5_cut_93 (by decide) ?_
              refine lv_iload_n S.1 S.2.1 dX5_cut_96 rfl (lv_at hl 3 rfl) ?_
              refine lv_iload_n S.1 S.2.1 dX5_cut_97 rfl (lv_at hl 2 rfl) ?_
              refine pr_m (n := b) (b := n) S hl.1 gX5_cut_X5_pair ⟨by rw [hR]; exact Nat.le_of_ble_eq_true rfl, by rw [hR]; exact Nat.le_of_ble_eq_true rfl⟩ (Nat.zero_le _) (Nat.zero_le _) (Nat.le_of_ble_eq_true rfl) dX5_cut_98 ?_
              refine addN (a := 298) (b := 8 * b + n) S dX5_cut_101 ?_
              refine lv_iload_n S.1 S.2.1 dX5_cut_102 rfl (lv_at hl 4 rfl) ?_
              refine brB_eq (b := on) S (tgt := 110) dX5_cut_103 (by decide) (fun c15 => ?_) (fun c15 => ?_)
              · skip
                refine lv_iconst (v := 0) S.1 S.2.1 dX5_cut_110 (by decide) ?_
                refine ast_i (ws' := (mp G a (st z14 9 ((8 * b + n)) (0)) o10)) (k := 298 + (8 * b + n)) S hK hw 1 rfl (by omega) (by decide) (mp_set (fu_9 z14 (by omega) _)) dX5_cut_111 (fun H locs hw => ?_)
                obtain ⟨z16, ez16⟩ : ∃ zz, zz = st z14 9 ((8 * b + n)) (0) := ⟨_, rfl⟩
                have hw : WD G (mp G a z16 o10) A s H locs := by rw [ez16]; exact hw
                refine lv_aload_n S.1 S.2.1 dX5_cut_112 rfl (lv_at hl 1 rfl) ?_
                refine gt_X5_1 (v := .ref (a 1)) S hK hw 0 rfl rfl LX5 k2 dX5_cut_113 ?_
                refine lv_bipush (v := 9) S.1 S.2.1 dX5_cut_116 (by decide) ?_
                refine lv_aload_n S.1 S.2.1 dX5_cut_118 rfl (lv_at hl 1 rfl) ?_
                refine gt_X5_1 (v := .ref (a 1)) S hK hw 0 rfl rfl LX5 k2 dX5_cut_119 ?_
                refine lv_iconst (v := 0) S.1 S.2.1 dX5_cut_122 (by decide) ?_
                refine ald_i (v := z16 0 (0)) (k := 0) S hK hw 1 rfl (by omega) (by decide) (fl_0 z16 (by omega)) dX5_cut_123 ?_
                refine ast_i (ws' := (mp G a (st z16 0 (9) (z16 0 (0))) o10)) (k := 9) S hK hw 1 rfl (by omega) (by decide) (mp_set (fu_0 z16 (by omega) _)) dX5_cut_124 (fun H locs hw => ?_)
                obtain ⟨z17, ez17⟩ : ∃ zz, zz = st z16 0 (9) (z16 0 (0)) := ⟨_, rfl⟩
                have hw : WD G (mp G a z17 o10) A s H locs := by rw [ez17]; exact hw
                refine lv_iload S.1 S.2.1 dX5_cut_125 (lv_at hl 0 rfl) ?_
                exact en_z (v := (0)) ((z17, o10) : St × St) hQ S hr hlk rfl hw (by have hp : pK (nI (n)) (nI (b)) on z = ((0), (0), z17) := (by subst ez17 ez16 ez14 eo10; simp [pK, endq, sct, b2, on2, hn, nd_n hn, tN_n hn, hb, nd_n hb, tN_n hb, c3, c8, c9, c11, c12, c13, c15]); rw [hp]; exact ⟨rfl, rfl, ro10, to10⟩) dX5_cut_127
              · skip
                exact absurd (c13.symm.trans c15) (by decide)
            · skip
              refine lv_iconst (v := 1) S.1 S.2.1 dX5_cut_83 (by decide) ?_
              refine lv_goto (tgt := 88) S.1 S.2.1 dX5_cut_84 (by decide) ?_
              refine ast_i (ws' := (mp G a (st z 9 ((8 * n + b)) (1)) o10)) (k := 298 + (8 * n + b)) S hK hw 1 rfl (by omega) (by decide) (mp_set (fu_9 z (by omega) _)) dX5_cut_88 (fun H locs hw => ?_)
              obtain ⟨z18, ez18⟩ : ∃ zz, zz = st z 9 ((8 * n + b)) (1) := ⟨_, rfl⟩
              have hw : WD G (mp G a z18 o10) A s H locs := by rw [ez18]; exact hw
              refine lv_aload_n S.1 S.2.1 dX5_cut_89 rfl (lv_at hl 1 rfl) ?_
              refine gt_X5_1 (v := .ref (a 1)) S hK hw 0 rfl rfl LX5 k2 dX5_cut_90 ?_
              refine lv_sipush (v := 298) S.1 S.2.1 dX5_cut_93 (by decide) ?_
              refine lv_iload_n S.1 S.2.1 dX5_cut_96 rfl (lv_at hl 3 rfl) ?_
              refine lv_iload_n S.1 S.2.1 dX5_cut_97 rfl (lv_at hl 2 rfl) ?_
              refine pr_m (n := b) (b := n) S hl.1 gX5_cut_X5_pair ⟨by rw [hR]; exact Nat.le_of_ble_eq_true rfl, by rw [hR]; exact Nat.le_of_ble_eq_true rfl⟩ (Nat.zero_le _) (Nat.zero_le _) (Nat.le_of_ble_eq_true rfl) dX5_cut_98 ?_
              refine addN (a := 298) (b := 8 * b + n) S dX5_cut_101 ?_
              refine lv_iload_n S.1 S.2.1 dX5_cut_102 rfl (lv_at hl 4 rfl) ?_
              refine brB_eq (b := on) S (tgt := 110) dX5_cut_103 (by decide) (fun c19 => ?_) (fun c19 => ?_)
              · skip
                exact absurd (c13.symm.trans c19) (by decide)
              · skip
                refine lv_iconst (v := 1) S.1 S.2.1 dX5_cut_106 (by decide) ?_
                refine lv_goto (tgt := 111) S.1 S.2.1 dX5_cut_107 (by decide) ?_
                refine ast_i (ws' := (mp G a (st z18 9 ((8 * b + n)) (1)) o10)) (k := 298 + (8 * b + n)) S hK hw 1 rfl (by omega) (by decide) (mp_set (fu_9 z18 (by omega) _)) dX5_cut_111 (fun H locs hw => ?_)
                obtain ⟨z20, ez20⟩ : ∃ zz, zz = st z18 9 ((8 * b + n)) (1) := ⟨_, rfl⟩
                have hw : WD G (mp G a z20 o10) A s H locs := by rw [ez20]; exact hw
                refine lv_aload_n S.1 S.2.1 dX5_cut_112 rfl (lv_at hl 1 rfl) ?_
                refine gt_X5_1 (v := .ref (a 1)) S hK hw 0 rfl rfl LX5 k2 dX5_cut_113 ?_
                refine lv_bipush (v := 9) S.1 S.2.1 dX5_cut_116 (by decide) ?_
                refine lv_aload_n S.1 S.2.1 dX5_cut_118 rfl (lv_at hl 1 rfl) ?_
                refine gt_X5_1 (v := .ref (a 1)) S hK hw 0 rfl rfl LX5 k2 dX5_cut_119 ?_
                refine lv_iconst (v := 0) S.1 S.2.1 dX5_cut_122 (by decide) ?_
                refine ald_i (v := z20 0 (0)) (k := 0) S hK hw 1 rfl (by omega) (by decide) (fl_0 z20 (by omega)) dX5_cut_123 ?_
                refine ast_i (ws' := (mp G a (st z20 0 (9) (z20 0 (0))) o10)) (k := 9) S hK hw 1 rfl (by omega) (by decide) (mp_set (fu_0 z20 (by omega) _)) dX5_cut_124 (fun H locs hw => ?_)
                obtain ⟨z21, ez21⟩ : ∃ zz, zz = st z20 0 (9) (z20 0 (0)) := ⟨_, rfl⟩
                have hw : WD G (mp G a z21 o10) A s H locs := by rw [ez21]; exact hw
                refine lv_iload S.1 S.2.1 dX5_cut_125 (lv_at hl 0 rfl) ?_
                exact en_z (v := (0)) ((z21, o10) : St × St) hQ S hr hlk rfl hw (by have hp : pK (nI (n)) (nI (b)) on z = ((0), (0), z21) := (by subst ez21 ez20 ez18 eo10; simp [pK, endq, sct, b2, on2, hn, nd_n hn, tN_n hn, hb, nd_n hb, tN_n hb, c3, c8, c9, c11, c12, c13, c19]); rw [hp]; exact ⟨rfl, rfl, ro10, to10⟩) dX5_cut_127
          · skip
            refine lv_iconst (v := 1) S.1 S.2.1 dX5_cut_59 (by decide) ?_
            refine lv_goto (tgt := 64) S.1 S.2.1 dX5_cut_60 (by decide) ?_
            refine lv_istore (lv' := [(4, .int 1), (0, .ref (a 0)), (1, .int (nI (n))), (2, .int (nI (b))), (3, .int (b2 (on)))]) S.1 S.2.1 dX5_cut_64 hl (by decide) rfl (fun ls hl => ?_)
            refine lv_aload_n S.1 S.2.1 dX5_cut_66 rfl (lv_at hl 1 rfl) ?_
            refine gt_X5_1 (v := .ref (a 1)) S hK hw 0 rfl rfl LX5 k2 dX5_cut_67 ?_
            refine lv_sipush (v := 298) S.1 S.2.1 dX5_cut_70 (by decide) ?_
            refine lv_iload_n S.1 S.2.1 dX5_cut_73 rfl (lv_at hl 2 rfl) ?_
            refine lv_iload_n S.1 S.2.1 dX5_cut_74 rfl (lv_at hl 3 rfl) ?_
            refine pr_m (n := n) (b := b) S hl.1 gX5_cut_X5_pair ⟨by rw [hR]; exact Nat.le_of_ble_eq_true rfl, by rw [hR]; exact Nat.le_of_ble_eq_true rfl⟩ (Nat.zero_le _) (Nat.zero_le _) (Nat.le_of_ble_eq_true rfl) dX5_cut_75 ?_
            refine addN (a := 298) (b := 8 * n + b) S dX5_cut_78 ?_
            refine lv_iload_n S.1 S.2.1 dX5_cut_79 rfl (lv_at hl 4 rfl) ?_
            refine brB_eq (b := on) S (tgt := 87) dX5_cut_80 (by decide) (fun c22 => ?_) (fun c22 => ?_)
            · skip
              refine lv_iconst (v := 0) S.1 S.2.1 dX5_cut_87 (by decide) ?_
              refine ast_i (ws' := (mp G a (st z 9 ((8 * n + b)) (0)) o10)) (k := 298 + (8 * n + b)) S hK hw 1 rfl (by omega) (by decide) (mp_set (fu_9 z (by omega) _)) dX5_cut_88 (fun H locs hw => ?_)
              obtain ⟨z23, ez23⟩ : ∃ zz, zz = st z 9 ((8 * n + b)) (0) := ⟨_, rfl⟩
              have hw : WD G (mp G a z23 o10) A s H locs := by rw [ez23]; exact hw
              refine lv_aload_n S.1 S.2.1 dX5_cut_89 rfl (lv_at hl 1 rfl) ?_
              refine gt_X5_1 (v := .ref (a 1)) S hK hw 0 rfl rfl LX5 k2 dX5_cut_90 ?_
              refine lv_sipush (v := 298) S.1 S.2.1 dX5_cut_93 (by decide) ?_
              refine lv_iload_n S.1 S.2.1 dX5_cut_96 rfl (lv_at hl 3 rfl) ?_
              refine lv_iload_n S.1 S.2.1 dX5_cut_97 rfl (lv_at hl 2 rfl) ?_
              refine pr_m (n := b) (b := n) S hl.1 gX5_cut_X5_pair ⟨by rw [hR]; exact Nat.le_of_ble_eq_true rfl, by rw [hR]; exact Nat.le_of_ble_eq_true rfl⟩ (Nat.zero_le _) (Nat.zero_le _) (Nat.le_of_ble_eq_true rfl) dX5_cut_98 ?_
              refine addN (a := 298) (b := 8 * b + n) S dX5_cut_101 ?_
              refine lv_iload_n S.1 S.2.1 dX5_cut_102 rfl (lv_at hl 4 rfl) ?_
              refine brB_eq (b := on) S (tgt := 110) dX5_cut_103 (by decide) (fun c24 => ?_) (fun c24 => ?_)
              · skip
                refine lv_iconst (v := 0) S.1 S.2.1 dX5_cut_110 (by decide) ?_
                refine ast_i (ws' := (mp G a (st z23 9 ((8 * b + n)) (0)) o10)) (k := 298 + (8 * b + n)) S hK hw 1 rfl (by omega) (by decide) (mp_set (fu_9 z23 (by omega) _)) dX5_cut_111 (fun H locs hw => ?_)
                obtain ⟨z25, ez25⟩ : ∃ zz, zz = st z23 9 ((8 * b + n)) (0) := ⟨_, rfl⟩
                have hw : WD G (mp G a z25 o10) A s H locs := by rw [ez25]; exact hw
                refine lv_aload_n S.1 S.2.1 dX5_cut_112 rfl (lv_at hl 1 rfl) ?_
                refine gt_X5_1 (v := .ref (a 1)) S hK hw 0 rfl rfl LX5 k2 dX5_cut_113 ?_
                refine lv_bipush (v := 9) S.1 S.2.1 dX5_cut_116 (by decide) ?_
                refine lv_aload_n S.1 S.2.1 dX5_cut_118 rfl (lv_at hl 1 rfl) ?_
                refine gt_X5_1 (v := .ref (a 1)) S hK hw 0 rfl rfl LX5 k2 dX5_cut_119 ?_
                refine lv_iconst (v := 0) S.1 S.2.1 dX5_cut_122 (by decide) ?_
                refine ald_i (v := z25 0 (0)) (k := 0) S hK hw 1 rfl (by omega) (by decide) (fl_0 z25 (by omega)) dX5_cut_123 ?_
                refine ast_i (ws' := (mp G a (st z25 0 (9) (z25 0 (0))) o10)) (k := 9) S hK hw 1 rfl (by omega) (by decide) (mp_set (fu_0 z25 (by omega) _)) dX5_cut_124 (fun H locs hw => ?_)
                obtain ⟨z26, ez26⟩ : ∃ zz, zz = st z25 0 (9) (z25 0 (0)) := ⟨_, rfl⟩
                have hw : WD G (mp G a z26 o10) A s H locs := by rw [ez26]; exact hw
                refine lv_iload S.1 S.2.1 dX5_cut_125 (lv_at hl 0 rfl) ?_
                exact en_z (v := (1)) ((z26, o10) : St × St) hQ S hr hlk rfl hw (by have hp : pK (nI (n)) (nI (b)) on z = ((0), (1), z26) := (by subst ez26 ez25 ez23 eo10; simp [pK, endq, sct, b2, on2, hn, nd_n hn, tN_n hn, hb, nd_n hb, tN_n hb, c3, c8, c9, c11, c12, c22, c24]); rw [hp]; exact ⟨rfl, rfl, ro10, to10⟩) dX5_cut_127
              · skip
                exact absurd (c22.symm.trans c24) (by decide)
            · skip
              refine lv_iconst (v := 1) S.1 S.2.1 dX5_cut_83 (by decide) ?_
              refine lv_goto (tgt := 88) S.1 S.2.1 dX5_cut_84 (by decide) ?_
              refine ast_i (ws' := (mp G a (st z 9 ((8 * n + b)) (1)) o10)) (k := 298 + (8 * n + b)) S hK hw 1 rfl (by omega) (by decide) (mp_set (fu_9 z (by omega) _)) dX5_cut_88 (fun H locs hw => ?_)
              obtain ⟨z27, ez27⟩ : ∃ zz, zz = st z 9 ((8 * n + b)) (1) := ⟨_, rfl⟩
              have hw : WD G (mp G a z27 o10) A s H locs := by rw [ez27]; exact hw
              refine lv_aload_n S.1 S.2.1 dX5_cut_89 rfl (lv_at hl 1 rfl) ?_
              refine gt_X5_1 (v := .ref (a 1)) S hK hw 0 rfl rfl LX5 k2 dX5_cut_90 ?_
              refine lv_sipush (v := 298) S.1 S.2.1 dX5_cut_93 (by decide) ?_
              refine lv_iload_n S.1 S.2.1 dX5_cut_96 rfl (lv_at hl 3 rfl) ?_
              refine lv_iload_n S.1 S.2.1 dX5_cut_97 rfl (lv_at hl 2 rfl) ?_
              refine pr_m (n := b) (b := n) S hl.1 gX5_cut_X5_pair ⟨by rw [hR]; exact Nat.le_of_ble_eq_true rfl, by rw [hR]; exact Nat.le_of_ble_eq_true rfl⟩ (Nat.zero_le _) (Nat.zero_le _) (Nat.le_of_ble_eq_true rfl) dX5_cut_98 ?_
              refine addN (a := 298) (b := 8 * b + n) S dX5_cut_101 ?_
              refine lv_iload_n S.1 S.2.1 dX5_cut_102 rfl (lv_at hl 4 rfl) ?_
              refine brB_eq (b := on) S (tgt := 110) dX5_cut_103 (by decide) (fun c28 => ?_) (fun c28 => ?_)
              · skip
                exact absurd (c22.symm.trans c28) (by decide)
              · skip
                refine lv_iconst (v := 1) S.1 S.2.1 dX5_cut_106 (by decide) ?_
                refine lv_goto (tgt := 111) S.1 S.2.1 dX5_cut_107 (by decide) ?_
                refine ast_i (ws' := (mp G a (st z27 9 ((8 * b + n)) (1)) o10)) (k := 298 + (8 * b + n)) S hK hw 1 rfl (by omega) (by decide) (mp_set (fu_9 z27 (by omega) _)) dX5_cut_111 (fun H locs hw => ?_)
                obtain ⟨z29, ez29⟩ : ∃ zz, zz = st z27 9 ((8 * b + n)) (1) := ⟨_, rfl⟩
                have hw : WD G (mp G a z29 o10) A s H locs := by rw [ez29]; exact hw
                refine lv_aload_n S.1 S.2.1 dX5_cut_112 rfl (lv_at hl 1 rfl) ?_
                refine gt_X5_1 (v := .ref (a 1)) S hK hw 0 rfl rfl LX5 k2 dX5_cut_113 ?_
                refine lv_bipush (v := 9) S.1 S.2.1 dX5_cut_116 (by decide) ?_
                refine lv_aload_n S.1 S.2.1 dX5_cut_118 rfl (lv_at hl 1 rfl) ?_
                refine gt_X5_1 (v := .ref (a 1)) S hK hw 0 rfl rfl LX5 k2 dX5_cut_119 ?_
                refine lv_iconst (v := 0) S.1 S.2.1 dX5_cut_122 (by decide) ?_
                refine ald_i (v := z29 0 (0)) (k := 0) S hK hw 1 rfl (by omega) (by decide) (fl_0 z29 (by omega)) dX5_cut_123 ?_
                refine ast_i (ws' := (mp G a (st z29 0 (9) (z29 0 (0))) o10)) (k := 9) S hK hw 1 rfl (by omega) (by decide) (mp_set (fu_0 z29 (by omega) _)) dX5_cut_124 (fun H locs hw => ?_)
                obtain ⟨z30, ez30⟩ : ∃ zz, zz = st z29 0 (9) (z29 0 (0)) := ⟨_, rfl⟩
                have hw : WD G (mp G a z30 o10) A s H locs := by rw [ez30]; exact hw
                refine lv_iload S.1 S.2.1 dX5_cut_125 (lv_at hl 0 rfl) ?_
                exact en_z (v := (1)) ((z30, o10) : St × St) hQ S hr hlk rfl hw (by have hp : pK (nI (n)) (nI (b)) on z = ((0), (1), z30) := (by subst ez30 ez29 ez27 eo10; simp [pK, endq, sct, b2, on2, hn, nd_n hn, tN_n hn, hb, nd_n hb, tN_n hb, c3, c8, c9, c11, c12, c22, c28]); rw [hp]; exact ⟨rfl, rfl, ro10, to10⟩) dX5_cut_127
        · skip
          exact absurd c11 (by decide)
      · skip
        refine lv_iconst (v := 2) S.1 S.2.1 dX5_cut_24 (by decide) ?_
        refine lv_goto (tgt := 29) S.1 S.2.1 dX5_cut_25 (by decide) ?_
        refine pt_X5_0 (ws' := (mp G a z (st o 0 0 (2)))) S hK hw 0 rfl LX5 k1 rfl (Nat.le_of_ble_eq_true rfl) dX5_cut_29 (fun H locs hw => ?_)
        obtain ⟨o31, eo31⟩ : ∃ zz, zz = st o 0 0 (2) := ⟨_, rfl⟩
        have hw : WD G (mp G a z o31) A s H locs := by rw [eo31]; exact hw
        have ro31 : RT o o31 := by rw [eo31]; exact RT.put (RT.rf o) _
        have to31 : o31 0 0 = (2) := by rw [eo31]; exact st_s _ _ _ _
        refine lv_aload_n S.1 S.2.1 dX5_cut_32 rfl (lv_at hl 0 rfl) ?_
        refine gt_X5_0 (v := .int (o31 0 0)) S hK hw 0 rfl rfl LX5 k1 dX5_cut_33 ?_
        refine top_to (v := (2)) S to31 ?_
        refine lv_if_le (tgt := 41) S.1 S.2.1 dX5_cut_36 (by decide) (fun c32 => ?_) (fun c32 => ?_)
        · skip
          exact absurd c32 (by decide)
        · skip
          refine lv_iconst (v := 0) S.1 S.2.1 dX5_cut_39 (by decide) ?_
          exact en_z (v := (0)) ((z, o31) : St × St) hQ S hr hlk rfl hw (by have hp : pK (nI (n)) (nI (b)) on z = ((2), (0), z) := (by subst eo31; simp [pK, endq, sct, b2, on2, hn, nd_n hn, tN_n hn, hb, nd_n hb, tN_n hb, c3, c8, c9, c32]); rw [hp]; exact ⟨rfl, rfl, ro31, to31⟩) dX5_cut_40
    · skip
      refine lv_iconst (v := 1) S.1 S.2.1 dX5_cut_15 (by decide) ?_
      refine lv_goto (tgt := 29) S.1 S.2.1 dX5_cut_16 (by decide) ?_
      refine pt_X5_0 (ws' := (mp G a z (st o 0 0 (1)))) S hK hw 0 rfl LX5 k1 rfl (Nat.le_of_ble_eq_true rfl) dX5_cut_29 (fun H locs hw => ?_)
      obtain ⟨o33, eo33⟩ : ∃ zz, zz = st o 0 0 (1) := ⟨_, rfl⟩
      have hw : WD G (mp G a z o33) A s H locs := by rw [eo33]; exact hw
      have ro33 : RT o o33 := by rw [eo33]; exact RT.put (RT.rf o) _
      have to33 : o33 0 0 = (1) := by rw [eo33]; exact st_s _ _ _ _
      refine lv_aload_n S.1 S.2.1 dX5_cut_32 rfl (lv_at hl 0 rfl) ?_
      refine gt_X5_0 (v := .int (o33 0 0)) S hK hw 0 rfl rfl LX5 k1 dX5_cut_33 ?_
      refine top_to (v := (1)) S to33 ?_
      refine lv_if_le (tgt := 41) S.1 S.2.1 dX5_cut_36 (by decide) (fun c34 => ?_) (fun c34 => ?_)
      · skip
        exact absurd c34 (by decide)
      · skip
        refine lv_iconst (v := 0) S.1 S.2.1 dX5_cut_39 (by decide) ?_
        exact en_z (v := (0)) ((z, o33) : St × St) hQ S hr hlk rfl hw (by have hp : pK (nI (n)) (w) on z = ((1), (0), z) := (by subst eo33; simp [pK, endq, sct, b2, on2, hn, nd_n hn, tN_n hn, c3, c8, c34]); rw [hp]; exact ⟨rfl, rfl, ro33, to33⟩) dX5_cut_40

theorem hd_X5_tell : yX5_tell.cls = RX5 ∧ yX5_tell.cls ≠ "java/lang/invoke/MethodHandle" ∧ yX5_tell.cls ≠ "java/lang/invoke/VarHandle" ∧ (parseMethodDescriptor yX5_tell.desc).map (fun d => d.parameters.length) = some 4 := by decide +kernel
set_option maxHeartbeats 4000000 in
set_option maxRecDepth 100000 in
theorem c_X5_tell (l : Launch) (G : GA) (a : Nat → Nat) (z : St) (o : St) (sz : Nat) (v : Int32) (w : Int32) (x : Int32) (i : Int32) (iz : Inv z) : Met l yX5_tell wsX5_tell ({ frames := 4, cells := 0, slots := 0, locals := 96 }) (va_Pc [.ref (a 0), .int (v), .int (w), .int (x), .int (i)] (PW G (mp G a z o) sz)) (va_Qi (fun (r : Int32) (u : St × St) => r = (pT v w x i z).2.1 ∧ u.1 = (pT v w x i z).2.2 ∧ RT o u.2 ∧ u.2 0 0 = (pT v w x i z).1) (fun (u : St × St) t => va_P G.1 gcl (mp G a u.1 u.2) t.heap) (va_A (mp G a z o) sz)) 0 0 (va_A (mp G a z o) sz) := by
  refine met_st (cc := cX5_tell) (maxL := 5) (ret := (some .boolean)) (fun A => va_Qi (fun (r : Int32) (u : St × St) => r = (pT v w x i z).2.1 ∧ u.1 = (pT v w x i z).2.2 ∧ RT o u.2 ∧ u.2 0 0 = (pT v w x i z).1) (fun (u : St × St) t => va_P G.1 gcl (mp G a u.1 u.2) t.heap) A) (by decide) rfl (Nat.le_of_ble_eq_true rfl) ?_
  intro p e s m args below meth c R Q A H ls hR hQ S hr hlk _ hK hsz hH hAe hA hw hl
  have hl : lv_has ls 5 [(0, .ref (a 0)), (1, .int (v)), (2, .int (w)), (3, .int (x)), (4, .int (i))] := hl
  have LX5 : ∀ w ∈ u_ws RX5 TX5 12, w.before args s = true := fun w h => S.2.2.2.2 w ((by decide +kernel : ∀ w ∈ u_ws RX5 TX5 12, w ∈ wsX5_tell) w h)
  have k1 : (Cond.fieldLink RX5 22 "GossipMembershipModel" "thrown" "I").before args s = true := S.2.2.2.2 _ (by decide +kernel : (Cond.fieldLink RX5 22 "GossipMembershipModel" "thrown" "I") ∈ wsX5_tell)
  have k2 : (Cond.fieldLink RX5 7 "GossipMembershipModel" "s" "[I").before args s = true := S.2.2.2.2 _ (by decide +kernel : (Cond.fieldLink RX5 7 "GossipMembershipModel" "s" "[I") ∈ wsX5_tell)
  refine lv_aload_n S.1 S.2.1 dX5_tell_0 rfl (lv_at hl 0 rfl) ?_
  refine lv_iconst (v := 0) S.1 S.2.1 dX5_tell_1 (by decide) ?_
  refine pt_X5_0 (ws' := (mp G a z (st o 0 0 (0)))) S hK hw 0 rfl LX5 k1 rfl (Nat.le_of_ble_eq_true rfl) dX5_tell_2 (fun H locs hw => ?_)
  obtain ⟨o1, eo1⟩ : ∃ zz, zz = st o 0 0 (0) := ⟨_, rfl⟩
  have hw : WD G (mp G a z o1) A s H locs := by rw [eo1]; exact hw
  have ro1 : RT o o1 := by rw [eo1]; exact RT.put (RT.rf o) _
  have to1 : o1 0 0 = (0) := by rw [eo1]; exact st_s _ _ _ _
  refine lv_iload_n S.1 S.2.1 dX5_tell_5 rfl (lv_at hl 1 rfl) ?_
  refine vp_callSi (va_runS (As := [.int (v)]) (rest := []) S (c_X5_isNode l (v) ) (va_cwS 1 S.2.2.2.2 gX5_tell_X5_isNode rfl rfl rfl hd_X5_isNode ⟨by rw [hR]; exact Nat.le_of_ble_eq_true rfl, by rw [hR]; exact Nat.le_of_ble_eq_true rfl⟩) ⟨blind_T, fun U hU hW => ⟨rfl, trivial⟩⟩ rfl rfl hl.1 rfl (lv_room (Nat.le_of_ble_eq_true rfl)) dX5_tell_6 ⟨Nat.zero_le _, Nat.zero_le _⟩).run (fun r2 h3 => ?_)
  subst h3
  refine brB_eq (b := nd ((v))) S (tgt := 19) dX5_tell_9 (by decide) (fun c4 => ?_) (fun c4 => ?_)
  · skip
    refine lv_aload_n S.1 S.2.1 dX5_tell_19 rfl (lv_at hl 0 rfl) ?_
    refine lv_iconst (v := 1) S.1 S.2.1 dX5_tell_20 (by decide) ?_
    refine pt_X5_0 (ws' := (mp G a z (st o1 0 0 (1)))) S hK hw 0 rfl LX5 k1 rfl (Nat.le_of_ble_eq_true rfl) dX5_tell_21 (fun H locs hw => ?_)
    obtain ⟨o5, eo5⟩ : ∃ zz, zz = st o1 0 0 (1) := ⟨_, rfl⟩
    have hw : WD G (mp G a z o5) A s H locs := by rw [eo5]; exact hw
    have ro5 : RT o o5 := by rw [eo5]; exact RT.put ro1 _
    have to5 : o5 0 0 = (1) := by rw [eo5]; exact st_s _ _ _ _
    refine lv_goto (tgt := 73) S.1 S.2.1 dX5_tell_24 (by decide) ?_
    refine lv_aload_n S.1 S.2.1 dX5_tell_73 rfl (lv_at hl 0 rfl) ?_
    refine gt_X5_0 (v := .int (o5 0 0)) S hK hw 0 rfl rfl LX5 k1 dX5_tell_74 ?_
    refine top_to (v := (1)) S to5 ?_
    refine lv_if_le (tgt := 82) S.1 S.2.1 dX5_tell_77 (by decide) (fun c6 => ?_) (fun c6 => ?_)
    · skip
      exact absurd c6 (by decide)
    · skip
      refine lv_iconst (v := 0) S.1 S.2.1 dX5_tell_80 (by decide) ?_
      exact en_z (v := (0)) ((z, o5) : St × St) hQ S hr hlk rfl hw (by have hp : pT (v) (w) (x) (i) z = ((1), (0), z) := (by first | (have h9 : pT (nI n) (nI b) x i z = (0, b2 (tkb (endq z) n b x i), tk (endq z) n b x i) := (by rw [tk_endq, tkb_endq]; simp [pT, on2, c4, c6]); rw [h9]; subst eo5 eo1; rfl) | (simp [pT, on2, c4, c6]; done)); rw [hp]; exact ⟨rfl, rfl, ro5, to5⟩) dX5_tell_81
  · skip
    obtain ⟨n, hn, en9⟩ := nd_of c4
    subst en9
    refine lv_iload_n S.1 S.2.1 dX5_tell_12 rfl (lv_at hl 2 rfl) ?_
    refine vp_callSi (va_runS (As := [.int (w)]) (rest := []) S (c_X5_isNode l (w) ) (va_cwS 1 S.2.2.2.2 gX5_tell_X5_isNode rfl rfl rfl hd_X5_isNode ⟨by rw [hR]; exact Nat.le_of_ble_eq_true rfl, by rw [hR]; exact Nat.le_of_ble_eq_true rfl⟩) ⟨blind_T, fun U hU hW => ⟨rfl, trivial⟩⟩ rfl rfl hl.1 rfl (lv_room (Nat.le_of_ble_eq_true rfl)) dX5_tell_13 ⟨Nat.zero_le _, Nat.zero_le _⟩).run (fun r7 h8 => ?_)
    subst h8
    refine brB_ne (b := nd ((w))) S (tgt := 27) dX5_tell_16 (by decide) (fun c9 => ?_) (fun c9 => ?_)
    · skip
      obtain ⟨b, hb, eb9⟩ := nd_of c9
      subst eb9
      refine lv_aload_n S.1 S.2.1 dX5_tell_27 rfl (lv_at hl 0 rfl) ?_
      refine gt_X5_1 (v := .ref (a 1)) S hK hw 0 rfl rfl LX5 k2 dX5_tell_28 ?_
      refine lv_bipush (v := 10) S.1 S.2.1 dX5_tell_31 (by decide) ?_
      refine lv_iload_n S.1 S.2.1 dX5_tell_33 rfl (lv_at hl 1 rfl) ?_
      refine addN (a := 10) (b := n) S dX5_tell_34 ?_
      refine ald_i (v := z 1 (n)) (k := 10 + n) S hK hw 1 rfl (by omega) (by decide) (fl_1 z (by omega)) dX5_tell_35 ?_
      refine lv_if_ne (tgt := 47) S.1 S.2.1 dX5_tell_36 (by decide) (fun c10 => ?_) (fun c10 => ?_)
      · skip
        refine lv_iload_n S.1 S.2.1 dX5_tell_47 rfl (lv_at hl 3 rfl) ?_
        refine lv_iconst (v := 1) S.1 S.2.1 dX5_tell_48 (by decide) ?_
        refine lv_iconst (v := 3) S.1 S.2.1 dX5_tell_49 (by decide) ?_
        refine vp_callSi (va_runS (As := [.int (x), .int 1, .int 3]) (rest := []) S (c_X5_in l (x) (1) (3) ) (va_cwS 3 S.2.2.2.2 gX5_tell_X5_in rfl rfl rfl hd_X5_in ⟨by rw [hR]; exact Nat.le_of_ble_eq_true rfl, by rw [hR]; exact Nat.le_of_ble_eq_true rfl⟩) ⟨blind_T, fun U hU hW => ⟨rfl, trivial⟩⟩ rfl rfl hl.1 rfl (lv_room (Nat.le_of_ble_eq_true rfl)) dX5_tell_50 ⟨Nat.zero_le _, Nat.zero_le _⟩).run (fun r11 h12 => ?_)
        subst h12
        refine brB_eq (b := inB ((x)) ((1)) ((3))) S (tgt := 68) dX5_tell_53 (by decide) (fun c13 => ?_) (fun c13 => ?_)
        · skip
          refine lv_aload_n S.1 S.2.1 dX5_tell_68 rfl (lv_at hl 0 rfl) ?_
          refine lv_iconst (v := 3) S.1 S.2.1 dX5_tell_69 (by decide) ?_
          refine pt_X5_0 (ws' := (mp G a z (st o1 0 0 (3)))) S hK hw 0 rfl LX5 k1 rfl (Nat.le_of_ble_eq_true rfl) dX5_tell_70 (fun H locs hw => ?_)
          obtain ⟨o14, eo14⟩ : ∃ zz, zz = st o1 0 0 (3) := ⟨_, rfl⟩
          have hw : WD G (mp G a z o14) A s H locs := by rw [eo14]; exact hw
          have ro14 : RT o o14 := by rw [eo14]; exact RT.put ro1 _
          have to14 : o14 0 0 = (3) := by rw [eo14]; exact st_s _ _ _ _
          refine lv_aload_n S.1 S.2.1 dX5_tell_73 rfl (lv_at hl 0 rfl) ?_
          refine gt_X5_0 (v := .int (o14 0 0)) S hK hw 0 rfl rfl LX5 k1 dX5_tell_74 ?_
          refine top_to (v := (3)) S to14 ?_
          refine lv_if_le (tgt := 82) S.1 S.2.1 dX5_tell_77 (by decide) (fun c15 => ?_) (fun c15 => ?_)
          · skip
            exact absurd c15 (by decide)
          · skip
            refine lv_iconst (v := 0) S.1 S.2.1 dX5_tell_80 (by decide) ?_
            exact en_z (v := (0)) ((z, o14) : St × St) hQ S hr hlk rfl hw (by have hp : pT (nI (n)) (nI (b)) (x) (i) z = ((3), (0), z) := (by first | (have h9 : pT (nI n) (nI b) x i z = (0, b2 (tkb (endq z) n b x i), tk (endq z) n b x i) := (by rw [tk_endq, tkb_endq]; simp [pT, on2, hn, nd_n hn, tN_n hn, hb, nd_n hb, tN_n hb, c4, c9, c10, c13, c15]); rw [h9]; subst eo14 eo1; rfl) | (simp [pT, on2, hn, nd_n hn, tN_n hn, hb, nd_n hb, tN_n hb, c4, c9, c10, c13, c15]; done)); rw [hp]; exact ⟨rfl, rfl, ro14, to14⟩) dX5_tell_81
        · skip
          refine lv_iload S.1 S.2.1 dX5_tell_56 (lv_at hl 4 rfl) ?_
          refine lv_iconst (v := 0) S.1 S.2.1 dX5_tell_58 (by decide) ?_
          refine lv_sipush (v := 1000) S.1 S.2.1 dX5_tell_59 (by decide) ?_
          refine vp_callSi (va_runS (As := [.int (i), .int 0, .int 1000]) (rest := []) S (c_X5_in l (i) (0) (1000) ) (va_cwS 3 S.2.2.2.2 gX5_tell_X5_in rfl rfl rfl hd_X5_in ⟨by rw [hR]; exact Nat.le_of_ble_eq_true rfl, by rw [hR]; exact Nat.le_of_ble_eq_true rfl⟩) ⟨blind_T, fun U hU hW => ⟨rfl, trivial⟩⟩ rfl rfl hl.1 rfl (lv_room (Nat.le_of_ble_eq_true rfl)) dX5_tell_62 ⟨Nat.zero_le _, Nat.zero_le _⟩).run (fun r16 h17 => ?_)
          subst h17
          refine brB_ne (b := inB ((i)) ((0)) ((1000))) S (tgt := 73) dX5_tell_65 (by decide) (fun c18 => ?_) (fun c18 => ?_)
          · skip
            refine lv_aload_n S.1 S.2.1 dX5_tell_73 rfl (lv_at hl 0 rfl) ?_
            refine gt_X5_0 (v := .int (o1 0 0)) S hK hw 0 rfl rfl LX5 k1 dX5_tell_74 ?_
            refine top_to (v := (0)) S to1 ?_
            refine lv_if_le (tgt := 82) S.1 S.2.1 dX5_tell_77 (by decide) (fun c19 => ?_) (fun c19 => ?_)
            · skip
              refine lv_aload_n S.1 S.2.1 dX5_tell_82 rfl (lv_at hl 0 rfl) ?_
              refine gt_X5_1 (v := .ref (a 1)) S hK hw 0 rfl rfl LX5 k2 dX5_tell_83 ?_
              refine lv_bipush (v := 9) S.1 S.2.1 dX5_tell_86 (by decide) ?_
              refine lv_aload_n S.1 S.2.1 dX5_tell_88 rfl (lv_at hl 0 rfl) ?_
              refine gt_X5_1 (v := .ref (a 1)) S hK hw 0 rfl rfl LX5 k2 dX5_tell_89 ?_
              refine lv_iconst (v := 0) S.1 S.2.1 dX5_tell_92 (by decide) ?_
              refine ald_i (v := z 0 (0)) (k := 0) S hK hw 1 rfl (by omega) (by decide) (fl_0 z (by omega)) dX5_tell_93 ?_
              refine ast_i (ws' := (mp G a (st z 0 (9) (z 0 (0))) o1)) (k := 9) S hK hw 1 rfl (by omega) (by decide) (mp_set (fu_0 z (by omega) _)) dX5_tell_94 (fun H locs hw => ?_)
              obtain ⟨z20, ez20⟩ : ∃ zz, zz = st z 0 (9) (z 0 (0)) := ⟨_, rfl⟩
              have hw : WD G (mp G a z20 o1) A s H locs := by rw [ez20]; exact hw
              have iz20 : Inv z20 := by rw [ez20]; exact inv_o iz (by decide) (by decide)
              refine lv_aload_n S.1 S.2.1 dX5_tell_95 rfl (lv_at hl 0 rfl) ?_
              refine lv_iload_n S.1 S.2.1 dX5_tell_96 rfl (lv_at hl 1 rfl) ?_
              refine lv_iload_n S.1 S.2.1 dX5_tell_97 rfl (lv_at hl 2 rfl) ?_
              refine lv_iload_n S.1 S.2.1 dX5_tell_98 rfl (lv_at hl 3 rfl) ?_
              refine lv_iload S.1 S.2.1 dX5_tell_99 (lv_at hl 4 rfl) ?_
              refine cl_i (va_runV (As := [.int (nI (n)), .int (nI (b)), .int (x), .int (i)]) (rest := []) S (c_X5_takesIn l G a z20 o1 H.size (n) (b) (x) (i) (by omega) (by omega)) (cwV 4 S.2.2.2.2 gX5_tell_X5_takesIn rfl rfl rfl hd_X5_takesIn ⟨by rw [hR]; exact Nat.le_of_ble_eq_true rfl, by rw [hR]; exact Nat.le_of_ble_eq_true rfl⟩) ⟨PW.blind, va_recv hK.1 hw.1 (ci := 5) (q0 := 0) rfl rfl, fun U hU hW => ⟨rfl, PW.of hK hw hU hW⟩⟩ rfl rfl hl.1 rfl (lv_room (Nat.le_of_ble_eq_true rfl)) dX5_tell_101 ⟨Nat.zero_le _, Nat.zero_le _⟩) hw hA (fun _ => rfl) (fun r21 z22 H locs h23 hw => ?_)
              obtain ⟨z24, o25⟩ := z22
              try dsimp only at h23 hw
              obtain ⟨rfl, ez24, qo25⟩ := h23
              rw [qo25] at hw
              exact en_z (v := (b2 (tkb z20 (n) (b) (x) (i)))) ((z24, o1) : St × St) hQ S hr hlk (b2_narrow _) hw (by have hp : pT (nI (n)) (nI (b)) (x) (i) z = ((0), (b2 (tkb z20 (n) (b) (x) (i))), z24) := (by first | (have h9 : pT (nI n) (nI b) x i z = (0, b2 (tkb (endq z) n b x i), tk (endq z) n b x i) := (by rw [tk_endq, tkb_endq]; simp [pT, on2, hn, nd_n hn, tN_n hn, hb, nd_n hb, tN_n hb, c4, c9, c10, c13, c18, c19]); rw [h9]; subst ez24 ez20 eo1; rfl) | (simp [pT, on2, hn, nd_n hn, tN_n hn, hb, nd_n hb, tN_n hb, c4, c9, c10, c13, c18, c19]; done)); rw [hp]; exact ⟨rfl, rfl, ro1, to1⟩) dX5_tell_104
            · skip
              exact absurd c19 (by decide)
          · skip
            refine lv_aload_n S.1 S.2.1 dX5_tell_68 rfl (lv_at hl 0 rfl) ?_
            refine lv_iconst (v := 3) S.1 S.2.1 dX5_tell_69 (by decide) ?_
            refine pt_X5_0 (ws' := (mp G a z (st o1 0 0 (3)))) S hK hw 0 rfl LX5 k1 rfl (Nat.le_of_ble_eq_true rfl) dX5_tell_70 (fun H locs hw => ?_)
            obtain ⟨o26, eo26⟩ : ∃ zz, zz = st o1 0 0 (3) := ⟨_, rfl⟩
            have hw : WD G (mp G a z o26) A s H locs := by rw [eo26]; exact hw
            have ro26 : RT o o26 := by rw [eo26]; exact RT.put ro1 _
            have to26 : o26 0 0 = (3) := by rw [eo26]; exact st_s _ _ _ _
            refine lv_aload_n S.1 S.2.1 dX5_tell_73 rfl (lv_at hl 0 rfl) ?_
            refine gt_X5_0 (v := .int (o26 0 0)) S hK hw 0 rfl rfl LX5 k1 dX5_tell_74 ?_
            refine top_to (v := (3)) S to26 ?_
            refine lv_if_le (tgt := 82) S.1 S.2.1 dX5_tell_77 (by decide) (fun c27 => ?_) (fun c27 => ?_)
            · skip
              exact absurd c27 (by decide)
            · skip
              refine lv_iconst (v := 0) S.1 S.2.1 dX5_tell_80 (by decide) ?_
              exact en_z (v := (0)) ((z, o26) : St × St) hQ S hr hlk rfl hw (by have hp : pT (nI (n)) (nI (b)) (x) (i) z = ((3), (0), z) := (by first | (have h9 : pT (nI n) (nI b) x i z = (0, b2 (tkb (endq z) n b x i), tk (endq z) n b x i) := (by rw [tk_endq, tkb_endq]; simp [pT, on2, hn, nd_n hn, tN_n hn, hb, nd_n hb, tN_n hb, c4, c9, c10, c13, c18, c27]); rw [h9]; subst eo26 eo1; rfl) | (simp [pT, on2, hn, nd_n hn, tN_n hn, hb, nd_n hb, tN_n hb, c4, c9, c10, c13, c18, c27]; done)); rw [hp]; exact ⟨rfl, rfl, ro26, to26⟩) dX5_tell_81
      · skip
        refine lv_aload_n S.1 S.2.1 dX5_tell_39 rfl (lv_at hl 0 rfl) ?_
        refine lv_iconst (v := 2) S.1 S.2.1 dX5_tell_40 (by decide) ?_
        refine pt_X5_0 (ws' := (mp G a z (st o1 0 0 (2)))) S hK hw 0 rfl LX5 k1 rfl (Nat.le_of_ble_eq_true rfl) dX5_tell_41 (fun H locs hw => ?_)
        obtain ⟨o28, eo28⟩ : ∃ zz, zz = st o1 0 0 (2) := ⟨_, rfl⟩
        have hw : WD G (mp G a z o28) A s H locs := by rw [eo28]; exact hw
        have ro28 : RT o o28 := by rw [eo28]; exact RT.put ro1 _
        have to28 : o28 0 0 = (2) := by rw [eo28]; exact st_s _ _ _ _
        refine lv_goto (tgt := 73) S.1 S.2.1 dX5_tell_44 (by decide) ?_
        refine lv_aload_n S.1 S.2.1 dX5_tell_73 rfl (lv_at hl 0 rfl) ?_
        refine gt_X5_0 (v := .int (o28 0 0)) S hK hw 0 rfl rfl LX5 k1 dX5_tell_74 ?_
        refine top_to (v := (2)) S to28 ?_
        refine lv_if_le (tgt := 82) S.1 S.2.1 dX5_tell_77 (by decide) (fun c29 => ?_) (fun c29 => ?_)
        · skip
          exact absurd c29 (by decide)
        · skip
          refine lv_iconst (v := 0) S.1 S.2.1 dX5_tell_80 (by decide) ?_
          exact en_z (v := (0)) ((z, o28) : St × St) hQ S hr hlk rfl hw (by have hp : pT (nI (n)) (nI (b)) (x) (i) z = ((2), (0), z) := (by first | (have h9 : pT (nI n) (nI b) x i z = (0, b2 (tkb (endq z) n b x i), tk (endq z) n b x i) := (by rw [tk_endq, tkb_endq]; simp [pT, on2, hn, nd_n hn, tN_n hn, hb, nd_n hb, tN_n hb, c4, c9, c10, c29]); rw [h9]; subst eo28 eo1; rfl) | (simp [pT, on2, hn, nd_n hn, tN_n hn, hb, nd_n hb, tN_n hb, c4, c9, c10, c29]; done)); rw [hp]; exact ⟨rfl, rfl, ro28, to28⟩) dX5_tell_81
    · skip
      refine lv_aload_n S.1 S.2.1 dX5_tell_19 rfl (lv_at hl 0 rfl) ?_
      refine lv_iconst (v := 1) S.1 S.2.1 dX5_tell_20 (by decide) ?_
      refine pt_X5_0 (ws' := (mp G a z (st o1 0 0 (1)))) S hK hw 0 rfl LX5 k1 rfl (Nat.le_of_ble_eq_true rfl) dX5_tell_21 (fun H locs hw => ?_)
      obtain ⟨o30, eo30⟩ : ∃ zz, zz = st o1 0 0 (1) := ⟨_, rfl⟩
      have hw : WD G (mp G a z o30) A s H locs := by rw [eo30]; exact hw
      have ro30 : RT o o30 := by rw [eo30]; exact RT.put ro1 _
      have to30 : o30 0 0 = (1) := by rw [eo30]; exact st_s _ _ _ _
      refine lv_goto (tgt := 73) S.1 S.2.1 dX5_tell_24 (by decide) ?_
      refine lv_aload_n S.1 S.2.1 dX5_tell_73 rfl (lv_at hl 0 rfl) ?_
      refine gt_X5_0 (v := .int (o30 0 0)) S hK hw 0 rfl rfl LX5 k1 dX5_tell_74 ?_
      refine top_to (v := (1)) S to30 ?_
      refine lv_if_le (tgt := 82) S.1 S.2.1 dX5_tell_77 (by decide) (fun c31 => ?_) (fun c31 => ?_)
      · skip
        exact absurd c31 (by decide)
      · skip
        refine lv_iconst (v := 0) S.1 S.2.1 dX5_tell_80 (by decide) ?_
        exact en_z (v := (0)) ((z, o30) : St × St) hQ S hr hlk rfl hw (by have hp : pT (nI (n)) (w) (x) (i) z = ((1), (0), z) := (by first | (have h9 : pT (nI n) (nI b) x i z = (0, b2 (tkb (endq z) n b x i), tk (endq z) n b x i) := (by rw [tk_endq, tkb_endq]; simp [pT, on2, hn, nd_n hn, tN_n hn, c4, c9, c31]); rw [h9]; subst eo30 eo1; rfl) | (simp [pT, on2, hn, nd_n hn, tN_n hn, c4, c9, c31]; done)); rw [hp]; exact ⟨rfl, rfl, ro30, to30⟩) dX5_tell_81

theorem hd_X5_join : yX5_join.cls = RX5 ∧ yX5_join.cls ≠ "java/lang/invoke/MethodHandle" ∧ yX5_join.cls ≠ "java/lang/invoke/VarHandle" ∧ (parseMethodDescriptor yX5_join.desc).map (fun d => d.parameters.length) = some 2 := by decide +kernel
set_option maxHeartbeats 4000000 in
set_option maxRecDepth 100000 in
theorem c_X5_join (l : Launch) (G : GA) (a : Nat → Nat) (z : St) (o : St) (sz : Nat) (v : Int32) (w : Int32) (iz : Inv z) : Met l yX5_join wsX5_join ({ frames := 5, cells := 0, slots := 0, locals := 120 }) (va_Pc [.ref (a 0), .int (v), .int (w)] (PW G (mp G a z o) sz)) (va_Qi (fun (r : Int32) (u : St × St) => r = (pJ v w z).2.1 ∧ u.1 = (pJ v w z).2.2 ∧ RT o u.2 ∧ u.2 0 0 = (pJ v w z).1) (fun (u : St × St) t => va_P G.1 gcl (mp G a u.1 u.2) t.heap) (va_A (mp G a z o) sz)) 0 0 (va_A (mp G a z o) sz) := by
  refine met_st (cc := cX5_join) (maxL := 4) (ret := (some .int)) (fun A => va_Qi (fun (r : Int32) (u : St × St) => r = (pJ v w z).2.1 ∧ u.1 = (pJ v w z).2.2 ∧ RT o u.2 ∧ u.2 0 0 = (pJ v w z).1) (fun (u : St × St) t => va_P G.1 gcl (mp G a u.1 u.2) t.heap) A) (by decide) rfl (Nat.le_of_ble_eq_true rfl) ?_
  intro p e s m args below meth c R Q A H ls hR hQ S hr hlk _ hK hsz hH hAe hA hw hl
  have hl : lv_has ls 4 [(0, .ref (a 0)), (1, .int (v)), (2, .int (w))] := hl
  have LX5 : ∀ w ∈ u_ws RX5 TX5 12, w.before args s = true := fun w h => S.2.2.2.2 w ((by decide +kernel : ∀ w ∈ u_ws RX5 TX5 12, w ∈ wsX5_join) w h)
  have k1 : (Cond.fieldLink RX5 22 "GossipMembershipModel" "thrown" "I").before args s = true := S.2.2.2.2 _ (by decide +kernel : (Cond.fieldLink RX5 22 "GossipMembershipModel" "thrown" "I") ∈ wsX5_join)
  have k2 : (Cond.fieldLink RX5 7 "GossipMembershipModel" "s" "[I").before args s = true := S.2.2.2.2 _ (by decide +kernel : (Cond.fieldLink RX5 7 "GossipMembershipModel" "s" "[I") ∈ wsX5_join)
  refine lv_aload_n S.1 S.2.1 dX5_join_0 rfl (lv_at hl 0 rfl) ?_
  refine lv_iconst (v := 0) S.1 S.2.1 dX5_join_1 (by decide) ?_
  refine pt_X5_0 (ws' := (mp G a z (st o 0 0 (0)))) S hK hw 0 rfl LX5 k1 rfl (Nat.le_of_ble_eq_true rfl) dX5_join_2 (fun H locs hw => ?_)
  obtain ⟨o1, eo1⟩ : ∃ zz, zz = st o 0 0 (0) := ⟨_, rfl⟩
  have hw : WD G (mp G a z o1) A s H locs := by rw [eo1]; exact hw
  have ro1 : RT o o1 := by rw [eo1]; exact RT.put (RT.rf o) _
  have to1 : o1 0 0 = (0) := by rw [eo1]; exact st_s _ _ _ _
  refine lv_iload_n S.1 S.2.1 dX5_join_5 rfl (lv_at hl 1 rfl) ?_
  refine vp_callSi (va_runS (As := [.int (v)]) (rest := []) S (c_X5_isNode l (v) ) (va_cwS 1 S.2.2.2.2 gX5_join_X5_isNode rfl rfl rfl hd_X5_isNode ⟨by rw [hR]; exact Nat.le_of_ble_eq_true rfl, by rw [hR]; exact Nat.le_of_ble_eq_true rfl⟩) ⟨blind_T, fun U hU hW => ⟨rfl, trivial⟩⟩ rfl rfl hl.1 rfl (lv_room (Nat.le_of_ble_eq_true rfl)) dX5_join_6 ⟨Nat.zero_le _, Nat.zero_le _⟩).run (fun r2 h3 => ?_)
  subst h3
  refine brB_eq (b := nd ((v))) S (tgt := 19) dX5_join_9 (by decide) (fun c4 => ?_) (fun c4 => ?_)
  · skip
    refine lv_aload_n S.1 S.2.1 dX5_join_19 rfl (lv_at hl 0 rfl) ?_
    refine lv_iconst (v := 1) S.1 S.2.1 dX5_join_20 (by decide) ?_
    refine cl_i (va_runV (As := [.int 1]) (rest := []) S (c_X5_fails l G a z o1 H.size (1) ) (cwV 1 S.2.2.2.2 gX5_join_X5_fails rfl rfl rfl hd_X5_fails ⟨by rw [hR]; exact Nat.le_of_ble_eq_true rfl, by rw [hR]; exact Nat.le_of_ble_eq_true rfl⟩) ⟨PW.blind, va_recv hK.1 hw.1 (ci := 5) (q0 := 0) rfl rfl, fun U hU hW => ⟨rfl, PW.of hK hw hU hW⟩⟩ rfl rfl hl.1 rfl (lv_room (Nat.le_of_ble_eq_true rfl)) dX5_join_21 ⟨Nat.zero_le _, Nat.zero_le _⟩) hw hA (fun _ => rfl) (fun r5 z6 H locs h7 hw => ?_)
    obtain ⟨z8, o9⟩ := z6
    try dsimp only at h7 hw
    obtain ⟨rfl, qz8, eo9, to9⟩ := h7
    rw [qz8] at hw
    exact en_i (v := (0)) ((z, o9) : St × St) hQ S hr hlk hw (by have hp : pJ (v) (w) z = ((1), (0), z) := (by first | (simp [pJ, wcn_m iz hn hb, on2, c4]; done) | (simp [pJ, on2, c4]; done)); rw [hp]; exact ⟨rfl, rfl, (RT.tr ro1 eo9), to9⟩) dX5_join_24
  · skip
    obtain ⟨n, hn, en9⟩ := nd_of c4
    subst en9
    refine lv_iload_n S.1 S.2.1 dX5_join_12 rfl (lv_at hl 2 rfl) ?_
    refine vp_callSi (va_runS (As := [.int (w)]) (rest := []) S (c_X5_isNode l (w) ) (va_cwS 1 S.2.2.2.2 gX5_join_X5_isNode rfl rfl rfl hd_X5_isNode ⟨by rw [hR]; exact Nat.le_of_ble_eq_true rfl, by rw [hR]; exact Nat.le_of_ble_eq_true rfl⟩) ⟨blind_T, fun U hU hW => ⟨rfl, trivial⟩⟩ rfl rfl hl.1 rfl (lv_room (Nat.le_of_ble_eq_true rfl)) dX5_join_13 ⟨Nat.zero_le _, Nat.zero_le _⟩).run (fun r10 h11 => ?_)
    subst h11
    refine brB_ne (b := nd ((w))) S (tgt := 25) dX5_join_16 (by decide) (fun c12 => ?_) (fun c12 => ?_)
    · skip
      obtain ⟨b, hb, eb9⟩ := nd_of c12
      subst eb9
      refine lv_aload_n S.1 S.2.1 dX5_join_25 rfl (lv_at hl 0 rfl) ?_
      refine gt_X5_1 (v := .ref (a 1)) S hK hw 0 rfl rfl LX5 k2 dX5_join_26 ?_
      refine lv_bipush (v := 10) S.1 S.2.1 dX5_join_29 (by decide) ?_
      refine lv_iload_n S.1 S.2.1 dX5_join_31 rfl (lv_at hl 1 rfl) ?_
      refine addN (a := 10) (b := n) S dX5_join_32 ?_
      refine ald_i (v := z 1 (n)) (k := 10 + n) S hK hw 1 rfl (by omega) (by decide) (fl_1 z (by omega)) dX5_join_33 ?_
      refine lv_iconst (v := 1) S.1 S.2.1 dX5_join_34 (by decide) ?_
      refine lv_icmp_ne (tgt := 44) S.1 S.2.1 dX5_join_35 (by decide) (fun c13 => ?_) (fun c13 => ?_)
      · skip
        have K76 : ∀  (H : Heap) (locs : List Loc) (ls : Array Slot), ¬ (¬ b = n ∧ wcn z n b = false) → WD G (mp G a z o1) A s H locs → lv_has ls 4 [(0, .ref (a 0)), (1, .int (nI (n))), (2, .int (nI (b)))] → W p l e R s m args below meth c H locs 0 0 Q (F0 m 76 ls []) := by
          intro  H locs ls hj hw hl
          refine lv_aload_n S.1 S.2.1 dX5_join_76 rfl (lv_at hl 0 rfl) ?_
          refine gt_X5_1 (v := .ref (a 1)) S hK hw 0 rfl rfl LX5 k2 dX5_join_77 ?_
          refine lv_bipush (v := 34) S.1 S.2.1 dX5_join_80 (by decide) ?_
          refine lv_iload_n S.1 S.2.1 dX5_join_82 rfl (lv_at hl 1 rfl) ?_
          refine addN (a := 34) (b := n) S dX5_join_83 ?_
          refine lv_dup2_11 S.1 S.2.1 dX5_join_84 rfl rfl ?_
          refine ald_i (v := z 4 (n)) (k := 34 + n) S hK hw 1 rfl (by omega) (by decide) (fl_4 z (by omega)) dX5_join_85 ?_
          refine lv_aload_n S.1 S.2.1 dX5_join_86 rfl (lv_at hl 0 rfl) ?_
          refine gt_X5_1 (v := .ref (a 1)) S hK hw 0 rfl rfl LX5 k2 dX5_join_87 ?_
          refine lv_bipush (v := 18) S.1 S.2.1 dX5_join_90 (by decide) ?_
          refine lv_iload_n S.1 S.2.1 dX5_join_92 rfl (lv_at hl 1 rfl) ?_
          refine addN (a := 18) (b := n) S dX5_join_93 ?_
          refine ald_i (v := z 2 (n)) (k := 18 + n) S hK hw 1 rfl (by omega) (by decide) (fl_2 z (by omega)) dX5_join_94 ?_
          refine lv_iadd S.1 S.2.1 dX5_join_95 ?_
          refine ast_i (ws' := (mp G a (st z 4 (n) ((z 4 (n)) + (z 2 (n)))) o1)) (k := 34 + n) S hK hw 1 rfl (by omega) (by decide) (mp_set (fu_4 z (by omega) _)) dX5_join_96 (fun H locs hw => ?_)
          obtain ⟨z14, ez14⟩ : ∃ zz, zz = st z 4 (n) ((z 4 (n)) + (z 2 (n))) := ⟨_, rfl⟩
          have hw : WD G (mp G a z14 o1) A s H locs := by rw [ez14]; exact hw
          have iz14 : Inv z14 := by rw [ez14]; exact inv_o iz (by decide) (by simp)
          refine lv_aload_n S.1 S.2.1 dX5_join_97 rfl (lv_at hl 0 rfl) ?_
          refine gt_X5_1 (v := .ref (a 1)) S hK hw 0 rfl rfl LX5 k2 dX5_join_98 ?_
          refine lv_bipush (v := 18) S.1 S.2.1 dX5_join_101 (by decide) ?_
          refine lv_iload_n S.1 S.2.1 dX5_join_103 rfl (lv_at hl 1 rfl) ?_
          refine addN (a := 18) (b := n) S dX5_join_104 ?_
          refine lv_iconst (v := 1) S.1 S.2.1 dX5_join_105 (by decide) ?_
          refine ast_i (ws' := (mp G a (st z14 2 (n) (1)) o1)) (k := 18 + n) S hK hw 1 rfl (by omega) (by decide) (mp_set (fu_2 z14 (by omega) _)) dX5_join_106 (fun H locs hw => ?_)
          obtain ⟨z15, ez15⟩ : ∃ zz, zz = st z14 2 (n) (1) := ⟨_, rfl⟩
          have hw : WD G (mp G a z15 o1) A s H locs := by rw [ez15]; exact hw
          have iz15 : Inv z15 := by rw [ez15]; exact inv_1 iz14 (by decide) (by decide)
          refine lv_aload_n S.1 S.2.1 dX5_join_107 rfl (lv_at hl 0 rfl) ?_
          refine gt_X5_1 (v := .ref (a 1)) S hK hw 0 rfl rfl LX5 k2 dX5_join_108 ?_
          refine lv_bipush (v := 10) S.1 S.2.1 dX5_join_111 (by decide) ?_
          refine lv_iload_n S.1 S.2.1 dX5_join_113 rfl (lv_at hl 1 rfl) ?_
          refine addN (a := 10) (b := n) S dX5_join_114 ?_
          refine lv_iconst (v := 1) S.1 S.2.1 dX5_join_115 (by decide) ?_
          refine ast_i (ws' := (mp G a (st z15 1 (n) (1)) o1)) (k := 10 + n) S hK hw 1 rfl (by omega) (by decide) (mp_set (fu_1 z15 (by omega) _)) dX5_join_116 (fun H locs hw => ?_)
          obtain ⟨z16, ez16⟩ : ∃ zz, zz = st z15 1 (n) (1) := ⟨_, rfl⟩
          have hw : WD G (mp G a z16 o1) A s H locs := by rw [ez16]; exact hw
          have iz16 : Inv z16 := by rw [ez16]; exact inv_1 iz15 (by decide) (by decide)
          refine lv_iconst (v := 0) S.1 S.2.1 dX5_join_117 (by decide) ?_
          refine lv_istore_n (lv' := [(3, .int 0), (0, .ref (a 0)), (1, .int (nI (n))), (2, .int (nI (b)))]) S.1 S.2.1 dX5_join_118 rfl hl (by decide) rfl (fun ls hl => ?_)
          have K119 : ∀ (fu : Nat) (k : Nat) (t : St) (H : Heap) (locs : List Loc) (ls : Array Slot), 8 - k < fu → k ≤ 8 → t = fga z16 n k → WD G (mp G a t o1) A s H locs → lv_has ls 4 [(0, .ref (a 0)), (1, .int (nI (n))), (2, .int (nI (b))), (3, .int (nI (k)))] → W p l e R s m args below meth c H locs 0 0 Q (F0 m 119 ls []) := by
            intro fu
            induction fu with
            | zero => exact fun _ _ _ _ _ h => absurd h (Nat.not_lt_zero _)
            | succ fu ih119 =>
              intro k t H locs ls hm119 hk ht hw hl
              refine lv_iload_n S.1 S.2.1 dX5_join_119 rfl (lv_at hl 3 rfl) ?_
              refine lv_bipush (v := 8) S.1 S.2.1 dX5_join_120 (by decide) ?_
              refine brN_ge (a := k) (b := 8) S (by omega) (by omega) (tgt := 174) dX5_join_122 (by decide) (fun c17 => ?_) (fun c17 => ?_)
              · skip
                have hk9 : k = 8 := by omega
                subst hk9
                refine lv_aload_n S.1 S.2.1 dX5_join_174 rfl (lv_at hl 0 rfl) ?_
                refine lv_iload_n S.1 S.2.1 dX5_join_175 rfl (lv_at hl 1 rfl) ?_
                refine lv_iload_n S.1 S.2.1 dX5_join_176 rfl (lv_at hl 1 rfl) ?_
                refine cl_v (va_runV (As := [.int (nI (n)), .int (nI (n))]) (rest := []) S (c_X5_changes l G a t o1 H.size (n) (n) (by omega) (by omega)) (cwV 2 S.2.2.2.2 gX5_join_X5_changes rfl rfl rfl hd_X5_changes ⟨by rw [hR]; exact Nat.le_of_ble_eq_true rfl, by rw [hR]; exact Nat.le_of_ble_eq_true rfl⟩) ⟨PW.blind, va_recv hK.1 hw.1 (ci := 5) (q0 := 0) rfl rfl, fun U hU hW => ⟨rfl, PW.of hK hw hU hW⟩⟩ rfl rfl hl.1 rfl (lv_room (Nat.le_of_ble_eq_true rfl)) dX5_join_177 ⟨Nat.zero_le _, Nat.zero_le _⟩) hw hA (fun _ => rfl) (fun z19 H locs h20 hw => ?_)
                obtain ⟨z21, o22⟩ := z19
                try dsimp only at h20 hw
                obtain ⟨ez21, qo22⟩ := h20
                rw [qo22] at hw
                refine lv_iload_n S.1 S.2.1 dX5_join_180 rfl (lv_at hl 2 rfl) ?_
                refine lv_iload_n S.1 S.2.1 dX5_join_181 rfl (lv_at hl 1 rfl) ?_
                refine brN_eq (a := b) (b := n) S (by omega) (by omega) (tgt := 191) dX5_join_182 (by decide) (fun c23 => ?_) (fun c23 => ?_)
                · skip
                  refine lv_aload_n S.1 S.2.1 dX5_join_191 rfl (lv_at hl 0 rfl) ?_
                  refine gt_X5_1 (v := .ref (a 1)) S hK hw 0 rfl rfl LX5 k2 dX5_join_192 ?_
                  refine lv_bipush (v := 34) S.1 S.2.1 dX5_join_195 (by decide) ?_
                  refine lv_iload_n S.1 S.2.1 dX5_join_197 rfl (lv_at hl 1 rfl) ?_
                  refine addN (a := 34) (b := n) S dX5_join_198 ?_
                  refine ald_i (v := z21 4 (n)) (k := 34 + n) S hK hw 1 rfl (by omega) (by decide) (fl_4 z21 (by omega)) dX5_join_199 ?_
                  exact en_i (v := (z21 4 (n))) ((z21, o1) : St × St) hQ S hr hlk hw (by have hp : pJ (nI (n)) (nI (b)) z = ((0), (z21 4 (n)), z21) := (by have hz9 : z21 = jn z n b := (by rw [jn_eq iz hn hj]; subst ez21 ez16 ez15 ez14 eo1; subst ht; first | (rw [if_pos (by assumption)]; rfl) | (rw [if_neg (by assumption)]; rfl)); rw [pJ, on2_n hn hb, if_neg (by assumption), if_neg hj, ← hz9]); rw [hp]; exact ⟨rfl, rfl, ro1, to1⟩) dX5_join_200
                · skip
                  refine lv_aload_n S.1 S.2.1 dX5_join_185 rfl (lv_at hl 0 rfl) ?_
                  refine lv_iload_n S.1 S.2.1 dX5_join_186 rfl (lv_at hl 1 rfl) ?_
                  refine lv_iload_n S.1 S.2.1 dX5_join_187 rfl (lv_at hl 2 rfl) ?_
                  refine cl_v (va_runV (As := [.int (nI (n)), .int (nI (b))]) (rest := []) S (c_X5_greets l G a z21 o1 H.size (n) (b) (by omega) (by omega)) (cwV 2 S.2.2.2.2 gX5_join_X5_greets rfl rfl rfl hd_X5_greets ⟨by rw [hR]; exact Nat.le_of_ble_eq_true rfl, by rw [hR]; exact Nat.le_of_ble_eq_true rfl⟩) ⟨PW.blind, va_recv hK.1 hw.1 (ci := 5) (q0 := 0) rfl rfl, fun U hU hW => ⟨rfl, PW.of hK hw hU hW⟩⟩ rfl rfl hl.1 rfl (lv_room (Nat.le_of_ble_eq_true rfl)) dX5_join_188 ⟨Nat.zero_le _, Nat.zero_le _⟩) hw hA (fun _ => rfl) (fun z25 H locs h26 hw => ?_)
                  obtain ⟨z27, o28⟩ := z25
                  try dsimp only at h26 hw
                  obtain ⟨ez27, qo28⟩ := h26
                  rw [qo28] at hw
                  refine lv_aload_n S.1 S.2.1 dX5_join_191 rfl (lv_at hl 0 rfl) ?_
                  refine gt_X5_1 (v := .ref (a 1)) S hK hw 0 rfl rfl LX5 k2 dX5_join_192 ?_
                  refine lv_bipush (v := 34) S.1 S.2.1 dX5_join_195 (by decide) ?_
                  refine lv_iload_n S.1 S.2.1 dX5_join_197 rfl (lv_at hl 1 rfl) ?_
                  refine addN (a := 34) (b := n) S dX5_join_198 ?_
                  refine ald_i (v := z27 4 (n)) (k := 34 + n) S hK hw 1 rfl (by omega) (by decide) (fl_4 z27 (by omega)) dX5_join_199 ?_
                  exact en_i (v := (z27 4 (n))) ((z27, o1) : St × St) hQ S hr hlk hw (by have hp : pJ (nI (n)) (nI (b)) z = ((0), (z27 4 (n)), z27) := (by have hz9 : z27 = jn z n b := (by rw [jn_eq iz hn hj]; subst ez27 ez21 ez16 ez15 ez14 eo1; subst ht; first | (rw [if_pos (by assumption)]; rfl) | (rw [if_neg (by assumption)]; rfl)); rw [pJ, on2_n hn hb, if_neg (by assumption), if_neg hj, ← hz9]); rw [hp]; exact ⟨rfl, rfl, ro1, to1⟩) dX5_join_200
              · skip
                refine lv_aload_n S.1 S.2.1 dX5_join_125 rfl (lv_at hl 0 rfl) ?_
                refine gt_X5_1 (v := .ref (a 1)) S hK hw 0 rfl rfl LX5 k2 dX5_join_126 ?_
                refine lv_bipush (v := 42) S.1 S.2.1 dX5_join_129 (by decide) ?_
                refine lv_iload_n S.1 S.2.1 dX5_join_131 rfl (lv_at hl 1 rfl) ?_
                refine lv_iload_n S.1 S.2.1 dX5_join_132 rfl (lv_at hl 3 rfl) ?_
                refine pr_m (n := n) (b := k) S hl.1 gX5_join_X5_pair ⟨by rw [hR]; exact Nat.le_of_ble_eq_true rfl, by rw [hR]; exact Nat.le_of_ble_eq_true rfl⟩ (Nat.zero_le _) (Nat.zero_le _) (Nat.le_of_ble_eq_true rfl) dX5_join_133 ?_
                refine addN (a := 42) (b := 8 * n + k) S dX5_join_136 ?_
                refine lv_iconst (v := 0) S.1 S.2.1 dX5_join_137 (by decide) ?_
                refine ast_i (ws' := (mp G a (st t 5 ((8 * n + k)) (0)) o1)) (k := 42 + (8 * n + k)) S hK hw 1 rfl (by omega) (by decide) (mp_set (fu_5 t (by omega) _)) dX5_join_138 (fun H locs hw => ?_)
                obtain ⟨z29, ez29⟩ : ∃ zz, zz = st t 5 ((8 * n + k)) (0) := ⟨_, rfl⟩
                have hw : WD G (mp G a z29 o1) A s H locs := by rw [ez29]; exact hw
                refine lv_aload_n S.1 S.2.1 dX5_join_139 rfl (lv_at hl 0 rfl) ?_
                refine gt_X5_1 (v := .ref (a 1)) S hK hw 0 rfl rfl LX5 k2 dX5_join_140 ?_
                refine lv_bipush (v := 106) S.1 S.2.1 dX5_join_143 (by decide) ?_
                refine lv_iload_n S.1 S.2.1 dX5_join_145 rfl (lv_at hl 1 rfl) ?_
                refine lv_iload_n S.1 S.2.1 dX5_join_146 rfl (lv_at hl 3 rfl) ?_
                refine pr_m (n := n) (b := k) S hl.1 gX5_join_X5_pair ⟨by rw [hR]; exact Nat.le_of_ble_eq_true rfl, by rw [hR]; exact Nat.le_of_ble_eq_true rfl⟩ (Nat.zero_le _) (Nat.zero_le _) (Nat.le_of_ble_eq_true rfl) dX5_join_147 ?_
                refine addN (a := 106) (b := 8 * n + k) S dX5_join_150 ?_
                refine lv_iconst (v := 0) S.1 S.2.1 dX5_join_151 (by decide) ?_
                refine ast_i (ws' := (mp G a (st z29 6 ((8 * n + k)) (0)) o1)) (k := 106 + (8 * n + k)) S hK hw 1 rfl (by omega) (by decide) (mp_set (fu_6 z29 (by omega) _)) dX5_join_152 (fun H locs hw => ?_)
                obtain ⟨z30, ez30⟩ : ∃ zz, zz = st z29 6 ((8 * n + k)) (0) := ⟨_, rfl⟩
                have hw : WD G (mp G a z30 o1) A s H locs := by rw [ez30]; exact hw
                refine lv_aload_n S.1 S.2.1 dX5_join_153 rfl (lv_at hl 0 rfl) ?_
                refine gt_X5_1 (v := .ref (a 1)) S hK hw 0 rfl rfl LX5 k2 dX5_join_154 ?_
                refine lv_sipush (v := 234) S.1 S.2.1 dX5_join_157 (by decide) ?_
                refine lv_iload_n S.1 S.2.1 dX5_join_160 rfl (lv_at hl 1 rfl) ?_
                refine lv_iload_n S.1 S.2.1 dX5_join_161 rfl (lv_at hl 3 rfl) ?_
                refine pr_m (n := n) (b := k) S hl.1 gX5_join_X5_pair ⟨by rw [hR]; exact Nat.le_of_ble_eq_true rfl, by rw [hR]; exact Nat.le_of_ble_eq_true rfl⟩ (Nat.zero_le _) (Nat.zero_le _) (Nat.le_of_ble_eq_true rfl) dX5_join_162 ?_
                refine addN (a := 234) (b := 8 * n + k) S dX5_join_165 ?_
                refine lv_iconst (v := 0) S.1 S.2.1 dX5_join_166 (by decide) ?_
                refine ast_i (ws' := (mp G a (st z30 8 ((8 * n + k)) (0)) o1)) (k := 234 + (8 * n + k)) S hK hw 1 rfl (by omega) (by decide) (mp_set (fu_8 z30 (by omega) _)) dX5_join_167 (fun H locs hw => ?_)
                obtain ⟨z31, ez31⟩ : ∃ zz, zz = st z30 8 ((8 * n + k)) (0) := ⟨_, rfl⟩
                have hw : WD G (mp G a z31 o1) A s H locs := by rw [ez31]; exact hw
                refine lv_iinc (v := (nI (k + 1))) (lv' := [(3, .int (nI (k + 1))), (0, .ref (a 0)), (1, .int (nI (n))), (2, .int (nI (b)))]) S.1 S.2.1 dX5_join_168 hl (k := 3) rfl (nI_add _ _) (by decide) rfl (fun ls hl => ?_)
                refine lv_goto (tgt := 119) S.1 S.2.1 dX5_join_171 (by decide) ?_
                exact ih119 (k + 1) (z31) _ _ _ (by omega) (by omega) (by subst ez31 ez30 ez29 ez16 ez15 ez14 eo1; subst ht; rfl) hw (lv_sub hl [1, 2, 3, 0] rfl)
          exact K119 (9) (0) (z16) _ _ _ (by omega) (by omega) (by rfl) hw (lv_sub hl [1, 2, 3, 0] rfl)
        refine lv_iload_n S.1 S.2.1 dX5_join_44 rfl (lv_at hl 2 rfl) ?_
        refine lv_iload_n S.1 S.2.1 dX5_join_45 rfl (lv_at hl 1 rfl) ?_
        refine brN_eq (a := b) (b := n) S (by omega) (by omega) (tgt := 76) dX5_join_46 (by decide) (fun c32 => ?_) (fun c32 => ?_)
        · skip
          exact K76  _ _ _ (by first | exact fun h => h.1 (by assumption) | (intro h; have h2 := h.2; rw [wcn_m iz hn hb] at h2; simp_all; done)) hw (lv_sub hl [0, 1, 2] rfl)
        · skip
          refine lv_aload_n S.1 S.2.1 dX5_join_49 rfl (lv_at hl 0 rfl) ?_
          refine gt_X5_1 (v := .ref (a 1)) S hK hw 0 rfl rfl LX5 k2 dX5_join_50 ?_
          refine lv_bipush (v := 10) S.1 S.2.1 dX5_join_53 (by decide) ?_
          refine lv_iload_n S.1 S.2.1 dX5_join_55 rfl (lv_at hl 2 rfl) ?_
          refine addN (a := 10) (b := b) S dX5_join_56 ?_
          refine ald_i (v := z 1 (b)) (k := 10 + b) S hK hw 1 rfl (by omega) (by decide) (fl_1 z (by omega)) dX5_join_57 ?_
          refine lv_if_eq (tgt := 70) S.1 S.2.1 dX5_join_58 (by decide) (fun c33 => ?_) (fun c33 => ?_)
          · skip
            refine lv_aload_n S.1 S.2.1 dX5_join_70 rfl (lv_at hl 0 rfl) ?_
            refine lv_iconst (v := 3) S.1 S.2.1 dX5_join_71 (by decide) ?_
            refine cl_i (va_runV (As := [.int 3]) (rest := []) S (c_X5_fails l G a z o1 H.size (3) ) (cwV 1 S.2.2.2.2 gX5_join_X5_fails rfl rfl rfl hd_X5_fails ⟨by rw [hR]; exact Nat.le_of_ble_eq_true rfl, by rw [hR]; exact Nat.le_of_ble_eq_true rfl⟩) ⟨PW.blind, va_recv hK.1 hw.1 (ci := 5) (q0 := 0) rfl rfl, fun U hU hW => ⟨rfl, PW.of hK hw hU hW⟩⟩ rfl rfl hl.1 rfl (lv_room (Nat.le_of_ble_eq_true rfl)) dX5_join_72 ⟨Nat.zero_le _, Nat.zero_le _⟩) hw hA (fun _ => rfl) (fun r34 z35 H locs h36 hw => ?_)
            obtain ⟨z37, o38⟩ := z35
            try dsimp only at h36 hw
            obtain ⟨rfl, qz37, eo38, to38⟩ := h36
            rw [qz37] at hw
            exact en_i (v := (0)) ((z, o38) : St × St) hQ S hr hlk hw (by have hp : pJ (nI (n)) (nI (b)) z = ((3), (0), z) := (by first | (simp [pJ, wcn_m iz hn hb, on2, hn, nd_n hn, tN_n hn, hb, nd_n hb, tN_n hb, c4, c12, c13, c32, c33]; done) | (simp [pJ, on2, hn, nd_n hn, tN_n hn, hb, nd_n hb, tN_n hb, c4, c12, c13, c32, c33]; done)); rw [hp]; exact ⟨rfl, rfl, (RT.tr ro1 eo38), to38⟩) dX5_join_75
          · skip
            refine lv_aload_n S.1 S.2.1 dX5_join_61 rfl (lv_at hl 0 rfl) ?_
            refine lv_iload_n S.1 S.2.1 dX5_join_62 rfl (lv_at hl 1 rfl) ?_
            refine lv_iload_n S.1 S.2.1 dX5_join_63 rfl (lv_at hl 2 rfl) ?_
            refine cl_i (va_runV (As := [.int (nI (n)), .int (nI (b))]) (rest := []) S (c_X5_areLinked l G a z o1 H.size (n) (b) (by omega) (by omega)) (cwV 2 S.2.2.2.2 gX5_join_X5_areLinked rfl rfl rfl hd_X5_areLinked ⟨by rw [hR]; exact Nat.le_of_ble_eq_true rfl, by rw [hR]; exact Nat.le_of_ble_eq_true rfl⟩) ⟨PW.blind, va_recv hK.1 hw.1 (ci := 5) (q0 := 0) rfl rfl, fun U hU hW => ⟨rfl, PW.of hK hw hU hW⟩⟩ rfl rfl hl.1 rfl (lv_room (Nat.le_of_ble_eq_true rfl)) dX5_join_64 ⟨Nat.zero_le _, Nat.zero_le _⟩) hw hA (fun _ => rfl) (fun r39 z40 H locs h41 hw => ?_)
            obtain ⟨z42, o43⟩ := z40
            try dsimp only at h41 hw
            obtain ⟨rfl, qz42, qo43⟩ := h41
            rw [qz42] at hw
            rw [qo43] at hw
            refine brB_ne (b := (decide (z 3 (n) = z 3 (b)) && decide (z 9 (8 * (n) + (b)) = 0))) S (tgt := 76) dX5_join_67 (by decide) (fun c44 => ?_) (fun c44 => ?_)
            · skip
              exact K76  _ _ _ (by first | exact fun h => h.1 (by assumption) | (intro h; have h2 := h.2; rw [wcn_m iz hn hb] at h2; simp_all; done)) hw (lv_sub hl [0, 1, 2] rfl)
            · skip
              refine lv_aload_n S.1 S.2.1 dX5_join_70 rfl (lv_at hl 0 rfl) ?_
              refine lv_iconst (v := 3) S.1 S.2.1 dX5_join_71 (by decide) ?_
              refine cl_i (va_runV (As := [.int 3]) (rest := []) S (c_X5_fails l G a z o1 H.size (3) ) (cwV 1 S.2.2.2.2 gX5_join_X5_fails rfl rfl rfl hd_X5_fails ⟨by rw [hR]; exact Nat.le_of_ble_eq_true rfl, by rw [hR]; exact Nat.le_of_ble_eq_true rfl⟩) ⟨PW.blind, va_recv hK.1 hw.1 (ci := 5) (q0 := 0) rfl rfl, fun U hU hW => ⟨rfl, PW.of hK hw hU hW⟩⟩ rfl rfl hl.1 rfl (lv_room (Nat.le_of_ble_eq_true rfl)) dX5_join_72 ⟨Nat.zero_le _, Nat.zero_le _⟩) hw hA (fun _ => rfl) (fun r45 z46 H locs h47 hw => ?_)
              obtain ⟨z48, o49⟩ := z46
              try dsimp only at h47 hw
              obtain ⟨rfl, qz48, eo49, to49⟩ := h47
              rw [qz48] at hw
              exact en_i (v := (0)) ((z, o49) : St × St) hQ S hr hlk hw (by have hp : pJ (nI (n)) (nI (b)) z = ((3), (0), z) := (by first | (simp [pJ, wcn_m iz hn hb, on2, hn, nd_n hn, tN_n hn, hb, nd_n hb, tN_n hb, c4, c12, c13, c32, c33, c44]; done) | (simp [pJ, on2, hn, nd_n hn, tN_n hn, hb, nd_n hb, tN_n hb, c4, c12, c13, c32, c33, c44]; done)); rw [hp]; exact ⟨rfl, rfl, (RT.tr ro1 eo49), to49⟩) dX5_join_75
      · skip
        refine lv_aload_n S.1 S.2.1 dX5_join_38 rfl (lv_at hl 0 rfl) ?_
        refine lv_iconst (v := 2) S.1 S.2.1 dX5_join_39 (by decide) ?_
        refine cl_i (va_runV (As := [.int 2]) (rest := []) S (c_X5_fails l G a z o1 H.size (2) ) (cwV 1 S.2.2.2.2 gX5_join_X5_fails rfl rfl rfl hd_X5_fails ⟨by rw [hR]; exact Nat.le_of_ble_eq_true rfl, by rw [hR]; exact Nat.le_of_ble_eq_true rfl⟩) ⟨PW.blind, va_recv hK.1 hw.1 (ci := 5) (q0 := 0) rfl rfl, fun U hU hW => ⟨rfl, PW.of hK hw hU hW⟩⟩ rfl rfl hl.1 rfl (lv_room (Nat.le_of_ble_eq_true rfl)) dX5_join_40 ⟨Nat.zero_le _, Nat.zero_le _⟩) hw hA (fun _ => rfl) (fun r50 z51 H locs h52 hw => ?_)
        obtain ⟨z53, o54⟩ := z51
        try dsimp only at h52 hw
        obtain ⟨rfl, qz53, eo54, to54⟩ := h52
        rw [qz53] at hw
        exact en_i (v := (0)) ((z, o54) : St × St) hQ S hr hlk hw (by have hp : pJ (nI (n)) (nI (b)) z = ((2), (0), z) := (by first | (simp [pJ, wcn_m iz hn hb, on2, hn, nd_n hn, tN_n hn, hb, nd_n hb, tN_n hb, c4, c12, c13]; done) | (simp [pJ, on2, hn, nd_n hn, tN_n hn, hb, nd_n hb, tN_n hb, c4, c12, c13]; done)); rw [hp]; exact ⟨rfl, rfl, (RT.tr ro1 eo54), to54⟩) dX5_join_43
    · skip
      refine lv_aload_n S.1 S.2.1 dX5_join_19 rfl (lv_at hl 0 rfl) ?_
      refine lv_iconst (v := 1) S.1 S.2.1 dX5_join_20 (by decide) ?_
      refine cl_i (va_runV (As := [.int 1]) (rest := []) S (c_X5_fails l G a z o1 H.size (1) ) (cwV 1 S.2.2.2.2 gX5_join_X5_fails rfl rfl rfl hd_X5_fails ⟨by rw [hR]; exact Nat.le_of_ble_eq_true rfl, by rw [hR]; exact Nat.le_of_ble_eq_true rfl⟩) ⟨PW.blind, va_recv hK.1 hw.1 (ci := 5) (q0 := 0) rfl rfl, fun U hU hW => ⟨rfl, PW.of hK hw hU hW⟩⟩ rfl rfl hl.1 rfl (lv_room (Nat.le_of_ble_eq_true rfl)) dX5_join_21 ⟨Nat.zero_le _, Nat.zero_le _⟩) hw hA (fun _ => rfl) (fun r55 z56 H locs h57 hw => ?_)
      obtain ⟨z58, o59⟩ := z56
      try dsimp only at h57 hw
      obtain ⟨rfl, qz58, eo59, to59⟩ := h57
      rw [qz58] at hw
      exact en_i (v := (0)) ((z, o59) : St × St) hQ S hr hlk hw (by have hp : pJ (nI (n)) (w) z = ((1), (0), z) := (by first | (simp [pJ, wcn_m iz hn hb, on2, hn, nd_n hn, tN_n hn, c4, c12]; done) | (simp [pJ, on2, hn, nd_n hn, tN_n hn, c4, c12]; done)); rw [hp]; exact ⟨rfl, rfl, (RT.tr ro1 eo59), to59⟩) dX5_join_24
