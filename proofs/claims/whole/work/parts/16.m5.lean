theorem hd_X5_appendCharacter : yX5_appendCharacter.cls = RX5 ∧ yX5_appendCharacter.cls ≠ "java/lang/invoke/MethodHandle" ∧ yX5_appendCharacter.cls ≠ "java/lang/invoke/VarHandle" ∧ (parseMethodDescriptor yX5_appendCharacter.desc).map (fun d => d.parameters.length) = some 1 := by decide +kernel
set_option maxHeartbeats 4000000 in
set_option maxRecDepth 100000 in
theorem c_X5_appendCharacter (l : Launch) (G : GA) (a : Nat → Nat) (z : St) (o : St) (sz : Nat) (ch : Int32) {tl : Nat} (hL : o 0 2 = nI tl) (hm : tl ≤ 40) : Met l yX5_appendCharacter wsX5_appendCharacter ({ frames := 1, cells := 0, slots := 0, locals := 22 }) (va_Pc [.ref (a 0), .int (ch)] (PW G (mp G a z o) sz)) (va_Qi (fun (r : Int32) (u : St × St) => r = (pAp ch tl z).2.1 ∧ u.1 = z ∧ RT (oAp ch tl o) u.2 ∧ u.2 0 0 = (pAp ch tl z).1) (fun (u : St × St) t => va_P G.1 gcl (mp G a u.1 u.2) t.heap) (va_A (mp G a z o) sz)) 0 0 (va_A (mp G a z o) sz) := by
  refine met_st (cc := cX5_appendCharacter) (maxL := 2) (ret := (some .int)) (fun A => va_Qi (fun (r : Int32) (u : St × St) => r = (pAp ch tl z).2.1 ∧ u.1 = z ∧ RT (oAp ch tl o) u.2 ∧ u.2 0 0 = (pAp ch tl z).1) (fun (u : St × St) t => va_P G.1 gcl (mp G a u.1 u.2) t.heap) A) (by decide) rfl (Nat.le_of_ble_eq_true rfl) ?_
  intro p e s m args below meth c R Q A H ls hR hQ S hr hlk _ hK hsz hH hAe hA hw hl
  have hl : lv_has ls 2 [(0, .ref (a 0)), (1, .int (ch))] := hl
  have LX5 : ∀ w ∈ u_ws RX5 TX5 12, w.before args s = true := fun w h => S.2.2.2.2 w ((by decide +kernel : ∀ w ∈ u_ws RX5 TX5 12, w ∈ wsX5_appendCharacter) w h)
  have k1 : (Cond.fieldLink RX5 22 "GossipMembershipModel" "thrown" "I").before args s = true := S.2.2.2.2 _ (by decide +kernel : (Cond.fieldLink RX5 22 "GossipMembershipModel" "thrown" "I") ∈ wsX5_appendCharacter)
  have k2 : (Cond.fieldLink RX5 138 "GossipMembershipModel" "length" "I").before args s = true := S.2.2.2.2 _ (by decide +kernel : (Cond.fieldLink RX5 138 "GossipMembershipModel" "length" "I") ∈ wsX5_appendCharacter)
  have k3 : (Cond.fieldLink RX5 16 "GossipMembershipModel" "text" "[I").before args s = true := S.2.2.2.2 _ (by decide +kernel : (Cond.fieldLink RX5 16 "GossipMembershipModel" "text" "[I") ∈ wsX5_appendCharacter)
  refine lv_aload_n S.1 S.2.1 dX5_appendCharacter_0 rfl (lv_at hl 0 rfl) ?_
  refine lv_iconst (v := 0) S.1 S.2.1 dX5_appendCharacter_1 (by decide) ?_
  refine pt_X5_0 (ws' := (mp G a z (st o 0 0 (0)))) S hK hw 0 rfl LX5 k1 rfl (Nat.le_of_ble_eq_true rfl) dX5_appendCharacter_2 (fun H locs hw => ?_)
  obtain ⟨o1, eo1⟩ : ∃ zz, zz = st o 0 0 (0) := ⟨_, rfl⟩
  have hw : WD G (mp G a z o1) A s H locs := by rw [eo1]; exact hw
  have ro1 : RT o o1 := by rw [eo1]; exact RT.put (RT.rf o) _
  have to1 : o1 0 0 = (0) := by rw [eo1]; exact st_s _ _ _ _
  refine lv_iload_n S.1 S.2.1 dX5_appendCharacter_5 rfl (lv_at hl 1 rfl) ?_
  refine lv_bipush (v := 33) S.1 S.2.1 dX5_appendCharacter_6 (by decide) ?_
  refine lv_bipush (v := 126) S.1 S.2.1 dX5_appendCharacter_8 (by decide) ?_
  refine vp_callSi (va_runS (As := [.int (ch), .int 33, .int 126]) (rest := []) S (c_X5_in l (ch) (33) (126) ) (va_cwS 3 S.2.2.2.2 gX5_appendCharacter_X5_in rfl rfl rfl hd_X5_in ⟨by rw [hR]; exact Nat.le_of_ble_eq_true rfl, by rw [hR]; exact Nat.le_of_ble_eq_true rfl⟩) ⟨blind_T, fun U hU hW => ⟨rfl, trivial⟩⟩ rfl rfl hl.1 rfl (lv_room (Nat.le_of_ble_eq_true rfl)) dX5_appendCharacter_10 ⟨Nat.zero_le _, Nat.zero_le _⟩).run (fun r2 h3 => ?_)
  subst h3
  refine brB_ne (b := inB ((ch)) ((33)) ((126))) S (tgt := 22) dX5_appendCharacter_13 (by decide) (fun c4 => ?_) (fun c4 => ?_)
  · skip
    refine lv_aload_n S.1 S.2.1 dX5_appendCharacter_22 rfl (lv_at hl 0 rfl) ?_
    refine gt_X5_5 (v := .int (o1 0 2)) S hK hw 0 rfl rfl LX5 k2 dX5_appendCharacter_23 ?_
    refine top_to (v := nI tl) S (by rw [eo1, st_k _ _ _ _ _ (by decide)]; exact hL) ?_
    refine lv_bipush (v := 40) S.1 S.2.1 dX5_appendCharacter_26 (by decide) ?_
    refine brN_ne (a := tl) (b := 40) S (by omega) (by omega) (tgt := 37) dX5_appendCharacter_28 (by decide) (fun c5 => ?_) (fun c5 => ?_)
    · skip
      refine lv_aload_n S.1 S.2.1 dX5_appendCharacter_37 rfl (lv_at hl 0 rfl) ?_
      refine gt_X5_4 (v := .ref (a 3)) S hK hw 0 rfl rfl LX5 k3 dX5_appendCharacter_38 ?_
      refine lv_aload_n S.1 S.2.1 dX5_appendCharacter_41 rfl (lv_at hl 0 rfl) ?_
      refine gt_X5_5 (v := .int (o1 0 2)) S hK hw 0 rfl rfl LX5 k2 dX5_appendCharacter_42 ?_
      refine top_to (v := nI tl) S (by rw [eo1, st_k _ _ _ _ _ (by decide)]; exact hL) ?_
      refine lv_iload_n S.1 S.2.1 dX5_appendCharacter_45 rfl (lv_at hl 1 rfl) ?_
      refine ast_i (ws' := (mp G a z (st o1 2 (tl) (ch)))) (k := tl) S hK hw 3 rfl (by omega) (by decide) rfl dX5_appendCharacter_46 (fun H locs hw => ?_)
      obtain ⟨o6, eo6⟩ : ∃ zz, zz = st o1 2 (tl) (ch) := ⟨_, rfl⟩
      have hw : WD G (mp G a z o6) A s H locs := by rw [eo6]; exact hw
      have ro6 : RT (st o 2 (tl) (ch)) o6 := by rw [eo6]; exact RT.both ro1 _ _ _
      have to6 : o6 0 0 = (0) := by rw [eo6, st_at, if_neg (fun h => absurd h.1 (by decide))]; exact to1
      refine lv_aload_n S.1 S.2.1 dX5_appendCharacter_47 rfl (lv_at hl 0 rfl) ?_
      refine lv_dup S.1 S.2.1 dX5_appendCharacter_48 rfl ?_
      refine gt_X5_5 (v := .int (o6 0 2)) S hK hw 0 rfl rfl LX5 k2 dX5_appendCharacter_49 ?_
      refine top_to (v := nI tl) S (by rw [eo6, st_f _ _ _ _ _ _ (by decide), eo1, st_k _ _ _ _ _ (by decide)]; exact hL) ?_
      refine lv_iconst (v := 1) S.1 S.2.1 dX5_appendCharacter_52 (by decide) ?_
      refine addN (a := tl) (b := 1) S dX5_appendCharacter_53 ?_
      refine pt_X5_5 (ws' := (mp G a z (st o6 0 2 (nI (tl + 1))))) S hK hw 0 rfl LX5 k2 rfl (Nat.le_of_ble_eq_true rfl) dX5_appendCharacter_54 (fun H locs hw => ?_)
      obtain ⟨o7, eo7⟩ : ∃ zz, zz = st o6 0 2 (nI (tl + 1)) := ⟨_, rfl⟩
      have hw : WD G (mp G a z o7) A s H locs := by rw [eo7]; exact hw
      have ro7 : RT (st (st o 2 (tl) (ch)) 0 2 (nI (tl + 1))) o7 := by rw [eo7]; exact RT.both ro6 _ _ _
      have to7 : o7 0 0 = (0) := by rw [eo7, st_at, if_neg (fun h => absurd h.2 (by decide))]; exact to6
      refine lv_aload_n S.1 S.2.1 dX5_appendCharacter_57 rfl (lv_at hl 0 rfl) ?_
      refine gt_X5_5 (v := .int (o7 0 2)) S hK hw 0 rfl rfl LX5 k2 dX5_appendCharacter_58 ?_
      refine top_to (v := nI (tl + 1)) S (by rw [eo7, st_s]) ?_
      exact en_i (v := (nI (tl + 1))) ((z, o7) : St × St) hQ S hr hlk hw (by have hb : oAp ch tl o = (st (st o 2 (tl) (ch)) 0 2 (nI (tl + 1))) := (by simp [oAp, c4, c5]); have hp : pAp ch tl z = ((0), (nI (tl + 1)), z) := (by simp [pAp, c4, c5]); rw [hb, hp]; exact ⟨rfl, rfl, ro7, to7⟩) dX5_appendCharacter_61
    · skip
      refine lv_aload_n S.1 S.2.1 dX5_appendCharacter_31 rfl (lv_at hl 0 rfl) ?_
      refine lv_iconst (v := 2) S.1 S.2.1 dX5_appendCharacter_32 (by decide) ?_
      refine cl_i (va_runV (As := [.int 2]) (rest := []) S (c_X5_fails l G a z o1 H.size (2) ) (cwV 1 S.2.2.2.2 gX5_appendCharacter_X5_fails rfl rfl rfl hd_X5_fails ⟨by rw [hR]; exact Nat.le_of_ble_eq_true rfl, by rw [hR]; exact Nat.le_of_ble_eq_true rfl⟩) ⟨PW.blind, va_recv hK.1 hw.1 (ci := 5) (q0 := 0) rfl rfl, fun U hU hW => ⟨rfl, PW.of hK hw hU hW⟩⟩ rfl rfl hl.1 rfl (lv_room (Nat.le_of_ble_eq_true rfl)) dX5_appendCharacter_33 ⟨Nat.zero_le _, Nat.zero_le _⟩) hw hA (fun _ => rfl) (fun r8 z9 H locs h10 hw => ?_)
      obtain ⟨z11, o12⟩ := z9
      try dsimp only at h10 hw
      obtain ⟨rfl, qz11, eo12, to12⟩ := h10
      rw [qz11] at hw
      exact en_i (v := (0)) ((z, o12) : St × St) hQ S hr hlk hw (by have hb : oAp ch tl o = o := (by simp [oAp, c4, c5]); have hp : pAp ch tl z = ((2), (0), z) := (by simp [pAp, c4, c5]); rw [hb, hp]; exact ⟨rfl, rfl, (RT.tr ro1 eo12), to12⟩) dX5_appendCharacter_36
  · skip
    refine lv_aload_n S.1 S.2.1 dX5_appendCharacter_16 rfl (lv_at hl 0 rfl) ?_
    refine lv_iconst (v := 1) S.1 S.2.1 dX5_appendCharacter_17 (by decide) ?_
    refine cl_i (va_runV (As := [.int 1]) (rest := []) S (c_X5_fails l G a z o1 H.size (1) ) (cwV 1 S.2.2.2.2 gX5_appendCharacter_X5_fails rfl rfl rfl hd_X5_fails ⟨by rw [hR]; exact Nat.le_of_ble_eq_true rfl, by rw [hR]; exact Nat.le_of_ble_eq_true rfl⟩) ⟨PW.blind, va_recv hK.1 hw.1 (ci := 5) (q0 := 0) rfl rfl, fun U hU hW => ⟨rfl, PW.of hK hw hU hW⟩⟩ rfl rfl hl.1 rfl (lv_room (Nat.le_of_ble_eq_true rfl)) dX5_appendCharacter_18 ⟨Nat.zero_le _, Nat.zero_le _⟩) hw hA (fun _ => rfl) (fun r13 z14 H locs h15 hw => ?_)
    obtain ⟨z16, o17⟩ := z14
    try dsimp only at h15 hw
    obtain ⟨rfl, qz16, eo17, to17⟩ := h15
    rw [qz16] at hw
    exact en_i (v := (0)) ((z, o17) : St × St) hQ S hr hlk hw (by have hb : oAp ch tl o = o := (by simp [oAp, c4]); have hp : pAp ch tl z = ((1), (0), z) := (by simp [pAp, c4]); rw [hb, hp]; exact ⟨rfl, rfl, (RT.tr ro1 eo17), to17⟩) dX5_appendCharacter_21

theorem hd_X5_here : yX5_here.cls = RX5 ∧ yX5_here.cls ≠ "java/lang/invoke/MethodHandle" ∧ yX5_here.cls ≠ "java/lang/invoke/VarHandle" ∧ (parseMethodDescriptor yX5_here.desc).map (fun d => d.parameters.length) = some 0 := by decide +kernel
set_option maxHeartbeats 4000000 in
set_option maxRecDepth 100000 in
theorem c_X5_here (l : Launch) (G : GA) (a : Nat → Nat) (z : St) (o : St) (sz : Nat) {xs : Nat → Int32} {tl : Nat} {tF tN : Int32} {tp : Nat} {tr : Bool} (hT : TP o xs o (nI tl) tF tN (nI tp) (b2 tr)) (hm : tl ≤ 40) (hpm : tp ≤ tl) : Met l yX5_here wsX5_here ({ frames := 0, cells := 0, slots := 0, locals := 0 }) (va_Pc [.ref (a 0)] (PW G (mp G a z o) sz)) (va_Qi (fun (r : Int32) (u : St × St) => r = hrx xs tl tp ∧ u.1 = z ∧ u.2 = o) (fun (u : St × St) t => va_P G.1 gcl (mp G a u.1 u.2) t.heap) (va_A (mp G a z o) sz)) 0 0 (va_A (mp G a z o) sz) := by
  refine met_st (cc := cX5_here) (maxL := 1) (ret := (some .int)) (fun A => va_Qi (fun (r : Int32) (u : St × St) => r = hrx xs tl tp ∧ u.1 = z ∧ u.2 = o) (fun (u : St × St) t => va_P G.1 gcl (mp G a u.1 u.2) t.heap) A) (by decide) rfl (Nat.le_of_ble_eq_true rfl) ?_
  intro p e s m args below meth c R Q A H ls hR hQ S hr hlk _ hK hsz hH hAe hA hw hl
  have hl : lv_has ls 1 [(0, .ref (a 0))] := hl
  have LX5 : ∀ w ∈ u_ws RX5 TX5 12, w.before args s = true := fun w h => S.2.2.2.2 w ((by decide +kernel : ∀ w ∈ u_ws RX5 TX5 12, w ∈ wsX5_here) w h)
  have k1 : (Cond.fieldLink RX5 141 "GossipMembershipModel" "spot" "I").before args s = true := S.2.2.2.2 _ (by decide +kernel : (Cond.fieldLink RX5 141 "GossipMembershipModel" "spot" "I") ∈ wsX5_here)
  have k2 : (Cond.fieldLink RX5 138 "GossipMembershipModel" "length" "I").before args s = true := S.2.2.2.2 _ (by decide +kernel : (Cond.fieldLink RX5 138 "GossipMembershipModel" "length" "I") ∈ wsX5_here)
  have k3 : (Cond.fieldLink RX5 16 "GossipMembershipModel" "text" "[I").before args s = true := S.2.2.2.2 _ (by decide +kernel : (Cond.fieldLink RX5 16 "GossipMembershipModel" "text" "[I") ∈ wsX5_here)
  refine lv_aload_n S.1 S.2.1 dX5_here_0 rfl (lv_at hl 0 rfl) ?_
  refine gt_X5_10 (v := .int (o 0 6)) S hK hw 0 rfl rfl LX5 k1 dX5_here_1 ?_
  refine top_to (v := (nI (tp))) S hT.2.2.2.2.1 ?_
  refine lv_aload_n S.1 S.2.1 dX5_here_4 rfl (lv_at hl 0 rfl) ?_
  refine gt_X5_5 (v := .int (o 0 2)) S hK hw 0 rfl rfl LX5 k2 dX5_here_5 ?_
  refine top_to (v := (nI (tl))) S hT.2.1 ?_
  refine brN_ge (a := tp) (b := tl) S (by omega) (by omega) (tgt := 23) dX5_here_8 (by decide) (fun c1 => ?_) (fun c1 => ?_)
  · skip
    refine lv_iconst (v := (-1)) S.1 S.2.1 dX5_here_23 (by decide) ?_
    exact en_i (v := (-1)) ((z, o) : St × St) hQ S hr hlk hw (by refine ⟨?_, rfl, rfl⟩; first | (rw [hrx, if_pos (by omega)]; done) | (rw [hrx, if_neg (by omega)]; done)) dX5_here_24
  · skip
    refine lv_aload_n S.1 S.2.1 dX5_here_11 rfl (lv_at hl 0 rfl) ?_
    refine gt_X5_4 (v := .ref (a 3)) S hK hw 0 rfl rfl LX5 k3 dX5_here_12 ?_
    refine lv_aload_n S.1 S.2.1 dX5_here_15 rfl (lv_at hl 0 rfl) ?_
    refine gt_X5_10 (v := .int (o 0 6)) S hK hw 0 rfl rfl LX5 k1 dX5_here_16 ?_
    refine top_to (v := (nI (tp))) S hT.2.2.2.2.1 ?_
    refine ald_i (v := o 2 (tp)) (k := tp) S hK hw 3 rfl (by omega) (by decide) rfl dX5_here_19 ?_
    refine top_to (v := xs tp) S (by rw [hT.1.2.2]) ?_
    refine lv_goto (tgt := 24) S.1 S.2.1 dX5_here_20 (by decide) ?_
    exact en_i (v := (xs tp)) ((z, o) : St × St) hQ S hr hlk hw (by refine ⟨?_, rfl, rfl⟩; first | (rw [hrx, if_pos (by omega)]; done) | (rw [hrx, if_neg (by omega)]; done)) dX5_here_24

theorem hd_X5_digit : yX5_digit.cls = RX5 ∧ yX5_digit.cls ≠ "java/lang/invoke/MethodHandle" ∧ yX5_digit.cls ≠ "java/lang/invoke/VarHandle" ∧ (parseMethodDescriptor yX5_digit.desc).map (fun d => d.parameters.length) = some 2 := by decide +kernel
set_option maxHeartbeats 4000000 in
set_option maxRecDepth 100000 in
theorem c_X5_digit (l : Launch) (G : GA) (a : Nat → Nat) (z : St) (o : St) (sz : Nat) (lo : Int32) (hi : Int32) {xs : Nat → Int32} {tl : Nat} {tF tN : Int32} {tp : Nat} {tr : Bool} (hT : TP o xs o (nI tl) tF tN (nI tp) (b2 tr)) (hm : tl ≤ 40) (hpm : tp ≤ tl) (hlo : ¬ lo < 0) : Met l yX5_digit wsX5_digit ({ frames := 1, cells := 0, slots := 0, locals := 22 }) (va_Pc [.ref (a 0), .int (lo), .int (hi)] (PW G (mp G a z o) sz)) (va_Qi (fun (r : Int32) (u : St × St) => r = dgV xs tl lo hi tp tr ∧ u.1 = z ∧ TP o xs u.2 ((nI (tl))) ((tF)) ((tN)) ((nI (dgP xs tl lo hi tp tr))) ((b2 (dgB xs tl lo hi tp tr)))) (fun (u : St × St) t => va_P G.1 gcl (mp G a u.1 u.2) t.heap) (va_A (mp G a z o) sz)) 0 0 (va_A (mp G a z o) sz) := by
  refine met_st (cc := cX5_digit) (maxL := 3) (ret := (some .int)) (fun A => va_Qi (fun (r : Int32) (u : St × St) => r = dgV xs tl lo hi tp tr ∧ u.1 = z ∧ TP o xs u.2 ((nI (tl))) ((tF)) ((tN)) ((nI (dgP xs tl lo hi tp tr))) ((b2 (dgB xs tl lo hi tp tr)))) (fun (u : St × St) t => va_P G.1 gcl (mp G a u.1 u.2) t.heap) A) (by decide) rfl (Nat.le_of_ble_eq_true rfl) ?_
  intro p e s m args below meth c R Q A H ls hR hQ S hr hlk _ hK hsz hH hAe hA hw hl
  have hl : lv_has ls 3 [(0, .ref (a 0)), (1, .int (lo)), (2, .int (hi))] := hl
  have LX5 : ∀ w ∈ u_ws RX5 TX5 12, w.before args s = true := fun w h => S.2.2.2.2 w ((by decide +kernel : ∀ w ∈ u_ws RX5 TX5 12, w ∈ wsX5_digit) w h)
  have k1 : (Cond.fieldLink RX5 144 "GossipMembershipModel" "isRead" "Z").before args s = true := S.2.2.2.2 _ (by decide +kernel : (Cond.fieldLink RX5 144 "GossipMembershipModel" "isRead" "Z") ∈ wsX5_digit)
  have k2 : (Cond.fieldLink RX5 141 "GossipMembershipModel" "spot" "I").before args s = true := S.2.2.2.2 _ (by decide +kernel : (Cond.fieldLink RX5 141 "GossipMembershipModel" "spot" "I") ∈ wsX5_digit)
  have k3 : (Cond.fieldLink RX5 16 "GossipMembershipModel" "text" "[I").before args s = true := S.2.2.2.2 _ (by decide +kernel : (Cond.fieldLink RX5 16 "GossipMembershipModel" "text" "[I") ∈ wsX5_digit)
  refine lv_aload_n S.1 S.2.1 dX5_digit_0 rfl (lv_at hl 0 rfl) ?_
  refine lv_aload_n S.1 S.2.1 dX5_digit_1 rfl (lv_at hl 0 rfl) ?_
  refine gt_X5_11 (v := .int (o 0 7)) S hK hw 0 rfl rfl LX5 k1 dX5_digit_2 ?_
  refine top_to (v := (b2 (tr))) S hT.2.2.2.2.2 ?_
  refine brB_eq (b := tr) S (tgt := 24) dX5_digit_5 (by decide) (fun c1 => ?_) (fun c1 => ?_)
  · skip
    refine lv_iconst (v := 0) S.1 S.2.1 dX5_digit_24 (by decide) ?_
    refine top_to (v := (b2 (dgB xs tl lo hi tp tr))) S (by simp [dgB, b2, c1]) ?_
    refine pt_X5_11 (ws' := (mp G a z (st o 0 7 (b2 (dgB xs tl lo hi tp tr))))) S hK hw 0 rfl LX5 k1 (b2_narrow _) (b2_fits _) rfl (Nat.le_of_ble_eq_true rfl) dX5_digit_25 (fun H locs hw => ?_)
    obtain ⟨o2, eo2⟩ : ∃ zz, zz = st o 0 7 (b2 (dgB xs tl lo hi tp tr)) := ⟨_, rfl⟩
    have hw : WD G (mp G a z o2) A s H locs := by rw [eo2]; exact hw
    have To2 := (TP.p7 hT ((b2 (dgB xs tl lo hi tp tr))))
    rw [← eo2] at To2
    refine lv_aload_n S.1 S.2.1 dX5_digit_28 rfl (lv_at hl 0 rfl) ?_
    refine gt_X5_11 (v := .int (o2 0 7)) S hK hw 0 rfl rfl LX5 k1 dX5_digit_29 ?_
    refine top_to (v := (b2 (dgB xs tl lo hi tp tr))) S To2.2.2.2.2.2 ?_
    refine brB_ne (b := dgB xs tl lo hi tp tr) S (tgt := 37) dX5_digit_32 (by decide) (fun c3 => ?_) (fun c3 => ?_)
    · skip
      have hlt9 := (dgB_lt hlo c3).1
      refine lv_aload_n S.1 S.2.1 dX5_digit_37 rfl (lv_at hl 0 rfl) ?_
      refine lv_dup S.1 S.2.1 dX5_digit_38 rfl ?_
      refine gt_X5_10 (v := .int (o2 0 6)) S hK hw 0 rfl rfl LX5 k2 dX5_digit_39 ?_
      refine top_to (v := (nI (tp))) S To2.2.2.2.2.1 ?_
      refine lv_iconst (v := 1) S.1 S.2.1 dX5_digit_42 (by decide) ?_
      refine addN (a := tp) (b := 1) S dX5_digit_43 ?_
      refine pt_X5_10 (ws' := (mp G a z (st o2 0 6 (nI (tp + 1))))) S hK hw 0 rfl LX5 k2 rfl (Nat.le_of_ble_eq_true rfl) dX5_digit_44 (fun H locs hw => ?_)
      obtain ⟨o4, eo4⟩ : ∃ zz, zz = st o2 0 6 (nI (tp + 1)) := ⟨_, rfl⟩
      have hw : WD G (mp G a z o4) A s H locs := by rw [eo4]; exact hw
      have To4 := (TP.p6 To2 ((nI (tp + 1))))
      rw [← eo4] at To4
      refine lv_aload_n S.1 S.2.1 dX5_digit_47 rfl (lv_at hl 0 rfl) ?_
      refine gt_X5_4 (v := .ref (a 3)) S hK hw 0 rfl rfl LX5 k3 dX5_digit_48 ?_
      refine lv_aload_n S.1 S.2.1 dX5_digit_51 rfl (lv_at hl 0 rfl) ?_
      refine gt_X5_10 (v := .int (o4 0 6)) S hK hw 0 rfl rfl LX5 k2 dX5_digit_52 ?_
      refine top_to (v := (nI (tp + 1))) S To4.2.2.2.2.1 ?_
      refine lv_iconst (v := 1) S.1 S.2.1 dX5_digit_55 (by decide) ?_
      refine isub_to (v := nI tp) S (pk_sub (a := tp + 1) (b := 1) (by omega)) dX5_digit_56 ?_
      refine ald_i (v := o4 2 (tp)) (k := tp) S hK hw 3 rfl (by omega) (by decide) rfl dX5_digit_57 ?_
      refine top_to (v := xs tp) S (by rw [To4.1.2.2]) ?_
      refine lv_bipush (v := 48) S.1 S.2.1 dX5_digit_58 (by decide) ?_
      refine lv_isub S.1 S.2.1 dX5_digit_60 ?_
      exact en_i (v := ((xs tp) - (48))) ((z, o4) : St × St) hQ S hr hlk hw (by refine ⟨by rw [dgV, if_pos c3], rfl, ?_⟩; rw [dgP, if_pos c3]; exact To4) dX5_digit_61
    · skip
      refine lv_iconst (v := 0) S.1 S.2.1 dX5_digit_35 (by decide) ?_
      exact en_i (v := (0)) ((z, o2) : St × St) hQ S hr hlk hw (by refine ⟨by rw [dgV, if_neg (by rw [c3]; decide)], rfl, ?_⟩; rw [dgP, if_neg (by rw [c3]; decide)]; exact To2) dX5_digit_36
  · skip
    refine lv_aload_n S.1 S.2.1 dX5_digit_8 rfl (lv_at hl 0 rfl) ?_
    refine cl_i (va_runV (As := []) (rest := [.ref (a 0)]) S (c_X5_here l G a z o H.size  (xs := xs) (tl := tl) (tF := (tF)) (tN := (tN)) (tp := tp) (tr := tr) (by exact hT.self) (by omega) (by omega)) (cwV 0 S.2.2.2.2 gX5_digit_X5_here rfl rfl rfl hd_X5_here ⟨by rw [hR]; exact Nat.le_of_ble_eq_true rfl, by rw [hR]; exact Nat.le_of_ble_eq_true rfl⟩) ⟨PW.blind, va_recv hK.1 hw.1 (ci := 5) (q0 := 0) rfl rfl, fun U hU hW => ⟨rfl, PW.of hK hw hU hW⟩⟩ rfl rfl hl.1 rfl (lv_room (Nat.le_of_ble_eq_true rfl)) dX5_digit_9 ⟨Nat.zero_le _, Nat.zero_le _⟩) hw hA (fun _ => rfl) (fun r5 z6 H locs h7 hw => ?_)
    obtain ⟨z8, o9⟩ := z6
    try dsimp only at h7 hw
    obtain ⟨rfl, qz8, qo9⟩ := h7
    rw [qz8] at hw
    rw [qo9] at hw
    refine lv_iload_n S.1 S.2.1 dX5_digit_12 rfl (lv_at hl 1 rfl) ?_
    refine lv_iload_n S.1 S.2.1 dX5_digit_13 rfl (lv_at hl 2 rfl) ?_
    refine vp_callSi (va_runS (As := [.int (hrx xs tl tp), .int (lo), .int (hi)]) (rest := [.ref (a 0)]) S (c_X5_in l (hrx xs tl tp) (lo) (hi) ) (va_cwS 3 S.2.2.2.2 gX5_digit_X5_in rfl rfl rfl hd_X5_in ⟨by rw [hR]; exact Nat.le_of_ble_eq_true rfl, by rw [hR]; exact Nat.le_of_ble_eq_true rfl⟩) ⟨blind_T, fun U hU hW => ⟨rfl, trivial⟩⟩ rfl rfl hl.1 rfl (lv_room (Nat.le_of_ble_eq_true rfl)) dX5_digit_14 ⟨Nat.zero_le _, Nat.zero_le _⟩).run (fun r10 h11 => ?_)
    subst h11
    refine brB_eq (b := inB ((hrx xs tl tp)) ((lo)) ((hi))) S (tgt := 24) dX5_digit_17 (by decide) (fun c12 => ?_) (fun c12 => ?_)
    · skip
      refine lv_iconst (v := 0) S.1 S.2.1 dX5_digit_24 (by decide) ?_
      refine top_to (v := (b2 (dgB xs tl lo hi tp tr))) S (by simp [dgB, b2, c1, c12]) ?_
      refine pt_X5_11 (ws' := (mp G a z (st o 0 7 (b2 (dgB xs tl lo hi tp tr))))) S hK hw 0 rfl LX5 k1 (b2_narrow _) (b2_fits _) rfl (Nat.le_of_ble_eq_true rfl) dX5_digit_25 (fun H locs hw => ?_)
      obtain ⟨o13, eo13⟩ : ∃ zz, zz = st o 0 7 (b2 (dgB xs tl lo hi tp tr)) := ⟨_, rfl⟩
      have hw : WD G (mp G a z o13) A s H locs := by rw [eo13]; exact hw
      have To13 := (TP.p7 hT ((b2 (dgB xs tl lo hi tp tr))))
      rw [← eo13] at To13
      refine lv_aload_n S.1 S.2.1 dX5_digit_28 rfl (lv_at hl 0 rfl) ?_
      refine gt_X5_11 (v := .int (o13 0 7)) S hK hw 0 rfl rfl LX5 k1 dX5_digit_29 ?_
      refine top_to (v := (b2 (dgB xs tl lo hi tp tr))) S To13.2.2.2.2.2 ?_
      refine brB_ne (b := dgB xs tl lo hi tp tr) S (tgt := 37) dX5_digit_32 (by decide) (fun c14 => ?_) (fun c14 => ?_)
      · skip
        have hlt9 := (dgB_lt hlo c14).1
        refine lv_aload_n S.1 S.2.1 dX5_digit_37 rfl (lv_at hl 0 rfl) ?_
        refine lv_dup S.1 S.2.1 dX5_digit_38 rfl ?_
        refine gt_X5_10 (v := .int (o13 0 6)) S hK hw 0 rfl rfl LX5 k2 dX5_digit_39 ?_
        refine top_to (v := (nI (tp))) S To13.2.2.2.2.1 ?_
        refine lv_iconst (v := 1) S.1 S.2.1 dX5_digit_42 (by decide) ?_
        refine addN (a := tp) (b := 1) S dX5_digit_43 ?_
        refine pt_X5_10 (ws' := (mp G a z (st o13 0 6 (nI (tp + 1))))) S hK hw 0 rfl LX5 k2 rfl (Nat.le_of_ble_eq_true rfl) dX5_digit_44 (fun H locs hw => ?_)
        obtain ⟨o15, eo15⟩ : ∃ zz, zz = st o13 0 6 (nI (tp + 1)) := ⟨_, rfl⟩
        have hw : WD G (mp G a z o15) A s H locs := by rw [eo15]; exact hw
        have To15 := (TP.p6 To13 ((nI (tp + 1))))
        rw [← eo15] at To15
        refine lv_aload_n S.1 S.2.1 dX5_digit_47 rfl (lv_at hl 0 rfl) ?_
        refine gt_X5_4 (v := .ref (a 3)) S hK hw 0 rfl rfl LX5 k3 dX5_digit_48 ?_
        refine lv_aload_n S.1 S.2.1 dX5_digit_51 rfl (lv_at hl 0 rfl) ?_
        refine gt_X5_10 (v := .int (o15 0 6)) S hK hw 0 rfl rfl LX5 k2 dX5_digit_52 ?_
        refine top_to (v := (nI (tp + 1))) S To15.2.2.2.2.1 ?_
        refine lv_iconst (v := 1) S.1 S.2.1 dX5_digit_55 (by decide) ?_
        refine isub_to (v := nI tp) S (pk_sub (a := tp + 1) (b := 1) (by omega)) dX5_digit_56 ?_
        refine ald_i (v := o15 2 (tp)) (k := tp) S hK hw 3 rfl (by omega) (by decide) rfl dX5_digit_57 ?_
        refine top_to (v := xs tp) S (by rw [To15.1.2.2]) ?_
        refine lv_bipush (v := 48) S.1 S.2.1 dX5_digit_58 (by decide) ?_
        refine lv_isub S.1 S.2.1 dX5_digit_60 ?_
        exact en_i (v := ((xs tp) - (48))) ((z, o15) : St × St) hQ S hr hlk hw (by refine ⟨by rw [dgV, if_pos c14], rfl, ?_⟩; rw [dgP, if_pos c14]; exact To15) dX5_digit_61
      · skip
        refine lv_iconst (v := 0) S.1 S.2.1 dX5_digit_35 (by decide) ?_
        exact en_i (v := (0)) ((z, o13) : St × St) hQ S hr hlk hw (by refine ⟨by rw [dgV, if_neg (by rw [c14]; decide)], rfl, ?_⟩; rw [dgP, if_neg (by rw [c14]; decide)]; exact To13) dX5_digit_36
    · skip
      refine lv_iconst (v := 1) S.1 S.2.1 dX5_digit_20 (by decide) ?_
      refine lv_goto (tgt := 25) S.1 S.2.1 dX5_digit_21 (by decide) ?_
      refine top_to (v := (b2 (dgB xs tl lo hi tp tr))) S (by simp [dgB, b2, c1, c12]) ?_
      refine pt_X5_11 (ws' := (mp G a z (st o 0 7 (b2 (dgB xs tl lo hi tp tr))))) S hK hw 0 rfl LX5 k1 (b2_narrow _) (b2_fits _) rfl (Nat.le_of_ble_eq_true rfl) dX5_digit_25 (fun H locs hw => ?_)
      obtain ⟨o16, eo16⟩ : ∃ zz, zz = st o 0 7 (b2 (dgB xs tl lo hi tp tr)) := ⟨_, rfl⟩
      have hw : WD G (mp G a z o16) A s H locs := by rw [eo16]; exact hw
      have To16 := (TP.p7 hT ((b2 (dgB xs tl lo hi tp tr))))
      rw [← eo16] at To16
      refine lv_aload_n S.1 S.2.1 dX5_digit_28 rfl (lv_at hl 0 rfl) ?_
      refine gt_X5_11 (v := .int (o16 0 7)) S hK hw 0 rfl rfl LX5 k1 dX5_digit_29 ?_
      refine top_to (v := (b2 (dgB xs tl lo hi tp tr))) S To16.2.2.2.2.2 ?_
      refine brB_ne (b := dgB xs tl lo hi tp tr) S (tgt := 37) dX5_digit_32 (by decide) (fun c17 => ?_) (fun c17 => ?_)
      · skip
        have hlt9 := (dgB_lt hlo c17).1
        refine lv_aload_n S.1 S.2.1 dX5_digit_37 rfl (lv_at hl 0 rfl) ?_
        refine lv_dup S.1 S.2.1 dX5_digit_38 rfl ?_
        refine gt_X5_10 (v := .int (o16 0 6)) S hK hw 0 rfl rfl LX5 k2 dX5_digit_39 ?_
        refine top_to (v := (nI (tp))) S To16.2.2.2.2.1 ?_
        refine lv_iconst (v := 1) S.1 S.2.1 dX5_digit_42 (by decide) ?_
        refine addN (a := tp) (b := 1) S dX5_digit_43 ?_
        refine pt_X5_10 (ws' := (mp G a z (st o16 0 6 (nI (tp + 1))))) S hK hw 0 rfl LX5 k2 rfl (Nat.le_of_ble_eq_true rfl) dX5_digit_44 (fun H locs hw => ?_)
        obtain ⟨o18, eo18⟩ : ∃ zz, zz = st o16 0 6 (nI (tp + 1)) := ⟨_, rfl⟩
        have hw : WD G (mp G a z o18) A s H locs := by rw [eo18]; exact hw
        have To18 := (TP.p6 To16 ((nI (tp + 1))))
        rw [← eo18] at To18
        refine lv_aload_n S.1 S.2.1 dX5_digit_47 rfl (lv_at hl 0 rfl) ?_
        refine gt_X5_4 (v := .ref (a 3)) S hK hw 0 rfl rfl LX5 k3 dX5_digit_48 ?_
        refine lv_aload_n S.1 S.2.1 dX5_digit_51 rfl (lv_at hl 0 rfl) ?_
        refine gt_X5_10 (v := .int (o18 0 6)) S hK hw 0 rfl rfl LX5 k2 dX5_digit_52 ?_
        refine top_to (v := (nI (tp + 1))) S To18.2.2.2.2.1 ?_
        refine lv_iconst (v := 1) S.1 S.2.1 dX5_digit_55 (by decide) ?_
        refine isub_to (v := nI tp) S (pk_sub (a := tp + 1) (b := 1) (by omega)) dX5_digit_56 ?_
        refine ald_i (v := o18 2 (tp)) (k := tp) S hK hw 3 rfl (by omega) (by decide) rfl dX5_digit_57 ?_
        refine top_to (v := xs tp) S (by rw [To18.1.2.2]) ?_
        refine lv_bipush (v := 48) S.1 S.2.1 dX5_digit_58 (by decide) ?_
        refine lv_isub S.1 S.2.1 dX5_digit_60 ?_
        exact en_i (v := ((xs tp) - (48))) ((z, o18) : St × St) hQ S hr hlk hw (by refine ⟨by rw [dgV, if_pos c17], rfl, ?_⟩; rw [dgP, if_pos c17]; exact To18) dX5_digit_61
      · skip
        refine lv_iconst (v := 0) S.1 S.2.1 dX5_digit_35 (by decide) ?_
        exact en_i (v := (0)) ((z, o16) : St × St) hQ S hr hlk hw (by refine ⟨by rw [dgV, if_neg (by rw [c17]; decide)], rfl, ?_⟩; rw [dgP, if_neg (by rw [c17]; decide)]; exact To16) dX5_digit_36

theorem hd_X5_does : yX5_does.cls = RX5 ∧ yX5_does.cls ≠ "java/lang/invoke/MethodHandle" ∧ yX5_does.cls ≠ "java/lang/invoke/VarHandle" ∧ (parseMethodDescriptor yX5_does.desc).map (fun d => d.parameters.length) = some 3 := by decide +kernel
set_option maxHeartbeats 4000000 in
set_option maxRecDepth 100000 in
theorem c_X5_does (l : Launch) (G : GA) (a : Nat → Nat) (z : St) (o : St) (sz : Nat) (ca : Int32) (va : Int32) (vb : Int32) {xs : Nat → Int32} {tl : Nat} {tF tN : Int32} {tp : Nat} {tr : Bool} (iz : Inv z) (hT : TP o xs o (nI tl) tF tN (nI tp) (b2 tr)) : Met l yX5_does wsX5_does ({ frames := 8, cells := 0, slots := 0, locals := 187 }) (va_Pc [.ref (a 0), .int (ca), .int (va), .int (vb)] (PW G (mp G a z o) sz)) (va_Qv (fun (u : St × St) => u.1 = (dsP ca va vb z).2.2 ∧ TP o xs u.2 ((nI (tl))) (((dsP ca va vb z).1)) ((tN)) ((nI (tp))) ((b2 (tr)))) (fun (u : St × St) t => va_P G.1 gcl (mp G a u.1 u.2) t.heap) (va_A (mp G a z o) sz)) 0 0 (va_A (mp G a z o) sz) := by
  refine met_st (cc := cX5_does) (maxL := 5) (ret := none) (fun A => va_Qv (fun (u : St × St) => u.1 = (dsP ca va vb z).2.2 ∧ TP o xs u.2 ((nI (tl))) (((dsP ca va vb z).1)) ((tN)) ((nI (tp))) ((b2 (tr)))) (fun (u : St × St) t => va_P G.1 gcl (mp G a u.1 u.2) t.heap) A) (by decide) rfl (Nat.le_of_ble_eq_true rfl) ?_
  intro p e s m args below meth c R Q A H ls hR hQ S hr hlk _ hK hsz hH hAe hA hw hl
  have hl : lv_has ls 5 [(0, .ref (a 0)), (1, .int (ca)), (2, .int (va)), (3, .int (vb))] := hl
  have LX5 : ∀ w ∈ u_ws RX5 TX5 12, w.before args s = true := fun w h => S.2.2.2.2 w ((by decide +kernel : ∀ w ∈ u_ws RX5 TX5 12, w ∈ wsX5_does) w h)
  have k1 : (Cond.fieldLink RX5 171 "GossipMembershipModel" "failureKind" "I").before args s = true := S.2.2.2.2 _ (by decide +kernel : (Cond.fieldLink RX5 171 "GossipMembershipModel" "failureKind" "I") ∈ wsX5_does)
  have k2 : (Cond.fieldLink RX5 22 "GossipMembershipModel" "thrown" "I").before args s = true := S.2.2.2.2 _ (by decide +kernel : (Cond.fieldLink RX5 22 "GossipMembershipModel" "thrown" "I") ∈ wsX5_does)
  have K49 : ∀ (t : St) (w : St) (H : Heap) (locs : List Loc) (ls : Array Slot), t = (dsP ca va vb z).2.2 → TP o xs w (nI tl) tF tN (nI tp) (b2 tr) → w 0 0 = (dsP ca va vb z).1 → WD G (mp G a t w) A s H locs → lv_has ls 5 [(0, .ref (a 0)), (1, .int (ca)), (2, .int (va)), (3, .int (vb))] → W p l e R s m args below meth c H locs 0 0 Q (F0 m 49 ls [.int ((dsP ca va vb z).2.1)]) := by
    intro t w H locs ls ht hTw hth hw hl
    refine lv_istore (lv' := [(4, .int ((dsP ca va vb z).2.1)), (0, .ref (a 0)), (1, .int (ca)), (2, .int (va)), (3, .int (vb))]) S.1 S.2.1 dX5_does_49 hl (by decide) rfl (fun ls hl => ?_)
    refine lv_aload_n S.1 S.2.1 dX5_does_51 rfl (lv_at hl 1 rfl) ?_
    refine lv_iload S.1 S.2.1 dX5_does_52 (lv_at hl 0 rfl) ?_
    refine lv_if_lt (tgt := 71) S.1 S.2.1 dX5_does_54 (by decide) (fun c1 => ?_) (fun c1 => ?_)
    · skip
      refine lv_iconst (v := 0) S.1 S.2.1 dX5_does_71 (by decide) ?_
      refine top_to (v := ((dsP ca va vb z).1)) S (by first | exact (okp_lt (okp_ds ca va vb z) c1).symm | exact (okp_le (okp_ds ca va vb z) c1).symm) ?_
      refine pt_X5_6 (ws' := (mp G a t (st w 0 3 ((dsP ca va vb z).1)))) S hK hw 0 rfl LX5 k1 rfl (Nat.le_of_ble_eq_true rfl) dX5_does_72 (fun H locs hw => ?_)
      obtain ⟨o2, eo2⟩ : ∃ zz, zz = st w 0 3 ((dsP ca va vb z).1) := ⟨_, rfl⟩
      have hw : WD G (mp G a t o2) A s H locs := by rw [eo2]; exact hw
      have To2 := (TP.p3 hTw (((dsP ca va vb z).1)))
      rw [← eo2] at To2
      exact en_v ((t, o2) : St × St) hQ S hr hlk hw (by exact ⟨ht, To2⟩) dX5_does_75
    · skip
      refine lv_aload_n S.1 S.2.1 dX5_does_57 rfl (lv_at hl 1 rfl) ?_
      refine gt_X5_0 (v := .int (w 0 0)) S hK hw 0 rfl rfl LX5 k2 dX5_does_58 ?_
      refine top_to (v := (dsP ca va vb z).1) S hth ?_
      refine lv_if_le (tgt := 71) S.1 S.2.1 dX5_does_61 (by decide) (fun c3 => ?_) (fun c3 => ?_)
      · skip
        refine lv_iconst (v := 0) S.1 S.2.1 dX5_does_71 (by decide) ?_
        refine top_to (v := ((dsP ca va vb z).1)) S (by first | exact (okp_lt (okp_ds ca va vb z) c3).symm | exact (okp_le (okp_ds ca va vb z) c3).symm) ?_
        refine pt_X5_6 (ws' := (mp G a t (st w 0 3 ((dsP ca va vb z).1)))) S hK hw 0 rfl LX5 k1 rfl (Nat.le_of_ble_eq_true rfl) dX5_does_72 (fun H locs hw => ?_)
        obtain ⟨o4, eo4⟩ : ∃ zz, zz = st w 0 3 ((dsP ca va vb z).1) := ⟨_, rfl⟩
        have hw : WD G (mp G a t o4) A s H locs := by rw [eo4]; exact hw
        have To4 := (TP.p3 hTw (((dsP ca va vb z).1)))
        rw [← eo4] at To4
        exact en_v ((t, o4) : St × St) hQ S hr hlk hw (by exact ⟨ht, To4⟩) dX5_does_75
      · skip
        refine lv_aload_n S.1 S.2.1 dX5_does_64 rfl (lv_at hl 1 rfl) ?_
        refine gt_X5_0 (v := .int (w 0 0)) S hK hw 0 rfl rfl LX5 k2 dX5_does_65 ?_
        refine top_to (v := (dsP ca va vb z).1) S hth ?_
        refine lv_goto (tgt := 72) S.1 S.2.1 dX5_does_68 (by decide) ?_
        refine pt_X5_6 (ws' := (mp G a t (st w 0 3 ((dsP ca va vb z).1)))) S hK hw 0 rfl LX5 k1 rfl (Nat.le_of_ble_eq_true rfl) dX5_does_72 (fun H locs hw => ?_)
        obtain ⟨o5, eo5⟩ : ∃ zz, zz = st w 0 3 ((dsP ca va vb z).1) := ⟨_, rfl⟩
        have hw : WD G (mp G a t o5) A s H locs := by rw [eo5]; exact hw
        have To5 := (TP.p3 hTw (((dsP ca va vb z).1)))
        rw [← eo5] at To5
        exact en_v ((t, o5) : St × St) hQ S hr hlk hw (by exact ⟨ht, To5⟩) dX5_does_75
  refine lv_iload_n S.1 S.2.1 dX5_does_0 rfl (lv_at hl 1 rfl) ?_
  refine lv_bipush (v := 99) S.1 S.2.1 dX5_does_1 (by decide) ?_
  refine lv_icmp_ne (tgt := 14) S.1 S.2.1 dX5_does_3 (by decide) (fun c6 => ?_) (fun c6 => ?_)
  · skip
    refine lv_iload_n S.1 S.2.1 dX5_does_14 rfl (lv_at hl 1 rfl) ?_
    refine lv_bipush (v := 106) S.1 S.2.1 dX5_does_15 (by decide) ?_
    refine lv_icmp_ne (tgt := 29) S.1 S.2.1 dX5_does_17 (by decide) (fun c7 => ?_) (fun c7 => ?_)
    · skip
      refine lv_iload_n S.1 S.2.1 dX5_does_29 rfl (lv_at hl 1 rfl) ?_
      refine lv_bipush (v := 112) S.1 S.2.1 dX5_does_30 (by decide) ?_
      refine lv_icmp_ne (tgt := 44) S.1 S.2.1 dX5_does_32 (by decide) (fun c8 => ?_) (fun c8 => ?_)
      · skip
        refine lv_aload_n S.1 S.2.1 dX5_does_44 rfl (lv_at hl 0 rfl) ?_
        refine lv_iload_n S.1 S.2.1 dX5_does_45 rfl (lv_at hl 2 rfl) ?_
        refine cl_i (va_runV (As := [.int (va)]) (rest := []) S (c_X5_rounds l G a z o H.size (va) (by exact iz)) (cwV 1 S.2.2.2.2 gX5_does_X5_rounds rfl rfl rfl hd_X5_rounds ⟨by rw [hR]; exact Nat.le_of_ble_eq_true rfl, by rw [hR]; exact Nat.le_of_ble_eq_true rfl⟩) ⟨PW.blind, va_recv hK.1 hw.1 (ci := 5) (q0 := 0) rfl rfl, fun U hU hW => ⟨rfl, PW.of hK hw hU hW⟩⟩ rfl rfl hl.1 rfl (lv_room (Nat.le_of_ble_eq_true rfl)) dX5_does_46 ⟨Nat.zero_le _, Nat.zero_le _⟩) hw hA (fun _ => rfl) (fun r9 z10 H locs h11 hw => ?_)
        obtain ⟨z12, o13⟩ := z10
        try dsimp only at h11 hw
        obtain ⟨rfl, ez12, eo13, to13⟩ := h11
        refine top_to (v := ((dsP ca va vb z).2.1)) S (by first | rw [ds_c (by assumption)] | rw [ds_j (by assumption) (by assumption)] | rw [ds_p (by assumption) (by assumption) (by assumption)] | rw [ds_r (by assumption) (by assumption) (by assumption)]) ?_
        exact K49 (z12) (o13) _ _ _ (by (first | rw [ds_c (by assumption)] | rw [ds_j (by assumption) (by assumption)] | rw [ds_p (by assumption) (by assumption) (by assumption)] | rw [ds_r (by assumption) (by assumption) (by assumption)]); exact ez12) (by exact (hT.rt eo13)) (by (first | rw [ds_c (by assumption)] | rw [ds_j (by assumption) (by assumption)] | rw [ds_p (by assumption) (by assumption) (by assumption)] | rw [ds_r (by assumption) (by assumption) (by assumption)]); exact to13) hw (lv_sub hl [0, 1, 2, 3] rfl)
      · skip
        refine lv_aload_n S.1 S.2.1 dX5_does_35 rfl (lv_at hl 0 rfl) ?_
        refine lv_iload_n S.1 S.2.1 dX5_does_36 rfl (lv_at hl 2 rfl) ?_
        refine lv_iload_n S.1 S.2.1 dX5_does_37 rfl (lv_at hl 3 rfl) ?_
        refine cl_i (va_runV (As := [.int (va), .int (vb)]) (rest := []) S (c_X5_move l G a z o H.size (va) (vb) (by exact iz)) (cwV 2 S.2.2.2.2 gX5_does_X5_move rfl rfl rfl hd_X5_move ⟨by rw [hR]; exact Nat.le_of_ble_eq_true rfl, by rw [hR]; exact Nat.le_of_ble_eq_true rfl⟩) ⟨PW.blind, va_recv hK.1 hw.1 (ci := 5) (q0 := 0) rfl rfl, fun U hU hW => ⟨rfl, PW.of hK hw hU hW⟩⟩ rfl rfl hl.1 rfl (lv_room (Nat.le_of_ble_eq_true rfl)) dX5_does_38 ⟨Nat.zero_le _, Nat.zero_le _⟩) hw hA (fun _ => rfl) (fun r14 z15 H locs h16 hw => ?_)
        obtain ⟨z17, o18⟩ := z15
        try dsimp only at h16 hw
        obtain ⟨rfl, ez17, eo18, to18⟩ := h16
        refine lv_goto (tgt := 49) S.1 S.2.1 dX5_does_41 (by decide) ?_
        refine top_to (v := ((dsP ca va vb z).2.1)) S (by first | rw [ds_c (by assumption)] | rw [ds_j (by assumption) (by assumption)] | rw [ds_p (by assumption) (by assumption) (by assumption)] | rw [ds_r (by assumption) (by assumption) (by assumption)]) ?_
        exact K49 (z17) (o18) _ _ _ (by (first | rw [ds_c (by assumption)] | rw [ds_j (by assumption) (by assumption)] | rw [ds_p (by assumption) (by assumption) (by assumption)] | rw [ds_r (by assumption) (by assumption) (by assumption)]); exact ez17) (by exact (hT.rt eo18)) (by (first | rw [ds_c (by assumption)] | rw [ds_j (by assumption) (by assumption)] | rw [ds_p (by assumption) (by assumption) (by assumption)] | rw [ds_r (by assumption) (by assumption) (by assumption)]); exact to18) hw (lv_sub hl [0, 1, 2, 3] rfl)
    · skip
      refine lv_aload_n S.1 S.2.1 dX5_does_20 rfl (lv_at hl 0 rfl) ?_
      refine lv_iload_n S.1 S.2.1 dX5_does_21 rfl (lv_at hl 2 rfl) ?_
      refine lv_iload_n S.1 S.2.1 dX5_does_22 rfl (lv_at hl 3 rfl) ?_
      refine cl_i (va_runV (As := [.int (va), .int (vb)]) (rest := []) S (c_X5_join l G a z o H.size (va) (vb) (by exact iz)) (cwV 2 S.2.2.2.2 gX5_does_X5_join rfl rfl rfl hd_X5_join ⟨by rw [hR]; exact Nat.le_of_ble_eq_true rfl, by rw [hR]; exact Nat.le_of_ble_eq_true rfl⟩) ⟨PW.blind, va_recv hK.1 hw.1 (ci := 5) (q0 := 0) rfl rfl, fun U hU hW => ⟨rfl, PW.of hK hw hU hW⟩⟩ rfl rfl hl.1 rfl (lv_room (Nat.le_of_ble_eq_true rfl)) dX5_does_23 ⟨Nat.zero_le _, Nat.zero_le _⟩) hw hA (fun _ => rfl) (fun r19 z20 H locs h21 hw => ?_)
      obtain ⟨z22, o23⟩ := z20
      try dsimp only at h21 hw
      obtain ⟨rfl, ez22, eo23, to23⟩ := h21
      refine lv_goto (tgt := 49) S.1 S.2.1 dX5_does_26 (by decide) ?_
      refine top_to (v := ((dsP ca va vb z).2.1)) S (by first | rw [ds_c (by assumption)] | rw [ds_j (by assumption) (by assumption)] | rw [ds_p (by assumption) (by assumption) (by assumption)] | rw [ds_r (by assumption) (by assumption) (by assumption)]) ?_
      exact K49 (z22) (o23) _ _ _ (by (first | rw [ds_c (by assumption)] | rw [ds_j (by assumption) (by assumption)] | rw [ds_p (by assumption) (by assumption) (by assumption)] | rw [ds_r (by assumption) (by assumption) (by assumption)]); exact ez22) (by exact (hT.rt eo23)) (by (first | rw [ds_c (by assumption)] | rw [ds_j (by assumption) (by assumption)] | rw [ds_p (by assumption) (by assumption) (by assumption)] | rw [ds_r (by assumption) (by assumption) (by assumption)]); exact to23) hw (lv_sub hl [0, 1, 2, 3] rfl)
  · skip
    refine lv_aload_n S.1 S.2.1 dX5_does_6 rfl (lv_at hl 0 rfl) ?_
    refine lv_iload_n S.1 S.2.1 dX5_does_7 rfl (lv_at hl 2 rfl) ?_
    refine cl_i (va_runV (As := [.int (va)]) (rest := []) S (c_X5_crash l G a z o H.size (va) (by exact iz)) (cwV 1 S.2.2.2.2 gX5_does_X5_crash rfl rfl rfl hd_X5_crash ⟨by rw [hR]; exact Nat.le_of_ble_eq_true rfl, by rw [hR]; exact Nat.le_of_ble_eq_true rfl⟩) ⟨PW.blind, va_recv hK.1 hw.1 (ci := 5) (q0 := 0) rfl rfl, fun U hU hW => ⟨rfl, PW.of hK hw hU hW⟩⟩ rfl rfl hl.1 rfl (lv_room (Nat.le_of_ble_eq_true rfl)) dX5_does_8 ⟨Nat.zero_le _, Nat.zero_le _⟩) hw hA (fun _ => rfl) (fun r24 z25 H locs h26 hw => ?_)
    obtain ⟨z27, o28⟩ := z25
    try dsimp only at h26 hw
    obtain ⟨rfl, ez27, eo28, to28⟩ := h26
    refine lv_goto (tgt := 49) S.1 S.2.1 dX5_does_11 (by decide) ?_
    refine top_to (v := ((dsP ca va vb z).2.1)) S (by first | rw [ds_c (by assumption)] | rw [ds_j (by assumption) (by assumption)] | rw [ds_p (by assumption) (by assumption) (by assumption)] | rw [ds_r (by assumption) (by assumption) (by assumption)]) ?_
    exact K49 (z27) (o28) _ _ _ (by (first | rw [ds_c (by assumption)] | rw [ds_j (by assumption) (by assumption)] | rw [ds_p (by assumption) (by assumption) (by assumption)] | rw [ds_r (by assumption) (by assumption) (by assumption)]); exact ez27) (by exact (hT.rt eo28)) (by (first | rw [ds_c (by assumption)] | rw [ds_j (by assumption) (by assumption)] | rw [ds_p (by assumption) (by assumption) (by assumption)] | rw [ds_r (by assumption) (by assumption) (by assumption)]); exact to28) hw (lv_sub hl [0, 1, 2, 3] rfl)

theorem hd_X5_command : yX5_command.cls = RX5 ∧ yX5_command.cls ≠ "java/lang/invoke/MethodHandle" ∧ yX5_command.cls ≠ "java/lang/invoke/VarHandle" ∧ (parseMethodDescriptor yX5_command.desc).map (fun d => d.parameters.length) = some 1 := by decide +kernel
set_option maxHeartbeats 4000000 in
set_option maxRecDepth 100000 in
theorem c_X5_command (l : Launch) (G : GA) (a : Nat → Nat) (z : St) (o : St) (sz : Nat) (dn : Bool) {xs : Nat → Int32} {tl : Nat} {tF tN : Int32} {tp : Nat} {tr : Bool} (iz : Inv z) (hT : TP o xs o (nI tl) tF tN (nI tp) (b2 tr)) (hm : tl ≤ 40) (hpm : tp ≤ tl) (hF : tF = 0) : Met l yX5_command wsX5_command ({ frames := 9, cells := 0, slots := 0, locals := 211 }) (va_Pc [.ref (a 0), .int (b2 (dn))] (PW G (mp G a z o) sz)) (va_Qv (fun (u : St × St) => u.1 = (DP xs tl dn tp z).2.2 ∧ TP o xs u.2 ((nI (tl))) (((DP xs tl dn tp z).1)) ((tN)) ((nI ((cmd xs tl tp).1))) ((b2 ((cmd xs tl tp).2.1)))) (fun (u : St × St) t => va_P G.1 gcl (mp G a u.1 u.2) t.heap) (va_A (mp G a z o) sz)) 0 0 (va_A (mp G a z o) sz) := by
  refine met_st (cc := cX5_command) (maxL := 5) (ret := none) (fun A => va_Qv (fun (u : St × St) => u.1 = (DP xs tl dn tp z).2.2 ∧ TP o xs u.2 ((nI (tl))) (((DP xs tl dn tp z).1)) ((tN)) ((nI ((cmd xs tl tp).1))) ((b2 ((cmd xs tl tp).2.1)))) (fun (u : St × St) t => va_P G.1 gcl (mp G a u.1 u.2) t.heap) A) (by decide) rfl (Nat.le_of_ble_eq_true rfl) ?_
  intro p e s m args below meth c R Q A H ls hR hQ S hr hlk _ hK hsz hH hAe hA hw hl
  have hl : lv_has ls 5 [(0, .ref (a 0)), (1, .int (b2 (dn)))] := hl
  have LX5 : ∀ w ∈ u_ws RX5 TX5 12, w.before args s = true := fun w h => S.2.2.2.2 w ((by decide +kernel : ∀ w ∈ u_ws RX5 TX5 12, w ∈ wsX5_command) w h)
  have k1 : (Cond.fieldLink RX5 144 "GossipMembershipModel" "isRead" "Z").before args s = true := S.2.2.2.2 _ (by decide +kernel : (Cond.fieldLink RX5 144 "GossipMembershipModel" "isRead" "Z") ∈ wsX5_command)
  have k2 : (Cond.fieldLink RX5 141 "GossipMembershipModel" "spot" "I").before args s = true := S.2.2.2.2 _ (by decide +kernel : (Cond.fieldLink RX5 141 "GossipMembershipModel" "spot" "I") ∈ wsX5_command)
  have hc1 := (cm1_le (x := xs) hpm).2
  have hc2 := (cm2_le (x := xs) hpm).2
  refine lv_aload_n S.1 S.2.1 dX5_command_0 rfl (lv_at hl 0 rfl) ?_
  refine cl_i (va_runV (As := []) (rest := []) S (c_X5_here l G a z o H.size  (xs := xs) (tl := tl) (tF := (tF)) (tN := (tN)) (tp := tp) (tr := tr) (by exact hT.self) (by omega) (by omega)) (cwV 0 S.2.2.2.2 gX5_command_X5_here rfl rfl rfl hd_X5_here ⟨by rw [hR]; exact Nat.le_of_ble_eq_true rfl, by rw [hR]; exact Nat.le_of_ble_eq_true rfl⟩) ⟨PW.blind, va_recv hK.1 hw.1 (ci := 5) (q0 := 0) rfl rfl, fun U hU hW => ⟨rfl, PW.of hK hw hU hW⟩⟩ rfl rfl hl.1 rfl (lv_room (Nat.le_of_ble_eq_true rfl)) dX5_command_1 ⟨Nat.zero_le _, Nat.zero_le _⟩) hw hA (fun _ => rfl) (fun r1 z2 H locs h3 hw => ?_)
  obtain ⟨z4, o5⟩ := z2
  try dsimp only at h3 hw
  obtain ⟨rfl, qz4, qo5⟩ := h3
  rw [qz4] at hw
  rw [qo5] at hw
  refine lv_istore_n (lv' := [(2, .int (hrx xs tl tp)), (0, .ref (a 0)), (1, .int (b2 (dn)))]) S.1 S.2.1 dX5_command_4 rfl hl (by decide) rfl (fun ls hl => ?_)
  have K35 : ∀  (H : Heap) (locs : List Loc) (ls : Array Slot), WD G (mp G a z o) A s H locs → lv_has ls 5 [(0, .ref (a 0)), (1, .int (b2 (dn))), (2, .int (hrx xs tl tp))] → W p l e R s m args below meth c H locs 0 0 Q (F0 m 35 ls [.int (b2 (isL (hrx xs tl tp))), .ref (a 0)]) := by
    intro  H locs ls  hw hl
    refine pt_X5_11 (ws' := (mp G a z (st o 0 7 (b2 (isL (hrx xs tl tp)))))) S hK hw 0 rfl LX5 k1 (b2_narrow _) (b2_fits _) rfl (Nat.le_of_ble_eq_true rfl) dX5_command_35 (fun H locs hw => ?_)
    obtain ⟨o6, eo6⟩ : ∃ zz, zz = st o 0 7 (b2 (isL (hrx xs tl tp))) := ⟨_, rfl⟩
    have hw : WD G (mp G a z o6) A s H locs := by rw [eo6]; exact hw
    have To6 := (TP.p7 hT ((b2 (isL (hrx xs tl tp)))))
    rw [← eo6] at To6
    have K59 : ∀ (w : St) (H : Heap) (locs : List Loc) (ls : Array Slot), TP o xs w (nI tl) tF tN (nI (cm1 xs tl tp)) (b2 (isL (hrx xs tl tp))) → WD G (mp G a z w) A s H locs → lv_has ls 5 [(0, .ref (a 0)), (1, .int (b2 (dn))), (2, .int (hrx xs tl tp))] → W p l e R s m args below meth c H locs 0 0 Q (F0 m 59 ls []) := by
      intro w H locs ls hT1 hw hl
      have K84 : ∀ (w2 : St) (H : Heap) (locs : List Loc) (ls : Array Slot), TP o xs w2 (nI tl) tF tN (nI (cm2 xs tl tp).1) (b2 (cm2 xs tl tp).2.1) → WD G (mp G a z w2) A s H locs → lv_has ls 5 [(0, .ref (a 0)), (1, .int (b2 (dn))), (2, .int (hrx xs tl tp))] → W p l e R s m args below meth c H locs 0 0 Q (F0 m 84 ls [.int ((cm2 xs tl tp).2.2)]) := by
        intro w2 H locs ls hT2 hw hl
        refine lv_istore_n (lv' := [(3, .int ((cm2 xs tl tp).2.2)), (0, .ref (a 0)), (1, .int (b2 (dn))), (2, .int (hrx xs tl tp))]) S.1 S.2.1 dX5_command_84 rfl hl (by decide) rfl (fun ls hl => ?_)
        have K120 : ∀ (w3 : St) (H : Heap) (locs : List Loc) (ls : Array Slot), TP o xs w3 (nI tl) tF tN (nI (cmd xs tl tp).1) (b2 (cmd xs tl tp).2.1) → WD G (mp G a z w3) A s H locs → lv_has ls 5 [(0, .ref (a 0)), (1, .int (b2 (dn))), (2, .int (hrx xs tl tp)), (3, .int ((cm2 xs tl tp).2.2))] → W p l e R s m args below meth c H locs 0 0 Q (F0 m 120 ls [.int ((cmd xs tl tp).2.2.2)]) := by
          intro w3 H locs ls hT3 hw hl
          refine lv_istore (lv' := [(4, .int ((cmd xs tl tp).2.2.2)), (0, .ref (a 0)), (1, .int (b2 (dn))), (2, .int (hrx xs tl tp)), (3, .int ((cm2 xs tl tp).2.2))]) S.1 S.2.1 dX5_command_120 hl (by decide) rfl (fun ls hl => ?_)
          refine lv_iload_n S.1 S.2.1 dX5_command_122 rfl (lv_at hl 2 rfl) ?_
          refine brB_eq (b := dn) S (tgt := 134) dX5_command_123 (by decide) (fun c7 => ?_) (fun c7 => ?_)
          · skip
            exact en_v ((z, w3) : St × St) hQ S hr hlk hw (by first | (have e9 : DP xs tl dn tp z = dsP (hrx xs tl tp) (cm2 xs tl tp).2.2 (cmd xs tl tp).2.2.2 z := (by rw [DP, if_pos (by assumption), cmd_a]); rw [e9]; exact ⟨ez, hT3⟩) | (have e9 : DP xs tl dn tp z = (0, 0, z) := (by rw [DP, if_neg (by rw [c7]; decide)]); rw [e9]; have h9 := hT3; rw [hF] at h9; exact ⟨rfl, h9⟩)) dX5_command_134
          · skip
            refine lv_aload_n S.1 S.2.1 dX5_command_126 rfl (lv_at hl 1 rfl) ?_
            refine lv_iload_n S.1 S.2.1 dX5_command_127 rfl (lv_at hl 3 rfl) ?_
            refine lv_iload_n S.1 S.2.1 dX5_command_128 rfl (lv_at hl 4 rfl) ?_
            refine lv_iload S.1 S.2.1 dX5_command_129 (lv_at hl 0 rfl) ?_
            refine cl_v (va_runV (As := [.int (hrx xs tl tp), .int ((cm2 xs tl tp).2.2), .int ((cmd xs tl tp).2.2.2)]) (rest := []) S (c_X5_does l G a z w3 H.size (hrx xs tl tp) ((cm2 xs tl tp).2.2) ((cmd xs tl tp).2.2.2) (xs := xs) (tl := tl) (tF := (tF)) (tN := (tN)) (tp := (cmd xs tl tp).1) (tr := (cmd xs tl tp).2.1) (by exact iz) (by exact hT3.self)) (cwV 3 S.2.2.2.2 gX5_command_X5_does rfl rfl rfl hd_X5_does ⟨by rw [hR]; exact Nat.le_of_ble_eq_true rfl, by rw [hR]; exact Nat.le_of_ble_eq_true rfl⟩) ⟨PW.blind, va_recv hK.1 hw.1 (ci := 5) (q0 := 0) rfl rfl, fun U hU hW => ⟨rfl, PW.of hK hw hU hW⟩⟩ rfl rfl hl.1 rfl (lv_room (Nat.le_of_ble_eq_true rfl)) dX5_command_131 ⟨Nat.zero_le _, Nat.zero_le _⟩) hw hA (fun _ => rfl) (fun z9 H locs h10 hw => ?_)
            obtain ⟨z11, o12⟩ := z9
            try dsimp only at h10 hw
            obtain ⟨ez11, To12⟩ := h10
            have iz11 : Inv z11 := by rw [ez11]; exact inv_ds iz (hrx xs tl tp) ((cm2 xs tl tp).2.2) ((cmd xs tl tp).2.2.2)
            exact en_v ((z11, o12) : St × St) hQ S hr hlk hw (by first | (have e9 : DP xs tl dn tp z = dsP (hrx xs tl tp) (cm2 xs tl tp).2.2 (cmd xs tl tp).2.2.2 z := (by rw [DP, if_pos (by assumption), cmd_a]); rw [e9]; exact ⟨ez11, (hT3.tr To12)⟩) | (have e9 : DP xs tl dn tp z = (0, 0, z) := (by rw [DP, if_neg (by rw [c7]; decide)]); rw [e9]; have h9 := (hT3.tr To12); rw [hF] at h9; exact ⟨rfl, h9⟩)) dX5_command_134
        refine lv_iload_n S.1 S.2.1 dX5_command_85 rfl (lv_at hl 3 rfl) ?_
        refine lv_bipush (v := 106) S.1 S.2.1 dX5_command_86 (by decide) ?_
        refine lv_icmp_ne (tgt := 102) S.1 S.2.1 dX5_command_88 (by decide) (fun c13 => ?_) (fun c13 => ?_)
        · skip
          refine lv_iload_n S.1 S.2.1 dX5_command_102 rfl (lv_at hl 3 rfl) ?_
          refine lv_bipush (v := 112) S.1 S.2.1 dX5_command_103 (by decide) ?_
          refine lv_icmp_ne (tgt := 119) S.1 S.2.1 dX5_command_105 (by decide) (fun c14 => ?_) (fun c14 => ?_)
          · skip
            refine lv_iconst (v := 0) S.1 S.2.1 dX5_command_119 (by decide) ?_
            refine top_to (v := ((cmd xs tl tp).2.2.2)) S (by first | (have e9 : cmd xs tl tp = (dgP xs tl 48 55 (cm2 xs tl tp).1 (cm2 xs tl tp).2.1, dgB xs tl 48 55 (cm2 xs tl tp).1 (cm2 xs tl tp).2.1, (cm2 xs tl tp).2.2, dgV xs tl 48 55 (cm2 xs tl tp).1 (cm2 xs tl tp).2.1) := (by rw [cmd, if_pos (by assumption)]); rw [e9]; done) | (have e9 : cmd xs tl tp = (dgP xs tl 48 51 (cm2 xs tl tp).1 (cm2 xs tl tp).2.1, dgB xs tl 48 51 (cm2 xs tl tp).1 (cm2 xs tl tp).2.1, (cm2 xs tl tp).2.2, dgV xs tl 48 51 (cm2 xs tl tp).1 (cm2 xs tl tp).2.1) := (by rw [cmd, if_neg (by assumption), if_pos (by assumption)]); rw [e9]; done) | (have e9 : cmd xs tl tp = ((cm2 xs tl tp).1, (cm2 xs tl tp).2.1, (cm2 xs tl tp).2.2, 0) := (by rw [cmd, if_neg (by assumption), if_neg (by assumption)]); rw [e9]; done)) ?_
            exact K120 (w2) _ _ _ (by first | (have e9 : cmd xs tl tp = (dgP xs tl 48 55 (cm2 xs tl tp).1 (cm2 xs tl tp).2.1, dgB xs tl 48 55 (cm2 xs tl tp).1 (cm2 xs tl tp).2.1, (cm2 xs tl tp).2.2, dgV xs tl 48 55 (cm2 xs tl tp).1 (cm2 xs tl tp).2.1) := (by rw [cmd, if_pos (by assumption)]); rw [e9]; exact hT2; done) | (have e9 : cmd xs tl tp = (dgP xs tl 48 51 (cm2 xs tl tp).1 (cm2 xs tl tp).2.1, dgB xs tl 48 51 (cm2 xs tl tp).1 (cm2 xs tl tp).2.1, (cm2 xs tl tp).2.2, dgV xs tl 48 51 (cm2 xs tl tp).1 (cm2 xs tl tp).2.1) := (by rw [cmd, if_neg (by assumption), if_pos (by assumption)]); rw [e9]; exact hT2; done) | (have e9 : cmd xs tl tp = ((cm2 xs tl tp).1, (cm2 xs tl tp).2.1, (cm2 xs tl tp).2.2, 0) := (by rw [cmd, if_neg (by assumption), if_neg (by assumption)]); rw [e9]; exact hT2; done)) hw (lv_sub hl [1, 2, 3, 0] rfl)
          · skip
            refine lv_aload_n S.1 S.2.1 dX5_command_108 rfl (lv_at hl 1 rfl) ?_
            refine lv_bipush (v := 48) S.1 S.2.1 dX5_command_109 (by decide) ?_
            refine lv_bipush (v := 51) S.1 S.2.1 dX5_command_111 (by decide) ?_
            refine cl_i (va_runV (As := [.int 48, .int 51]) (rest := []) S (c_X5_digit l G a z w2 H.size (48) (51) (xs := xs) (tl := tl) (tF := (tF)) (tN := (tN)) (tp := (cm2 xs tl tp).1) (tr := (cm2 xs tl tp).2.1) (by exact hT2.self) (by omega) (by omega) (by decide)) (cwV 2 S.2.2.2.2 gX5_command_X5_digit rfl rfl rfl hd_X5_digit ⟨by rw [hR]; exact Nat.le_of_ble_eq_true rfl, by rw [hR]; exact Nat.le_of_ble_eq_true rfl⟩) ⟨PW.blind, va_recv hK.1 hw.1 (ci := 5) (q0 := 0) rfl rfl, fun U hU hW => ⟨rfl, PW.of hK hw hU hW⟩⟩ rfl rfl hl.1 rfl (lv_room (Nat.le_of_ble_eq_true rfl)) dX5_command_113 ⟨Nat.zero_le _, Nat.zero_le _⟩) hw hA (fun _ => rfl) (fun r15 z16 H locs h17 hw => ?_)
            obtain ⟨z18, o19⟩ := z16
            try dsimp only at h17 hw
            obtain ⟨rfl, qz18, To19⟩ := h17
            rw [qz18] at hw
            refine lv_goto (tgt := 120) S.1 S.2.1 dX5_command_116 (by decide) ?_
            refine top_to (v := ((cmd xs tl tp).2.2.2)) S (by first | (have e9 : cmd xs tl tp = (dgP xs tl 48 55 (cm2 xs tl tp).1 (cm2 xs tl tp).2.1, dgB xs tl 48 55 (cm2 xs tl tp).1 (cm2 xs tl tp).2.1, (cm2 xs tl tp).2.2, dgV xs tl 48 55 (cm2 xs tl tp).1 (cm2 xs tl tp).2.1) := (by rw [cmd, if_pos (by assumption)]); rw [e9]; done) | (have e9 : cmd xs tl tp = (dgP xs tl 48 51 (cm2 xs tl tp).1 (cm2 xs tl tp).2.1, dgB xs tl 48 51 (cm2 xs tl tp).1 (cm2 xs tl tp).2.1, (cm2 xs tl tp).2.2, dgV xs tl 48 51 (cm2 xs tl tp).1 (cm2 xs tl tp).2.1) := (by rw [cmd, if_neg (by assumption), if_pos (by assumption)]); rw [e9]; done) | (have e9 : cmd xs tl tp = ((cm2 xs tl tp).1, (cm2 xs tl tp).2.1, (cm2 xs tl tp).2.2, 0) := (by rw [cmd, if_neg (by assumption), if_neg (by assumption)]); rw [e9]; done)) ?_
            exact K120 (o19) _ _ _ (by first | (have e9 : cmd xs tl tp = (dgP xs tl 48 55 (cm2 xs tl tp).1 (cm2 xs tl tp).2.1, dgB xs tl 48 55 (cm2 xs tl tp).1 (cm2 xs tl tp).2.1, (cm2 xs tl tp).2.2, dgV xs tl 48 55 (cm2 xs tl tp).1 (cm2 xs tl tp).2.1) := (by rw [cmd, if_pos (by assumption)]); rw [e9]; exact (hT2.tr To19); done) | (have e9 : cmd xs tl tp = (dgP xs tl 48 51 (cm2 xs tl tp).1 (cm2 xs tl tp).2.1, dgB xs tl 48 51 (cm2 xs tl tp).1 (cm2 xs tl tp).2.1, (cm2 xs tl tp).2.2, dgV xs tl 48 51 (cm2 xs tl tp).1 (cm2 xs tl tp).2.1) := (by rw [cmd, if_neg (by assumption), if_pos (by assumption)]); rw [e9]; exact (hT2.tr To19); done) | (have e9 : cmd xs tl tp = ((cm2 xs tl tp).1, (cm2 xs tl tp).2.1, (cm2 xs tl tp).2.2, 0) := (by rw [cmd, if_neg (by assumption), if_neg (by assumption)]); rw [e9]; exact (hT2.tr To19); done)) hw (lv_sub hl [1, 2, 3, 0] rfl)
        · skip
          refine lv_aload_n S.1 S.2.1 dX5_command_91 rfl (lv_at hl 1 rfl) ?_
          refine lv_bipush (v := 48) S.1 S.2.1 dX5_command_92 (by decide) ?_
          refine lv_bipush (v := 55) S.1 S.2.1 dX5_command_94 (by decide) ?_
          refine cl_i (va_runV (As := [.int 48, .int 55]) (rest := []) S (c_X5_digit l G a z w2 H.size (48) (55) (xs := xs) (tl := tl) (tF := (tF)) (tN := (tN)) (tp := (cm2 xs tl tp).1) (tr := (cm2 xs tl tp).2.1) (by exact hT2.self) (by omega) (by omega) (by decide)) (cwV 2 S.2.2.2.2 gX5_command_X5_digit rfl rfl rfl hd_X5_digit ⟨by rw [hR]; exact Nat.le_of_ble_eq_true rfl, by rw [hR]; exact Nat.le_of_ble_eq_true rfl⟩) ⟨PW.blind, va_recv hK.1 hw.1 (ci := 5) (q0 := 0) rfl rfl, fun U hU hW => ⟨rfl, PW.of hK hw hU hW⟩⟩ rfl rfl hl.1 rfl (lv_room (Nat.le_of_ble_eq_true rfl)) dX5_command_96 ⟨Nat.zero_le _, Nat.zero_le _⟩) hw hA (fun _ => rfl) (fun r20 z21 H locs h22 hw => ?_)
          obtain ⟨z23, o24⟩ := z21
          try dsimp only at h22 hw
          obtain ⟨rfl, qz23, To24⟩ := h22
          rw [qz23] at hw
          refine lv_goto (tgt := 120) S.1 S.2.1 dX5_command_99 (by decide) ?_
          refine top_to (v := ((cmd xs tl tp).2.2.2)) S (by first | (have e9 : cmd xs tl tp = (dgP xs tl 48 55 (cm2 xs tl tp).1 (cm2 xs tl tp).2.1, dgB xs tl 48 55 (cm2 xs tl tp).1 (cm2 xs tl tp).2.1, (cm2 xs tl tp).2.2, dgV xs tl 48 55 (cm2 xs tl tp).1 (cm2 xs tl tp).2.1) := (by rw [cmd, if_pos (by assumption)]); rw [e9]; done) | (have e9 : cmd xs tl tp = (dgP xs tl 48 51 (cm2 xs tl tp).1 (cm2 xs tl tp).2.1, dgB xs tl 48 51 (cm2 xs tl tp).1 (cm2 xs tl tp).2.1, (cm2 xs tl tp).2.2, dgV xs tl 48 51 (cm2 xs tl tp).1 (cm2 xs tl tp).2.1) := (by rw [cmd, if_neg (by assumption), if_pos (by assumption)]); rw [e9]; done) | (have e9 : cmd xs tl tp = ((cm2 xs tl tp).1, (cm2 xs tl tp).2.1, (cm2 xs tl tp).2.2, 0) := (by rw [cmd, if_neg (by assumption), if_neg (by assumption)]); rw [e9]; done)) ?_
          exact K120 (o24) _ _ _ (by first | (have e9 : cmd xs tl tp = (dgP xs tl 48 55 (cm2 xs tl tp).1 (cm2 xs tl tp).2.1, dgB xs tl 48 55 (cm2 xs tl tp).1 (cm2 xs tl tp).2.1, (cm2 xs tl tp).2.2, dgV xs tl 48 55 (cm2 xs tl tp).1 (cm2 xs tl tp).2.1) := (by rw [cmd, if_pos (by assumption)]); rw [e9]; exact (hT2.tr To24); done) | (have e9 : cmd xs tl tp = (dgP xs tl 48 51 (cm2 xs tl tp).1 (cm2 xs tl tp).2.1, dgB xs tl 48 51 (cm2 xs tl tp).1 (cm2 xs tl tp).2.1, (cm2 xs tl tp).2.2, dgV xs tl 48 51 (cm2 xs tl tp).1 (cm2 xs tl tp).2.1) := (by rw [cmd, if_neg (by assumption), if_pos (by assumption)]); rw [e9]; exact (hT2.tr To24); done) | (have e9 : cmd xs tl tp = ((cm2 xs tl tp).1, (cm2 xs tl tp).2.1, (cm2 xs tl tp).2.2, 0) := (by rw [cmd, if_neg (by assumption), if_neg (by assumption)]); rw [e9]; exact (hT2.tr To24); done)) hw (lv_sub hl [1, 2, 3, 0] rfl)
      refine lv_iload_n S.1 S.2.1 dX5_command_59 rfl (lv_at hl 2 rfl) ?_
      refine lv_bipush (v := 114) S.1 S.2.1 dX5_command_60 (by decide) ?_
      refine lv_icmp_ne (tgt := 76) S.1 S.2.1 dX5_command_62 (by decide) (fun c25 => ?_) (fun c25 => ?_)
      · skip
        refine lv_aload_n S.1 S.2.1 dX5_command_76 rfl (lv_at hl 0 rfl) ?_
        refine lv_bipush (v := 48) S.1 S.2.1 dX5_command_77 (by decide) ?_
        refine lv_bipush (v := 55) S.1 S.2.1 dX5_command_79 (by decide) ?_
        refine cl_i (va_runV (As := [.int 48, .int 55]) (rest := []) S (c_X5_digit l G a z w H.size (48) (55) (xs := xs) (tl := tl) (tF := (tF)) (tN := (tN)) (tp := cm1 xs tl tp) (tr := isL (hrx xs tl tp)) (by exact hT1.self) (by omega) (by omega) (by decide)) (cwV 2 S.2.2.2.2 gX5_command_X5_digit rfl rfl rfl hd_X5_digit ⟨by rw [hR]; exact Nat.le_of_ble_eq_true rfl, by rw [hR]; exact Nat.le_of_ble_eq_true rfl⟩) ⟨PW.blind, va_recv hK.1 hw.1 (ci := 5) (q0 := 0) rfl rfl, fun U hU hW => ⟨rfl, PW.of hK hw hU hW⟩⟩ rfl rfl hl.1 rfl (lv_room (Nat.le_of_ble_eq_true rfl)) dX5_command_81 ⟨Nat.zero_le _, Nat.zero_le _⟩) hw hA (fun _ => rfl) (fun r26 z27 H locs h28 hw => ?_)
        obtain ⟨z29, o30⟩ := z27
        try dsimp only at h28 hw
        obtain ⟨rfl, qz29, To30⟩ := h28
        rw [qz29] at hw
        refine top_to (v := ((cm2 xs tl tp).2.2)) S (by first | (have e9 : cm2 xs tl tp = (dgP xs tl 49 57 (cm1 xs tl tp) (isL (hrx xs tl tp)), dgB xs tl 49 57 (cm1 xs tl tp) (isL (hrx xs tl tp)), dgV xs tl 49 57 (cm1 xs tl tp) (isL (hrx xs tl tp))) := (by rw [cm2, cmLo, cmHi, if_pos c25, if_pos c25]); rw [e9]; done) | (have e9 : cm2 xs tl tp = (dgP xs tl 48 55 (cm1 xs tl tp) (isL (hrx xs tl tp)), dgB xs tl 48 55 (cm1 xs tl tp) (isL (hrx xs tl tp)), dgV xs tl 48 55 (cm1 xs tl tp) (isL (hrx xs tl tp))) := (by rw [cm2, cmLo, cmHi, if_neg c25, if_neg c25]); rw [e9]; done)) ?_
        exact K84 (o30) _ _ _ (by first | (have e9 : cm2 xs tl tp = (dgP xs tl 49 57 (cm1 xs tl tp) (isL (hrx xs tl tp)), dgB xs tl 49 57 (cm1 xs tl tp) (isL (hrx xs tl tp)), dgV xs tl 49 57 (cm1 xs tl tp) (isL (hrx xs tl tp))) := (by rw [cm2, cmLo, cmHi, if_pos c25, if_pos c25]); rw [e9]; exact (hT1.tr To30); done) | (have e9 : cm2 xs tl tp = (dgP xs tl 48 55 (cm1 xs tl tp) (isL (hrx xs tl tp)), dgB xs tl 48 55 (cm1 xs tl tp) (isL (hrx xs tl tp)), dgV xs tl 48 55 (cm1 xs tl tp) (isL (hrx xs tl tp))) := (by rw [cm2, cmLo, cmHi, if_neg c25, if_neg c25]); rw [e9]; exact (hT1.tr To30); done)) hw (lv_sub hl [0, 1, 2] rfl)
      · skip
        refine lv_aload_n S.1 S.2.1 dX5_command_65 rfl (lv_at hl 0 rfl) ?_
        refine lv_bipush (v := 49) S.1 S.2.1 dX5_command_66 (by decide) ?_
        refine lv_bipush (v := 57) S.1 S.2.1 dX5_command_68 (by decide) ?_
        refine cl_i (va_runV (As := [.int 49, .int 57]) (rest := []) S (c_X5_digit l G a z w H.size (49) (57) (xs := xs) (tl := tl) (tF := (tF)) (tN := (tN)) (tp := cm1 xs tl tp) (tr := isL (hrx xs tl tp)) (by exact hT1.self) (by omega) (by omega) (by decide)) (cwV 2 S.2.2.2.2 gX5_command_X5_digit rfl rfl rfl hd_X5_digit ⟨by rw [hR]; exact Nat.le_of_ble_eq_true rfl, by rw [hR]; exact Nat.le_of_ble_eq_true rfl⟩) ⟨PW.blind, va_recv hK.1 hw.1 (ci := 5) (q0 := 0) rfl rfl, fun U hU hW => ⟨rfl, PW.of hK hw hU hW⟩⟩ rfl rfl hl.1 rfl (lv_room (Nat.le_of_ble_eq_true rfl)) dX5_command_70 ⟨Nat.zero_le _, Nat.zero_le _⟩) hw hA (fun _ => rfl) (fun r31 z32 H locs h33 hw => ?_)
        obtain ⟨z34, o35⟩ := z32
        try dsimp only at h33 hw
        obtain ⟨rfl, qz34, To35⟩ := h33
        rw [qz34] at hw
        refine lv_goto (tgt := 84) S.1 S.2.1 dX5_command_73 (by decide) ?_
        refine top_to (v := ((cm2 xs tl tp).2.2)) S (by first | (have e9 : cm2 xs tl tp = (dgP xs tl 49 57 (cm1 xs tl tp) (isL (hrx xs tl tp)), dgB xs tl 49 57 (cm1 xs tl tp) (isL (hrx xs tl tp)), dgV xs tl 49 57 (cm1 xs tl tp) (isL (hrx xs tl tp))) := (by rw [cm2, cmLo, cmHi, if_pos c25, if_pos c25]); rw [e9]; done) | (have e9 : cm2 xs tl tp = (dgP xs tl 48 55 (cm1 xs tl tp) (isL (hrx xs tl tp)), dgB xs tl 48 55 (cm1 xs tl tp) (isL (hrx xs tl tp)), dgV xs tl 48 55 (cm1 xs tl tp) (isL (hrx xs tl tp))) := (by rw [cm2, cmLo, cmHi, if_neg c25, if_neg c25]); rw [e9]; done)) ?_
        exact K84 (o35) _ _ _ (by first | (have e9 : cm2 xs tl tp = (dgP xs tl 49 57 (cm1 xs tl tp) (isL (hrx xs tl tp)), dgB xs tl 49 57 (cm1 xs tl tp) (isL (hrx xs tl tp)), dgV xs tl 49 57 (cm1 xs tl tp) (isL (hrx xs tl tp))) := (by rw [cm2, cmLo, cmHi, if_pos c25, if_pos c25]); rw [e9]; exact (hT1.tr To35); done) | (have e9 : cm2 xs tl tp = (dgP xs tl 48 55 (cm1 xs tl tp) (isL (hrx xs tl tp)), dgB xs tl 48 55 (cm1 xs tl tp) (isL (hrx xs tl tp)), dgV xs tl 48 55 (cm1 xs tl tp) (isL (hrx xs tl tp))) := (by rw [cm2, cmLo, cmHi, if_neg c25, if_neg c25]); rw [e9]; exact (hT1.tr To35); done)) hw (lv_sub hl [0, 1, 2] rfl)
    refine lv_aload_n S.1 S.2.1 dX5_command_38 rfl (lv_at hl 0 rfl) ?_
    refine lv_dup S.1 S.2.1 dX5_command_39 rfl ?_
    refine gt_X5_10 (v := .int (o6 0 6)) S hK hw 0 rfl rfl LX5 k2 dX5_command_40 ?_
    refine top_to (v := (nI (tp))) S To6.2.2.2.2.1 ?_
    refine lv_aload_n S.1 S.2.1 dX5_command_43 rfl (lv_at hl 0 rfl) ?_
    refine gt_X5_11 (v := .int (o6 0 7)) S hK hw 0 rfl rfl LX5 k1 dX5_command_44 ?_
    refine top_to (v := (b2 (isL (hrx xs tl tp)))) S To6.2.2.2.2.2 ?_
    refine brB_eq (b := isL (hrx xs tl tp)) S (tgt := 54) dX5_command_47 (by decide) (fun c36 => ?_) (fun c36 => ?_)
    · skip
      refine lv_iconst (v := 0) S.1 S.2.1 dX5_command_54 (by decide) ?_
      refine addN (a := tp) (b := 0) S dX5_command_55 ?_
      refine top_to (v := (nI (cm1 xs tl tp))) S (by first | (rw [cm1, if_pos c36]; done) | (rw [cm1, if_neg (by rw [c36]; decide)]; rfl)) ?_
      refine pt_X5_10 (ws' := (mp G a z (st o6 0 6 (nI (cm1 xs tl tp))))) S hK hw 0 rfl LX5 k2 rfl (Nat.le_of_ble_eq_true rfl) dX5_command_56 (fun H locs hw => ?_)
      obtain ⟨o37, eo37⟩ : ∃ zz, zz = st o6 0 6 (nI (cm1 xs tl tp)) := ⟨_, rfl⟩
      have hw : WD G (mp G a z o37) A s H locs := by rw [eo37]; exact hw
      have To37 := (TP.p6 To6 ((nI (cm1 xs tl tp))))
      rw [← eo37] at To37
      exact K59 (o37) _ _ _ (by exact To37) hw (lv_sub hl [0, 1, 2] rfl)
    · skip
      refine lv_iconst (v := 1) S.1 S.2.1 dX5_command_50 (by decide) ?_
      refine lv_goto (tgt := 55) S.1 S.2.1 dX5_command_51 (by decide) ?_
      refine addN (a := tp) (b := 1) S dX5_command_55 ?_
      refine top_to (v := (nI (cm1 xs tl tp))) S (by first | (rw [cm1, if_pos c36]; done) | (rw [cm1, if_neg (by rw [c36]; decide)]; rfl)) ?_
      refine pt_X5_10 (ws' := (mp G a z (st o6 0 6 (nI (cm1 xs tl tp))))) S hK hw 0 rfl LX5 k2 rfl (Nat.le_of_ble_eq_true rfl) dX5_command_56 (fun H locs hw => ?_)
      obtain ⟨o38, eo38⟩ : ∃ zz, zz = st o6 0 6 (nI (cm1 xs tl tp)) := ⟨_, rfl⟩
      have hw : WD G (mp G a z o38) A s H locs := by rw [eo38]; exact hw
      have To38 := (TP.p6 To6 ((nI (cm1 xs tl tp))))
      rw [← eo38] at To38
      exact K59 (o38) _ _ _ (by exact To38) hw (lv_sub hl [0, 1, 2] rfl)
  refine lv_aload_n S.1 S.2.1 dX5_command_5 rfl (lv_at hl 1 rfl) ?_
  refine lv_iload_n S.1 S.2.1 dX5_command_6 rfl (lv_at hl 0 rfl) ?_
  refine lv_bipush (v := 99) S.1 S.2.1 dX5_command_7 (by decide) ?_
  refine lv_icmp_eq (tgt := 30) S.1 S.2.1 dX5_command_9 (by decide) (fun c39 => ?_) (fun c39 => ?_)
  · skip
    refine lv_iconst (v := 1) S.1 S.2.1 dX5_command_30 (by decide) ?_
    refine lv_goto (tgt := 35) S.1 S.2.1 dX5_command_31 (by decide) ?_
    refine top_to (v := (b2 (isL (hrx xs tl tp)))) S (by simp [isL, b2, c39]) ?_
    exact K35  _ _ _  hw (lv_sub hl [1, 2, 0] rfl)
  · skip
    refine lv_iload_n S.1 S.2.1 dX5_command_12 rfl (lv_at hl 0 rfl) ?_
    refine lv_bipush (v := 106) S.1 S.2.1 dX5_command_13 (by decide) ?_
    refine lv_icmp_eq (tgt := 30) S.1 S.2.1 dX5_command_15 (by decide) (fun c40 => ?_) (fun c40 => ?_)
    · skip
      refine lv_iconst (v := 1) S.1 S.2.1 dX5_command_30 (by decide) ?_
      refine lv_goto (tgt := 35) S.1 S.2.1 dX5_command_31 (by decide) ?_
      refine top_to (v := (b2 (isL (hrx xs tl tp)))) S (by simp [isL, b2, c39, c40]) ?_
      exact K35  _ _ _  hw (lv_sub hl [1, 2, 0] rfl)
    · skip
      refine lv_iload_n S.1 S.2.1 dX5_command_18 rfl (lv_at hl 0 rfl) ?_
      refine lv_bipush (v := 112) S.1 S.2.1 dX5_command_19 (by decide) ?_
      refine lv_icmp_eq (tgt := 30) S.1 S.2.1 dX5_command_21 (by decide) (fun c41 => ?_) (fun c41 => ?_)
      · skip
        refine lv_iconst (v := 1) S.1 S.2.1 dX5_command_30 (by decide) ?_
        refine lv_goto (tgt := 35) S.1 S.2.1 dX5_command_31 (by decide) ?_
        refine top_to (v := (b2 (isL (hrx xs tl tp)))) S (by simp [isL, b2, c39, c40, c41]) ?_
        exact K35  _ _ _  hw (lv_sub hl [1, 2, 0] rfl)
      · skip
        refine lv_iload_n S.1 S.2.1 dX5_command_24 rfl (lv_at hl 0 rfl) ?_
        refine lv_bipush (v := 114) S.1 S.2.1 dX5_command_25 (by decide) ?_
        refine lv_icmp_ne (tgt := 34) S.1 S.2.1 dX5_command_27 (by decide) (fun c42 => ?_) (fun c42 => ?_)
        · skip
          refine lv_iconst (v := 0) S.1 S.2.1 dX5_command_34 (by decide) ?_
          refine top_to (v := (b2 (isL (hrx xs tl tp)))) S (by simp [isL, b2, c39, c40, c41, c42]) ?_
          exact K35  _ _ _  hw (lv_sub hl [1, 2, 0] rfl)
        · skip
          refine lv_iconst (v := 1) S.1 S.2.1 dX5_command_30 (by decide) ?_
          refine lv_goto (tgt := 35) S.1 S.2.1 dX5_command_31 (by decide) ?_
          refine top_to (v := (b2 (isL (hrx xs tl tp)))) S (by simp [isL, b2, c39, c40, c41, c42]) ?_
          exact K35  _ _ _  hw (lv_sub hl [1, 2, 0] rfl)

theorem hd_X5_script : yX5_script.cls = RX5 ∧ yX5_script.cls ≠ "java/lang/invoke/MethodHandle" ∧ yX5_script.cls ≠ "java/lang/invoke/VarHandle" ∧ (parseMethodDescriptor yX5_script.desc).map (fun d => d.parameters.length) = some 1 := by decide +kernel
set_option maxHeartbeats 4000000 in
set_option maxRecDepth 100000 in
theorem c_X5_script (l : Launch) (G : GA) (a : Nat → Nat) (z : St) (o : St) (sz : Nat) (dn : Bool) {xs : Nat → Int32} {tl : Nat} {tF tN : Int32} {tS tR : Int32} (iz : Inv z) (hT : TP o xs o (nI tl) tF tN tS tR) (hm : tl ≤ 40) (hF : tF = 0) : Met l yX5_script wsX5_script ({ frames := 10, cells := 0, slots := 0, locals := 235 }) (va_Pc [.ref (a 0), .int (b2 (dn))] (PW G (mp G a z o) sz)) (va_Qi (fun (r : Int32) (u : St × St) => r = nI ((scX xs tl dn 41 0 z).2.2.1) ∧ u.1 = (scX xs tl dn 41 0 z).2.2.2.1 ∧ TP o xs u.2 ((nI (tl))) (((scX xs tl dn 41 0 z).2.2.2.2)) ((tN)) ((nI ((scX xs tl dn 41 0 z).1))) ((b2 ((scX xs tl dn 41 0 z).2.1)))) (fun (u : St × St) t => va_P G.1 gcl (mp G a u.1 u.2) t.heap) (va_A (mp G a z o) sz)) 0 0 (va_A (mp G a z o) sz) := by
  refine met_st (cc := cX5_script) (maxL := 4) (ret := (some .int)) (fun A => va_Qi (fun (r : Int32) (u : St × St) => r = nI ((scX xs tl dn 41 0 z).2.2.1) ∧ u.1 = (scX xs tl dn 41 0 z).2.2.2.1 ∧ TP o xs u.2 ((nI (tl))) (((scX xs tl dn 41 0 z).2.2.2.2)) ((tN)) ((nI ((scX xs tl dn 41 0 z).1))) ((b2 ((scX xs tl dn 41 0 z).2.1)))) (fun (u : St × St) t => va_P G.1 gcl (mp G a u.1 u.2) t.heap) A) (by decide) rfl (Nat.le_of_ble_eq_true rfl) ?_
  intro p e s m args below meth c R Q A H ls hR hQ S hr hlk _ hK hsz hH hAe hA hw hl
  have hl : lv_has ls 4 [(0, .ref (a 0)), (1, .int (b2 (dn)))] := hl
  have LX5 : ∀ w ∈ u_ws RX5 TX5 12, w.before args s = true := fun w h => S.2.2.2.2 w ((by decide +kernel : ∀ w ∈ u_ws RX5 TX5 12, w ∈ wsX5_script) w h)
  have k1 : (Cond.fieldLink RX5 141 "GossipMembershipModel" "spot" "I").before args s = true := S.2.2.2.2 _ (by decide +kernel : (Cond.fieldLink RX5 141 "GossipMembershipModel" "spot" "I") ∈ wsX5_script)
  have k2 : (Cond.fieldLink RX5 144 "GossipMembershipModel" "isRead" "Z").before args s = true := S.2.2.2.2 _ (by decide +kernel : (Cond.fieldLink RX5 144 "GossipMembershipModel" "isRead" "Z") ∈ wsX5_script)
  have k3 : (Cond.fieldLink RX5 171 "GossipMembershipModel" "failureKind" "I").before args s = true := S.2.2.2.2 _ (by decide +kernel : (Cond.fieldLink RX5 171 "GossipMembershipModel" "failureKind" "I") ∈ wsX5_script)
  have k4 : (Cond.fieldLink RX5 138 "GossipMembershipModel" "length" "I").before args s = true := S.2.2.2.2 _ (by decide +kernel : (Cond.fieldLink RX5 138 "GossipMembershipModel" "length" "I") ∈ wsX5_script)
  refine lv_aload_n S.1 S.2.1 dX5_script_0 rfl (lv_at hl 0 rfl) ?_
  refine lv_iconst (v := 0) S.1 S.2.1 dX5_script_1 (by decide) ?_
  refine pt_X5_10 (ws' := (mp G a z (st o 0 6 (0)))) S hK hw 0 rfl LX5 k1 rfl (Nat.le_of_ble_eq_true rfl) dX5_script_2 (fun H locs hw => ?_)
  obtain ⟨o1, eo1⟩ : ∃ zz, zz = st o 0 6 (0) := ⟨_, rfl⟩
  have hw : WD G (mp G a z o1) A s H locs := by rw [eo1]; exact hw
  have To1 := (TP.p6 hT ((0)))
  rw [← eo1] at To1
  refine lv_aload_n S.1 S.2.1 dX5_script_5 rfl (lv_at hl 0 rfl) ?_
  refine lv_iconst (v := 1) S.1 S.2.1 dX5_script_6 (by decide) ?_
  refine pt_X5_11 (ws' := (mp G a z (st o1 0 7 (1)))) S hK hw 0 rfl LX5 k2 rfl rfl rfl (Nat.le_of_ble_eq_true rfl) dX5_script_7 (fun H locs hw => ?_)
  obtain ⟨o2, eo2⟩ : ∃ zz, zz = st o1 0 7 (1) := ⟨_, rfl⟩
  have hw : WD G (mp G a z o2) A s H locs := by rw [eo2]; exact hw
  have To2 := (TP.p7 To1 ((1)))
  rw [← eo2] at To2
  refine lv_iconst (v := 0) S.1 S.2.1 dX5_script_10 (by decide) ?_
  refine lv_istore_n (lv' := [(2, .int 0), (0, .ref (a 0)), (1, .int (b2 (dn)))]) S.1 S.2.1 dX5_script_11 rfl hl (by decide) rfl (fun ls hl => ?_)
  refine lv_iconst (v := 1) S.1 S.2.1 dX5_script_12 (by decide) ?_
  refine lv_istore_n (lv' := [(3, .int 1), (2, .int 0), (0, .ref (a 0)), (1, .int (b2 (dn)))]) S.1 S.2.1 dX5_script_13 rfl hl (by decide) rfl (fun ls hl => ?_)
  refine lv_iload_n S.1 S.2.1 dX5_script_14 rfl (lv_at hl 0 rfl) ?_
  refine lv_if_eq (tgt := 102) S.1 S.2.1 dX5_script_15 (by decide) (fun c3 => ?_) (fun c3 => ?_)
  · skip
    exact absurd c3 (by decide)
  · skip
    have K18 : ∀ (fu : Nat) (n : Nat) (q : Nat) (t : St) (w : St) (H : Heap) (locs : List Loc) (ls : Array Slot), 41 - q < fu → 2 * n ≤ q → q ≤ tl → TP o xs w (nI tl) 0 tN (nI q) (b2 true) → Inv t → scX xs tl dn 41 0 z = adN n (scX xs tl dn (41 - n) q t) → WD G (mp G a t w) A s H locs → lv_has ls 4 [(0, .ref (a 0)), (1, .int (b2 (dn))), (2, .int (nI (n)))] → W p l e R s m args below meth c H locs 0 0 Q (F0 m 18 ls []) := by
      intro fu
      induction fu with
      | zero => exact fun _ _ _ _ _ _ _ h => absurd h (Nat.not_lt_zero _)
      | succ fu ih18 =>
        intro n q t w H locs ls hm18 hn2 hq hT8 it hv hw hl
        have hc8 := cmd_le (x := xs) hq
        have hc8a := hc8.1
        have hc8b := hc8.2
        refine lv_aload_n S.1 S.2.1 dX5_script_18 rfl (lv_at hl 0 rfl) ?_
        refine lv_iload_n S.1 S.2.1 dX5_script_19 rfl (lv_at hl 1 rfl) ?_
        refine cl_v (va_runV (As := [.int (b2 (dn))]) (rest := []) S (c_X5_command l G a t w H.size (dn) (xs := xs) (tl := tl) (tF := (0)) (tN := (tN)) (tp := q) (tr := true) (by exact it) (by exact hT8.self) (by omega) (by omega) (by first | rfl | assumption)) (cwV 1 S.2.2.2.2 gX5_script_X5_command rfl rfl rfl hd_X5_command ⟨by rw [hR]; exact Nat.le_of_ble_eq_true rfl, by rw [hR]; exact Nat.le_of_ble_eq_true rfl⟩) ⟨PW.blind, va_recv hK.1 hw.1 (ci := 5) (q0 := 0) rfl rfl, fun U hU hW => ⟨rfl, PW.of hK hw hU hW⟩⟩ rfl rfl hl.1 rfl (lv_room (Nat.le_of_ble_eq_true rfl)) dX5_script_20 ⟨Nat.zero_le _, Nat.zero_le _⟩) hw hA (fun _ => rfl) (fun z5 H locs h6 hw => ?_)
        obtain ⟨z7, o8⟩ := z5
        try dsimp only at h6 hw
        obtain ⟨ez7, To8⟩ := h6
        have iz7 : Inv z7 := by rw [ez7]; exact inv_DP it xs tl (dn) q
        refine lv_iload_n S.1 S.2.1 dX5_script_23 rfl (lv_at hl 2 rfl) ?_
        refine lv_aload_n S.1 S.2.1 dX5_script_24 rfl (lv_at hl 0 rfl) ?_
        refine gt_X5_6 (v := .int (o8 0 3)) S hK hw 0 rfl rfl LX5 k3 dX5_script_25 ?_
        refine top_to (v := ((DP xs tl (dn) q t).1)) S (hT8.tr To8).2.2.1 ?_
        refine lv_if_ne (tgt := 35) S.1 S.2.1 dX5_script_28 (by decide) (fun c9 => ?_) (fun c9 => ?_)
        · skip
          refine lv_iconst (v := 0) S.1 S.2.1 dX5_script_35 (by decide) ?_
          refine addN (a := n) (b := 0) S dX5_script_36 ?_
          refine lv_istore_n (lv' := [(2, .int (nI (n + 0))), (0, .ref (a 0)), (1, .int (b2 (dn)))]) S.1 S.2.1 dX5_script_37 rfl hl (by decide) rfl (fun ls hl => ?_)
          refine lv_aload_n S.1 S.2.1 dX5_script_38 rfl (lv_at hl 1 rfl) ?_
          refine gt_X5_11 (v := .int (o8 0 7)) S hK hw 0 rfl rfl LX5 k2 dX5_script_39 ?_
          refine top_to (v := (b2 ((cmd xs tl q).2.1))) S (hT8.tr To8).2.2.2.2.2 ?_
          refine brB_eq (b := (cmd xs tl q).2.1) S (tgt := 67) dX5_script_42 (by decide) (fun c10 => ?_) (fun c10 => ?_)
          · skip
            have hR8 := c10
            refine lv_iconst (v := 0) S.1 S.2.1 dX5_script_67 (by decide) ?_
            refine lv_istore_n (lv' := [(3, .int 0), (2, .int (nI (n + 0))), (0, .ref (a 0)), (1, .int (b2 (dn)))]) S.1 S.2.1 dX5_script_68 rfl hl (by decide) rfl (fun ls hl => ?_)
            refine lv_iload_n S.1 S.2.1 dX5_script_69 rfl (lv_at hl 0 rfl) ?_
            refine lv_if_eq (tgt := 82) S.1 S.2.1 dX5_script_70 (by decide) (fun c11 => ?_) (fun c11 => ?_)
            · skip
              refine lv_iload_n S.1 S.2.1 dX5_script_82 rfl (lv_at hl 0 rfl) ?_
              refine lv_if_eq (tgt := 97) S.1 S.2.1 dX5_script_83 (by decide) (fun c12 => ?_) (fun c12 => ?_)
              · skip
                refine lv_iconst (v := 0) S.1 S.2.1 dX5_script_97 (by decide) ?_
                refine lv_istore_n (lv' := [(3, .int 0), (2, .int (nI (n + 0))), (0, .ref (a 0)), (1, .int (b2 (dn)))]) S.1 S.2.1 dX5_script_98 rfl hl (by decide) rfl (fun ls hl => ?_)
                refine lv_goto (tgt := 14) S.1 S.2.1 dX5_script_99 (by decide) ?_
                refine lv_iload_n S.1 S.2.1 dX5_script_14 rfl (lv_at hl 0 rfl) ?_
                refine lv_if_eq (tgt := 102) S.1 S.2.1 dX5_script_15 (by decide) (fun c13 => ?_) (fun c13 => ?_)
                · skip
                  refine lv_iload_n S.1 S.2.1 dX5_script_102 rfl (lv_at hl 1 rfl) ?_
                  exact en_i (v := (nI (n + 0))) ((z7, o8) : St × St) hQ S hr hlk hw (by rw [hv]; first | (rw [scX_e2 (by omega) hR8 hF8 hL8 hD8]; have h9 := (hT8.tr To8); rw [hF8, hR8, dgP, if_neg (by rw [hD8]; decide), hD8] at h9; exact ⟨rfl, ez7, h9⟩) | (rw [scX_e1 (by omega) (fun h => absurd h.2.1 (by assumption))]; rw [if_neg (by assumption)]; exact ⟨rfl, ez7, (hT8.tr To8)⟩) | (rw [scX_e1 (by omega) (fun h => absurd h.1 (by rw [hR8]; decide))]; rw [if_pos hF8]; exact ⟨rfl, ez7, (hT8.tr To8)⟩) | (rw [scX_e1 (by omega) (fun h => absurd h.2.2 (by omega))]; rw [if_pos hF8]; exact ⟨rfl, ez7, (hT8.tr To8)⟩)) dX5_script_103
                · skip
                  exact absurd c13 (by decide)
              · skip
                exact absurd c12 (by decide)
            · skip
              exact absurd c11 (by decide)
          · skip
            have hR8 := c10
            have hc28 := cmd_2 hq hR8
            refine lv_aload_n S.1 S.2.1 dX5_script_45 rfl (lv_at hl 1 rfl) ?_
            refine gt_X5_6 (v := .int (o8 0 3)) S hK hw 0 rfl rfl LX5 k3 dX5_script_46 ?_
            refine top_to (v := ((DP xs tl (dn) q t).1)) S (hT8.tr To8).2.2.1 ?_
            refine lv_if_ne (tgt := 67) S.1 S.2.1 dX5_script_49 (by decide) (fun c14 => ?_) (fun c14 => ?_)
            · skip
              refine lv_iconst (v := 0) S.1 S.2.1 dX5_script_67 (by decide) ?_
              refine lv_istore_n (lv' := [(3, .int 0), (2, .int (nI (n + 0))), (0, .ref (a 0)), (1, .int (b2 (dn)))]) S.1 S.2.1 dX5_script_68 rfl hl (by decide) rfl (fun ls hl => ?_)
              refine lv_iload_n S.1 S.2.1 dX5_script_69 rfl (lv_at hl 0 rfl) ?_
              refine lv_if_eq (tgt := 82) S.1 S.2.1 dX5_script_70 (by decide) (fun c15 => ?_) (fun c15 => ?_)
              · skip
                refine lv_iload_n S.1 S.2.1 dX5_script_82 rfl (lv_at hl 0 rfl) ?_
                refine lv_if_eq (tgt := 97) S.1 S.2.1 dX5_script_83 (by decide) (fun c16 => ?_) (fun c16 => ?_)
                · skip
                  refine lv_iconst (v := 0) S.1 S.2.1 dX5_script_97 (by decide) ?_
                  refine lv_istore_n (lv' := [(3, .int 0), (2, .int (nI (n + 0))), (0, .ref (a 0)), (1, .int (b2 (dn)))]) S.1 S.2.1 dX5_script_98 rfl hl (by decide) rfl (fun ls hl => ?_)
                  refine lv_goto (tgt := 14) S.1 S.2.1 dX5_script_99 (by decide) ?_
                  refine lv_iload_n S.1 S.2.1 dX5_script_14 rfl (lv_at hl 0 rfl) ?_
                  refine lv_if_eq (tgt := 102) S.1 S.2.1 dX5_script_15 (by decide) (fun c17 => ?_) (fun c17 => ?_)
                  · skip
                    refine lv_iload_n S.1 S.2.1 dX5_script_102 rfl (lv_at hl 1 rfl) ?_
                    exact en_i (v := (nI (n + 0))) ((z7, o8) : St × St) hQ S hr hlk hw (by rw [hv]; first | (rw [scX_e2 (by omega) hR8 hF8 hL8 hD8]; have h9 := (hT8.tr To8); rw [hF8, hR8, dgP, if_neg (by rw [hD8]; decide), hD8] at h9; exact ⟨rfl, ez7, h9⟩) | (rw [scX_e1 (by omega) (fun h => absurd h.2.1 (by assumption))]; rw [if_neg (by assumption)]; exact ⟨rfl, ez7, (hT8.tr To8)⟩) | (rw [scX_e1 (by omega) (fun h => absurd h.1 (by rw [hR8]; decide))]; rw [if_pos hF8]; exact ⟨rfl, ez7, (hT8.tr To8)⟩) | (rw [scX_e1 (by omega) (fun h => absurd h.2.2 (by omega))]; rw [if_pos hF8]; exact ⟨rfl, ez7, (hT8.tr To8)⟩)) dX5_script_103
                  · skip
                    exact absurd c17 (by decide)
                · skip
                  exact absurd c16 (by decide)
              · skip
                exact absurd c15 (by decide)
            · skip
              exact absurd c14 c9
        · skip
          have hF8 := c9
          refine lv_iconst (v := 1) S.1 S.2.1 dX5_script_31 (by decide) ?_
          refine lv_goto (tgt := 36) S.1 S.2.1 dX5_script_32 (by decide) ?_
          refine addN (a := n) (b := 1) S dX5_script_36 ?_
          refine lv_istore_n (lv' := [(2, .int (nI (n + 1))), (0, .ref (a 0)), (1, .int (b2 (dn)))]) S.1 S.2.1 dX5_script_37 rfl hl (by decide) rfl (fun ls hl => ?_)
          refine lv_aload_n S.1 S.2.1 dX5_script_38 rfl (lv_at hl 1 rfl) ?_
          refine gt_X5_11 (v := .int (o8 0 7)) S hK hw 0 rfl rfl LX5 k2 dX5_script_39 ?_
          refine top_to (v := (b2 ((cmd xs tl q).2.1))) S (hT8.tr To8).2.2.2.2.2 ?_
          refine brB_eq (b := (cmd xs tl q).2.1) S (tgt := 67) dX5_script_42 (by decide) (fun c18 => ?_) (fun c18 => ?_)
          · skip
            have hR8 := c18
            refine lv_iconst (v := 0) S.1 S.2.1 dX5_script_67 (by decide) ?_
            refine lv_istore_n (lv' := [(3, .int 0), (2, .int (nI (n + 1))), (0, .ref (a 0)), (1, .int (b2 (dn)))]) S.1 S.2.1 dX5_script_68 rfl hl (by decide) rfl (fun ls hl => ?_)
            refine lv_iload_n S.1 S.2.1 dX5_script_69 rfl (lv_at hl 0 rfl) ?_
            refine lv_if_eq (tgt := 82) S.1 S.2.1 dX5_script_70 (by decide) (fun c19 => ?_) (fun c19 => ?_)
            · skip
              refine lv_iload_n S.1 S.2.1 dX5_script_82 rfl (lv_at hl 0 rfl) ?_
              refine lv_if_eq (tgt := 97) S.1 S.2.1 dX5_script_83 (by decide) (fun c20 => ?_) (fun c20 => ?_)
              · skip
                refine lv_iconst (v := 0) S.1 S.2.1 dX5_script_97 (by decide) ?_
                refine lv_istore_n (lv' := [(3, .int 0), (2, .int (nI (n + 1))), (0, .ref (a 0)), (1, .int (b2 (dn)))]) S.1 S.2.1 dX5_script_98 rfl hl (by decide) rfl (fun ls hl => ?_)
                refine lv_goto (tgt := 14) S.1 S.2.1 dX5_script_99 (by decide) ?_
                refine lv_iload_n S.1 S.2.1 dX5_script_14 rfl (lv_at hl 0 rfl) ?_
                refine lv_if_eq (tgt := 102) S.1 S.2.1 dX5_script_15 (by decide) (fun c21 => ?_) (fun c21 => ?_)
                · skip
                  refine lv_iload_n S.1 S.2.1 dX5_script_102 rfl (lv_at hl 1 rfl) ?_
                  exact en_i (v := (nI (n + 1))) ((z7, o8) : St × St) hQ S hr hlk hw (by rw [hv]; first | (rw [scX_e2 (by omega) hR8 hF8 hL8 hD8]; have h9 := (hT8.tr To8); rw [hF8, hR8, dgP, if_neg (by rw [hD8]; decide), hD8] at h9; exact ⟨rfl, ez7, h9⟩) | (rw [scX_e1 (by omega) (fun h => absurd h.2.1 (by assumption))]; rw [if_neg (by assumption)]; exact ⟨rfl, ez7, (hT8.tr To8)⟩) | (rw [scX_e1 (by omega) (fun h => absurd h.1 (by rw [hR8]; decide))]; rw [if_pos hF8]; exact ⟨rfl, ez7, (hT8.tr To8)⟩) | (rw [scX_e1 (by omega) (fun h => absurd h.2.2 (by omega))]; rw [if_pos hF8]; exact ⟨rfl, ez7, (hT8.tr To8)⟩)) dX5_script_103
                · skip
                  exact absurd c21 (by decide)
              · skip
                exact absurd c20 (by decide)
            · skip
              exact absurd c19 (by decide)
          · skip
            have hR8 := c18
            have hc28 := cmd_2 hq hR8
            refine lv_aload_n S.1 S.2.1 dX5_script_45 rfl (lv_at hl 1 rfl) ?_
            refine gt_X5_6 (v := .int (o8 0 3)) S hK hw 0 rfl rfl LX5 k3 dX5_script_46 ?_
            refine top_to (v := ((DP xs tl (dn) q t).1)) S (hT8.tr To8).2.2.1 ?_
            refine lv_if_ne (tgt := 67) S.1 S.2.1 dX5_script_49 (by decide) (fun c22 => ?_) (fun c22 => ?_)
            · skip
              exact absurd c9 c22
            · skip
              refine lv_aload_n S.1 S.2.1 dX5_script_52 rfl (lv_at hl 1 rfl) ?_
              refine gt_X5_10 (v := .int (o8 0 6)) S hK hw 0 rfl rfl LX5 k1 dX5_script_53 ?_
              refine top_to (v := (nI ((cmd xs tl q).1))) S (hT8.tr To8).2.2.2.2.1 ?_
              refine lv_aload_n S.1 S.2.1 dX5_script_56 rfl (lv_at hl 1 rfl) ?_
              refine gt_X5_5 (v := .int (o8 0 2)) S hK hw 0 rfl rfl LX5 k4 dX5_script_57 ?_
              refine top_to (v := (nI (tl))) S (hT8.tr To8).2.1 ?_
              refine brN_ge (a := (cmd xs tl q).1) (b := tl) S (by omega) (by omega) (tgt := 67) dX5_script_60 (by decide) (fun c23 => ?_) (fun c23 => ?_)
              · skip
                refine lv_iconst (v := 0) S.1 S.2.1 dX5_script_67 (by decide) ?_
                refine lv_istore_n (lv' := [(3, .int 0), (2, .int (nI (n + 1))), (0, .ref (a 0)), (1, .int (b2 (dn)))]) S.1 S.2.1 dX5_script_68 rfl hl (by decide) rfl (fun ls hl => ?_)
                refine lv_iload_n S.1 S.2.1 dX5_script_69 rfl (lv_at hl 0 rfl) ?_
                refine lv_if_eq (tgt := 82) S.1 S.2.1 dX5_script_70 (by decide) (fun c24 => ?_) (fun c24 => ?_)
                · skip
                  refine lv_iload_n S.1 S.2.1 dX5_script_82 rfl (lv_at hl 0 rfl) ?_
                  refine lv_if_eq (tgt := 97) S.1 S.2.1 dX5_script_83 (by decide) (fun c25 => ?_) (fun c25 => ?_)
                  · skip
                    refine lv_iconst (v := 0) S.1 S.2.1 dX5_script_97 (by decide) ?_
                    refine lv_istore_n (lv' := [(3, .int 0), (2, .int (nI (n + 1))), (0, .ref (a 0)), (1, .int (b2 (dn)))]) S.1 S.2.1 dX5_script_98 rfl hl (by decide) rfl (fun ls hl => ?_)
                    refine lv_goto (tgt := 14) S.1 S.2.1 dX5_script_99 (by decide) ?_
                    refine lv_iload_n S.1 S.2.1 dX5_script_14 rfl (lv_at hl 0 rfl) ?_
                    refine lv_if_eq (tgt := 102) S.1 S.2.1 dX5_script_15 (by decide) (fun c26 => ?_) (fun c26 => ?_)
                    · skip
                      refine lv_iload_n S.1 S.2.1 dX5_script_102 rfl (lv_at hl 1 rfl) ?_
                      exact en_i (v := (nI (n + 1))) ((z7, o8) : St × St) hQ S hr hlk hw (by rw [hv]; first | (rw [scX_e2 (by omega) hR8 hF8 hL8 hD8]; have h9 := (hT8.tr To8); rw [hF8, hR8, dgP, if_neg (by rw [hD8]; decide), hD8] at h9; exact ⟨rfl, ez7, h9⟩) | (rw [scX_e1 (by omega) (fun h => absurd h.2.1 (by assumption))]; rw [if_neg (by assumption)]; exact ⟨rfl, ez7, (hT8.tr To8)⟩) | (rw [scX_e1 (by omega) (fun h => absurd h.1 (by rw [hR8]; decide))]; rw [if_pos hF8]; exact ⟨rfl, ez7, (hT8.tr To8)⟩) | (rw [scX_e1 (by omega) (fun h => absurd h.2.2 (by omega))]; rw [if_pos hF8]; exact ⟨rfl, ez7, (hT8.tr To8)⟩)) dX5_script_103
                    · skip
                      exact absurd c26 (by decide)
                  · skip
                    exact absurd c25 (by decide)
                · skip
                  exact absurd c24 (by decide)
              · skip
                have hL8 : (cmd xs tl q).1 < tl := by omega
                refine lv_iconst (v := 1) S.1 S.2.1 dX5_script_63 (by decide) ?_
                refine lv_goto (tgt := 68) S.1 S.2.1 dX5_script_64 (by decide) ?_
                refine lv_istore_n (lv' := [(3, .int 1), (2, .int (nI (n + 1))), (0, .ref (a 0)), (1, .int (b2 (dn)))]) S.1 S.2.1 dX5_script_68 rfl hl (by decide) rfl (fun ls hl => ?_)
                refine lv_iload_n S.1 S.2.1 dX5_script_69 rfl (lv_at hl 0 rfl) ?_
                refine lv_if_eq (tgt := 82) S.1 S.2.1 dX5_script_70 (by decide) (fun c27 => ?_) (fun c27 => ?_)
                · skip
                  exact absurd c27 (by decide)
                · skip
                  refine lv_aload_n S.1 S.2.1 dX5_script_73 rfl (lv_at hl 2 rfl) ?_
                  refine lv_bipush (v := 59) S.1 S.2.1 dX5_script_74 (by decide) ?_
                  refine lv_bipush (v := 59) S.1 S.2.1 dX5_script_76 (by decide) ?_
                  refine cl_i (va_runV (As := [.int 59, .int 59]) (rest := []) S (c_X5_digit l G a z7 o8 H.size (59) (59) (xs := xs) (tl := tl) (tF := ((DP xs tl (dn) q t).1)) (tN := (tN)) (tp := (cmd xs tl q).1) (tr := (cmd xs tl q).2.1) (by exact (hT8.tr To8).self) (by omega) (by omega) (by decide)) (cwV 2 S.2.2.2.2 gX5_script_X5_digit rfl rfl rfl hd_X5_digit ⟨by rw [hR]; exact Nat.le_of_ble_eq_true rfl, by rw [hR]; exact Nat.le_of_ble_eq_true rfl⟩) ⟨PW.blind, va_recv hK.1 hw.1 (ci := 5) (q0 := 0) rfl rfl, fun U hU hW => ⟨rfl, PW.of hK hw hU hW⟩⟩ rfl rfl hl.1 rfl (lv_room (Nat.le_of_ble_eq_true rfl)) dX5_script_78 ⟨Nat.zero_le _, Nat.zero_le _⟩) hw hA (fun _ => rfl) (fun r28 z29 H locs h30 hw => ?_)
                  obtain ⟨z31, o32⟩ := z29
                  try dsimp only at h30 hw
                  obtain ⟨rfl, qz31, To32⟩ := h30
                  rw [qz31] at hw
                  refine lv_pop S.1 S.2.1 dX5_script_81 rfl ?_
                  refine lv_iload_n S.1 S.2.1 dX5_script_82 rfl (lv_at hl 0 rfl) ?_
                  refine lv_if_eq (tgt := 97) S.1 S.2.1 dX5_script_83 (by decide) (fun c33 => ?_) (fun c33 => ?_)
                  · skip
                    exact absurd c33 (by decide)
                  · skip
                    refine lv_aload_n S.1 S.2.1 dX5_script_86 rfl (lv_at hl 2 rfl) ?_
                    refine gt_X5_11 (v := .int (o32 0 7)) S hK hw 0 rfl rfl LX5 k2 dX5_script_87 ?_
                    refine top_to (v := (b2 (dgB xs tl (59) (59) (cmd xs tl q).1 (cmd xs tl q).2.1))) S ((hT8.tr To8).tr To32).2.2.2.2.2 ?_
                    refine brB_eq (b := dgB xs tl (59) (59) (cmd xs tl q).1 (cmd xs tl q).2.1) S (tgt := 97) dX5_script_90 (by decide) (fun c34 => ?_) (fun c34 => ?_)
                    · skip
                      have hD8 : dgB xs tl 59 59 (cmd xs tl q).1 true = false := by have h9 := c34; rw [hR8] at h9; exact h9
                      refine lv_iconst (v := 0) S.1 S.2.1 dX5_script_97 (by decide) ?_
                      refine lv_istore_n (lv' := [(3, .int 0), (2, .int (nI (n + 1))), (0, .ref (a 0)), (1, .int (b2 (dn)))]) S.1 S.2.1 dX5_script_98 rfl hl (by decide) rfl (fun ls hl => ?_)
                      refine lv_goto (tgt := 14) S.1 S.2.1 dX5_script_99 (by decide) ?_
                      refine lv_iload_n S.1 S.2.1 dX5_script_14 rfl (lv_at hl 0 rfl) ?_
                      refine lv_if_eq (tgt := 102) S.1 S.2.1 dX5_script_15 (by decide) (fun c35 => ?_) (fun c35 => ?_)
                      · skip
                        refine lv_iload_n S.1 S.2.1 dX5_script_102 rfl (lv_at hl 1 rfl) ?_
                        exact en_i (v := (nI (n + 1))) ((z7, o32) : St × St) hQ S hr hlk hw (by rw [hv]; first | (rw [scX_e2 (by omega) hR8 hF8 hL8 hD8]; have h9 := ((hT8.tr To8).tr To32); rw [hF8, hR8, dgP, if_neg (by rw [hD8]; decide), hD8] at h9; exact ⟨rfl, ez7, h9⟩) | (rw [scX_e1 (by omega) (fun h => absurd h.2.1 (by assumption))]; rw [if_neg (by assumption)]; exact ⟨rfl, ez7, ((hT8.tr To8).tr To32)⟩) | (rw [scX_e1 (by omega) (fun h => absurd h.1 (by rw [hR8]; decide))]; rw [if_pos hF8]; exact ⟨rfl, ez7, ((hT8.tr To8).tr To32)⟩) | (rw [scX_e1 (by omega) (fun h => absurd h.2.2 (by omega))]; rw [if_pos hF8]; exact ⟨rfl, ez7, ((hT8.tr To8).tr To32)⟩)) dX5_script_103
                      · skip
                        exact absurd c35 (by decide)
                    · skip
                      have hD8 : dgB xs tl 59 59 (cmd xs tl q).1 true = true := by have h9 := c34; rw [hR8] at h9; exact h9
                      refine lv_iconst (v := 1) S.1 S.2.1 dX5_script_93 (by decide) ?_
                      refine lv_goto (tgt := 98) S.1 S.2.1 dX5_script_94 (by decide) ?_
                      refine lv_istore_n (lv' := [(3, .int 1), (2, .int (nI (n + 1))), (0, .ref (a 0)), (1, .int (b2 (dn)))]) S.1 S.2.1 dX5_script_98 rfl hl (by decide) rfl (fun ls hl => ?_)
                      refine lv_goto (tgt := 14) S.1 S.2.1 dX5_script_99 (by decide) ?_
                      refine lv_iload_n S.1 S.2.1 dX5_script_14 rfl (lv_at hl 0 rfl) ?_
                      refine lv_if_eq (tgt := 102) S.1 S.2.1 dX5_script_15 (by decide) (fun c36 => ?_) (fun c36 => ?_)
                      · skip
                        exact absurd c36 (by decide)
                      · skip
                        exact ih18 (n + 1) ((cmd xs tl q).1 + 1) (z7) (o32) _ _ _ (by omega) (by omega) (by omega) (by have h9 := ((hT8.tr To8).tr To32); rw [hF8, hR8, dgP, if_pos hD8, hD8] at h9; exact h9) (by exact iz7) (by rw [hv, scX_go (by omega) hR8 hF8 hL8 hD8, ← ez7]) hw (lv_sub hl [2, 3, 1] rfl)
    exact K18 (42) (0) (0) (z) (o2) _ _ _ (by omega) (by omega) (by omega) (by have h9 := To2; rw [hF] at h9; exact h9) (by exact iz) (by exact (adN_0 _).symm) hw (lv_sub hl [2, 3, 1] rfl)

theorem hd_X5_runText : yX5_runText.cls = RX5 ∧ yX5_runText.cls ≠ "java/lang/invoke/MethodHandle" ∧ yX5_runText.cls ≠ "java/lang/invoke/VarHandle" ∧ (parseMethodDescriptor yX5_runText.desc).map (fun d => d.parameters.length) = some 0 := by decide +kernel
set_option maxHeartbeats 4000000 in
set_option maxRecDepth 100000 in
theorem c_X5_runText (l : Launch) (G : GA) (a : Nat → Nat) (z : St) (o : St) (sz : Nat) {xs : Nat → Int32} {tl : Nat} {tF tN : Int32} {tS tR : Int32} (iz : Inv z) (hT : TP o xs o (nI tl) tF tN tS tR) (hm : tl ≤ 40) : Met l yX5_runText wsX5_runText ({ frames := 11, cells := 0, slots := 0, locals := 258 }) (va_Pc [.ref (a 0)] (PW G (mp G a z o) sz)) (va_Qi (fun (r : Int32) (u : St × St) => r = (rT xs tl z).2.1 ∧ u.1 = (rT xs tl z).2.2.1 ∧ TQ o xs u.2 0 (rT xs tl z).2.2.2.1 (rT xs tl z).2.2.2.2 ∧ u.2 0 0 = (rT xs tl z).1) (fun (u : St × St) t => va_P G.1 gcl (mp G a u.1 u.2) t.heap) (va_A (mp G a z o) sz)) 0 0 (va_A (mp G a z o) sz) := by
  refine met_st (cc := cX5_runText) (maxL := 2) (ret := (some .int)) (fun A => va_Qi (fun (r : Int32) (u : St × St) => r = (rT xs tl z).2.1 ∧ u.1 = (rT xs tl z).2.2.1 ∧ TQ o xs u.2 0 (rT xs tl z).2.2.2.1 (rT xs tl z).2.2.2.2 ∧ u.2 0 0 = (rT xs tl z).1) (fun (u : St × St) t => va_P G.1 gcl (mp G a u.1 u.2) t.heap) A) (by decide) rfl (Nat.le_of_ble_eq_true rfl) ?_
  intro p e s m args below meth c R Q A H ls hR hQ S hr hlk _ hK hsz hH hAe hA hw hl
  have hl : lv_has ls 2 [(0, .ref (a 0))] := hl
  have LX5 : ∀ w ∈ u_ws RX5 TX5 12, w.before args s = true := fun w h => S.2.2.2.2 w ((by decide +kernel : ∀ w ∈ u_ws RX5 TX5 12, w ∈ wsX5_runText) w h)
  have k1 : (Cond.fieldLink RX5 171 "GossipMembershipModel" "failureKind" "I").before args s = true := S.2.2.2.2 _ (by decide +kernel : (Cond.fieldLink RX5 171 "GossipMembershipModel" "failureKind" "I") ∈ wsX5_runText)
  have k2 : (Cond.fieldLink RX5 178 "GossipMembershipModel" "failureAt" "I").before args s = true := S.2.2.2.2 _ (by decide +kernel : (Cond.fieldLink RX5 178 "GossipMembershipModel" "failureAt" "I") ∈ wsX5_runText)
  have k3 : (Cond.fieldLink RX5 144 "GossipMembershipModel" "isRead" "Z").before args s = true := S.2.2.2.2 _ (by decide +kernel : (Cond.fieldLink RX5 144 "GossipMembershipModel" "isRead" "Z") ∈ wsX5_runText)
  have k4 : (Cond.fieldLink RX5 138 "GossipMembershipModel" "length" "I").before args s = true := S.2.2.2.2 _ (by decide +kernel : (Cond.fieldLink RX5 138 "GossipMembershipModel" "length" "I") ∈ wsX5_runText)
  have k5 : (Cond.fieldLink RX5 22 "GossipMembershipModel" "thrown" "I").before args s = true := S.2.2.2.2 _ (by decide +kernel : (Cond.fieldLink RX5 22 "GossipMembershipModel" "thrown" "I") ∈ wsX5_runText)
  have k6 : (Cond.fieldLink RX5 141 "GossipMembershipModel" "spot" "I").before args s = true := S.2.2.2.2 _ (by decide +kernel : (Cond.fieldLink RX5 141 "GossipMembershipModel" "spot" "I") ∈ wsX5_runText)
  refine lv_aload_n S.1 S.2.1 dX5_runText_0 rfl (lv_at hl 0 rfl) ?_
  refine lv_iconst (v := 0) S.1 S.2.1 dX5_runText_1 (by decide) ?_
  refine pt_X5_6 (ws' := (mp G a z (st o 0 3 (0)))) S hK hw 0 rfl LX5 k1 rfl (Nat.le_of_ble_eq_true rfl) dX5_runText_2 (fun H locs hw => ?_)
  obtain ⟨o1, eo1⟩ : ∃ zz, zz = st o 0 3 (0) := ⟨_, rfl⟩
  have hw : WD G (mp G a z o1) A s H locs := by rw [eo1]; exact hw
  have To1 := (TP.p3 hT ((0)))
  rw [← eo1] at To1
  refine lv_aload_n S.1 S.2.1 dX5_runText_5 rfl (lv_at hl 0 rfl) ?_
  refine lv_iconst (v := 0) S.1 S.2.1 dX5_runText_6 (by decide) ?_
  refine pt_X5_7 (ws' := (mp G a z (st o1 0 4 (0)))) S hK hw 0 rfl LX5 k2 rfl (Nat.le_of_ble_eq_true rfl) dX5_runText_7 (fun H locs hw => ?_)
  obtain ⟨o2, eo2⟩ : ∃ zz, zz = st o1 0 4 (0) := ⟨_, rfl⟩
  have hw : WD G (mp G a z o2) A s H locs := by rw [eo2]; exact hw
  have To2 := (TP.p4 To1 ((0)))
  rw [← eo2] at To2
  refine lv_aload_n S.1 S.2.1 dX5_runText_10 rfl (lv_at hl 0 rfl) ?_
  refine lv_iconst (v := 0) S.1 S.2.1 dX5_runText_11 (by decide) ?_
  refine cl_i (va_runV (As := [.int 0]) (rest := []) S (c_X5_script l G a z o2 H.size false (xs := xs) (tl := tl) (tF := (0)) (tN := (0)) (tS := (tS)) (tR := (tR)) (by exact iz) (by exact To2.self) (by omega) (by first | rfl | assumption)) (cwV 1 S.2.2.2.2 gX5_runText_X5_script rfl rfl rfl hd_X5_script ⟨by rw [hR]; exact Nat.le_of_ble_eq_true rfl, by rw [hR]; exact Nat.le_of_ble_eq_true rfl⟩) ⟨PW.blind, va_recv hK.1 hw.1 (ci := 5) (q0 := 0) rfl rfl, fun U hU hW => ⟨rfl, PW.of hK hw hU hW⟩⟩ rfl rfl hl.1 rfl (lv_room (Nat.le_of_ble_eq_true rfl)) dX5_runText_12 ⟨Nat.zero_le _, Nat.zero_le _⟩) hw hA (fun _ => rfl) (fun r3 z4 H locs h5 hw => ?_)
  obtain ⟨z6, o7⟩ := z4
  try dsimp only at h5 hw
  obtain ⟨rfl, ez6, To7⟩ := h5
  have iz6 : Inv z6 := by rw [ez6]; exact inv_scX xs tl false 41 0 _ iz
  have ez8 : z6 = z := by rw [ez6, scX_false]
  rw [ez8] at hw
  have hF9 : (scX xs tl false 41 0 z).2.2.2.2 = 0 := by rw [scX_false]
  have T8 := (To2.tr To7)
  rw [hF9] at T8
  refine lv_istore_n (lv' := [(1, .int (nI ((scX xs tl false 41 0 z).2.2.1))), (0, .ref (a 0))]) S.1 S.2.1 dX5_runText_15 rfl hl (by decide) rfl (fun ls hl => ?_)
  refine lv_aload_n S.1 S.2.1 dX5_runText_16 rfl (lv_at hl 1 rfl) ?_
  refine gt_X5_11 (v := .int (o7 0 7)) S hK hw 0 rfl rfl LX5 k3 dX5_runText_17 ?_
  refine top_to (v := (b2 ((scX xs tl false 41 0 z).2.1))) S T8.2.2.2.2.2 ?_
  refine brB_ne (b := (scX xs tl false 41 0 z).2.1) S (tgt := 47) dX5_runText_20 (by decide) (fun c8 => ?_) (fun c8 => ?_)
  · skip
    refine lv_aload_n S.1 S.2.1 dX5_runText_47 rfl (lv_at hl 1 rfl) ?_
    refine lv_iconst (v := 1) S.1 S.2.1 dX5_runText_48 (by decide) ?_
    refine cl_i (va_runV (As := [.int 1]) (rest := []) S (c_X5_script l G a z o7 H.size true (xs := xs) (tl := tl) (tF := (0)) (tN := (0)) (tS := (nI ((scX xs tl false 41 0 z).1))) (tR := (b2 ((scX xs tl false 41 0 z).2.1))) (by exact iz) (by exact T8.self) (by omega) (by first | rfl | assumption)) (cwV 1 S.2.2.2.2 gX5_runText_X5_script rfl rfl rfl hd_X5_script ⟨by rw [hR]; exact Nat.le_of_ble_eq_true rfl, by rw [hR]; exact Nat.le_of_ble_eq_true rfl⟩) ⟨PW.blind, va_recv hK.1 hw.1 (ci := 5) (q0 := 0) rfl rfl, fun U hU hW => ⟨rfl, PW.of hK hw hU hW⟩⟩ rfl rfl hl.1 rfl (lv_room (Nat.le_of_ble_eq_true rfl)) dX5_runText_49 ⟨Nat.zero_le _, Nat.zero_le _⟩) hw hA (fun _ => rfl) (fun r9 z10 H locs h11 hw => ?_)
    obtain ⟨z12, o13⟩ := z10
    try dsimp only at h11 hw
    obtain ⟨rfl, ez12, To13⟩ := h11
    have iz12 : Inv z12 := by rw [ez12]; exact inv_scX xs tl true 41 0 _ iz
    refine lv_istore_n (lv' := [(1, .int (nI ((scX xs tl true 41 0 z).2.2.1))), (0, .ref (a 0))]) S.1 S.2.1 dX5_runText_52 rfl hl (by decide) rfl (fun ls hl => ?_)
    refine lv_aload_n S.1 S.2.1 dX5_runText_53 rfl (lv_at hl 1 rfl) ?_
    refine lv_iconst (v := 0) S.1 S.2.1 dX5_runText_54 (by decide) ?_
    refine pt_X5_5 (ws' := (mp G a z12 (st o13 0 2 (0)))) S hK hw 0 rfl LX5 k4 rfl (Nat.le_of_ble_eq_true rfl) dX5_runText_55 (fun H locs hw => ?_)
    obtain ⟨o14, eo14⟩ : ∃ zz, zz = st o13 0 2 (0) := ⟨_, rfl⟩
    have hw : WD G (mp G a z12 o14) A s H locs := by rw [eo14]; exact hw
    have To14 := (TP.p2 (T8.tr To13) ((0)))
    rw [← eo14] at To14
    refine lv_aload_n S.1 S.2.1 dX5_runText_58 rfl (lv_at hl 1 rfl) ?_
    refine lv_iconst (v := 0) S.1 S.2.1 dX5_runText_59 (by decide) ?_
    refine pt_X5_0 (ws' := (mp G a z12 (st o14 0 0 (0)))) S hK hw 0 rfl LX5 k5 rfl (Nat.le_of_ble_eq_true rfl) dX5_runText_60 (fun H locs hw => ?_)
    obtain ⟨o15, eo15⟩ : ∃ zz, zz = st o14 0 0 (0) := ⟨_, rfl⟩
    have hw : WD G (mp G a z12 o15) A s H locs := by rw [eo15]; exact hw
    have To15 := (TP.p0 To14 ((0)))
    rw [← eo15] at To15
    have to15 : o15 0 0 = (0) := by rw [eo15]; exact st_s _ _ _ _
    refine lv_aload_n S.1 S.2.1 dX5_runText_63 rfl (lv_at hl 1 rfl) ?_
    refine gt_X5_6 (v := .int (o15 0 3)) S hK hw 0 rfl rfl LX5 k1 dX5_runText_64 ?_
    refine top_to (v := ((scX xs tl true 41 0 z).2.2.2.2)) S To15.2.2.1 ?_
    refine lv_if_ne (tgt := 72) S.1 S.2.1 dX5_runText_67 (by decide) (fun c16 => ?_) (fun c16 => ?_)
    · skip
      refine lv_aload_n S.1 S.2.1 dX5_runText_72 rfl (lv_at hl 1 rfl) ?_
      refine lv_iload_n S.1 S.2.1 dX5_runText_73 rfl (lv_at hl 0 rfl) ?_
      refine pt_X5_7 (ws' := (mp G a z12 (st o15 0 4 (nI ((scX xs tl true 41 0 z).2.2.1))))) S hK hw 0 rfl LX5 k2 rfl (Nat.le_of_ble_eq_true rfl) dX5_runText_74 (fun H locs hw => ?_)
      obtain ⟨o17, eo17⟩ : ∃ zz, zz = st o15 0 4 (nI ((scX xs tl true 41 0 z).2.2.1)) := ⟨_, rfl⟩
      have hw : WD G (mp G a z12 o17) A s H locs := by rw [eo17]; exact hw
      have To17 := (TP.p4 To15 ((nI ((scX xs tl true 41 0 z).2.2.1))))
      rw [← eo17] at To17
      refine lv_aload_n S.1 S.2.1 dX5_runText_77 rfl (lv_at hl 1 rfl) ?_
      refine lv_iconst (v := 2) S.1 S.2.1 dX5_runText_78 (by decide) ?_
      refine cl_i (va_runV (As := [.int 2]) (rest := []) S (c_X5_fails l G a z12 o17 H.size (2) ) (cwV 1 S.2.2.2.2 gX5_runText_X5_fails rfl rfl rfl hd_X5_fails ⟨by rw [hR]; exact Nat.le_of_ble_eq_true rfl, by rw [hR]; exact Nat.le_of_ble_eq_true rfl⟩) ⟨PW.blind, va_recv hK.1 hw.1 (ci := 5) (q0 := 0) rfl rfl, fun U hU hW => ⟨rfl, PW.of hK hw hU hW⟩⟩ rfl rfl hl.1 rfl (lv_room (Nat.le_of_ble_eq_true rfl)) dX5_runText_79 ⟨Nat.zero_le _, Nat.zero_le _⟩) hw hA (fun _ => rfl) (fun r18 z19 H locs h20 hw => ?_)
      obtain ⟨z21, o22⟩ := z19
      try dsimp only at h20 hw
      obtain ⟨rfl, qz21, eo22, to22⟩ := h20
      rw [qz21] at hw
      exact en_i (v := (0)) ((z12, o22) : St × St) hQ S hr hlk hw (by have hp : rT xs tl z = ((2), (0), z12, ((scX xs tl true 41 0 z).2.2.2.2), (nI ((scX xs tl true 41 0 z).2.2.1))) := (by rw [rT]; first | (rw [if_neg (by rw [c8]; decide)]; done) | (rw [if_pos c8]; first | (rw [if_pos c16, c16, ez12]; done) | (rw [if_neg c16, ez12]; done))); rw [hp]; exact ⟨rfl, rfl, (To17.rt eo22).q, to22⟩) dX5_runText_82
    · skip
      refine lv_iload_n S.1 S.2.1 dX5_runText_70 rfl (lv_at hl 0 rfl) ?_
      exact en_i (v := (nI ((scX xs tl true 41 0 z).2.2.1))) ((z12, o15) : St × St) hQ S hr hlk hw (by have hp : rT xs tl z = ((0), (nI ((scX xs tl true 41 0 z).2.2.1)), z12, ((scX xs tl true 41 0 z).2.2.2.2), (0)) := (by rw [rT]; first | (rw [if_neg (by rw [c8]; decide)]; done) | (rw [if_pos c8]; first | (rw [if_pos c16, c16, ez12]; done) | (rw [if_neg c16, ez12]; done))); rw [hp]; exact ⟨rfl, rfl, To15.q, to15⟩) dX5_runText_71
  · skip
    refine lv_aload_n S.1 S.2.1 dX5_runText_23 rfl (lv_at hl 1 rfl) ?_
    refine lv_iconst (v := 1) S.1 S.2.1 dX5_runText_24 (by decide) ?_
    refine pt_X5_6 (ws' := (mp G a z (st o7 0 3 (1)))) S hK hw 0 rfl LX5 k1 rfl (Nat.le_of_ble_eq_true rfl) dX5_runText_25 (fun H locs hw => ?_)
    obtain ⟨o23, eo23⟩ : ∃ zz, zz = st o7 0 3 (1) := ⟨_, rfl⟩
    have hw : WD G (mp G a z o23) A s H locs := by rw [eo23]; exact hw
    have To23 := (TP.p3 T8 ((1)))
    rw [← eo23] at To23
    refine lv_aload_n S.1 S.2.1 dX5_runText_28 rfl (lv_at hl 1 rfl) ?_
    refine lv_aload_n S.1 S.2.1 dX5_runText_29 rfl (lv_at hl 1 rfl) ?_
    refine gt_X5_10 (v := .int (o23 0 6)) S hK hw 0 rfl rfl LX5 k6 dX5_runText_30 ?_
    refine top_to (v := (nI ((scX xs tl false 41 0 z).1))) S To23.2.2.2.2.1 ?_
    refine pt_X5_7 (ws' := (mp G a z (st o23 0 4 (nI ((scX xs tl false 41 0 z).1))))) S hK hw 0 rfl LX5 k2 rfl (Nat.le_of_ble_eq_true rfl) dX5_runText_33 (fun H locs hw => ?_)
    obtain ⟨o24, eo24⟩ : ∃ zz, zz = st o23 0 4 (nI ((scX xs tl false 41 0 z).1)) := ⟨_, rfl⟩
    have hw : WD G (mp G a z o24) A s H locs := by rw [eo24]; exact hw
    have To24 := (TP.p4 To23 ((nI ((scX xs tl false 41 0 z).1))))
    rw [← eo24] at To24
    refine lv_aload_n S.1 S.2.1 dX5_runText_36 rfl (lv_at hl 1 rfl) ?_
    refine lv_iconst (v := 0) S.1 S.2.1 dX5_runText_37 (by decide) ?_
    refine pt_X5_5 (ws' := (mp G a z (st o24 0 2 (0)))) S hK hw 0 rfl LX5 k4 rfl (Nat.le_of_ble_eq_true rfl) dX5_runText_38 (fun H locs hw => ?_)
    obtain ⟨o25, eo25⟩ : ∃ zz, zz = st o24 0 2 (0) := ⟨_, rfl⟩
    have hw : WD G (mp G a z o25) A s H locs := by rw [eo25]; exact hw
    have To25 := (TP.p2 To24 ((0)))
    rw [← eo25] at To25
    refine lv_aload_n S.1 S.2.1 dX5_runText_41 rfl (lv_at hl 1 rfl) ?_
    refine lv_iconst (v := 1) S.1 S.2.1 dX5_runText_42 (by decide) ?_
    refine cl_i (va_runV (As := [.int 1]) (rest := []) S (c_X5_fails l G a z o25 H.size (1) ) (cwV 1 S.2.2.2.2 gX5_runText_X5_fails rfl rfl rfl hd_X5_fails ⟨by rw [hR]; exact Nat.le_of_ble_eq_true rfl, by rw [hR]; exact Nat.le_of_ble_eq_true rfl⟩) ⟨PW.blind, va_recv hK.1 hw.1 (ci := 5) (q0 := 0) rfl rfl, fun U hU hW => ⟨rfl, PW.of hK hw hU hW⟩⟩ rfl rfl hl.1 rfl (lv_room (Nat.le_of_ble_eq_true rfl)) dX5_runText_43 ⟨Nat.zero_le _, Nat.zero_le _⟩) hw hA (fun _ => rfl) (fun r26 z27 H locs h28 hw => ?_)
    obtain ⟨z29, o30⟩ := z27
    try dsimp only at h28 hw
    obtain ⟨rfl, qz29, eo30, to30⟩ := h28
    rw [qz29] at hw
    exact en_i (v := (0)) ((z, o30) : St × St) hQ S hr hlk hw (by have hp : rT xs tl z = ((1), (0), z, (1), (nI ((scX xs tl false 41 0 z).1))) := (by rw [rT]; first | (rw [if_neg (by rw [c8]; decide)]; done) | (rw [if_pos c8]; first | (rw [if_pos c8, c8, ez]; done) | (rw [if_neg c8, ez]; done))); rw [hp]; exact ⟨rfl, rfl, (To25.rt eo30).q, to30⟩) dX5_runText_46

theorem hd_X5_failure : yX5_failure.cls = RX5 ∧ yX5_failure.cls ≠ "java/lang/invoke/MethodHandle" ∧ yX5_failure.cls ≠ "java/lang/invoke/VarHandle" ∧ (parseMethodDescriptor yX5_failure.desc).map (fun d => d.parameters.length) = some 1 := by decide +kernel
set_option maxHeartbeats 4000000 in
set_option maxRecDepth 100000 in
theorem c_X5_failure (l : Launch) (G : GA) (a : Nat → Nat) (z : St) (o : St) (sz : Nat) (q : Int32) : Met l yX5_failure wsX5_failure ({ frames := 1, cells := 0, slots := 0, locals := 22 }) (va_Pc [.ref (a 0), .int (q)] (PW G (mp G a z o) sz)) (va_Qi (fun (r : Int32) (u : St × St) => r = (pF q (o 0 3) (o 0 4) z).2.1 ∧ u.1 = (pF q (o 0 3) (o 0 4) z).2.2 ∧ RT o u.2 ∧ u.2 0 0 = (pF q (o 0 3) (o 0 4) z).1) (fun (u : St × St) t => va_P G.1 gcl (mp G a u.1 u.2) t.heap) (va_A (mp G a z o) sz)) 0 0 (va_A (mp G a z o) sz) := by
  refine met_st (cc := cX5_failure) (maxL := 2) (ret := (some .int)) (fun A => va_Qi (fun (r : Int32) (u : St × St) => r = (pF q (o 0 3) (o 0 4) z).2.1 ∧ u.1 = (pF q (o 0 3) (o 0 4) z).2.2 ∧ RT o u.2 ∧ u.2 0 0 = (pF q (o 0 3) (o 0 4) z).1) (fun (u : St × St) t => va_P G.1 gcl (mp G a u.1 u.2) t.heap) A) (by decide) rfl (Nat.le_of_ble_eq_true rfl) ?_
  intro p e s m args below meth c R Q A H ls hR hQ S hr hlk _ hK hsz hH hAe hA hw hl
  have hl : lv_has ls 2 [(0, .ref (a 0)), (1, .int (q))] := hl
  have LX5 : ∀ w ∈ u_ws RX5 TX5 12, w.before args s = true := fun w h => S.2.2.2.2 w ((by decide +kernel : ∀ w ∈ u_ws RX5 TX5 12, w ∈ wsX5_failure) w h)
  have k1 : (Cond.fieldLink RX5 22 "GossipMembershipModel" "thrown" "I").before args s = true := S.2.2.2.2 _ (by decide +kernel : (Cond.fieldLink RX5 22 "GossipMembershipModel" "thrown" "I") ∈ wsX5_failure)
  have k2 : (Cond.fieldLink RX5 171 "GossipMembershipModel" "failureKind" "I").before args s = true := S.2.2.2.2 _ (by decide +kernel : (Cond.fieldLink RX5 171 "GossipMembershipModel" "failureKind" "I") ∈ wsX5_failure)
  have k3 : (Cond.fieldLink RX5 178 "GossipMembershipModel" "failureAt" "I").before args s = true := S.2.2.2.2 _ (by decide +kernel : (Cond.fieldLink RX5 178 "GossipMembershipModel" "failureAt" "I") ∈ wsX5_failure)
  refine lv_aload_n S.1 S.2.1 dX5_failure_0 rfl (lv_at hl 0 rfl) ?_
  refine lv_iconst (v := 0) S.1 S.2.1 dX5_failure_1 (by decide) ?_
  refine pt_X5_0 (ws' := (mp G a z (st o 0 0 (0)))) S hK hw 0 rfl LX5 k1 rfl (Nat.le_of_ble_eq_true rfl) dX5_failure_2 (fun H locs hw => ?_)
  obtain ⟨o1, eo1⟩ : ∃ zz, zz = st o 0 0 (0) := ⟨_, rfl⟩
  have hw : WD G (mp G a z o1) A s H locs := by rw [eo1]; exact hw
  have ro1 : RT o o1 := by rw [eo1]; exact RT.put (RT.rf o) _
  have to1 : o1 0 0 = (0) := by rw [eo1]; exact st_s _ _ _ _
  have e3 : o1 0 3 = o 0 3 := by rw [eo1]; exact st_k _ _ _ _ _ (by decide)
  have e4 : o1 0 4 = o 0 4 := by rw [eo1]; exact st_k _ _ _ _ _ (by decide)
  refine lv_iload_n S.1 S.2.1 dX5_failure_5 rfl (lv_at hl 1 rfl) ?_
  refine lv_iconst (v := 0) S.1 S.2.1 dX5_failure_6 (by decide) ?_
  refine lv_iconst (v := 1) S.1 S.2.1 dX5_failure_7 (by decide) ?_
  refine vp_callSi (va_runS (As := [.int (q), .int 0, .int 1]) (rest := []) S (c_X5_in l (q) (0) (1) ) (va_cwS 3 S.2.2.2.2 gX5_failure_X5_in rfl rfl rfl hd_X5_in ⟨by rw [hR]; exact Nat.le_of_ble_eq_true rfl, by rw [hR]; exact Nat.le_of_ble_eq_true rfl⟩) ⟨blind_T, fun U hU hW => ⟨rfl, trivial⟩⟩ rfl rfl hl.1 rfl (lv_room (Nat.le_of_ble_eq_true rfl)) dX5_failure_8 ⟨Nat.zero_le _, Nat.zero_le _⟩).run (fun r2 h3 => ?_)
  subst h3
  refine brB_ne (b := inB ((q)) ((0)) ((1))) S (tgt := 20) dX5_failure_11 (by decide) (fun c4 => ?_) (fun c4 => ?_)
  · skip
    refine lv_aload_n S.1 S.2.1 dX5_failure_20 rfl (lv_at hl 0 rfl) ?_
    refine gt_X5_6 (v := .int (o1 0 3)) S hK hw 0 rfl rfl LX5 k2 dX5_failure_21 ?_
    refine lv_if_ne (tgt := 35) S.1 S.2.1 dX5_failure_24 (by decide) (fun c5 => ?_) (fun c5 => ?_)
    · skip
      refine lv_iload_n S.1 S.2.1 dX5_failure_35 rfl (lv_at hl 1 rfl) ?_
      refine lv_if_ne (tgt := 46) S.1 S.2.1 dX5_failure_36 (by decide) (fun c6 => ?_) (fun c6 => ?_)
      · skip
        refine lv_aload_n S.1 S.2.1 dX5_failure_46 rfl (lv_at hl 0 rfl) ?_
        refine gt_X5_7 (v := .int (o1 0 4)) S hK hw 0 rfl rfl LX5 k3 dX5_failure_47 ?_
        exact en_i (v := (o1 0 4)) ((z, o1) : St × St) hQ S hr hlk hw (by have hp : pF (q) (o 0 3) (o 0 4) z = ((0), (o1 0 4), z) := (by first | (rw [pF, if_neg (by rw [c4]; decide)]; done) | (rw [pF, if_pos c4, ← e3, ← e4]; first | (rw [if_pos (by assumption)]; done) | (rw [if_neg (by assumption)]; first | (rw [if_pos (by assumption)]; done) | (rw [if_neg (by assumption)]; done)))); rw [hp]; exact ⟨rfl, rfl, ro1, to1⟩) dX5_failure_50
      · skip
        refine lv_aload_n S.1 S.2.1 dX5_failure_39 rfl (lv_at hl 0 rfl) ?_
        refine gt_X5_6 (v := .int (o1 0 3)) S hK hw 0 rfl rfl LX5 k2 dX5_failure_40 ?_
        refine lv_goto (tgt := 50) S.1 S.2.1 dX5_failure_43 (by decide) ?_
        exact en_i (v := (o1 0 3)) ((z, o1) : St × St) hQ S hr hlk hw (by have hp : pF (q) (o 0 3) (o 0 4) z = ((0), (o1 0 3), z) := (by first | (rw [pF, if_neg (by rw [c4]; decide)]; done) | (rw [pF, if_pos c4, ← e3, ← e4]; first | (rw [if_pos (by assumption)]; done) | (rw [if_neg (by assumption)]; first | (rw [if_pos (by assumption)]; done) | (rw [if_neg (by assumption)]; done)))); rw [hp]; exact ⟨rfl, rfl, ro1, to1⟩) dX5_failure_50
    · skip
      refine lv_aload_n S.1 S.2.1 dX5_failure_27 rfl (lv_at hl 0 rfl) ?_
      refine lv_iconst (v := 2) S.1 S.2.1 dX5_failure_28 (by decide) ?_
      refine cl_i (va_runV (As := [.int 2]) (rest := []) S (c_X5_fails l G a z o1 H.size (2) ) (cwV 1 S.2.2.2.2 gX5_failure_X5_fails rfl rfl rfl hd_X5_fails ⟨by rw [hR]; exact Nat.le_of_ble_eq_true rfl, by rw [hR]; exact Nat.le_of_ble_eq_true rfl⟩) ⟨PW.blind, va_recv hK.1 hw.1 (ci := 5) (q0 := 0) rfl rfl, fun U hU hW => ⟨rfl, PW.of hK hw hU hW⟩⟩ rfl rfl hl.1 rfl (lv_room (Nat.le_of_ble_eq_true rfl)) dX5_failure_29 ⟨Nat.zero_le _, Nat.zero_le _⟩) hw hA (fun _ => rfl) (fun r7 z8 H locs h9 hw => ?_)
      obtain ⟨z10, o11⟩ := z8
      try dsimp only at h9 hw
      obtain ⟨rfl, qz10, eo11, to11⟩ := h9
      rw [qz10] at hw
      refine lv_goto (tgt := 50) S.1 S.2.1 dX5_failure_32 (by decide) ?_
      exact en_i (v := (0)) ((z, o11) : St × St) hQ S hr hlk hw (by have hp : pF (q) (o 0 3) (o 0 4) z = ((2), (0), z) := (by first | (rw [pF, if_neg (by rw [c4]; decide)]; done) | (rw [pF, if_pos c4, ← e3, ← e4]; first | (rw [if_pos (by assumption)]; done) | (rw [if_neg (by assumption)]; first | (rw [if_pos (by assumption)]; done) | (rw [if_neg (by assumption)]; done)))); rw [hp]; exact ⟨rfl, rfl, (RT.tr ro1 eo11), to11⟩) dX5_failure_50
  · skip
    refine lv_aload_n S.1 S.2.1 dX5_failure_14 rfl (lv_at hl 0 rfl) ?_
    refine lv_iconst (v := 1) S.1 S.2.1 dX5_failure_15 (by decide) ?_
    refine cl_i (va_runV (As := [.int 1]) (rest := []) S (c_X5_fails l G a z o1 H.size (1) ) (cwV 1 S.2.2.2.2 gX5_failure_X5_fails rfl rfl rfl hd_X5_fails ⟨by rw [hR]; exact Nat.le_of_ble_eq_true rfl, by rw [hR]; exact Nat.le_of_ble_eq_true rfl⟩) ⟨PW.blind, va_recv hK.1 hw.1 (ci := 5) (q0 := 0) rfl rfl, fun U hU hW => ⟨rfl, PW.of hK hw hU hW⟩⟩ rfl rfl hl.1 rfl (lv_room (Nat.le_of_ble_eq_true rfl)) dX5_failure_16 ⟨Nat.zero_le _, Nat.zero_le _⟩) hw hA (fun _ => rfl) (fun r12 z13 H locs h14 hw => ?_)
    obtain ⟨z15, o16⟩ := z13
    try dsimp only at h14 hw
    obtain ⟨rfl, qz15, eo16, to16⟩ := h14
    rw [qz15] at hw
    exact en_i (v := (0)) ((z, o16) : St × St) hQ S hr hlk hw (by have hp : pF (q) (o 0 3) (o 0 4) z = ((1), (0), z) := (by first | (rw [pF, if_neg (by rw [c4]; decide)]; done) | (rw [pF, if_pos c4, ← e3, ← e4]; first | (rw [if_pos (by assumption)]; done) | (rw [if_neg (by assumption)]; first | (rw [if_pos (by assumption)]; done) | (rw [if_neg (by assumption)]; done)))); rw [hp]; exact ⟨rfl, rfl, (RT.tr ro1 eo16), to16⟩) dX5_failure_19
