theorem hd_X1_endQuiet : yX1_endQuiet.cls = RX1 ∧ yX1_endQuiet.cls ≠ "java/lang/invoke/MethodHandle" ∧ yX1_endQuiet.cls ≠ "java/lang/invoke/VarHandle" ∧ (parseMethodDescriptor yX1_endQuiet.desc).map (fun d => d.parameters.length) = some 0 := by decide +kernel
set_option maxHeartbeats 4000000 in
set_option maxRecDepth 100000 in
theorem c_X1_endQuiet (l : Launch) (G : GA) (a : Nat → Nat) (z : St) (sz : Nat) : Met l yX1_endQuiet wsX1_endQuiet ({ frames := 0, cells := 0, slots := 0, locals := 0 }) (va_Pc [.ref (a 6)] (PW G (wp G a z) sz)) (va_Qv (fun (u : St) => u = endq z) (fun (u : St) t => va_P G.1 gcl (wp G a u) t.heap) (va_A (wp G a z) sz)) 0 0 (va_A (wp G a z) sz) := by
  refine met_st (cc := cX1_endQuiet) (maxL := 1) (ret := none) (fun A => va_Qv (fun (u : St) => u = endq z) (fun (u : St) t => va_P G.1 gcl (wp G a u) t.heap) A) (by decide) rfl (Nat.le_of_ble_eq_true rfl) ?_
  intro p e s m args below meth c R Q A H ls hR hQ S hr hlk _ hK hsz hH hAe hA hw hl
  have hl : lv_has ls 1 [(0, .ref (a 6))] := hl
  have LX1 : ∀ w ∈ u_ws RX1 TX1 10, w.before args s = true := fun w h => S.2.2.2.2 w ((by decide +kernel : ∀ w ∈ u_ws RX1 TX1 10, w ∈ wsX1_endQuiet) w h)
  have k1 : (Cond.fieldLink RX1 34 "GossipMembership$Knowledge" "presentRound" "I").before args s = true := S.2.2.2.2 _ (by decide +kernel : (Cond.fieldLink RX1 34 "GossipMembership$Knowledge" "presentRound" "I") ∈ wsX1_endQuiet)
  have k2 : (Cond.fieldLink RX1 37 "GossipMembership$Knowledge" "lastUnquietRound" "I").before args s = true := S.2.2.2.2 _ (by decide +kernel : (Cond.fieldLink RX1 37 "GossipMembership$Knowledge" "lastUnquietRound" "I") ∈ wsX1_endQuiet)
  refine lv_aload_n S.1 S.2.1 dX1_endQuiet_0 rfl (lv_at hl 0 rfl) ?_
  refine lv_aload_n S.1 S.2.1 dX1_endQuiet_1 rfl (lv_at hl 0 rfl) ?_
  refine gt_X1_7 (v := .int (z 0 0)) S hK hw 6 rfl rfl LX1 k1 dX1_endQuiet_2 ?_
  refine pt_X1_8 (ws' := (wp G a (st z 0 9 (z 0 0)))) S hK hw 6 rfl LX1 k2 rfl (Nat.le_of_ble_eq_true rfl) dX1_endQuiet_5 (fun H locs hw => ?_)
  obtain ⟨z1, ez1⟩ : ∃ zz, zz = st z 0 9 (z 0 0) := ⟨_, rfl⟩
  have hw : WD G (wp G a z1) A s H locs := by rw [ez1]; exact hw
  exact en_v z1 hQ S hr hlk hw (by subst ez1; rfl) dX1_endQuiet_8

theorem hd_X1_outweighs : yX1_outweighs.cls = RX1 ∧ yX1_outweighs.cls ≠ "java/lang/invoke/MethodHandle" ∧ yX1_outweighs.cls ≠ "java/lang/invoke/VarHandle" ∧ (parseMethodDescriptor yX1_outweighs.desc).map (fun d => d.parameters.length) = some 3 := by decide +kernel
set_option maxHeartbeats 4000000 in
set_option maxRecDepth 100000 in
theorem c_X1_outweighs (l : Launch) (G : GA) (a : Nat → Nat) (z : St) (sz : Nat) (q : Nat) (x : Int32) (i : Int32) (hq : q < 64) : Met l yX1_outweighs wsX1_outweighs ({ frames := 0, cells := 0, slots := 0, locals := 0 }) (va_Pc [.ref (a 6), .int (nI (q)), .int (x), .int (i)] (PW G (wp G a z) sz)) (va_Qi (fun (r : Int32) (u : St) => r = b2 (owg z q x i) ∧ u = z) (fun (u : St) t => va_P G.1 gcl (wp G a u) t.heap) (va_A (wp G a z) sz)) 0 0 (va_A (wp G a z) sz) := by
  refine met_st (cc := cX1_outweighs) (maxL := 4) (ret := (some .boolean)) (fun A => va_Qi (fun (r : Int32) (u : St) => r = b2 (owg z q x i) ∧ u = z) (fun (u : St) t => va_P G.1 gcl (wp G a u) t.heap) A) (by decide) rfl (Nat.le_of_ble_eq_true rfl) ?_
  intro p e s m args below meth c R Q A H ls hR hQ S hr hlk _ hK hsz hH hAe hA hw hl
  have hl : lv_has ls 4 [(0, .ref (a 6)), (1, .int (nI (q))), (2, .int (x)), (3, .int (i))] := hl
  have LX1 : ∀ w ∈ u_ws RX1 TX1 10, w.before args s = true := fun w h => S.2.2.2.2 w ((by decide +kernel : ∀ w ∈ u_ws RX1 TX1 10, w ∈ wsX1_outweighs) w h)
  have k1 : (Cond.fieldLink RX1 15 "GossipMembership$Knowledge" "state" "[I").before args s = true := S.2.2.2.2 _ (by decide +kernel : (Cond.fieldLink RX1 15 "GossipMembership$Knowledge" "state" "[I") ∈ wsX1_outweighs)
  have k2 : (Cond.fieldLink RX1 18 "GossipMembership$Knowledge" "incarnations" "[I").before args s = true := S.2.2.2.2 _ (by decide +kernel : (Cond.fieldLink RX1 18 "GossipMembership$Knowledge" "incarnations" "[I") ∈ wsX1_outweighs)
  refine lv_aload_n S.1 S.2.1 dX1_outweighs_0 rfl (lv_at hl 0 rfl) ?_
  refine gt_X1_1 (v := .ref (a 8)) S hK hw 6 rfl rfl LX1 k1 dX1_outweighs_1 ?_
  refine lv_iload_n S.1 S.2.1 dX1_outweighs_4 rfl (lv_at hl 1 rfl) ?_
  refine ald_i (v := z 5 (q)) (k := q) S hK hw 8 rfl (by omega) (by decide) rfl dX1_outweighs_5 ?_
  refine lv_if_ne (tgt := 11) S.1 S.2.1 dX1_outweighs_6 (by decide) (fun c1 => ?_) (fun c1 => ?_)
  · skip
    refine lv_iload_n S.1 S.2.1 dX1_outweighs_11 rfl (lv_at hl 3 rfl) ?_
    refine lv_aload_n S.1 S.2.1 dX1_outweighs_12 rfl (lv_at hl 0 rfl) ?_
    refine gt_X1_2 (v := .ref (a 9)) S hK hw 6 rfl rfl LX1 k2 dX1_outweighs_13 ?_
    refine lv_iload_n S.1 S.2.1 dX1_outweighs_16 rfl (lv_at hl 1 rfl) ?_
    refine ald_i (v := z 6 (q)) (k := q) S hK hw 9 rfl (by omega) (by decide) rfl dX1_outweighs_17 ?_
    refine lv_icmp_eq (tgt := 37) S.1 S.2.1 dX1_outweighs_18 (by decide) (fun c2 => ?_) (fun c2 => ?_)
    · skip
      refine lv_iload_n S.1 S.2.1 dX1_outweighs_37 rfl (lv_at hl 2 rfl) ?_
      refine lv_iconst (v := 2) S.1 S.2.1 dX1_outweighs_38 (by decide) ?_
      refine lv_icmp_ne (tgt := 52) S.1 S.2.1 dX1_outweighs_39 (by decide) (fun c3 => ?_) (fun c3 => ?_)
      · skip
        refine lv_iload_n S.1 S.2.1 dX1_outweighs_52 rfl (lv_at hl 2 rfl) ?_
        refine lv_iconst (v := 3) S.1 S.2.1 dX1_outweighs_53 (by decide) ?_
        refine lv_icmp_ne (tgt := 71) S.1 S.2.1 dX1_outweighs_54 (by decide) (fun c4 => ?_) (fun c4 => ?_)
        · skip
          refine lv_iconst (v := 0) S.1 S.2.1 dX1_outweighs_71 (by decide) ?_
          exact en_z (v := (0)) z hQ S hr hlk rfl hw (by skip; refine ⟨?_, ?_⟩ <;> first | rfl | (simp [owg, b2, b2, c1, c2, c3, c4]; done) | (simp_all [owg, b2, b2]; done)) dX1_outweighs_72
        · skip
          refine lv_aload_n S.1 S.2.1 dX1_outweighs_57 rfl (lv_at hl 0 rfl) ?_
          refine gt_X1_1 (v := .ref (a 8)) S hK hw 6 rfl rfl LX1 k1 dX1_outweighs_58 ?_
          refine lv_iload_n S.1 S.2.1 dX1_outweighs_61 rfl (lv_at hl 1 rfl) ?_
          refine ald_i (v := z 5 (q)) (k := q) S hK hw 8 rfl (by omega) (by decide) rfl dX1_outweighs_62 ?_
          refine lv_iconst (v := 3) S.1 S.2.1 dX1_outweighs_63 (by decide) ?_
          refine lv_icmp_eq (tgt := 71) S.1 S.2.1 dX1_outweighs_64 (by decide) (fun c5 => ?_) (fun c5 => ?_)
          · skip
            refine lv_iconst (v := 0) S.1 S.2.1 dX1_outweighs_71 (by decide) ?_
            exact en_z (v := (0)) z hQ S hr hlk rfl hw (by skip; refine ⟨?_, ?_⟩ <;> first | rfl | (simp [owg, b2, b2, c1, c2, c3, c4, c5]; done) | (simp_all [owg, b2, b2]; done)) dX1_outweighs_72
          · skip
            refine lv_iconst (v := 1) S.1 S.2.1 dX1_outweighs_67 (by decide) ?_
            refine lv_goto (tgt := 72) S.1 S.2.1 dX1_outweighs_68 (by decide) ?_
            exact en_z (v := (1)) z hQ S hr hlk rfl hw (by skip; refine ⟨?_, ?_⟩ <;> first | rfl | (simp [owg, b2, b2, c1, c2, c3, c4, c5]; done) | (simp_all [owg, b2, b2]; done)) dX1_outweighs_72
      · skip
        refine lv_aload_n S.1 S.2.1 dX1_outweighs_42 rfl (lv_at hl 0 rfl) ?_
        refine gt_X1_1 (v := .ref (a 8)) S hK hw 6 rfl rfl LX1 k1 dX1_outweighs_43 ?_
        refine lv_iload_n S.1 S.2.1 dX1_outweighs_46 rfl (lv_at hl 1 rfl) ?_
        refine ald_i (v := z 5 (q)) (k := q) S hK hw 8 rfl (by omega) (by decide) rfl dX1_outweighs_47 ?_
        refine lv_iconst (v := 1) S.1 S.2.1 dX1_outweighs_48 (by decide) ?_
        refine lv_icmp_eq (tgt := 67) S.1 S.2.1 dX1_outweighs_49 (by decide) (fun c6 => ?_) (fun c6 => ?_)
        · skip
          refine lv_iconst (v := 1) S.1 S.2.1 dX1_outweighs_67 (by decide) ?_
          refine lv_goto (tgt := 72) S.1 S.2.1 dX1_outweighs_68 (by decide) ?_
          exact en_z (v := (1)) z hQ S hr hlk rfl hw (by skip; refine ⟨?_, ?_⟩ <;> first | rfl | (simp [owg, b2, b2, c1, c2, c3, c6]; done) | (simp_all [owg, b2, b2]; done)) dX1_outweighs_72
        · skip
          refine lv_iload_n S.1 S.2.1 dX1_outweighs_52 rfl (lv_at hl 2 rfl) ?_
          refine lv_iconst (v := 3) S.1 S.2.1 dX1_outweighs_53 (by decide) ?_
          refine lv_icmp_ne (tgt := 71) S.1 S.2.1 dX1_outweighs_54 (by decide) (fun c7 => ?_) (fun c7 => ?_)
          · skip
            refine lv_iconst (v := 0) S.1 S.2.1 dX1_outweighs_71 (by decide) ?_
            exact en_z (v := (0)) z hQ S hr hlk rfl hw (by skip; refine ⟨?_, ?_⟩ <;> first | rfl | (simp [owg, b2, b2, c1, c2, c3, c6, c7]; done) | (simp_all [owg, b2, b2]; done)) dX1_outweighs_72
          · skip
            refine lv_aload_n S.1 S.2.1 dX1_outweighs_57 rfl (lv_at hl 0 rfl) ?_
            refine gt_X1_1 (v := .ref (a 8)) S hK hw 6 rfl rfl LX1 k1 dX1_outweighs_58 ?_
            refine lv_iload_n S.1 S.2.1 dX1_outweighs_61 rfl (lv_at hl 1 rfl) ?_
            refine ald_i (v := z 5 (q)) (k := q) S hK hw 8 rfl (by omega) (by decide) rfl dX1_outweighs_62 ?_
            refine lv_iconst (v := 3) S.1 S.2.1 dX1_outweighs_63 (by decide) ?_
            refine lv_icmp_eq (tgt := 71) S.1 S.2.1 dX1_outweighs_64 (by decide) (fun c8 => ?_) (fun c8 => ?_)
            · skip
              refine lv_iconst (v := 0) S.1 S.2.1 dX1_outweighs_71 (by decide) ?_
              exact en_z (v := (0)) z hQ S hr hlk rfl hw (by skip; refine ⟨?_, ?_⟩ <;> first | rfl | (simp [owg, b2, b2, c1, c2, c3, c6, c7, c8]; done) | (simp_all [owg, b2, b2]; done)) dX1_outweighs_72
            · skip
              refine lv_iconst (v := 1) S.1 S.2.1 dX1_outweighs_67 (by decide) ?_
              refine lv_goto (tgt := 72) S.1 S.2.1 dX1_outweighs_68 (by decide) ?_
              exact en_z (v := (1)) z hQ S hr hlk rfl hw (by skip; refine ⟨?_, ?_⟩ <;> first | rfl | (simp [owg, b2, b2, c1, c2, c3, c6, c7, c8]; done) | (simp_all [owg, b2, b2]; done)) dX1_outweighs_72
    · skip
      refine lv_iload_n S.1 S.2.1 dX1_outweighs_21 rfl (lv_at hl 3 rfl) ?_
      refine lv_aload_n S.1 S.2.1 dX1_outweighs_22 rfl (lv_at hl 0 rfl) ?_
      refine gt_X1_2 (v := .ref (a 9)) S hK hw 6 rfl rfl LX1 k2 dX1_outweighs_23 ?_
      refine lv_iload_n S.1 S.2.1 dX1_outweighs_26 rfl (lv_at hl 1 rfl) ?_
      refine ald_i (v := z 6 (q)) (k := q) S hK hw 9 rfl (by omega) (by decide) rfl dX1_outweighs_27 ?_
      refine lv_icmp_le (tgt := 35) S.1 S.2.1 dX1_outweighs_28 (by decide) (fun c9 => ?_) (fun c9 => ?_)
      · skip
        refine lv_iconst (v := 0) S.1 S.2.1 dX1_outweighs_35 (by decide) ?_
        exact en_z (v := (0)) z hQ S hr hlk rfl hw (by skip; refine ⟨?_, ?_⟩ <;> first | rfl | (simp [owg, b2, b2, c1, c2, c9]; done) | (simp_all [owg, b2, b2]; done)) dX1_outweighs_36
      · skip
        refine lv_iconst (v := 1) S.1 S.2.1 dX1_outweighs_31 (by decide) ?_
        refine lv_goto (tgt := 36) S.1 S.2.1 dX1_outweighs_32 (by decide) ?_
        exact en_z (v := (1)) z hQ S hr hlk rfl hw (by skip; refine ⟨?_, ?_⟩ <;> first | rfl | (simp [owg, b2, b2, c1, c2, c9]; done) | (simp_all [owg, b2, b2]; done)) dX1_outweighs_36
  · skip
    refine lv_iconst (v := 1) S.1 S.2.1 dX1_outweighs_9 (by decide) ?_
    exact en_z (v := (1)) z hQ S hr hlk rfl hw (by skip; refine ⟨?_, ?_⟩ <;> first | rfl | (simp [owg, b2, b2, c1]; done) | (simp_all [owg, b2, b2]; done)) dX1_outweighs_10

theorem hd_X1_replaceView : yX1_replaceView.cls = RX1 ∧ yX1_replaceView.cls ≠ "java/lang/invoke/MethodHandle" ∧ yX1_replaceView.cls ≠ "java/lang/invoke/VarHandle" ∧ (parseMethodDescriptor yX1_replaceView.desc).map (fun d => d.parameters.length) = some 3 := by decide +kernel
set_option maxHeartbeats 4000000 in
set_option maxRecDepth 100000 in
theorem c_X1_replaceView (l : Launch) (G : GA) (a : Nat → Nat) (z : St) (sz : Nat) (q : Nat) (x : Int32) (i : Int32) (hq : q < 64) : Met l yX1_replaceView wsX1_replaceView ({ frames := 0, cells := 0, slots := 0, locals := 0 }) (va_Pc [.ref (a 6), .int (nI (q)), .int (x), .int (i)] (PW G (wp G a z) sz)) (va_Qv (fun (u : St) => u = rpl z q x i) (fun (u : St) t => va_P G.1 gcl (wp G a u) t.heap) (va_A (wp G a z) sz)) 0 0 (va_A (wp G a z) sz) := by
  refine met_st (cc := cX1_replaceView) (maxL := 4) (ret := none) (fun A => va_Qv (fun (u : St) => u = rpl z q x i) (fun (u : St) t => va_P G.1 gcl (wp G a u) t.heap) A) (by decide) rfl (Nat.le_of_ble_eq_true rfl) ?_
  intro p e s m args below meth c R Q A H ls hR hQ S hr hlk _ hK hsz hH hAe hA hw hl
  have hl : lv_has ls 4 [(0, .ref (a 6)), (1, .int (nI (q))), (2, .int (x)), (3, .int (i))] := hl
  have LX1 : ∀ w ∈ u_ws RX1 TX1 10, w.before args s = true := fun w h => S.2.2.2.2 w ((by decide +kernel : ∀ w ∈ u_ws RX1 TX1 10, w ∈ wsX1_replaceView) w h)
  have k1 : (Cond.fieldLink RX1 15 "GossipMembership$Knowledge" "state" "[I").before args s = true := S.2.2.2.2 _ (by decide +kernel : (Cond.fieldLink RX1 15 "GossipMembership$Knowledge" "state" "[I") ∈ wsX1_replaceView)
  have k2 : (Cond.fieldLink RX1 18 "GossipMembership$Knowledge" "incarnations" "[I").before args s = true := S.2.2.2.2 _ (by decide +kernel : (Cond.fieldLink RX1 18 "GossipMembership$Knowledge" "incarnations" "[I") ∈ wsX1_replaceView)
  have k3 : (Cond.fieldLink RX1 21 "GossipMembership$Knowledge" "deadlines" "[I").before args s = true := S.2.2.2.2 _ (by decide +kernel : (Cond.fieldLink RX1 21 "GossipMembership$Knowledge" "deadlines" "[I") ∈ wsX1_replaceView)
  have k4 : (Cond.fieldLink RX1 34 "GossipMembership$Knowledge" "presentRound" "I").before args s = true := S.2.2.2.2 _ (by decide +kernel : (Cond.fieldLink RX1 34 "GossipMembership$Knowledge" "presentRound" "I") ∈ wsX1_replaceView)
  have k5 : (Cond.fieldLink RX1 27 "GossipMembership$Knowledge" "patience" "I").before args s = true := S.2.2.2.2 _ (by decide +kernel : (Cond.fieldLink RX1 27 "GossipMembership$Knowledge" "patience" "I") ∈ wsX1_replaceView)
  refine lv_aload_n S.1 S.2.1 dX1_replaceView_0 rfl (lv_at hl 0 rfl) ?_
  refine gt_X1_1 (v := .ref (a 8)) S hK hw 6 rfl rfl LX1 k1 dX1_replaceView_1 ?_
  refine lv_iload_n S.1 S.2.1 dX1_replaceView_4 rfl (lv_at hl 1 rfl) ?_
  refine lv_iload_n S.1 S.2.1 dX1_replaceView_5 rfl (lv_at hl 2 rfl) ?_
  refine ast_i (ws' := (wp G a (st z 5 (q) (x)))) (k := q) S hK hw 8 rfl (by omega) (by decide) rfl dX1_replaceView_6 (fun H locs hw => ?_)
  obtain ⟨z1, ez1⟩ : ∃ zz, zz = st z 5 (q) (x) := ⟨_, rfl⟩
  have hw : WD G (wp G a z1) A s H locs := by rw [ez1]; exact hw
  refine lv_aload_n S.1 S.2.1 dX1_replaceView_7 rfl (lv_at hl 0 rfl) ?_
  refine gt_X1_2 (v := .ref (a 9)) S hK hw 6 rfl rfl LX1 k2 dX1_replaceView_8 ?_
  refine lv_iload_n S.1 S.2.1 dX1_replaceView_11 rfl (lv_at hl 1 rfl) ?_
  refine lv_iload_n S.1 S.2.1 dX1_replaceView_12 rfl (lv_at hl 3 rfl) ?_
  refine ast_i (ws' := (wp G a (st z1 6 (q) (i)))) (k := q) S hK hw 9 rfl (by omega) (by decide) rfl dX1_replaceView_13 (fun H locs hw => ?_)
  obtain ⟨z2, ez2⟩ : ∃ zz, zz = st z1 6 (q) (i) := ⟨_, rfl⟩
  have hw : WD G (wp G a z2) A s H locs := by rw [ez2]; exact hw
  refine lv_iload_n S.1 S.2.1 dX1_replaceView_14 rfl (lv_at hl 2 rfl) ?_
  refine lv_iconst (v := 2) S.1 S.2.1 dX1_replaceView_15 (by decide) ?_
  refine lv_icmp_ne (tgt := 34) S.1 S.2.1 dX1_replaceView_16 (by decide) (fun c3 => ?_) (fun c3 => ?_)
  · skip
    exact en_v z2 hQ S hr hlk hw (by subst ez2 ez1; rw [rpl]; first | (rw [if_pos (by assumption)]; rfl) | (rw [if_neg (by assumption)])) dX1_replaceView_34
  · skip
    refine lv_aload_n S.1 S.2.1 dX1_replaceView_19 rfl (lv_at hl 0 rfl) ?_
    refine gt_X1_3 (v := .ref (a 10)) S hK hw 6 rfl rfl LX1 k3 dX1_replaceView_20 ?_
    refine lv_iload_n S.1 S.2.1 dX1_replaceView_23 rfl (lv_at hl 1 rfl) ?_
    refine lv_aload_n S.1 S.2.1 dX1_replaceView_24 rfl (lv_at hl 0 rfl) ?_
    refine gt_X1_7 (v := .int (z2 0 0)) S hK hw 6 rfl rfl LX1 k4 dX1_replaceView_25 ?_
    refine lv_aload_n S.1 S.2.1 dX1_replaceView_28 rfl (lv_at hl 0 rfl) ?_
    refine gt_X1_5 (v := .int (z2 0 2)) S hK hw 6 rfl rfl LX1 k5 dX1_replaceView_29 ?_
    refine lv_iadd S.1 S.2.1 dX1_replaceView_32 ?_
    refine ast_i (ws' := (wp G a (st z2 7 (q) ((z2 0 0) + (z2 0 2))))) (k := q) S hK hw 10 rfl (by omega) (by decide) rfl dX1_replaceView_33 (fun H locs hw => ?_)
    obtain ⟨z4, ez4⟩ : ∃ zz, zz = st z2 7 (q) ((z2 0 0) + (z2 0 2)) := ⟨_, rfl⟩
    have hw : WD G (wp G a z4) A s H locs := by rw [ez4]; exact hw
    exact en_v z4 hQ S hr hlk hw (by subst ez4 ez2 ez1; rw [rpl]; first | (rw [if_pos (by assumption)]; rfl) | (rw [if_neg (by assumption)])) dX1_replaceView_34

theorem hd_X1_toldState : yX1_toldState.cls = RX1 ∧ yX1_toldState.cls ≠ "java/lang/invoke/MethodHandle" ∧ yX1_toldState.cls ≠ "java/lang/invoke/VarHandle" ∧ (parseMethodDescriptor yX1_toldState.desc).map (fun d => d.parameters.length) = some 2 := by decide +kernel
set_option maxHeartbeats 4000000 in
set_option maxRecDepth 100000 in
theorem c_X1_toldState (l : Launch) (G : GA) (a : Nat → Nat) (z : St) (sz : Nat) (t : Nat) (b : Nat) (ht : t < 8) (hb : b < 8) : Met l yX1_toldState wsX1_toldState ({ frames := 1, cells := 0, slots := 0, locals := 21 }) (va_Pc [.ref (a 6), .int (nI (t)), .int (nI (b))] (PW G (wp G a z) sz)) (va_Qi (fun (r : Int32) (u : St) => r = toS z t b ∧ u = z) (fun (u : St) t => va_P G.1 gcl (wp G a u) t.heap) (va_A (wp G a z) sz)) 0 0 (va_A (wp G a z) sz) := by
  refine met_st (cc := cX1_toldState) (maxL := 3) (ret := (some .int)) (fun A => va_Qi (fun (r : Int32) (u : St) => r = toS z t b ∧ u = z) (fun (u : St) t => va_P G.1 gcl (wp G a u) t.heap) A) (by decide) rfl (Nat.le_of_ble_eq_true rfl) ?_
  intro p e s m args below meth c R Q A H ls hR hQ S hr hlk _ hK hsz hH hAe hA hw hl
  have hl : lv_has ls 3 [(0, .ref (a 6)), (1, .int (nI (t))), (2, .int (nI (b)))] := hl
  have LX1 : ∀ w ∈ u_ws RX1 TX1 10, w.before args s = true := fun w h => S.2.2.2.2 w ((by decide +kernel : ∀ w ∈ u_ws RX1 TX1 10, w ∈ wsX1_toldState) w h)
  have k1 : (Cond.fieldLink RX1 15 "GossipMembership$Knowledge" "state" "[I").before args s = true := S.2.2.2.2 _ (by decide +kernel : (Cond.fieldLink RX1 15 "GossipMembership$Knowledge" "state" "[I") ∈ wsX1_toldState)
  have k2 : (Cond.static yX4_pair).before args s = true := S.2.2.2.2 _ (by decide +kernel : (Cond.static yX4_pair) ∈ wsX1_toldState)
  have k3 : (Cond.initialized yX4_pair.cls).before args s = true := S.2.2.2.2 _ (by decide +kernel : (Cond.initialized yX4_pair.cls) ∈ wsX1_toldState)
  refine lv_iload_n S.1 S.2.1 dX1_toldState_0 rfl (lv_at hl 2 rfl) ?_
  refine lv_iload_n S.1 S.2.1 dX1_toldState_1 rfl (lv_at hl 1 rfl) ?_
  refine brN_ne (a := b) (b := t) S (by omega) (by omega) (tgt := 9) dX1_toldState_2 (by decide) (fun c1 => ?_) (fun c1 => ?_)
  · skip
    refine lv_aload_n S.1 S.2.1 dX1_toldState_9 rfl (lv_at hl 0 rfl) ?_
    refine gt_X1_1 (v := .ref (a 8)) S hK hw 6 rfl rfl LX1 k1 dX1_toldState_10 ?_
    refine lv_iload_n S.1 S.2.1 dX1_toldState_13 rfl (lv_at hl 1 rfl) ?_
    refine lv_iload_n S.1 S.2.1 dX1_toldState_14 rfl (lv_at hl 2 rfl) ?_
    refine pr_n (n := t) (b := b) S hl.1 gX1_toldState_X4_pair_n40 hK.2.1 k2 k3 ⟨by rw [hR]; exact Nat.le_of_ble_eq_true rfl, by rw [hR]; exact Nat.le_of_ble_eq_true rfl⟩ (Nat.zero_le _) (Nat.zero_le _) (Nat.le_of_ble_eq_true rfl) dX1_toldState_15 ?_
    refine ald_i (v := z 5 (8 * t + b)) (k := 8 * t + b) S hK hw 8 rfl (by omega) (by decide) rfl dX1_toldState_18 ?_
    exact en_i (v := (z 5 (8 * t + b))) z hQ S hr hlk hw (by skip; refine ⟨?_, ?_⟩ <;> first | rfl | (simp [toS, b2, c1]; done) | (simp_all [toS, b2]; done)) dX1_toldState_19
  · skip
    refine lv_iconst (v := 1) S.1 S.2.1 dX1_toldState_5 (by decide) ?_
    refine lv_goto (tgt := 19) S.1 S.2.1 dX1_toldState_6 (by decide) ?_
    exact en_i (v := (1)) z hQ S hr hlk hw (by skip; refine ⟨?_, ?_⟩ <;> first | rfl | (simp [toS, b2, c1]; done) | (simp_all [toS, b2]; done)) dX1_toldState_19

theorem hd_X1_toldIncarnation : yX1_toldIncarnation.cls = RX1 ∧ yX1_toldIncarnation.cls ≠ "java/lang/invoke/MethodHandle" ∧ yX1_toldIncarnation.cls ≠ "java/lang/invoke/VarHandle" ∧ (parseMethodDescriptor yX1_toldIncarnation.desc).map (fun d => d.parameters.length) = some 2 := by decide +kernel
set_option maxHeartbeats 4000000 in
set_option maxRecDepth 100000 in
theorem c_X1_toldIncarnation (l : Launch) (G : GA) (a : Nat → Nat) (z : St) (sz : Nat) (t : Nat) (b : Nat) (ht : t < 8) (hb : b < 8) : Met l yX1_toldIncarnation wsX1_toldIncarnation ({ frames := 1, cells := 0, slots := 0, locals := 21 }) (va_Pc [.ref (a 6), .int (nI (t)), .int (nI (b))] (PW G (wp G a z) sz)) (va_Qi (fun (r : Int32) (u : St) => r = toI z t b ∧ u = z) (fun (u : St) t => va_P G.1 gcl (wp G a u) t.heap) (va_A (wp G a z) sz)) 0 0 (va_A (wp G a z) sz) := by
  refine met_st (cc := cX1_toldIncarnation) (maxL := 3) (ret := (some .int)) (fun A => va_Qi (fun (r : Int32) (u : St) => r = toI z t b ∧ u = z) (fun (u : St) t => va_P G.1 gcl (wp G a u) t.heap) A) (by decide) rfl (Nat.le_of_ble_eq_true rfl) ?_
  intro p e s m args below meth c R Q A H ls hR hQ S hr hlk _ hK hsz hH hAe hA hw hl
  have hl : lv_has ls 3 [(0, .ref (a 6)), (1, .int (nI (t))), (2, .int (nI (b)))] := hl
  have LX1 : ∀ w ∈ u_ws RX1 TX1 10, w.before args s = true := fun w h => S.2.2.2.2 w ((by decide +kernel : ∀ w ∈ u_ws RX1 TX1 10, w ∈ wsX1_toldIncarnation) w h)
  have k1 : (Cond.fieldLink RX1 18 "GossipMembership$Knowledge" "incarnations" "[I").before args s = true := S.2.2.2.2 _ (by decide +kernel : (Cond.fieldLink RX1 18 "GossipMembership$Knowledge" "incarnations" "[I") ∈ wsX1_toldIncarnation)
  have k2 : (Cond.static yX4_pair).before args s = true := S.2.2.2.2 _ (by decide +kernel : (Cond.static yX4_pair) ∈ wsX1_toldIncarnation)
  have k3 : (Cond.initialized yX4_pair.cls).before args s = true := S.2.2.2.2 _ (by decide +kernel : (Cond.initialized yX4_pair.cls) ∈ wsX1_toldIncarnation)
  have k4 : (Cond.fieldLink RX1 9 "GossipMembership$Knowledge" "ownIncarnation" "[I").before args s = true := S.2.2.2.2 _ (by decide +kernel : (Cond.fieldLink RX1 9 "GossipMembership$Knowledge" "ownIncarnation" "[I") ∈ wsX1_toldIncarnation)
  refine lv_iload_n S.1 S.2.1 dX1_toldIncarnation_0 rfl (lv_at hl 2 rfl) ?_
  refine lv_iload_n S.1 S.2.1 dX1_toldIncarnation_1 rfl (lv_at hl 1 rfl) ?_
  refine brN_ne (a := b) (b := t) S (by omega) (by omega) (tgt := 14) dX1_toldIncarnation_2 (by decide) (fun c1 => ?_) (fun c1 => ?_)
  · skip
    refine lv_aload_n S.1 S.2.1 dX1_toldIncarnation_14 rfl (lv_at hl 0 rfl) ?_
    refine gt_X1_2 (v := .ref (a 9)) S hK hw 6 rfl rfl LX1 k1 dX1_toldIncarnation_15 ?_
    refine lv_iload_n S.1 S.2.1 dX1_toldIncarnation_18 rfl (lv_at hl 1 rfl) ?_
    refine lv_iload_n S.1 S.2.1 dX1_toldIncarnation_19 rfl (lv_at hl 2 rfl) ?_
    refine pr_n (n := t) (b := b) S hl.1 gX1_toldIncarnation_X4_pair_n40 hK.2.1 k2 k3 ⟨by rw [hR]; exact Nat.le_of_ble_eq_true rfl, by rw [hR]; exact Nat.le_of_ble_eq_true rfl⟩ (Nat.zero_le _) (Nat.zero_le _) (Nat.le_of_ble_eq_true rfl) dX1_toldIncarnation_20 ?_
    refine ald_i (v := z 6 (8 * t + b)) (k := 8 * t + b) S hK hw 9 rfl (by omega) (by decide) rfl dX1_toldIncarnation_23 ?_
    exact en_i (v := (z 6 (8 * t + b))) z hQ S hr hlk hw (by skip; refine ⟨?_, ?_⟩ <;> first | rfl | (simp [toI, b2, c1]; done) | (simp_all [toI, b2]; done)) dX1_toldIncarnation_24
  · skip
    refine lv_aload_n S.1 S.2.1 dX1_toldIncarnation_5 rfl (lv_at hl 0 rfl) ?_
    refine gt_X1_0 (v := .ref (a 7)) S hK hw 6 rfl rfl LX1 k4 dX1_toldIncarnation_6 ?_
    refine lv_iload_n S.1 S.2.1 dX1_toldIncarnation_9 rfl (lv_at hl 1 rfl) ?_
    refine ald_i (v := z 4 (t)) (k := t) S hK hw 7 rfl (by omega) (by decide) rfl dX1_toldIncarnation_10 ?_
    refine lv_goto (tgt := 24) S.1 S.2.1 dX1_toldIncarnation_11 (by decide) ?_
    exact en_i (v := (z 4 (t))) z hQ S hr hlk hw (by skip; refine ⟨?_, ?_⟩ <;> first | rfl | (simp [toI, b2, c1]; done) | (simp_all [toI, b2]; done)) dX1_toldIncarnation_24

theorem hd_X1_takeIn : yX1_takeIn.cls = RX1 ∧ yX1_takeIn.cls ≠ "java/lang/invoke/MethodHandle" ∧ yX1_takeIn.cls ≠ "java/lang/invoke/VarHandle" ∧ (parseMethodDescriptor yX1_takeIn.desc).map (fun d => d.parameters.length) = some 4 := by decide +kernel
set_option maxHeartbeats 4000000 in
set_option maxRecDepth 100000 in
theorem c_X1_takeIn (l : Launch) (G : GA) (a : Nat → Nat) (z : St) (sz : Nat) (n : Nat) (b : Nat) (x : Int32) (i : Int32) (hn : n < 8) (hb : b < 8) : Met l yX1_takeIn wsX1_takeIn ({ frames := 1, cells := 0, slots := 0, locals := 23 }) (va_Pc [.ref (a 6), .int (nI (n)), .int (nI (b)), .int (x), .int (i)] (PW G (wp G a z) sz)) (va_Qi (fun (r : Int32) (u : St) => r = b2 (tkb z n b x i) ∧ u = tk z n b x i) (fun (u : St) t => va_P G.1 gcl (wp G a u) t.heap) (va_A (wp G a z) sz)) 0 0 (va_A (wp G a z) sz) := by
  refine met_st (cc := cX1_takeIn) (maxL := 6) (ret := (some .boolean)) (fun A => va_Qi (fun (r : Int32) (u : St) => r = b2 (tkb z n b x i) ∧ u = tk z n b x i) (fun (u : St) t => va_P G.1 gcl (wp G a u) t.heap) A) (by decide) rfl (Nat.le_of_ble_eq_true rfl) ?_
  intro p e s m args below meth c R Q A H ls hR hQ S hr hlk _ hK hsz hH hAe hA hw hl
  have hl : lv_has ls 6 [(0, .ref (a 6)), (1, .int (nI (n))), (2, .int (nI (b))), (3, .int (x)), (4, .int (i))] := hl
  have LX1 : ∀ w ∈ u_ws RX1 TX1 10, w.before args s = true := fun w h => S.2.2.2.2 w ((by decide +kernel : ∀ w ∈ u_ws RX1 TX1 10, w ∈ wsX1_takeIn) w h)
  have k1 : (Cond.static yX4_pair).before args s = true := S.2.2.2.2 _ (by decide +kernel : (Cond.static yX4_pair) ∈ wsX1_takeIn)
  have k2 : (Cond.initialized yX4_pair.cls).before args s = true := S.2.2.2.2 _ (by decide +kernel : (Cond.initialized yX4_pair.cls) ∈ wsX1_takeIn)
  have k3 : (Cond.fieldLink RX1 24 "GossipMembership$Knowledge" "counters" "[I").before args s = true := S.2.2.2.2 _ (by decide +kernel : (Cond.fieldLink RX1 24 "GossipMembership$Knowledge" "counters" "[I") ∈ wsX1_takeIn)
  have k4 : (Cond.fieldLink RX1 31 "GossipMembership$Knowledge" "fanOut" "I").before args s = true := S.2.2.2.2 _ (by decide +kernel : (Cond.fieldLink RX1 31 "GossipMembership$Knowledge" "fanOut" "I") ∈ wsX1_takeIn)
  have k5 : (Cond.fieldLink RX1 9 "GossipMembership$Knowledge" "ownIncarnation" "[I").before args s = true := S.2.2.2.2 _ (by decide +kernel : (Cond.fieldLink RX1 9 "GossipMembership$Knowledge" "ownIncarnation" "[I") ∈ wsX1_takeIn)
  have k6 : (Cond.fieldLink RX1 44 "GossipMembership$Knowledge" "refuted" "I").before args s = true := S.2.2.2.2 _ (by decide +kernel : (Cond.fieldLink RX1 44 "GossipMembership$Knowledge" "refuted" "I") ∈ wsX1_takeIn)
  refine lv_iload_n S.1 S.2.1 dX1_takeIn_0 rfl (lv_at hl 1 rfl) ?_
  refine lv_iload_n S.1 S.2.1 dX1_takeIn_1 rfl (lv_at hl 2 rfl) ?_
  refine pr_n (n := n) (b := b) S hl.1 gX1_takeIn_X4_pair_n40 hK.2.1 k1 k2 ⟨by rw [hR]; exact Nat.le_of_ble_eq_true rfl, by rw [hR]; exact Nat.le_of_ble_eq_true rfl⟩ (Nat.zero_le _) (Nat.zero_le _) (Nat.le_of_ble_eq_true rfl) dX1_takeIn_2 ?_
  refine lv_istore (lv' := [(5, .int (nI (8 * n + b))), (0, .ref (a 6)), (1, .int (nI (n))), (2, .int (nI (b))), (3, .int (x)), (4, .int (i))]) S.1 S.2.1 dX1_takeIn_5 hl (by decide) rfl (fun ls hl => ?_)
  refine lv_iload_n S.1 S.2.1 dX1_takeIn_7 rfl (lv_at hl 3 rfl) ?_
  refine lv_iload_n S.1 S.2.1 dX1_takeIn_8 rfl (lv_at hl 2 rfl) ?_
  refine brN_ne (a := b) (b := n) S (by omega) (by omega) (tgt := 53) dX1_takeIn_9 (by decide) (fun c1 => ?_) (fun c1 => ?_)
  · skip
    refine lv_aload_n S.1 S.2.1 dX1_takeIn_53 rfl (lv_at hl 1 rfl) ?_
    refine lv_iload S.1 S.2.1 dX1_takeIn_54 (lv_at hl 0 rfl) ?_
    refine lv_iload_n S.1 S.2.1 dX1_takeIn_56 rfl (lv_at hl 4 rfl) ?_
    refine lv_iload S.1 S.2.1 dX1_takeIn_57 (lv_at hl 5 rfl) ?_
    refine cl_i (va_runV (As := [.int (nI (8 * n + b)), .int (x), .int (i)]) (rest := []) S (c_X1_outweighs l G a z H.size (8 * n + b) (x) (i) (by omega)) (cwV 3 S.2.2.2.2 gX1_takeIn_X1_outweighs rfl rfl rfl hd_X1_outweighs ⟨by rw [hR]; exact Nat.le_of_ble_eq_true rfl, by rw [hR]; exact Nat.le_of_ble_eq_true rfl⟩) ⟨PW.blind, va_recv hK.1 hw.1 (ci := 1) (q0 := 6) rfl rfl, fun U hU hW => ⟨rfl, PW.of hK hw hU hW⟩⟩ rfl rfl hl.1 rfl (lv_room (Nat.le_of_ble_eq_true rfl)) dX1_takeIn_59 ⟨Nat.zero_le _, Nat.zero_le _⟩) hw hA (fun _ => rfl) (fun r2 z3 H locs h4 hw => ?_)
    obtain ⟨rfl, qz3⟩ := h4
    rw [qz3] at hw
    refine brB_ne (b := owg z (8 * n + b) (x) (i)) S (tgt := 67) dX1_takeIn_62 (by decide) (fun c5 => ?_) (fun c5 => ?_)
    · skip
      refine lv_aload_n S.1 S.2.1 dX1_takeIn_67 rfl (lv_at hl 1 rfl) ?_
      refine lv_iload S.1 S.2.1 dX1_takeIn_68 (lv_at hl 0 rfl) ?_
      refine lv_iload_n S.1 S.2.1 dX1_takeIn_70 rfl (lv_at hl 4 rfl) ?_
      refine lv_iload S.1 S.2.1 dX1_takeIn_71 (lv_at hl 5 rfl) ?_
      refine cl_v (va_runV (As := [.int (nI (8 * n + b)), .int (x), .int (i)]) (rest := []) S (c_X1_replaceView l G a z H.size (8 * n + b) (x) (i) (by omega)) (cwV 3 S.2.2.2.2 gX1_takeIn_X1_replaceView rfl rfl rfl hd_X1_replaceView ⟨by rw [hR]; exact Nat.le_of_ble_eq_true rfl, by rw [hR]; exact Nat.le_of_ble_eq_true rfl⟩) ⟨PW.blind, va_recv hK.1 hw.1 (ci := 1) (q0 := 6) rfl rfl, fun U hU hW => ⟨rfl, PW.of hK hw hU hW⟩⟩ rfl rfl hl.1 rfl (lv_room (Nat.le_of_ble_eq_true rfl)) dX1_takeIn_73 ⟨Nat.zero_le _, Nat.zero_le _⟩) hw hA (fun _ => rfl) (fun z7 H locs h8 hw => ?_)
      have ez7 := h8
      refine lv_aload_n S.1 S.2.1 dX1_takeIn_76 rfl (lv_at hl 1 rfl) ?_
      refine gt_X1_4 (v := .ref (a 11)) S hK hw 6 rfl rfl LX1 k3 dX1_takeIn_77 ?_
      refine lv_iload S.1 S.2.1 dX1_takeIn_80 (lv_at hl 0 rfl) ?_
      refine lv_aload_n S.1 S.2.1 dX1_takeIn_82 rfl (lv_at hl 1 rfl) ?_
      refine gt_X1_6 (v := .int (z7 0 3)) S hK hw 6 rfl rfl LX1 k4 dX1_takeIn_83 ?_
      refine ast_i (ws' := (wp G a (st z7 8 (8 * n + b) (z7 0 3)))) (k := 8 * n + b) S hK hw 11 rfl (by omega) (by decide) rfl dX1_takeIn_86 (fun H locs hw => ?_)
      obtain ⟨z9, ez9⟩ : ∃ zz, zz = st z7 8 (8 * n + b) (z7 0 3) := ⟨_, rfl⟩
      have hw : WD G (wp G a z9) A s H locs := by rw [ez9]; exact hw
      refine lv_aload_n S.1 S.2.1 dX1_takeIn_87 rfl (lv_at hl 1 rfl) ?_
      refine cl_v (va_runV (As := []) (rest := []) S (c_X1_endQuiet l G a z9 H.size  ) (cwV 0 S.2.2.2.2 gX1_takeIn_X1_endQuiet rfl rfl rfl hd_X1_endQuiet ⟨by rw [hR]; exact Nat.le_of_ble_eq_true rfl, by rw [hR]; exact Nat.le_of_ble_eq_true rfl⟩) ⟨PW.blind, va_recv hK.1 hw.1 (ci := 1) (q0 := 6) rfl rfl, fun U hU hW => ⟨rfl, PW.of hK hw hU hW⟩⟩ rfl rfl hl.1 rfl (lv_room (Nat.le_of_ble_eq_true rfl)) dX1_takeIn_88 ⟨Nat.zero_le _, Nat.zero_le _⟩) hw hA (fun _ => rfl) (fun z11 H locs h12 hw => ?_)
      have ez11 := h12
      refine lv_iconst (v := 1) S.1 S.2.1 dX1_takeIn_91 (by decide) ?_
      exact en_z (v := (1)) z11 hQ S hr hlk rfl hw (by have hb : tkb z n b x i = true := (by simp [tkb, slf, c1, c5]); subst ez11 ez9 ez7; refine ⟨by rw [hb]; rfl, ?_⟩; rw [tk, if_pos hb]; first | (rw [if_pos (by assumption)]; rfl) | (rw [if_neg (by assumption)]; rfl)) dX1_takeIn_92
    · skip
      refine lv_iconst (v := 0) S.1 S.2.1 dX1_takeIn_65 (by decide) ?_
      exact en_z (v := (0)) z hQ S hr hlk rfl hw (by refine ⟨?_, ?_⟩ <;> simp [tkb, tk, b2, c1, c5]) dX1_takeIn_66
  · skip
    refine lv_iload_n S.1 S.2.1 dX1_takeIn_12 rfl (lv_at hl 4 rfl) ?_
    refine lv_iconst (v := 1) S.1 S.2.1 dX1_takeIn_13 (by decide) ?_
    refine lv_icmp_eq (tgt := 28) S.1 S.2.1 dX1_takeIn_14 (by decide) (fun c13 => ?_) (fun c13 => ?_)
    · skip
      refine lv_iconst (v := 0) S.1 S.2.1 dX1_takeIn_28 (by decide) ?_
      exact en_z (v := (0)) z hQ S hr hlk rfl hw (by refine ⟨?_, ?_⟩ <;> simp [tkb, tk, slf, b2, c1, c13]) dX1_takeIn_29
    · skip
      refine lv_iload S.1 S.2.1 dX1_takeIn_17 (lv_at hl 5 rfl) ?_
      refine lv_aload_n S.1 S.2.1 dX1_takeIn_19 rfl (lv_at hl 1 rfl) ?_
      refine gt_X1_0 (v := .ref (a 7)) S hK hw 6 rfl rfl LX1 k5 dX1_takeIn_20 ?_
      refine lv_iload_n S.1 S.2.1 dX1_takeIn_23 rfl (lv_at hl 2 rfl) ?_
      refine ald_i (v := z 4 (n)) (k := n) S hK hw 7 rfl (by omega) (by decide) rfl dX1_takeIn_24 ?_
      refine lv_icmp_ge (tgt := 30) S.1 S.2.1 dX1_takeIn_25 (by decide) (fun c14 => ?_) (fun c14 => ?_)
      · skip
        refine lv_aload_n S.1 S.2.1 dX1_takeIn_30 rfl (lv_at hl 1 rfl) ?_
        refine gt_X1_0 (v := .ref (a 7)) S hK hw 6 rfl rfl LX1 k5 dX1_takeIn_31 ?_
        refine lv_iload_n S.1 S.2.1 dX1_takeIn_34 rfl (lv_at hl 2 rfl) ?_
        refine lv_iload S.1 S.2.1 dX1_takeIn_35 (lv_at hl 5 rfl) ?_
        refine lv_iconst (v := 1) S.1 S.2.1 dX1_takeIn_37 (by decide) ?_
        refine lv_iadd S.1 S.2.1 dX1_takeIn_38 ?_
        refine ast_i (ws' := (wp G a (st z 4 (n) ((i) + (1))))) (k := n) S hK hw 7 rfl (by omega) (by decide) rfl dX1_takeIn_39 (fun H locs hw => ?_)
        obtain ⟨z15, ez15⟩ : ∃ zz, zz = st z 4 (n) ((i) + (1)) := ⟨_, rfl⟩
        have hw : WD G (wp G a z15) A s H locs := by rw [ez15]; exact hw
        refine lv_aload_n S.1 S.2.1 dX1_takeIn_40 rfl (lv_at hl 1 rfl) ?_
        refine lv_dup S.1 S.2.1 dX1_takeIn_41 rfl ?_
        refine gt_X1_9 (v := .int (z15 0 7)) S hK hw 6 rfl rfl LX1 k6 dX1_takeIn_42 ?_
        refine lv_iconst (v := 1) S.1 S.2.1 dX1_takeIn_45 (by decide) ?_
        refine lv_iadd S.1 S.2.1 dX1_takeIn_46 ?_
        refine pt_X1_9 (ws' := (wp G a (st z15 0 7 ((z15 0 7) + (1))))) S hK hw 6 rfl LX1 k6 rfl (Nat.le_of_ble_eq_true rfl) dX1_takeIn_47 (fun H locs hw => ?_)
        obtain ⟨z16, ez16⟩ : ∃ zz, zz = st z15 0 7 ((z15 0 7) + (1)) := ⟨_, rfl⟩
        have hw : WD G (wp G a z16) A s H locs := by rw [ez16]; exact hw
        refine lv_goto (tgt := 76) S.1 S.2.1 dX1_takeIn_50 (by decide) ?_
        refine lv_aload_n S.1 S.2.1 dX1_takeIn_76 rfl (lv_at hl 1 rfl) ?_
        refine gt_X1_4 (v := .ref (a 11)) S hK hw 6 rfl rfl LX1 k3 dX1_takeIn_77 ?_
        refine lv_iload S.1 S.2.1 dX1_takeIn_80 (lv_at hl 0 rfl) ?_
        refine lv_aload_n S.1 S.2.1 dX1_takeIn_82 rfl (lv_at hl 1 rfl) ?_
        refine gt_X1_6 (v := .int (z16 0 3)) S hK hw 6 rfl rfl LX1 k4 dX1_takeIn_83 ?_
        refine ast_i (ws' := (wp G a (st z16 8 (8 * n + b) (z16 0 3)))) (k := 8 * n + b) S hK hw 11 rfl (by omega) (by decide) rfl dX1_takeIn_86 (fun H locs hw => ?_)
        obtain ⟨z17, ez17⟩ : ∃ zz, zz = st z16 8 (8 * n + b) (z16 0 3) := ⟨_, rfl⟩
        have hw : WD G (wp G a z17) A s H locs := by rw [ez17]; exact hw
        refine lv_aload_n S.1 S.2.1 dX1_takeIn_87 rfl (lv_at hl 1 rfl) ?_
        refine cl_v (va_runV (As := []) (rest := []) S (c_X1_endQuiet l G a z17 H.size  ) (cwV 0 S.2.2.2.2 gX1_takeIn_X1_endQuiet rfl rfl rfl hd_X1_endQuiet ⟨by rw [hR]; exact Nat.le_of_ble_eq_true rfl, by rw [hR]; exact Nat.le_of_ble_eq_true rfl⟩) ⟨PW.blind, va_recv hK.1 hw.1 (ci := 1) (q0 := 6) rfl rfl, fun U hU hW => ⟨rfl, PW.of hK hw hU hW⟩⟩ rfl rfl hl.1 rfl (lv_room (Nat.le_of_ble_eq_true rfl)) dX1_takeIn_88 ⟨Nat.zero_le _, Nat.zero_le _⟩) hw hA (fun _ => rfl) (fun z19 H locs h20 hw => ?_)
        have ez19 := h20
        refine lv_iconst (v := 1) S.1 S.2.1 dX1_takeIn_91 (by decide) ?_
        exact en_z (v := (1)) z19 hQ S hr hlk rfl hw (by have hb : tkb z n b x i = true := (by simp [tkb, slf, c1, c13, c14]); subst ez19 ez17 ez16 ez15; refine ⟨by rw [hb]; rfl, ?_⟩; rw [tk, if_pos hb]; first | (rw [if_pos (by assumption)]; rfl) | (rw [if_neg (by assumption)]; rfl)) dX1_takeIn_92
      · skip
        refine lv_iconst (v := 0) S.1 S.2.1 dX1_takeIn_28 (by decide) ?_
        exact en_z (v := (0)) z hQ S hr hlk rfl hw (by refine ⟨?_, ?_⟩ <;> simp [tkb, tk, slf, b2, c1, c13, c14]) dX1_takeIn_29

theorem hd_X1_nodesInState : yX1_nodesInState.cls = RX1 ∧ yX1_nodesInState.cls ≠ "java/lang/invoke/MethodHandle" ∧ yX1_nodesInState.cls ≠ "java/lang/invoke/VarHandle" ∧ (parseMethodDescriptor yX1_nodesInState.desc).map (fun d => d.parameters.length) = some 2 := by decide +kernel
set_option maxHeartbeats 4000000 in
set_option maxRecDepth 100000 in
theorem c_X1_nodesInState (l : Launch) (G : GA) (a : Nat → Nat) (z : St) (sz : Nat) (n : Nat) (w : Int32) (hn : n < 8) : Met l yX1_nodesInState wsX1_nodesInState ({ frames := 1, cells := 0, slots := 0, locals := 21 }) (va_Pc [.ref (a 6), .int (nI (n)), .int (w)] (PW G (wp G a z) sz)) (va_Qi (fun (r : Int32) (u : St) => r = nI (mk (nst z n w) 8) ∧ u = z) (fun (u : St) t => va_P G.1 gcl (wp G a u) t.heap) (va_A (wp G a z) sz)) 0 0 (va_A (wp G a z) sz) := by
  refine met_st (cc := cX1_nodesInState) (maxL := 5) (ret := (some .int)) (fun A => va_Qi (fun (r : Int32) (u : St) => r = nI (mk (nst z n w) 8) ∧ u = z) (fun (u : St) t => va_P G.1 gcl (wp G a u) t.heap) A) (by decide) rfl (Nat.le_of_ble_eq_true rfl) ?_
  intro p e s m args below meth c R Q A H ls hR hQ S hr hlk _ hK hsz hH hAe hA hw hl
  have hl : lv_has ls 5 [(0, .ref (a 6)), (1, .int (nI (n))), (2, .int (w))] := hl
  have LX1 : ∀ w ∈ u_ws RX1 TX1 10, w.before args s = true := fun w h => S.2.2.2.2 w ((by decide +kernel : ∀ w ∈ u_ws RX1 TX1 10, w ∈ wsX1_nodesInState) w h)
  have k1 : (Cond.fieldLink RX1 15 "GossipMembership$Knowledge" "state" "[I").before args s = true := S.2.2.2.2 _ (by decide +kernel : (Cond.fieldLink RX1 15 "GossipMembership$Knowledge" "state" "[I") ∈ wsX1_nodesInState)
  have k2 : (Cond.static yX4_pair).before args s = true := S.2.2.2.2 _ (by decide +kernel : (Cond.static yX4_pair) ∈ wsX1_nodesInState)
  have k3 : (Cond.initialized yX4_pair.cls).before args s = true := S.2.2.2.2 _ (by decide +kernel : (Cond.initialized yX4_pair.cls) ∈ wsX1_nodesInState)
  refine lv_iconst (v := 0) S.1 S.2.1 dX1_nodesInState_0 (by decide) ?_
  refine lv_istore_n (lv' := [(3, .int 0), (0, .ref (a 6)), (1, .int (nI (n))), (2, .int (w))]) S.1 S.2.1 dX1_nodesInState_1 rfl hl (by decide) rfl (fun ls hl => ?_)
  refine lv_iconst (v := 0) S.1 S.2.1 dX1_nodesInState_2 (by decide) ?_
  refine lv_istore (lv' := [(4, .int 0), (3, .int 0), (0, .ref (a 6)), (1, .int (nI (n))), (2, .int (w))]) S.1 S.2.1 dX1_nodesInState_3 hl (by decide) rfl (fun ls hl => ?_)
  have K5 : ∀ (fu : Nat) (k : Nat) (H : Heap) (locs : List Loc) (ls : Array Slot), 8 - k < fu → k ≤ 8 → WD G (wp G a z) A s H locs → lv_has ls 5 [(0, .ref (a 6)), (1, .int (nI (n))), (2, .int (w)), (3, .int (nI (mk (nst z n w) k))), (4, .int (nI (k)))] → W p l e R s m args below meth c H locs 0 0 Q (F0 m 5 ls []) := by
    intro fu
    induction fu with
    | zero => exact fun _ _ _ _ h => absurd h (Nat.not_lt_zero _)
    | succ fu ih5 =>
      intro k H locs ls hm5 hk hw hl
      refine lv_iload S.1 S.2.1 dX1_nodesInState_5 (lv_at hl 4 rfl) ?_
      refine lv_bipush (v := 8) S.1 S.2.1 dX1_nodesInState_7 (by decide) ?_
      refine brN_ge (a := k) (b := 8) S (by omega) (by omega) (tgt := 40) dX1_nodesInState_9 (by decide) (fun c1 => ?_) (fun c1 => ?_)
      · skip
        have hk9 : k = 8 := by omega
        subst hk9
        refine lv_iload_n S.1 S.2.1 dX1_nodesInState_40 rfl (lv_at hl 3 rfl) ?_
        exact en_i (v := (nI (mk (nst z n w) 8))) z hQ S hr hlk hw (by skip; refine ⟨?_, ?_⟩ <;> first | rfl | (simp [nst, b2, c1]; done) | (simp_all [nst, b2]; done)) dX1_nodesInState_41
      · skip
        refine lv_aload_n S.1 S.2.1 dX1_nodesInState_12 rfl (lv_at hl 0 rfl) ?_
        refine gt_X1_1 (v := .ref (a 8)) S hK hw 6 rfl rfl LX1 k1 dX1_nodesInState_13 ?_
        refine lv_iload_n S.1 S.2.1 dX1_nodesInState_16 rfl (lv_at hl 1 rfl) ?_
        refine lv_iload S.1 S.2.1 dX1_nodesInState_17 (lv_at hl 4 rfl) ?_
        refine pr_n (n := n) (b := k) S hl.1 gX1_nodesInState_X4_pair_n40 hK.2.1 k2 k3 ⟨by rw [hR]; exact Nat.le_of_ble_eq_true rfl, by rw [hR]; exact Nat.le_of_ble_eq_true rfl⟩ (Nat.zero_le _) (Nat.zero_le _) (Nat.le_of_ble_eq_true rfl) dX1_nodesInState_19 ?_
        refine ald_i (v := z 5 (8 * n + k)) (k := 8 * n + k) S hK hw 8 rfl (by omega) (by decide) rfl dX1_nodesInState_22 ?_
        refine lv_iload_n S.1 S.2.1 dX1_nodesInState_23 rfl (lv_at hl 2 rfl) ?_
        refine lv_icmp_ne (tgt := 34) S.1 S.2.1 dX1_nodesInState_24 (by decide) (fun c2 => ?_) (fun c2 => ?_)
        · skip
          rw [← mk_skip (nst z n w) (k := k) (by simp [nst]; assumption)] at hl
          refine lv_iinc (v := (nI (k + 1))) (lv' := [(4, .int (nI (k + 1))), (0, .ref (a 6)), (1, .int (nI (n))), (2, .int (w)), (3, .int (nI (mk (nst z n w) (k + 1))))]) S.1 S.2.1 dX1_nodesInState_34 hl (k := 4) rfl (nI_add _ _) (by decide) rfl (fun ls hl => ?_)
          refine lv_goto (tgt := 5) S.1 S.2.1 dX1_nodesInState_37 (by decide) ?_
          exact ih5 (k + 1) _ _ _ (by omega) (by omega) hw (lv_sub hl [1, 2, 3, 4, 0] rfl)
        · skip
          refine lv_iload_n S.1 S.2.1 dX1_nodesInState_27 rfl (lv_at hl 3 rfl) ?_
          refine lv_iconst (v := 1) S.1 S.2.1 dX1_nodesInState_28 (by decide) ?_
          refine lv_iload S.1 S.2.1 dX1_nodesInState_29 (lv_at hl 4 rfl) ?_
          refine lv_ishl S.1 S.2.1 dX1_nodesInState_31 ?_
          refine ior_to (v := nI (mk (nst z n w) (k + 1))) S (mk_step _ (by omega) (by simp [nst]; assumption)) dX1_nodesInState_32 ?_
          refine lv_istore_n (lv' := [(3, .int (nI (mk (nst z n w) (k + 1)))), (0, .ref (a 6)), (1, .int (nI (n))), (2, .int (w)), (4, .int (nI (k)))]) S.1 S.2.1 dX1_nodesInState_33 rfl hl (by decide) rfl (fun ls hl => ?_)
          have hl := hl
          refine lv_iinc (v := (nI (k + 1))) (lv' := [(4, .int (nI (k + 1))), (3, .int (nI (mk (nst z n w) (k + 1)))), (0, .ref (a 6)), (1, .int (nI (n))), (2, .int (w))]) S.1 S.2.1 dX1_nodesInState_34 hl (k := 4) rfl (nI_add _ _) (by decide) rfl (fun ls hl => ?_)
          refine lv_goto (tgt := 5) S.1 S.2.1 dX1_nodesInState_37 (by decide) ?_
          exact ih5 (k + 1) _ _ _ (by omega) (by omega) hw (lv_sub hl [2, 3, 4, 1, 0] rfl)
  exact K5 (9) (0) _ _ _ (by omega) (by omega) hw (lv_sub hl [2, 3, 4, 1, 0] rfl)

theorem hd_X1_mostUrgent : yX1_mostUrgent.cls = RX1 ∧ yX1_mostUrgent.cls ≠ "java/lang/invoke/MethodHandle" ∧ yX1_mostUrgent.cls ≠ "java/lang/invoke/VarHandle" ∧ (parseMethodDescriptor yX1_mostUrgent.desc).map (fun d => d.parameters.length) = some 2 := by decide +kernel
set_option maxHeartbeats 4000000 in
set_option maxRecDepth 100000 in
theorem c_X1_mostUrgent (l : Launch) (G : GA) (a : Nat → Nat) (z : St) (sz : Nat) (n : Nat) (t : Nat → Bool) (hn : n < 8) : Met l yX1_mostUrgent wsX1_mostUrgent ({ frames := 1, cells := 0, slots := 0, locals := 21 }) (va_Pc [.ref (a 6), .int (nI (n)), .int (nI (mk t 8))] (PW G (wp G a z) sz)) (va_Qi (fun (r : Int32) (u : St) => r = oI (mu z n t 8) ∧ u = z) (fun (u : St) t => va_P G.1 gcl (wp G a u) t.heap) (va_A (wp G a z) sz)) 0 0 (va_A (wp G a z) sz) := by
  refine met_st (cc := cX1_mostUrgent) (maxL := 7) (ret := (some .int)) (fun A => va_Qi (fun (r : Int32) (u : St) => r = oI (mu z n t 8) ∧ u = z) (fun (u : St) t => va_P G.1 gcl (wp G a u) t.heap) A) (by decide) rfl (Nat.le_of_ble_eq_true rfl) ?_
  intro p e s m args below meth c R Q A H ls hR hQ S hr hlk _ hK hsz hH hAe hA hw hl
  have hl : lv_has ls 7 [(0, .ref (a 6)), (1, .int (nI (n))), (2, .int (nI (mk t 8)))] := hl
  have LX1 : ∀ w ∈ u_ws RX1 TX1 10, w.before args s = true := fun w h => S.2.2.2.2 w ((by decide +kernel : ∀ w ∈ u_ws RX1 TX1 10, w ∈ wsX1_mostUrgent) w h)
  have k1 : (Cond.fieldLink RX1 24 "GossipMembership$Knowledge" "counters" "[I").before args s = true := S.2.2.2.2 _ (by decide +kernel : (Cond.fieldLink RX1 24 "GossipMembership$Knowledge" "counters" "[I") ∈ wsX1_mostUrgent)
  have k2 : (Cond.static yX4_pair).before args s = true := S.2.2.2.2 _ (by decide +kernel : (Cond.static yX4_pair) ∈ wsX1_mostUrgent)
  have k3 : (Cond.initialized yX4_pair.cls).before args s = true := S.2.2.2.2 _ (by decide +kernel : (Cond.initialized yX4_pair.cls) ∈ wsX1_mostUrgent)
  refine lv_iconst (v := (-1)) S.1 S.2.1 dX1_mostUrgent_0 (by decide) ?_
  refine lv_istore_n (lv' := [(3, .int (-1)), (0, .ref (a 6)), (1, .int (nI (n))), (2, .int (nI (mk t 8)))]) S.1 S.2.1 dX1_mostUrgent_1 rfl hl (by decide) rfl (fun ls hl => ?_)
  refine lv_iconst (v := 0) S.1 S.2.1 dX1_mostUrgent_2 (by decide) ?_
  refine lv_istore (lv' := [(4, .int 0), (3, .int (-1)), (0, .ref (a 6)), (1, .int (nI (n))), (2, .int (nI (mk t 8)))]) S.1 S.2.1 dX1_mostUrgent_3 hl (by decide) rfl (fun ls hl => ?_)
  refine lv_iconst (v := 0) S.1 S.2.1 dX1_mostUrgent_5 (by decide) ?_
  refine lv_istore (lv' := [(5, .int 0), (4, .int 0), (3, .int (-1)), (0, .ref (a 6)), (1, .int (nI (n))), (2, .int (nI (mk t 8)))]) S.1 S.2.1 dX1_mostUrgent_6 hl (by decide) rfl (fun ls hl => ?_)
  have K8 : ∀ (fu : Nat) (k : Nat) (H : Heap) (locs : List Loc) (ls : Array Slot), 8 - k < fu → k ≤ 8 → WD G (wp G a z) A s H locs → lv_has ls 7 [(0, .ref (a 6)), (1, .int (nI (n))), (2, .int (nI (mk t 8))), (3, .int (oI (mu z n t k))), (4, .int (muV z n (mu z n t k))), (5, .int (nI (k)))] → W p l e R s m args below meth c H locs 0 0 Q (F0 m 8 ls []) := by
    intro fu
    induction fu with
    | zero => exact fun _ _ _ _ h => absurd h (Nat.not_lt_zero _)
    | succ fu ih8 =>
      intro k H locs ls hm8 hk hw hl
      refine lv_iload S.1 S.2.1 dX1_mostUrgent_8 (lv_at hl 5 rfl) ?_
      refine lv_bipush (v := 8) S.1 S.2.1 dX1_mostUrgent_10 (by decide) ?_
      refine brN_ge (a := k) (b := 8) S (by omega) (by omega) (tgt := 57) dX1_mostUrgent_12 (by decide) (fun c1 => ?_) (fun c1 => ?_)
      · skip
        have hk9 : k = 8 := by omega
        subst hk9
        refine lv_iload_n S.1 S.2.1 dX1_mostUrgent_57 rfl (lv_at hl 3 rfl) ?_
        exact en_i (v := (oI (mu z n t 8))) z hQ S hr hlk hw (by exact ⟨rfl, rfl⟩) dX1_mostUrgent_58
      · skip
        refine lv_aload_n S.1 S.2.1 dX1_mostUrgent_15 rfl (lv_at hl 0 rfl) ?_
        refine gt_X1_4 (v := .ref (a 11)) S hK hw 6 rfl rfl LX1 k1 dX1_mostUrgent_16 ?_
        refine lv_iload_n S.1 S.2.1 dX1_mostUrgent_19 rfl (lv_at hl 1 rfl) ?_
        refine lv_iload S.1 S.2.1 dX1_mostUrgent_20 (lv_at hl 5 rfl) ?_
        refine pr_n (n := n) (b := k) S hl.1 gX1_mostUrgent_X4_pair_n40 hK.2.1 k2 k3 ⟨by rw [hR]; exact Nat.le_of_ble_eq_true rfl, by rw [hR]; exact Nat.le_of_ble_eq_true rfl⟩ (Nat.zero_le _) (Nat.zero_le _) (Nat.le_of_ble_eq_true rfl) dX1_mostUrgent_22 ?_
        refine ald_i (v := z 8 (8 * n + k)) (k := 8 * n + k) S hK hw 11 rfl (by omega) (by decide) rfl dX1_mostUrgent_25 ?_
        refine lv_istore (lv' := [(6, .int (z 8 (8 * n + k))), (0, .ref (a 6)), (1, .int (nI (n))), (2, .int (nI (mk t 8))), (3, .int (oI (mu z n t k))), (4, .int (muV z n (mu z n t k))), (5, .int (nI (k)))]) S.1 S.2.1 dX1_mostUrgent_26 hl (by decide) rfl (fun ls hl => ?_)
        refine lv_iload_n S.1 S.2.1 dX1_mostUrgent_28 rfl (lv_at hl 3 rfl) ?_
        refine lv_iload S.1 S.2.1 dX1_mostUrgent_29 (lv_at hl 6 rfl) ?_
        refine lv_ishr S.1 S.2.1 dX1_mostUrgent_31 ?_
        refine lv_iconst (v := 1) S.1 S.2.1 dX1_mostUrgent_32 (by decide) ?_
        refine iand_to (v := b2 (t (k))) S (mk_sh t (by omega)) dX1_mostUrgent_33 ?_
        refine brB_ne (b := t (k)) S (tgt := 51) dX1_mostUrgent_34 (by decide) (fun c2 => ?_) (fun c2 => ?_)
        · skip
          have hm9 : mu z n t (k + 1) = mu z n t k := by rw [mu_s, if_neg]; intro h; first | (rw [c2] at h; exact absurd h.1 (by decide)) | exact absurd h.2 (by simpa using c2)
          rw [← hm9] at hl
          refine lv_iinc (v := (nI (k + 1))) (lv' := [(5, .int (nI (k + 1))), (6, .int (z 8 (8 * n + k))), (0, .ref (a 6)), (1, .int (nI (n))), (2, .int (nI (mk t 8))), (3, .int (oI (mu z n t (k + 1)))), (4, .int (muV z n (mu z n t (k + 1))))]) S.1 S.2.1 dX1_mostUrgent_51 hl (k := 6) rfl (nI_add _ _) (by decide) rfl (fun ls hl => ?_)
          refine lv_goto (tgt := 8) S.1 S.2.1 dX1_mostUrgent_54 (by decide) ?_
          exact ih8 (k + 1) _ _ _ (by omega) (by omega) hw (lv_sub hl [2, 3, 4, 5, 6, 0] rfl)
        · skip
          refine lv_iload S.1 S.2.1 dX1_mostUrgent_37 (lv_at hl 0 rfl) ?_
          refine lv_iload S.1 S.2.1 dX1_mostUrgent_39 (lv_at hl 5 rfl) ?_
          refine lv_icmp_le (tgt := 51) S.1 S.2.1 dX1_mostUrgent_41 (by decide) (fun c3 => ?_) (fun c3 => ?_)
          · skip
            have hm9 : mu z n t (k + 1) = mu z n t k := by rw [mu_s, if_neg]; intro h; first | (rw [c3] at h; exact absurd h.1 (by decide)) | exact absurd h.2 (by simpa using c3)
            rw [← hm9] at hl
            refine lv_iinc (v := (nI (k + 1))) (lv' := [(5, .int (nI (k + 1))), (6, .int (z 8 (8 * n + k))), (0, .ref (a 6)), (1, .int (nI (n))), (2, .int (nI (mk t 8))), (3, .int (oI (mu z n t (k + 1)))), (4, .int (muV z n (mu z n t (k + 1))))]) S.1 S.2.1 dX1_mostUrgent_51 hl (k := 6) rfl (nI_add _ _) (by decide) rfl (fun ls hl => ?_)
            refine lv_goto (tgt := 8) S.1 S.2.1 dX1_mostUrgent_54 (by decide) ?_
            exact ih8 (k + 1) _ _ _ (by omega) (by omega) hw (lv_sub hl [2, 3, 4, 5, 6, 0] rfl)
          · skip
            refine lv_iload S.1 S.2.1 dX1_mostUrgent_44 (lv_at hl 6 rfl) ?_
            refine lv_istore_n (lv' := [(3, .int (nI (k))), (6, .int (z 8 (8 * n + k))), (0, .ref (a 6)), (1, .int (nI (n))), (2, .int (nI (mk t 8))), (4, .int (muV z n (mu z n t k))), (5, .int (nI (k)))]) S.1 S.2.1 dX1_mostUrgent_46 rfl hl (by decide) rfl (fun ls hl => ?_)
            refine lv_iload S.1 S.2.1 dX1_mostUrgent_47 (lv_at hl 1 rfl) ?_
            refine lv_istore (lv' := [(4, .int (z 8 (8 * n + k))), (3, .int (nI (k))), (6, .int (z 8 (8 * n + k))), (0, .ref (a 6)), (1, .int (nI (n))), (2, .int (nI (mk t 8))), (5, .int (nI (k)))]) S.1 S.2.1 dX1_mostUrgent_49 hl (by decide) rfl (fun ls hl => ?_)
            have hm9 : mu z n t (k + 1) = some k := by rw [mu_s, if_pos ⟨by assumption, by simpa using c3⟩]
            have hl : lv_has ls 7 [(4, .int (muV z n (mu z n t (k + 1)))), (3, .int (oI (mu z n t (k + 1)))), (6, .int (z 8 (8 * n + k))), (0, .ref (a 6)), (1, .int (nI (n))), (2, .int (nI (mk t 8))), (5, .int (nI (k)))] := by rw [hm9]; exact hl
            refine lv_iinc (v := (nI (k + 1))) (lv' := [(5, .int (nI (k + 1))), (4, .int (muV z n (mu z n t (k + 1)))), (3, .int (oI (mu z n t (k + 1)))), (6, .int (z 8 (8 * n + k))), (0, .ref (a 6)), (1, .int (nI (n))), (2, .int (nI (mk t 8)))]) S.1 S.2.1 dX1_mostUrgent_51 hl (k := 6) rfl (nI_add _ _) (by decide) rfl (fun ls hl => ?_)
            refine lv_goto (tgt := 8) S.1 S.2.1 dX1_mostUrgent_54 (by decide) ?_
            exact ih8 (k + 1) _ _ _ (by omega) (by omega) hw (lv_sub hl [4, 5, 6, 2, 1, 0] rfl)
  exact K8 (9) (0) _ _ _ (by omega) (by omega) hw (lv_sub hl [3, 4, 5, 2, 1, 0] rfl)

theorem hd_X1_sumOfCounters : yX1_sumOfCounters.cls = RX1 ∧ yX1_sumOfCounters.cls ≠ "java/lang/invoke/MethodHandle" ∧ yX1_sumOfCounters.cls ≠ "java/lang/invoke/VarHandle" ∧ (parseMethodDescriptor yX1_sumOfCounters.desc).map (fun d => d.parameters.length) = some 1 := by decide +kernel
set_option maxHeartbeats 4000000 in
set_option maxRecDepth 100000 in
theorem c_X1_sumOfCounters (l : Launch) (G : GA) (a : Nat → Nat) (z : St) (sz : Nat) (n : Nat) (hn : n < 8) : Met l yX1_sumOfCounters wsX1_sumOfCounters ({ frames := 1, cells := 0, slots := 0, locals := 21 }) (va_Pc [.ref (a 6), .int (nI (n))] (PW G (wp G a z) sz)) (va_Qi (fun (r : Int32) (u : St) => r = smc z n 8 ∧ u = z) (fun (u : St) t => va_P G.1 gcl (wp G a u) t.heap) (va_A (wp G a z) sz)) 0 0 (va_A (wp G a z) sz) := by
  refine met_st (cc := cX1_sumOfCounters) (maxL := 4) (ret := (some .int)) (fun A => va_Qi (fun (r : Int32) (u : St) => r = smc z n 8 ∧ u = z) (fun (u : St) t => va_P G.1 gcl (wp G a u) t.heap) A) (by decide) rfl (Nat.le_of_ble_eq_true rfl) ?_
  intro p e s m args below meth c R Q A H ls hR hQ S hr hlk _ hK hsz hH hAe hA hw hl
  have hl : lv_has ls 4 [(0, .ref (a 6)), (1, .int (nI (n)))] := hl
  have LX1 : ∀ w ∈ u_ws RX1 TX1 10, w.before args s = true := fun w h => S.2.2.2.2 w ((by decide +kernel : ∀ w ∈ u_ws RX1 TX1 10, w ∈ wsX1_sumOfCounters) w h)
  have k1 : (Cond.fieldLink RX1 24 "GossipMembership$Knowledge" "counters" "[I").before args s = true := S.2.2.2.2 _ (by decide +kernel : (Cond.fieldLink RX1 24 "GossipMembership$Knowledge" "counters" "[I") ∈ wsX1_sumOfCounters)
  have k2 : (Cond.static yX4_pair).before args s = true := S.2.2.2.2 _ (by decide +kernel : (Cond.static yX4_pair) ∈ wsX1_sumOfCounters)
  have k3 : (Cond.initialized yX4_pair.cls).before args s = true := S.2.2.2.2 _ (by decide +kernel : (Cond.initialized yX4_pair.cls) ∈ wsX1_sumOfCounters)
  refine lv_iconst (v := 0) S.1 S.2.1 dX1_sumOfCounters_0 (by decide) ?_
  refine lv_istore_n (lv' := [(2, .int 0), (0, .ref (a 6)), (1, .int (nI (n)))]) S.1 S.2.1 dX1_sumOfCounters_1 rfl hl (by decide) rfl (fun ls hl => ?_)
  refine lv_iconst (v := 0) S.1 S.2.1 dX1_sumOfCounters_2 (by decide) ?_
  refine lv_istore_n (lv' := [(3, .int 0), (2, .int 0), (0, .ref (a 6)), (1, .int (nI (n)))]) S.1 S.2.1 dX1_sumOfCounters_3 rfl hl (by decide) rfl (fun ls hl => ?_)
  have K4 : ∀ (fu : Nat) (k : Nat) (H : Heap) (locs : List Loc) (ls : Array Slot), 8 - k < fu → k ≤ 8 → WD G (wp G a z) A s H locs → lv_has ls 4 [(0, .ref (a 6)), (1, .int (nI (n))), (2, .int (smc z n k)), (3, .int (nI (k)))] → W p l e R s m args below meth c H locs 0 0 Q (F0 m 4 ls []) := by
    intro fu
    induction fu with
    | zero => exact fun _ _ _ _ h => absurd h (Nat.not_lt_zero _)
    | succ fu ih4 =>
      intro k H locs ls hm4 hk hw hl
      refine lv_iload_n S.1 S.2.1 dX1_sumOfCounters_4 rfl (lv_at hl 3 rfl) ?_
      refine lv_bipush (v := 8) S.1 S.2.1 dX1_sumOfCounters_5 (by decide) ?_
      refine brN_ge (a := k) (b := 8) S (by omega) (by omega) (tgt := 29) dX1_sumOfCounters_7 (by decide) (fun c1 => ?_) (fun c1 => ?_)
      · skip
        have hk9 : k = 8 := by omega
        subst hk9
        refine lv_iload_n S.1 S.2.1 dX1_sumOfCounters_29 rfl (lv_at hl 2 rfl) ?_
        exact en_i (v := (smc z n 8)) z hQ S hr hlk hw (by skip; refine ⟨?_, ?_⟩ <;> first | rfl | (simp [b2, c1]; done) | (simp_all [b2]; done)) dX1_sumOfCounters_30
      · skip
        refine lv_iload_n S.1 S.2.1 dX1_sumOfCounters_10 rfl (lv_at hl 2 rfl) ?_
        refine lv_aload_n S.1 S.2.1 dX1_sumOfCounters_11 rfl (lv_at hl 0 rfl) ?_
        refine gt_X1_4 (v := .ref (a 11)) S hK hw 6 rfl rfl LX1 k1 dX1_sumOfCounters_12 ?_
        refine lv_iload_n S.1 S.2.1 dX1_sumOfCounters_15 rfl (lv_at hl 1 rfl) ?_
        refine lv_iload_n S.1 S.2.1 dX1_sumOfCounters_16 rfl (lv_at hl 3 rfl) ?_
        refine pr_n (n := n) (b := k) S hl.1 gX1_sumOfCounters_X4_pair_n40 hK.2.1 k2 k3 ⟨by rw [hR]; exact Nat.le_of_ble_eq_true rfl, by rw [hR]; exact Nat.le_of_ble_eq_true rfl⟩ (Nat.zero_le _) (Nat.zero_le _) (Nat.le_of_ble_eq_true rfl) dX1_sumOfCounters_17 ?_
        refine ald_i (v := z 8 (8 * n + k)) (k := 8 * n + k) S hK hw 11 rfl (by omega) (by decide) rfl dX1_sumOfCounters_20 ?_
        refine iadd_to (v := smc z n (k + 1)) S rfl dX1_sumOfCounters_21 ?_
        refine lv_istore_n (lv' := [(2, .int (smc z n (k + 1))), (0, .ref (a 6)), (1, .int (nI (n))), (3, .int (nI (k)))]) S.1 S.2.1 dX1_sumOfCounters_22 rfl hl (by decide) rfl (fun ls hl => ?_)
        refine lv_iinc (v := (nI (k + 1))) (lv' := [(3, .int (nI (k + 1))), (2, .int (smc z n (k + 1))), (0, .ref (a 6)), (1, .int (nI (n)))]) S.1 S.2.1 dX1_sumOfCounters_23 hl (k := 3) rfl (nI_add _ _) (by decide) rfl (fun ls hl => ?_)
        refine lv_goto (tgt := 4) S.1 S.2.1 dX1_sumOfCounters_26 (by decide) ?_
        exact ih4 (k + 1) _ _ _ (by omega) (by omega) hw (lv_sub hl [2, 3, 1, 0] rfl)
  exact K4 (9) (0) _ _ _ (by omega) (by omega) hw (lv_sub hl [2, 3, 1, 0] rfl)

theorem hd_X1_isUpToDate : yX1_isUpToDate.cls = RX1 ∧ yX1_isUpToDate.cls ≠ "java/lang/invoke/MethodHandle" ∧ yX1_isUpToDate.cls ≠ "java/lang/invoke/VarHandle" ∧ (parseMethodDescriptor yX1_isUpToDate.desc).map (fun d => d.parameters.length) = some 2 := by decide +kernel
set_option maxHeartbeats 4000000 in
set_option maxRecDepth 100000 in
theorem c_X1_isUpToDate (l : Launch) (G : GA) (a : Nat → Nat) (z : St) (sz : Nat) (n : Nat) (b : Nat) (hn : n < 8) (hb : b < 8) : Met l yX1_isUpToDate wsX1_isUpToDate ({ frames := 1, cells := 0, slots := 0, locals := 21 }) (va_Pc [.ref (a 6), .int (nI (n)), .int (nI (b))] (PW G (wp G a z) sz)) (va_Qi (fun (r : Int32) (u : St) => r = b2 (utd z n b) ∧ u = z) (fun (u : St) t => va_P G.1 gcl (wp G a u) t.heap) (va_A (wp G a z) sz)) 0 0 (va_A (wp G a z) sz) := by
  refine met_st (cc := cX1_isUpToDate) (maxL := 3) (ret := (some .boolean)) (fun A => va_Qi (fun (r : Int32) (u : St) => r = b2 (utd z n b) ∧ u = z) (fun (u : St) t => va_P G.1 gcl (wp G a u) t.heap) A) (by decide) rfl (Nat.le_of_ble_eq_true rfl) ?_
  intro p e s m args below meth c R Q A H ls hR hQ S hr hlk _ hK hsz hH hAe hA hw hl
  have hl : lv_has ls 3 [(0, .ref (a 6)), (1, .int (nI (n))), (2, .int (nI (b)))] := hl
  have LX1 : ∀ w ∈ u_ws RX1 TX1 10, w.before args s = true := fun w h => S.2.2.2.2 w ((by decide +kernel : ∀ w ∈ u_ws RX1 TX1 10, w ∈ wsX1_isUpToDate) w h)
  have k1 : (Cond.fieldLink RX1 15 "GossipMembership$Knowledge" "state" "[I").before args s = true := S.2.2.2.2 _ (by decide +kernel : (Cond.fieldLink RX1 15 "GossipMembership$Knowledge" "state" "[I") ∈ wsX1_isUpToDate)
  have k2 : (Cond.static yX4_pair).before args s = true := S.2.2.2.2 _ (by decide +kernel : (Cond.static yX4_pair) ∈ wsX1_isUpToDate)
  have k3 : (Cond.initialized yX4_pair.cls).before args s = true := S.2.2.2.2 _ (by decide +kernel : (Cond.initialized yX4_pair.cls) ∈ wsX1_isUpToDate)
  have k4 : (Cond.fieldLink RX1 18 "GossipMembership$Knowledge" "incarnations" "[I").before args s = true := S.2.2.2.2 _ (by decide +kernel : (Cond.fieldLink RX1 18 "GossipMembership$Knowledge" "incarnations" "[I") ∈ wsX1_isUpToDate)
  have k5 : (Cond.fieldLink RX1 9 "GossipMembership$Knowledge" "ownIncarnation" "[I").before args s = true := S.2.2.2.2 _ (by decide +kernel : (Cond.fieldLink RX1 9 "GossipMembership$Knowledge" "ownIncarnation" "[I") ∈ wsX1_isUpToDate)
  refine lv_aload_n S.1 S.2.1 dX1_isUpToDate_0 rfl (lv_at hl 0 rfl) ?_
  refine gt_X1_1 (v := .ref (a 8)) S hK hw 6 rfl rfl LX1 k1 dX1_isUpToDate_1 ?_
  refine lv_iload_n S.1 S.2.1 dX1_isUpToDate_4 rfl (lv_at hl 1 rfl) ?_
  refine lv_iload_n S.1 S.2.1 dX1_isUpToDate_5 rfl (lv_at hl 2 rfl) ?_
  refine pr_n (n := n) (b := b) S hl.1 gX1_isUpToDate_X4_pair_n40 hK.2.1 k2 k3 ⟨by rw [hR]; exact Nat.le_of_ble_eq_true rfl, by rw [hR]; exact Nat.le_of_ble_eq_true rfl⟩ (Nat.zero_le _) (Nat.zero_le _) (Nat.le_of_ble_eq_true rfl) dX1_isUpToDate_6 ?_
  refine ald_i (v := z 5 (8 * n + b)) (k := 8 * n + b) S hK hw 8 rfl (by omega) (by decide) rfl dX1_isUpToDate_9 ?_
  refine lv_iconst (v := 1) S.1 S.2.1 dX1_isUpToDate_10 (by decide) ?_
  refine lv_icmp_ne (tgt := 37) S.1 S.2.1 dX1_isUpToDate_11 (by decide) (fun c1 => ?_) (fun c1 => ?_)
  · skip
    refine lv_iconst (v := 0) S.1 S.2.1 dX1_isUpToDate_37 (by decide) ?_
    exact en_z (v := (0)) z hQ S hr hlk rfl hw (by skip; refine ⟨?_, ?_⟩ <;> first | rfl | (simp [utd, b2, b2, c1]; done) | (simp_all [utd, b2, b2]; done)) dX1_isUpToDate_38
  · skip
    refine lv_aload_n S.1 S.2.1 dX1_isUpToDate_14 rfl (lv_at hl 0 rfl) ?_
    refine gt_X1_2 (v := .ref (a 9)) S hK hw 6 rfl rfl LX1 k4 dX1_isUpToDate_15 ?_
    refine lv_iload_n S.1 S.2.1 dX1_isUpToDate_18 rfl (lv_at hl 1 rfl) ?_
    refine lv_iload_n S.1 S.2.1 dX1_isUpToDate_19 rfl (lv_at hl 2 rfl) ?_
    refine pr_n (n := n) (b := b) S hl.1 gX1_isUpToDate_X4_pair_n40 hK.2.1 k2 k3 ⟨by rw [hR]; exact Nat.le_of_ble_eq_true rfl, by rw [hR]; exact Nat.le_of_ble_eq_true rfl⟩ (Nat.zero_le _) (Nat.zero_le _) (Nat.le_of_ble_eq_true rfl) dX1_isUpToDate_20 ?_
    refine ald_i (v := z 6 (8 * n + b)) (k := 8 * n + b) S hK hw 9 rfl (by omega) (by decide) rfl dX1_isUpToDate_23 ?_
    refine lv_aload_n S.1 S.2.1 dX1_isUpToDate_24 rfl (lv_at hl 0 rfl) ?_
    refine gt_X1_0 (v := .ref (a 7)) S hK hw 6 rfl rfl LX1 k5 dX1_isUpToDate_25 ?_
    refine lv_iload_n S.1 S.2.1 dX1_isUpToDate_28 rfl (lv_at hl 2 rfl) ?_
    refine ald_i (v := z 4 (b)) (k := b) S hK hw 7 rfl (by omega) (by decide) rfl dX1_isUpToDate_29 ?_
    refine lv_icmp_ne (tgt := 37) S.1 S.2.1 dX1_isUpToDate_30 (by decide) (fun c2 => ?_) (fun c2 => ?_)
    · skip
      refine lv_iconst (v := 0) S.1 S.2.1 dX1_isUpToDate_37 (by decide) ?_
      exact en_z (v := (0)) z hQ S hr hlk rfl hw (by skip; refine ⟨?_, ?_⟩ <;> first | rfl | (simp [utd, b2, b2, c1, c2]; done) | (simp_all [utd, b2, b2]; done)) dX1_isUpToDate_38
    · skip
      refine lv_iconst (v := 1) S.1 S.2.1 dX1_isUpToDate_33 (by decide) ?_
      refine lv_goto (tgt := 38) S.1 S.2.1 dX1_isUpToDate_34 (by decide) ?_
      exact en_z (v := (1)) z hQ S hr hlk rfl hw (by skip; refine ⟨?_, ?_⟩ <;> first | rfl | (simp [utd, b2, b2, c1, c2]; done) | (simp_all [utd, b2, b2]; done)) dX1_isUpToDate_38

theorem hd_X1_differ : yX1_differ.cls = RX1 ∧ yX1_differ.cls ≠ "java/lang/invoke/MethodHandle" ∧ yX1_differ.cls ≠ "java/lang/invoke/VarHandle" ∧ (parseMethodDescriptor yX1_differ.desc).map (fun d => d.parameters.length) = some 2 := by decide +kernel
set_option maxHeartbeats 4000000 in
set_option maxRecDepth 100000 in
theorem c_X1_differ (l : Launch) (G : GA) (a : Nat → Nat) (z : St) (sz : Nat) (q : Nat) (y : Nat) (hq : q < 64) (hy : y < 64) : Met l yX1_differ wsX1_differ ({ frames := 0, cells := 0, slots := 0, locals := 0 }) (va_Pc [.ref (a 6), .int (nI (q)), .int (nI (y))] (PW G (wp G a z) sz)) (va_Qi (fun (r : Int32) (u : St) => r = b2 (dfr z q y) ∧ u = z) (fun (u : St) t => va_P G.1 gcl (wp G a u) t.heap) (va_A (wp G a z) sz)) 0 0 (va_A (wp G a z) sz) := by
  refine met_st (cc := cX1_differ) (maxL := 3) (ret := (some .boolean)) (fun A => va_Qi (fun (r : Int32) (u : St) => r = b2 (dfr z q y) ∧ u = z) (fun (u : St) t => va_P G.1 gcl (wp G a u) t.heap) A) (by decide) rfl (Nat.le_of_ble_eq_true rfl) ?_
  intro p e s m args below meth c R Q A H ls hR hQ S hr hlk _ hK hsz hH hAe hA hw hl
  have hl : lv_has ls 3 [(0, .ref (a 6)), (1, .int (nI (q))), (2, .int (nI (y)))] := hl
  have LX1 : ∀ w ∈ u_ws RX1 TX1 10, w.before args s = true := fun w h => S.2.2.2.2 w ((by decide +kernel : ∀ w ∈ u_ws RX1 TX1 10, w ∈ wsX1_differ) w h)
  have k1 : (Cond.fieldLink RX1 15 "GossipMembership$Knowledge" "state" "[I").before args s = true := S.2.2.2.2 _ (by decide +kernel : (Cond.fieldLink RX1 15 "GossipMembership$Knowledge" "state" "[I") ∈ wsX1_differ)
  have k2 : (Cond.fieldLink RX1 18 "GossipMembership$Knowledge" "incarnations" "[I").before args s = true := S.2.2.2.2 _ (by decide +kernel : (Cond.fieldLink RX1 18 "GossipMembership$Knowledge" "incarnations" "[I") ∈ wsX1_differ)
  refine lv_aload_n S.1 S.2.1 dX1_differ_0 rfl (lv_at hl 0 rfl) ?_
  refine gt_X1_1 (v := .ref (a 8)) S hK hw 6 rfl rfl LX1 k1 dX1_differ_1 ?_
  refine lv_iload_n S.1 S.2.1 dX1_differ_4 rfl (lv_at hl 1 rfl) ?_
  refine ald_i (v := z 5 (q)) (k := q) S hK hw 8 rfl (by omega) (by decide) rfl dX1_differ_5 ?_
  refine lv_aload_n S.1 S.2.1 dX1_differ_6 rfl (lv_at hl 0 rfl) ?_
  refine gt_X1_1 (v := .ref (a 8)) S hK hw 6 rfl rfl LX1 k1 dX1_differ_7 ?_
  refine lv_iload_n S.1 S.2.1 dX1_differ_10 rfl (lv_at hl 2 rfl) ?_
  refine ald_i (v := z 5 (y)) (k := y) S hK hw 8 rfl (by omega) (by decide) rfl dX1_differ_11 ?_
  refine lv_icmp_ne (tgt := 30) S.1 S.2.1 dX1_differ_12 (by decide) (fun c1 => ?_) (fun c1 => ?_)
  · skip
    refine lv_iconst (v := 1) S.1 S.2.1 dX1_differ_30 (by decide) ?_
    refine lv_goto (tgt := 35) S.1 S.2.1 dX1_differ_31 (by decide) ?_
    exact en_z (v := (1)) z hQ S hr hlk rfl hw (by skip; refine ⟨?_, ?_⟩ <;> first | rfl | (simp [dfr, b2, b2, c1]; done) | (simp_all [dfr, b2, b2]; done)) dX1_differ_35
  · skip
    refine lv_aload_n S.1 S.2.1 dX1_differ_15 rfl (lv_at hl 0 rfl) ?_
    refine gt_X1_2 (v := .ref (a 9)) S hK hw 6 rfl rfl LX1 k2 dX1_differ_16 ?_
    refine lv_iload_n S.1 S.2.1 dX1_differ_19 rfl (lv_at hl 1 rfl) ?_
    refine ald_i (v := z 6 (q)) (k := q) S hK hw 9 rfl (by omega) (by decide) rfl dX1_differ_20 ?_
    refine lv_aload_n S.1 S.2.1 dX1_differ_21 rfl (lv_at hl 0 rfl) ?_
    refine gt_X1_2 (v := .ref (a 9)) S hK hw 6 rfl rfl LX1 k2 dX1_differ_22 ?_
    refine lv_iload_n S.1 S.2.1 dX1_differ_25 rfl (lv_at hl 2 rfl) ?_
    refine ald_i (v := z 6 (y)) (k := y) S hK hw 9 rfl (by omega) (by decide) rfl dX1_differ_26 ?_
    refine lv_icmp_eq (tgt := 34) S.1 S.2.1 dX1_differ_27 (by decide) (fun c2 => ?_) (fun c2 => ?_)
    · skip
      refine lv_iconst (v := 0) S.1 S.2.1 dX1_differ_34 (by decide) ?_
      exact en_z (v := (0)) z hQ S hr hlk rfl hw (by skip; refine ⟨?_, ?_⟩ <;> first | rfl | (simp [dfr, b2, b2, c1, c2]; done) | (simp_all [dfr, b2, b2]; done)) dX1_differ_35
    · skip
      refine lv_iconst (v := 1) S.1 S.2.1 dX1_differ_30 (by decide) ?_
      refine lv_goto (tgt := 35) S.1 S.2.1 dX1_differ_31 (by decide) ?_
      exact en_z (v := (1)) z hQ S hr hlk rfl hw (by skip; refine ⟨?_, ?_⟩ <;> first | rfl | (simp [dfr, b2, b2, c1, c2]; done) | (simp_all [dfr, b2, b2]; done)) dX1_differ_35

theorem hd_X1_countDifferences : yX1_countDifferences.cls = RX1 ∧ yX1_countDifferences.cls ≠ "java/lang/invoke/MethodHandle" ∧ yX1_countDifferences.cls ≠ "java/lang/invoke/VarHandle" ∧ (parseMethodDescriptor yX1_countDifferences.desc).map (fun d => d.parameters.length) = some 2 := by decide +kernel
set_option maxHeartbeats 4000000 in
set_option maxRecDepth 100000 in
theorem c_X1_countDifferences (l : Launch) (G : GA) (a : Nat → Nat) (z : St) (sz : Nat) (n : Nat) (b : Nat) (hn : n < 8) (hb : b < 8) : Met l yX1_countDifferences wsX1_countDifferences ({ frames := 1, cells := 0, slots := 0, locals := 22 }) (va_Pc [.ref (a 6), .int (nI (n)), .int (nI (b))] (PW G (wp G a z) sz)) (va_Qi (fun (r : Int32) (u : St) => r = nI (cdf z n b 8) ∧ u = z) (fun (u : St) t => va_P G.1 gcl (wp G a u) t.heap) (va_A (wp G a z) sz)) 0 0 (va_A (wp G a z) sz) := by
  refine met_st (cc := cX1_countDifferences) (maxL := 5) (ret := (some .int)) (fun A => va_Qi (fun (r : Int32) (u : St) => r = nI (cdf z n b 8) ∧ u = z) (fun (u : St) t => va_P G.1 gcl (wp G a u) t.heap) A) (by decide) rfl (Nat.le_of_ble_eq_true rfl) ?_
  intro p e s m args below meth c R Q A H ls hR hQ S hr hlk _ hK hsz hH hAe hA hw hl
  have hl : lv_has ls 5 [(0, .ref (a 6)), (1, .int (nI (n))), (2, .int (nI (b)))] := hl
  have k1 : (Cond.static yX4_pair).before args s = true := S.2.2.2.2 _ (by decide +kernel : (Cond.static yX4_pair) ∈ wsX1_countDifferences)
  have k2 : (Cond.initialized yX4_pair.cls).before args s = true := S.2.2.2.2 _ (by decide +kernel : (Cond.initialized yX4_pair.cls) ∈ wsX1_countDifferences)
  refine lv_iconst (v := 0) S.1 S.2.1 dX1_countDifferences_0 (by decide) ?_
  refine lv_istore_n (lv' := [(3, .int 0), (0, .ref (a 6)), (1, .int (nI (n))), (2, .int (nI (b)))]) S.1 S.2.1 dX1_countDifferences_1 rfl hl (by decide) rfl (fun ls hl => ?_)
  refine lv_iconst (v := 0) S.1 S.2.1 dX1_countDifferences_2 (by decide) ?_
  refine lv_istore (lv' := [(4, .int 0), (3, .int 0), (0, .ref (a 6)), (1, .int (nI (n))), (2, .int (nI (b)))]) S.1 S.2.1 dX1_countDifferences_3 hl (by decide) rfl (fun ls hl => ?_)
  have K5 : ∀ (fu : Nat) (k : Nat) (H : Heap) (locs : List Loc) (ls : Array Slot), 8 - k < fu → k ≤ 8 → WD G (wp G a z) A s H locs → lv_has ls 5 [(0, .ref (a 6)), (1, .int (nI (n))), (2, .int (nI (b))), (3, .int (nI (cdf z n b k))), (4, .int (nI (k)))] → W p l e R s m args below meth c H locs 0 0 Q (F0 m 5 ls []) := by
    intro fu
    induction fu with
    | zero => exact fun _ _ _ _ h => absurd h (Nat.not_lt_zero _)
    | succ fu ih5 =>
      intro k H locs ls hm5 hk hw hl
      refine lv_iload S.1 S.2.1 dX1_countDifferences_5 (lv_at hl 4 rfl) ?_
      refine lv_bipush (v := 8) S.1 S.2.1 dX1_countDifferences_7 (by decide) ?_
      refine brN_ge (a := k) (b := 8) S (by omega) (by omega) (tgt := 52) dX1_countDifferences_9 (by decide) (fun c1 => ?_) (fun c1 => ?_)
      · skip
        have hk9 : k = 8 := by omega
        subst hk9
        refine lv_iload_n S.1 S.2.1 dX1_countDifferences_52 rfl (lv_at hl 3 rfl) ?_
        exact en_i (v := (nI (cdf z n b 8))) z hQ S hr hlk hw (by skip; refine ⟨?_, ?_⟩ <;> first | rfl | (simp [b2, c1]; done) | (simp_all [b2]; done)) dX1_countDifferences_53
      · skip
        refine lv_iload S.1 S.2.1 dX1_countDifferences_12 (lv_at hl 4 rfl) ?_
        refine lv_iload_n S.1 S.2.1 dX1_countDifferences_14 rfl (lv_at hl 1 rfl) ?_
        refine brN_eq (a := k) (b := n) S (by omega) (by omega) (tgt := 46) dX1_countDifferences_15 (by decide) (fun c2 => ?_) (fun c2 => ?_)
        · skip
          have hc9 : cdf z n b (k + 1) = cdf z n b k := by simp [cdf, c1, c2]
          rw [← hc9] at hl
          refine lv_iinc (v := (nI (k + 1))) (lv' := [(4, .int (nI (k + 1))), (0, .ref (a 6)), (1, .int (nI (n))), (2, .int (nI (b))), (3, .int (nI (cdf z n b (k + 1))))]) S.1 S.2.1 dX1_countDifferences_46 hl (k := 4) rfl (nI_add _ _) (by decide) rfl (fun ls hl => ?_)
          refine lv_goto (tgt := 5) S.1 S.2.1 dX1_countDifferences_49 (by decide) ?_
          exact ih5 (k + 1) _ _ _ (by omega) (by omega) hw (lv_sub hl [1, 2, 3, 4, 0] rfl)
        · skip
          refine lv_iload S.1 S.2.1 dX1_countDifferences_18 (lv_at hl 4 rfl) ?_
          refine lv_iload_n S.1 S.2.1 dX1_countDifferences_20 rfl (lv_at hl 2 rfl) ?_
          refine brN_eq (a := k) (b := b) S (by omega) (by omega) (tgt := 46) dX1_countDifferences_21 (by decide) (fun c3 => ?_) (fun c3 => ?_)
          · skip
            have hc9 : cdf z n b (k + 1) = cdf z n b k := by simp [cdf, c1, c2, c3]
            rw [← hc9] at hl
            refine lv_iinc (v := (nI (k + 1))) (lv' := [(4, .int (nI (k + 1))), (0, .ref (a 6)), (1, .int (nI (n))), (2, .int (nI (b))), (3, .int (nI (cdf z n b (k + 1))))]) S.1 S.2.1 dX1_countDifferences_46 hl (k := 4) rfl (nI_add _ _) (by decide) rfl (fun ls hl => ?_)
            refine lv_goto (tgt := 5) S.1 S.2.1 dX1_countDifferences_49 (by decide) ?_
            exact ih5 (k + 1) _ _ _ (by omega) (by omega) hw (lv_sub hl [1, 2, 3, 4, 0] rfl)
          · skip
            refine lv_aload_n S.1 S.2.1 dX1_countDifferences_24 rfl (lv_at hl 0 rfl) ?_
            refine lv_iload_n S.1 S.2.1 dX1_countDifferences_25 rfl (lv_at hl 1 rfl) ?_
            refine lv_iload S.1 S.2.1 dX1_countDifferences_26 (lv_at hl 4 rfl) ?_
            refine pr_n (n := n) (b := k) S hl.1 gX1_countDifferences_X4_pair_n40 hK.2.1 k1 k2 ⟨by rw [hR]; exact Nat.le_of_ble_eq_true rfl, by rw [hR]; exact Nat.le_of_ble_eq_true rfl⟩ (Nat.zero_le _) (Nat.zero_le _) (Nat.le_of_ble_eq_true rfl) dX1_countDifferences_28 ?_
            refine lv_iload_n S.1 S.2.1 dX1_countDifferences_31 rfl (lv_at hl 2 rfl) ?_
            refine lv_iload S.1 S.2.1 dX1_countDifferences_32 (lv_at hl 4 rfl) ?_
            refine pr_n (n := b) (b := k) S hl.1 gX1_countDifferences_X4_pair_n40 hK.2.1 k1 k2 ⟨by rw [hR]; exact Nat.le_of_ble_eq_true rfl, by rw [hR]; exact Nat.le_of_ble_eq_true rfl⟩ (Nat.zero_le _) (Nat.zero_le _) (Nat.le_of_ble_eq_true rfl) dX1_countDifferences_34 ?_
            refine cl_i (va_runV (As := [.int (nI (8 * n + k)), .int (nI (8 * b + k))]) (rest := []) S (c_X1_differ l G a z H.size (8 * n + k) (8 * b + k) (by omega) (by omega)) (cwV 2 S.2.2.2.2 gX1_countDifferences_X1_differ rfl rfl rfl hd_X1_differ ⟨by rw [hR]; exact Nat.le_of_ble_eq_true rfl, by rw [hR]; exact Nat.le_of_ble_eq_true rfl⟩) ⟨PW.blind, va_recv hK.1 hw.1 (ci := 1) (q0 := 6) rfl rfl, fun U hU hW => ⟨rfl, PW.of hK hw hU hW⟩⟩ rfl rfl hl.1 rfl (lv_room (Nat.le_of_ble_eq_true rfl)) dX1_countDifferences_37 ⟨Nat.zero_le _, Nat.zero_le _⟩) hw hA (fun _ => rfl) (fun r4 z5 H locs h6 hw => ?_)
            obtain ⟨rfl, qz5⟩ := h6
            rw [qz5] at hw
            refine brB_eq (b := dfr z (8 * n + k) (8 * b + k)) S (tgt := 46) dX1_countDifferences_40 (by decide) (fun c7 => ?_) (fun c7 => ?_)
            · skip
              have hc9 : cdf z n b (k + 1) = cdf z n b k := by simp [cdf, c2, c3, c7]
              rw [← hc9] at hl
              refine lv_iinc (v := (nI (k + 1))) (lv' := [(4, .int (nI (k + 1))), (0, .ref (a 6)), (1, .int (nI (n))), (2, .int (nI (b))), (3, .int (nI (cdf z n b (k + 1))))]) S.1 S.2.1 dX1_countDifferences_46 hl (k := 4) rfl (nI_add _ _) (by decide) rfl (fun ls hl => ?_)
              refine lv_goto (tgt := 5) S.1 S.2.1 dX1_countDifferences_49 (by decide) ?_
              exact ih5 (k + 1) _ _ _ (by omega) (by omega) hw (lv_sub hl [1, 2, 3, 4, 0] rfl)
            · skip
              refine lv_iinc (v := (nI (cdf z n b k + 1))) (lv' := [(3, .int (nI (cdf z n b k + 1))), (0, .ref (a 6)), (1, .int (nI (n))), (2, .int (nI (b))), (4, .int (nI (k)))]) S.1 S.2.1 dX1_countDifferences_43 hl (k := 3) rfl (nI_add _ _) (by decide) rfl (fun ls hl => ?_)
              have hc9 : cdf z n b (k + 1) = cdf z n b k + 1 := by simp [cdf, c2, c3, c7]
              rw [← hc9] at hl
              refine lv_iinc (v := (nI (k + 1))) (lv' := [(4, .int (nI (k + 1))), (3, .int (nI (cdf z n b (k + 1)))), (0, .ref (a 6)), (1, .int (nI (n))), (2, .int (nI (b)))]) S.1 S.2.1 dX1_countDifferences_46 hl (k := 4) rfl (nI_add _ _) (by decide) rfl (fun ls hl => ?_)
              refine lv_goto (tgt := 5) S.1 S.2.1 dX1_countDifferences_49 (by decide) ?_
              exact ih5 (k + 1) _ _ _ (by omega) (by omega) hw (lv_sub hl [2, 3, 4, 1, 0] rfl)
  exact K5 (9) (0) _ _ _ (by omega) (by omega) hw (lv_sub hl [2, 3, 4, 1, 0] rfl)

theorem hd_X1_forgetAll : yX1_forgetAll.cls = RX1 ∧ yX1_forgetAll.cls ≠ "java/lang/invoke/MethodHandle" ∧ yX1_forgetAll.cls ≠ "java/lang/invoke/VarHandle" ∧ (parseMethodDescriptor yX1_forgetAll.desc).map (fun d => d.parameters.length) = some 1 := by decide +kernel
set_option maxHeartbeats 4000000 in
set_option maxRecDepth 100000 in
theorem c_X1_forgetAll (l : Launch) (G : GA) (a : Nat → Nat) (z : St) (sz : Nat) (n : Nat) (hn : n < 8) : Met l yX1_forgetAll wsX1_forgetAll ({ frames := 1, cells := 0, slots := 0, locals := 21 }) (va_Pc [.ref (a 6), .int (nI (n))] (PW G (wp G a z) sz)) (va_Qv (fun (u : St) => u = fgt z n) (fun (u : St) t => va_P G.1 gcl (wp G a u) t.heap) (va_A (wp G a z) sz)) 0 0 (va_A (wp G a z) sz) := by
  refine met_st (cc := cX1_forgetAll) (maxL := 3) (ret := none) (fun A => va_Qv (fun (u : St) => u = fgt z n) (fun (u : St) t => va_P G.1 gcl (wp G a u) t.heap) A) (by decide) rfl (Nat.le_of_ble_eq_true rfl) ?_
  intro p e s m args below meth c R Q A H ls hR hQ S hr hlk _ hK hsz hH hAe hA hw hl
  have hl : lv_has ls 3 [(0, .ref (a 6)), (1, .int (nI (n)))] := hl
  have LX1 : ∀ w ∈ u_ws RX1 TX1 10, w.before args s = true := fun w h => S.2.2.2.2 w ((by decide +kernel : ∀ w ∈ u_ws RX1 TX1 10, w ∈ wsX1_forgetAll) w h)
  have k1 : (Cond.fieldLink RX1 24 "GossipMembership$Knowledge" "counters" "[I").before args s = true := S.2.2.2.2 _ (by decide +kernel : (Cond.fieldLink RX1 24 "GossipMembership$Knowledge" "counters" "[I") ∈ wsX1_forgetAll)
  have k2 : (Cond.static yX4_pair).before args s = true := S.2.2.2.2 _ (by decide +kernel : (Cond.static yX4_pair) ∈ wsX1_forgetAll)
  have k3 : (Cond.initialized yX4_pair.cls).before args s = true := S.2.2.2.2 _ (by decide +kernel : (Cond.initialized yX4_pair.cls) ∈ wsX1_forgetAll)
  have k4 : (Cond.fieldLink RX1 31 "GossipMembership$Knowledge" "fanOut" "I").before args s = true := S.2.2.2.2 _ (by decide +kernel : (Cond.fieldLink RX1 31 "GossipMembership$Knowledge" "fanOut" "I") ∈ wsX1_forgetAll)
  have k5 : (Cond.fieldLink RX1 15 "GossipMembership$Knowledge" "state" "[I").before args s = true := S.2.2.2.2 _ (by decide +kernel : (Cond.fieldLink RX1 15 "GossipMembership$Knowledge" "state" "[I") ∈ wsX1_forgetAll)
  have k6 : (Cond.fieldLink RX1 18 "GossipMembership$Knowledge" "incarnations" "[I").before args s = true := S.2.2.2.2 _ (by decide +kernel : (Cond.fieldLink RX1 18 "GossipMembership$Knowledge" "incarnations" "[I") ∈ wsX1_forgetAll)
  refine lv_iconst (v := 0) S.1 S.2.1 dX1_forgetAll_0 (by decide) ?_
  refine lv_istore_n (lv' := [(2, .int 0), (0, .ref (a 6)), (1, .int (nI (n)))]) S.1 S.2.1 dX1_forgetAll_1 rfl hl (by decide) rfl (fun ls hl => ?_)
  have K2 : ∀ (fu : Nat) (k : Nat) (t : St) (H : Heap) (locs : List Loc) (ls : Array Slot), 8 - k < fu → k ≤ 8 → t = fga z n k → WD G (wp G a t) A s H locs → lv_has ls 3 [(0, .ref (a 6)), (1, .int (nI (n))), (2, .int (nI (k)))] → W p l e R s m args below meth c H locs 0 0 Q (F0 m 2 ls []) := by
    intro fu
    induction fu with
    | zero => exact fun _ _ _ _ _ h => absurd h (Nat.not_lt_zero _)
    | succ fu ih2 =>
      intro k t H locs ls hm2 hk ht hw hl
      refine lv_iload_n S.1 S.2.1 dX1_forgetAll_2 rfl (lv_at hl 2 rfl) ?_
      refine lv_bipush (v := 8) S.1 S.2.1 dX1_forgetAll_3 (by decide) ?_
      refine brN_ge (a := k) (b := 8) S (by omega) (by omega) (tgt := 47) dX1_forgetAll_5 (by decide) (fun c1 => ?_) (fun c1 => ?_)
      · skip
        have hk9 : k = 8 := by omega
        subst hk9
        refine lv_aload_n S.1 S.2.1 dX1_forgetAll_47 rfl (lv_at hl 0 rfl) ?_
        refine gt_X1_4 (v := .ref (a 11)) S hK hw 6 rfl rfl LX1 k1 dX1_forgetAll_48 ?_
        refine lv_iload_n S.1 S.2.1 dX1_forgetAll_51 rfl (lv_at hl 1 rfl) ?_
        refine lv_iload_n S.1 S.2.1 dX1_forgetAll_52 rfl (lv_at hl 1 rfl) ?_
        refine pr_n (n := n) (b := n) S hl.1 gX1_forgetAll_X4_pair_n40 hK.2.1 k2 k3 ⟨by rw [hR]; exact Nat.le_of_ble_eq_true rfl, by rw [hR]; exact Nat.le_of_ble_eq_true rfl⟩ (Nat.zero_le _) (Nat.zero_le _) (Nat.le_of_ble_eq_true rfl) dX1_forgetAll_53 ?_
        refine lv_aload_n S.1 S.2.1 dX1_forgetAll_56 rfl (lv_at hl 0 rfl) ?_
        refine gt_X1_6 (v := .int (t 0 3)) S hK hw 6 rfl rfl LX1 k4 dX1_forgetAll_57 ?_
        refine ast_i (ws' := (wp G a (st t 8 (8 * n + n) (t 0 3)))) (k := 8 * n + n) S hK hw 11 rfl (by omega) (by decide) rfl dX1_forgetAll_60 (fun H locs hw => ?_)
        obtain ⟨z2, ez2⟩ : ∃ zz, zz = st t 8 (8 * n + n) (t 0 3) := ⟨_, rfl⟩
        have hw : WD G (wp G a z2) A s H locs := by rw [ez2]; exact hw
        exact en_v z2 hQ S hr hlk hw (by subst ez2; rw [ht]; rfl) dX1_forgetAll_61
      · skip
        refine lv_aload_n S.1 S.2.1 dX1_forgetAll_8 rfl (lv_at hl 0 rfl) ?_
        refine gt_X1_1 (v := .ref (a 8)) S hK hw 6 rfl rfl LX1 k5 dX1_forgetAll_9 ?_
        refine lv_iload_n S.1 S.2.1 dX1_forgetAll_12 rfl (lv_at hl 1 rfl) ?_
        refine lv_iload_n S.1 S.2.1 dX1_forgetAll_13 rfl (lv_at hl 2 rfl) ?_
        refine pr_n (n := n) (b := k) S hl.1 gX1_forgetAll_X4_pair_n40 hK.2.1 k2 k3 ⟨by rw [hR]; exact Nat.le_of_ble_eq_true rfl, by rw [hR]; exact Nat.le_of_ble_eq_true rfl⟩ (Nat.zero_le _) (Nat.zero_le _) (Nat.le_of_ble_eq_true rfl) dX1_forgetAll_14 ?_
        refine lv_iconst (v := 0) S.1 S.2.1 dX1_forgetAll_17 (by decide) ?_
        refine ast_i (ws' := (wp G a (st t 5 (8 * n + k) (0)))) (k := 8 * n + k) S hK hw 8 rfl (by omega) (by decide) rfl dX1_forgetAll_18 (fun H locs hw => ?_)
        obtain ⟨z3, ez3⟩ : ∃ zz, zz = st t 5 (8 * n + k) (0) := ⟨_, rfl⟩
        have hw : WD G (wp G a z3) A s H locs := by rw [ez3]; exact hw
        refine lv_aload_n S.1 S.2.1 dX1_forgetAll_19 rfl (lv_at hl 0 rfl) ?_
        refine gt_X1_2 (v := .ref (a 9)) S hK hw 6 rfl rfl LX1 k6 dX1_forgetAll_20 ?_
        refine lv_iload_n S.1 S.2.1 dX1_forgetAll_23 rfl (lv_at hl 1 rfl) ?_
        refine lv_iload_n S.1 S.2.1 dX1_forgetAll_24 rfl (lv_at hl 2 rfl) ?_
        refine pr_n (n := n) (b := k) S hl.1 gX1_forgetAll_X4_pair_n40 hK.2.1 k2 k3 ⟨by rw [hR]; exact Nat.le_of_ble_eq_true rfl, by rw [hR]; exact Nat.le_of_ble_eq_true rfl⟩ (Nat.zero_le _) (Nat.zero_le _) (Nat.le_of_ble_eq_true rfl) dX1_forgetAll_25 ?_
        refine lv_iconst (v := 0) S.1 S.2.1 dX1_forgetAll_28 (by decide) ?_
        refine ast_i (ws' := (wp G a (st z3 6 (8 * n + k) (0)))) (k := 8 * n + k) S hK hw 9 rfl (by omega) (by decide) rfl dX1_forgetAll_29 (fun H locs hw => ?_)
        obtain ⟨z4, ez4⟩ : ∃ zz, zz = st z3 6 (8 * n + k) (0) := ⟨_, rfl⟩
        have hw : WD G (wp G a z4) A s H locs := by rw [ez4]; exact hw
        refine lv_aload_n S.1 S.2.1 dX1_forgetAll_30 rfl (lv_at hl 0 rfl) ?_
        refine gt_X1_4 (v := .ref (a 11)) S hK hw 6 rfl rfl LX1 k1 dX1_forgetAll_31 ?_
        refine lv_iload_n S.1 S.2.1 dX1_forgetAll_34 rfl (lv_at hl 1 rfl) ?_
        refine lv_iload_n S.1 S.2.1 dX1_forgetAll_35 rfl (lv_at hl 2 rfl) ?_
        refine pr_n (n := n) (b := k) S hl.1 gX1_forgetAll_X4_pair_n40 hK.2.1 k2 k3 ⟨by rw [hR]; exact Nat.le_of_ble_eq_true rfl, by rw [hR]; exact Nat.le_of_ble_eq_true rfl⟩ (Nat.zero_le _) (Nat.zero_le _) (Nat.le_of_ble_eq_true rfl) dX1_forgetAll_36 ?_
        refine lv_iconst (v := 0) S.1 S.2.1 dX1_forgetAll_39 (by decide) ?_
        refine ast_i (ws' := (wp G a (st z4 8 (8 * n + k) (0)))) (k := 8 * n + k) S hK hw 11 rfl (by omega) (by decide) rfl dX1_forgetAll_40 (fun H locs hw => ?_)
        obtain ⟨z5, ez5⟩ : ∃ zz, zz = st z4 8 (8 * n + k) (0) := ⟨_, rfl⟩
        have hw : WD G (wp G a z5) A s H locs := by rw [ez5]; exact hw
        refine lv_iinc (v := (nI (k + 1))) (lv' := [(2, .int (nI (k + 1))), (0, .ref (a 6)), (1, .int (nI (n)))]) S.1 S.2.1 dX1_forgetAll_41 hl (k := 2) rfl (nI_add _ _) (by decide) rfl (fun ls hl => ?_)
        refine lv_goto (tgt := 2) S.1 S.2.1 dX1_forgetAll_44 (by decide) ?_
        exact ih2 (k + 1) (z5) _ _ _ (by omega) (by omega) (by subst ez5 ez4 ez3; rw [ht]; rfl) hw (lv_sub hl [1, 2, 0] rfl)
  exact K2 (9) (0) (z) _ _ _ (by omega) (by omega) (by rfl) hw (lv_sub hl [1, 2, 0] rfl)

theorem hd_X2_wouldConnect : yX2_wouldConnect.cls = RX2 ∧ yX2_wouldConnect.cls ≠ "java/lang/invoke/MethodHandle" ∧ yX2_wouldConnect.cls ≠ "java/lang/invoke/VarHandle" ∧ (parseMethodDescriptor yX2_wouldConnect.desc).map (fun d => d.parameters.length) = some 2 := by decide +kernel
set_option maxHeartbeats 4000000 in
set_option maxRecDepth 100000 in
theorem c_X2_wouldConnect (l : Launch) (G : GA) (a : Nat → Nat) (z : St) (sz : Nat) (n : Nat) (b : Nat) (hn : n < 8) (hb : b < 8) (iz : Inv z) : Met l yX2_wouldConnect wsX2_wouldConnect ({ frames := 1, cells := 0, slots := 0, locals := 21 }) (va_Pc [.ref (a 1), .int (nI (n)), .int (nI (b))] (PW G (wp G a z) sz)) (va_Qi (fun (r : Int32) (u : St) => r = b2 (wcn z n b) ∧ u = z) (fun (u : St) t => va_P G.1 gcl (wp G a u) t.heap) (va_A (wp G a z) sz)) 0 0 (va_A (wp G a z) sz) := by
  refine met_st (cc := cX2_wouldConnect) (maxL := 3) (ret := (some .boolean)) (fun A => va_Qi (fun (r : Int32) (u : St) => r = b2 (wcn z n b) ∧ u = z) (fun (u : St) t => va_P G.1 gcl (wp G a u) t.heap) A) (by decide) rfl (Nat.le_of_ble_eq_true rfl) ?_
  intro p e s m args below meth c R Q A H ls hR hQ S hr hlk _ hK hsz hH hAe hA hw hl
  have hl : lv_has ls 3 [(0, .ref (a 1)), (1, .int (nI (n))), (2, .int (nI (b)))] := hl
  have LX2 : ∀ w ∈ u_ws RX2 TX2 4, w.before args s = true := fun w h => S.2.2.2.2 w ((by decide +kernel : ∀ w ∈ u_ws RX2 TX2 4, w ∈ wsX2_wouldConnect) w h)
  have k1 : (Cond.fieldLink RX2 9 "GossipMembership$Network" "up" "[Z").before args s = true := S.2.2.2.2 _ (by decide +kernel : (Cond.fieldLink RX2 9 "GossipMembership$Network" "up" "[Z") ∈ wsX2_wouldConnect)
  have k2 : (Cond.fieldLink RX2 18 "GossipMembership$Network" "place" "[I").before args s = true := S.2.2.2.2 _ (by decide +kernel : (Cond.fieldLink RX2 18 "GossipMembership$Network" "place" "[I") ∈ wsX2_wouldConnect)
  have k3 : (Cond.fieldLink RX2 22 "GossipMembership$Network" "cutLinks" "[Z").before args s = true := S.2.2.2.2 _ (by decide +kernel : (Cond.fieldLink RX2 22 "GossipMembership$Network" "cutLinks" "[Z") ∈ wsX2_wouldConnect)
  have k4 : (Cond.static yX4_pair).before args s = true := S.2.2.2.2 _ (by decide +kernel : (Cond.static yX4_pair) ∈ wsX2_wouldConnect)
  have k5 : (Cond.initialized yX4_pair.cls).before args s = true := S.2.2.2.2 _ (by decide +kernel : (Cond.initialized yX4_pair.cls) ∈ wsX2_wouldConnect)
  refine lv_aload_n S.1 S.2.1 dX2_wouldConnect_0 rfl (lv_at hl 0 rfl) ?_
  refine gt_X2_0 (v := .ref (a 2)) S hK hw 1 rfl rfl LX2 k1 dX2_wouldConnect_1 ?_
  refine lv_iload_n S.1 S.2.1 dX2_wouldConnect_4 rfl (lv_at hl 2 rfl) ?_
  refine ald_z (f := z 1) (k := b) S hK hw 2 rfl (by omega) (by decide) (iz.1 _ (by omega)) dX2_wouldConnect_5 ?_
  refine brB_eq (b := decide (z 1 (b) = 1)) S (tgt := 41) dX2_wouldConnect_6 (by decide) (fun c1 => ?_) (fun c1 => ?_)
  · skip
    refine lv_iconst (v := 0) S.1 S.2.1 dX2_wouldConnect_41 (by decide) ?_
    exact en_z (v := (0)) z hQ S hr hlk rfl hw (by skip; refine ⟨?_, ?_⟩ <;> first | rfl | (simp [wcn, b2, c1]; done) | (simp_all [wcn, b2]; done)) dX2_wouldConnect_42
  · skip
    refine lv_aload_n S.1 S.2.1 dX2_wouldConnect_9 rfl (lv_at hl 0 rfl) ?_
    refine gt_X2_2 (v := .ref (a 4)) S hK hw 1 rfl rfl LX2 k2 dX2_wouldConnect_10 ?_
    refine lv_iload_n S.1 S.2.1 dX2_wouldConnect_13 rfl (lv_at hl 1 rfl) ?_
    refine ald_i (v := z 3 (n)) (k := n) S hK hw 4 rfl (by omega) (by decide) rfl dX2_wouldConnect_14 ?_
    refine lv_aload_n S.1 S.2.1 dX2_wouldConnect_15 rfl (lv_at hl 0 rfl) ?_
    refine gt_X2_2 (v := .ref (a 4)) S hK hw 1 rfl rfl LX2 k2 dX2_wouldConnect_16 ?_
    refine lv_iload_n S.1 S.2.1 dX2_wouldConnect_19 rfl (lv_at hl 2 rfl) ?_
    refine ald_i (v := z 3 (b)) (k := b) S hK hw 4 rfl (by omega) (by decide) rfl dX2_wouldConnect_20 ?_
    refine lv_icmp_ne (tgt := 41) S.1 S.2.1 dX2_wouldConnect_21 (by decide) (fun c2 => ?_) (fun c2 => ?_)
    · skip
      refine lv_iconst (v := 0) S.1 S.2.1 dX2_wouldConnect_41 (by decide) ?_
      exact en_z (v := (0)) z hQ S hr hlk rfl hw (by skip; refine ⟨?_, ?_⟩ <;> first | rfl | (simp [wcn, b2, c1, c2]; done) | (simp_all [wcn, b2]; done)) dX2_wouldConnect_42
    · skip
      refine lv_aload_n S.1 S.2.1 dX2_wouldConnect_24 rfl (lv_at hl 0 rfl) ?_
      refine gt_X2_3 (v := .ref (a 5)) S hK hw 1 rfl rfl LX2 k3 dX2_wouldConnect_25 ?_
      refine lv_iload_n S.1 S.2.1 dX2_wouldConnect_28 rfl (lv_at hl 1 rfl) ?_
      refine lv_iload_n S.1 S.2.1 dX2_wouldConnect_29 rfl (lv_at hl 2 rfl) ?_
      refine pr_n (n := n) (b := b) S hl.1 gX2_wouldConnect_X4_pair_n29 hK.2.2.1 k4 k5 ⟨by rw [hR]; exact Nat.le_of_ble_eq_true rfl, by rw [hR]; exact Nat.le_of_ble_eq_true rfl⟩ (Nat.zero_le _) (Nat.zero_le _) (Nat.le_of_ble_eq_true rfl) dX2_wouldConnect_30 ?_
      refine ald_z (f := z 9) (k := 8 * n + b) S hK hw 5 rfl (by omega) (by decide) (iz.2.2.1 _ (by omega)) dX2_wouldConnect_33 ?_
      refine brB_ne (b := decide (z 9 (8 * n + b) = 1)) S (tgt := 41) dX2_wouldConnect_34 (by decide) (fun c3 => ?_) (fun c3 => ?_)
      · skip
        refine lv_iconst (v := 0) S.1 S.2.1 dX2_wouldConnect_41 (by decide) ?_
        exact en_z (v := (0)) z hQ S hr hlk rfl hw (by skip; refine ⟨?_, ?_⟩ <;> first | rfl | (simp [wcn, b2, c1, c2, c3]; done) | (simp_all [wcn, b2]; done)) dX2_wouldConnect_42
      · skip
        refine lv_iconst (v := 1) S.1 S.2.1 dX2_wouldConnect_37 (by decide) ?_
        refine lv_goto (tgt := 42) S.1 S.2.1 dX2_wouldConnect_38 (by decide) ?_
        exact en_z (v := (1)) z hQ S hr hlk rfl hw (by skip; refine ⟨?_, ?_⟩ <;> first | rfl | (simp [wcn, b2, c1, c2, c3]; done) | (simp_all [wcn, b2]; done)) dX2_wouldConnect_42

theorem hd_X2_connects : yX2_connects.cls = RX2 ∧ yX2_connects.cls ≠ "java/lang/invoke/MethodHandle" ∧ yX2_connects.cls ≠ "java/lang/invoke/VarHandle" ∧ (parseMethodDescriptor yX2_connects.desc).map (fun d => d.parameters.length) = some 2 := by decide +kernel
set_option maxHeartbeats 4000000 in
set_option maxRecDepth 100000 in
theorem c_X2_connects (l : Launch) (G : GA) (a : Nat → Nat) (z : St) (sz : Nat) (n : Nat) (b : Nat) (hn : n < 8) (hb : b < 8) (iz : Inv z) : Met l yX2_connects wsX2_connects ({ frames := 2, cells := 0, slots := 0, locals := 43 }) (va_Pc [.ref (a 1), .int (nI (n)), .int (nI (b))] (PW G (wp G a z) sz)) (va_Qi (fun (r : Int32) (u : St) => r = b2 (cnn z n b) ∧ u = z) (fun (u : St) t => va_P G.1 gcl (wp G a u) t.heap) (va_A (wp G a z) sz)) 0 0 (va_A (wp G a z) sz) := by
  refine met_st (cc := cX2_connects) (maxL := 3) (ret := (some .boolean)) (fun A => va_Qi (fun (r : Int32) (u : St) => r = b2 (cnn z n b) ∧ u = z) (fun (u : St) t => va_P G.1 gcl (wp G a u) t.heap) A) (by decide) rfl (Nat.le_of_ble_eq_true rfl) ?_
  intro p e s m args below meth c R Q A H ls hR hQ S hr hlk _ hK hsz hH hAe hA hw hl
  have hl : lv_has ls 3 [(0, .ref (a 1)), (1, .int (nI (n))), (2, .int (nI (b)))] := hl
  have LX2 : ∀ w ∈ u_ws RX2 TX2 4, w.before args s = true := fun w h => S.2.2.2.2 w ((by decide +kernel : ∀ w ∈ u_ws RX2 TX2 4, w ∈ wsX2_connects) w h)
  have k1 : (Cond.fieldLink RX2 9 "GossipMembership$Network" "up" "[Z").before args s = true := S.2.2.2.2 _ (by decide +kernel : (Cond.fieldLink RX2 9 "GossipMembership$Network" "up" "[Z") ∈ wsX2_connects)
  refine lv_iload_n S.1 S.2.1 dX2_connects_0 rfl (lv_at hl 1 rfl) ?_
  refine lv_iload_n S.1 S.2.1 dX2_connects_1 rfl (lv_at hl 2 rfl) ?_
  refine brN_eq (a := n) (b := b) S (by omega) (by omega) (tgt := 27) dX2_connects_2 (by decide) (fun c1 => ?_) (fun c1 => ?_)
  · skip
    refine lv_iconst (v := 0) S.1 S.2.1 dX2_connects_27 (by decide) ?_
    exact en_z (v := (0)) z hQ S hr hlk rfl hw (by skip; refine ⟨?_, ?_⟩ <;> first | rfl | (simp [cnn, b2, c1]; done) | (simp_all [cnn, b2]; done)) dX2_connects_28
  · skip
    refine lv_aload_n S.1 S.2.1 dX2_connects_5 rfl (lv_at hl 0 rfl) ?_
    refine gt_X2_0 (v := .ref (a 2)) S hK hw 1 rfl rfl LX2 k1 dX2_connects_6 ?_
    refine lv_iload_n S.1 S.2.1 dX2_connects_9 rfl (lv_at hl 1 rfl) ?_
    refine ald_z (f := z 1) (k := n) S hK hw 2 rfl (by omega) (by decide) (iz.1 _ (by omega)) dX2_connects_10 ?_
    refine brB_eq (b := decide (z 1 (n) = 1)) S (tgt := 27) dX2_connects_11 (by decide) (fun c2 => ?_) (fun c2 => ?_)
    · skip
      refine lv_iconst (v := 0) S.1 S.2.1 dX2_connects_27 (by decide) ?_
      exact en_z (v := (0)) z hQ S hr hlk rfl hw (by skip; refine ⟨?_, ?_⟩ <;> first | rfl | (simp [cnn, b2, c1, c2]; done) | (simp_all [cnn, b2]; done)) dX2_connects_28
    · skip
      refine lv_aload_n S.1 S.2.1 dX2_connects_14 rfl (lv_at hl 0 rfl) ?_
      refine lv_iload_n S.1 S.2.1 dX2_connects_15 rfl (lv_at hl 1 rfl) ?_
      refine lv_iload_n S.1 S.2.1 dX2_connects_16 rfl (lv_at hl 2 rfl) ?_
      refine cl_i (va_runV (As := [.int (nI (n)), .int (nI (b))]) (rest := []) S (c_X2_wouldConnect l G a z H.size (n) (b) (by omega) (by omega) (by exact iz)) (cwV 2 S.2.2.2.2 gX2_connects_X2_wouldConnect rfl rfl rfl hd_X2_wouldConnect ⟨by rw [hR]; exact Nat.le_of_ble_eq_true rfl, by rw [hR]; exact Nat.le_of_ble_eq_true rfl⟩) ⟨PW.blind, va_recv hK.1 hw.1 (ci := 2) (q0 := 1) rfl rfl, fun U hU hW => ⟨rfl, PW.of hK hw hU hW⟩⟩ rfl rfl hl.1 rfl (lv_room (Nat.le_of_ble_eq_true rfl)) dX2_connects_17 ⟨Nat.zero_le _, Nat.zero_le _⟩) hw hA (fun _ => rfl) (fun r3 z4 H locs h5 hw => ?_)
      obtain ⟨rfl, qz4⟩ := h5
      rw [qz4] at hw
      refine brB_eq (b := wcn z (n) (b)) S (tgt := 27) dX2_connects_20 (by decide) (fun c6 => ?_) (fun c6 => ?_)
      · skip
        refine lv_iconst (v := 0) S.1 S.2.1 dX2_connects_27 (by decide) ?_
        exact en_z (v := (0)) z hQ S hr hlk rfl hw (by skip; refine ⟨?_, ?_⟩ <;> first | rfl | (simp [cnn, b2, c1, c2, c6]; done) | (simp_all [cnn, b2]; done)) dX2_connects_28
      · skip
        refine lv_iconst (v := 1) S.1 S.2.1 dX2_connects_23 (by decide) ?_
        refine lv_goto (tgt := 28) S.1 S.2.1 dX2_connects_24 (by decide) ?_
        exact en_z (v := (1)) z hQ S hr hlk rfl hw (by skip; refine ⟨?_, ?_⟩ <;> first | rfl | (simp [cnn, b2, c1, c2, c6]; done) | (simp_all [cnn, b2]; done)) dX2_connects_28

theorem hd_X2_setCut : yX2_setCut.cls = RX2 ∧ yX2_setCut.cls ≠ "java/lang/invoke/MethodHandle" ∧ yX2_setCut.cls ≠ "java/lang/invoke/VarHandle" ∧ (parseMethodDescriptor yX2_setCut.desc).map (fun d => d.parameters.length) = some 3 := by decide +kernel
set_option maxHeartbeats 4000000 in
set_option maxRecDepth 100000 in
theorem c_X2_setCut (l : Launch) (G : GA) (a : Nat → Nat) (z : St) (sz : Nat) (n : Nat) (b : Nat) (on : Bool) (hn : n < 8) (hb : b < 8) : Met l yX2_setCut wsX2_setCut ({ frames := 1, cells := 0, slots := 0, locals := 21 }) (va_Pc [.ref (a 1), .int (nI (n)), .int (nI (b)), .int (b2 (on))] (PW G (wp G a z) sz)) (va_Qv (fun (u : St) => u = sct z n b on) (fun (u : St) t => va_P G.1 gcl (wp G a u) t.heap) (va_A (wp G a z) sz)) 0 0 (va_A (wp G a z) sz) := by
  refine met_st (cc := cX2_setCut) (maxL := 4) (ret := none) (fun A => va_Qv (fun (u : St) => u = sct z n b on) (fun (u : St) t => va_P G.1 gcl (wp G a u) t.heap) A) (by decide) rfl (Nat.le_of_ble_eq_true rfl) ?_
  intro p e s m args below meth c R Q A H ls hR hQ S hr hlk _ hK hsz hH hAe hA hw hl
  have hl : lv_has ls 4 [(0, .ref (a 1)), (1, .int (nI (n))), (2, .int (nI (b))), (3, .int (b2 (on)))] := hl
  have LX2 : ∀ w ∈ u_ws RX2 TX2 4, w.before args s = true := fun w h => S.2.2.2.2 w ((by decide +kernel : ∀ w ∈ u_ws RX2 TX2 4, w ∈ wsX2_setCut) w h)
  have k1 : (Cond.fieldLink RX2 22 "GossipMembership$Network" "cutLinks" "[Z").before args s = true := S.2.2.2.2 _ (by decide +kernel : (Cond.fieldLink RX2 22 "GossipMembership$Network" "cutLinks" "[Z") ∈ wsX2_setCut)
  have k2 : (Cond.static yX4_pair).before args s = true := S.2.2.2.2 _ (by decide +kernel : (Cond.static yX4_pair) ∈ wsX2_setCut)
  have k3 : (Cond.initialized yX4_pair.cls).before args s = true := S.2.2.2.2 _ (by decide +kernel : (Cond.initialized yX4_pair.cls) ∈ wsX2_setCut)
  refine lv_aload_n S.1 S.2.1 dX2_setCut_0 rfl (lv_at hl 0 rfl) ?_
  refine gt_X2_3 (v := .ref (a 5)) S hK hw 1 rfl rfl LX2 k1 dX2_setCut_1 ?_
  refine lv_iload_n S.1 S.2.1 dX2_setCut_4 rfl (lv_at hl 1 rfl) ?_
  refine lv_iload_n S.1 S.2.1 dX2_setCut_5 rfl (lv_at hl 2 rfl) ?_
  refine pr_n (n := n) (b := b) S hl.1 gX2_setCut_X4_pair_n29 hK.2.2.1 k2 k3 ⟨by rw [hR]; exact Nat.le_of_ble_eq_true rfl, by rw [hR]; exact Nat.le_of_ble_eq_true rfl⟩ (Nat.zero_le _) (Nat.zero_le _) (Nat.le_of_ble_eq_true rfl) dX2_setCut_6 ?_
  refine lv_iload_n S.1 S.2.1 dX2_setCut_9 rfl (lv_at hl 3 rfl) ?_
  refine ast_z (ws' := (wp G a (st z 9 (8 * n + b) (b2 (on))))) (k := 8 * n + b) S hK hw 5 rfl (by omega) (by decide) (b2_nar _) rfl dX2_setCut_10 (fun H locs hw => ?_)
  obtain ⟨z1, ez1⟩ : ∃ zz, zz = st z 9 (8 * n + b) (b2 (on)) := ⟨_, rfl⟩
  have hw : WD G (wp G a z1) A s H locs := by rw [ez1]; exact hw
  refine lv_aload_n S.1 S.2.1 dX2_setCut_11 rfl (lv_at hl 0 rfl) ?_
  refine gt_X2_3 (v := .ref (a 5)) S hK hw 1 rfl rfl LX2 k1 dX2_setCut_12 ?_
  refine lv_iload_n S.1 S.2.1 dX2_setCut_15 rfl (lv_at hl 2 rfl) ?_
  refine lv_iload_n S.1 S.2.1 dX2_setCut_16 rfl (lv_at hl 1 rfl) ?_
  refine pr_n (n := b) (b := n) S hl.1 gX2_setCut_X4_pair_n29 hK.2.2.1 k2 k3 ⟨by rw [hR]; exact Nat.le_of_ble_eq_true rfl, by rw [hR]; exact Nat.le_of_ble_eq_true rfl⟩ (Nat.zero_le _) (Nat.zero_le _) (Nat.le_of_ble_eq_true rfl) dX2_setCut_17 ?_
  refine lv_iload_n S.1 S.2.1 dX2_setCut_20 rfl (lv_at hl 3 rfl) ?_
  refine ast_z (ws' := (wp G a (st z1 9 (8 * b + n) (b2 (on))))) (k := 8 * b + n) S hK hw 5 rfl (by omega) (by decide) (b2_nar _) rfl dX2_setCut_21 (fun H locs hw => ?_)
  obtain ⟨z2, ez2⟩ : ∃ zz, zz = st z1 9 (8 * b + n) (b2 (on)) := ⟨_, rfl⟩
  have hw : WD G (wp G a z2) A s H locs := by rw [ez2]; exact hw
  exact en_v z2 hQ S hr hlk hw (by subst ez2 ez1; rfl) dX2_setCut_22

theorem hd_X2_countUp : yX2_countUp.cls = RX2 ∧ yX2_countUp.cls ≠ "java/lang/invoke/MethodHandle" ∧ yX2_countUp.cls ≠ "java/lang/invoke/VarHandle" ∧ (parseMethodDescriptor yX2_countUp.desc).map (fun d => d.parameters.length) = some 0 := by decide +kernel
set_option maxHeartbeats 4000000 in
set_option maxRecDepth 100000 in
theorem c_X2_countUp (l : Launch) (G : GA) (a : Nat → Nat) (z : St) (sz : Nat) (iz : Inv z) : Met l yX2_countUp wsX2_countUp ({ frames := 0, cells := 0, slots := 0, locals := 0 }) (va_Pc [.ref (a 1)] (PW G (wp G a z) sz)) (va_Qi (fun (r : Int32) (u : St) => r = nI (cup z 8) ∧ u = z) (fun (u : St) t => va_P G.1 gcl (wp G a u) t.heap) (va_A (wp G a z) sz)) 0 0 (va_A (wp G a z) sz) := by
  refine met_st (cc := cX2_countUp) (maxL := 3) (ret := (some .int)) (fun A => va_Qi (fun (r : Int32) (u : St) => r = nI (cup z 8) ∧ u = z) (fun (u : St) t => va_P G.1 gcl (wp G a u) t.heap) A) (by decide) rfl (Nat.le_of_ble_eq_true rfl) ?_
  intro p e s m args below meth c R Q A H ls hR hQ S hr hlk _ hK hsz hH hAe hA hw hl
  have hl : lv_has ls 3 [(0, .ref (a 1))] := hl
  have LX2 : ∀ w ∈ u_ws RX2 TX2 4, w.before args s = true := fun w h => S.2.2.2.2 w ((by decide +kernel : ∀ w ∈ u_ws RX2 TX2 4, w ∈ wsX2_countUp) w h)
  have k1 : (Cond.fieldLink RX2 9 "GossipMembership$Network" "up" "[Z").before args s = true := S.2.2.2.2 _ (by decide +kernel : (Cond.fieldLink RX2 9 "GossipMembership$Network" "up" "[Z") ∈ wsX2_countUp)
  refine lv_iconst (v := 0) S.1 S.2.1 dX2_countUp_0 (by decide) ?_
  refine lv_istore_n (lv' := [(1, .int 0), (0, .ref (a 1))]) S.1 S.2.1 dX2_countUp_1 rfl hl (by decide) rfl (fun ls hl => ?_)
  refine lv_iconst (v := 0) S.1 S.2.1 dX2_countUp_2 (by decide) ?_
  refine lv_istore_n (lv' := [(2, .int 0), (1, .int 0), (0, .ref (a 1))]) S.1 S.2.1 dX2_countUp_3 rfl hl (by decide) rfl (fun ls hl => ?_)
  have K4 : ∀ (fu : Nat) (k : Nat) (H : Heap) (locs : List Loc) (ls : Array Slot), 8 - k < fu → k ≤ 8 → WD G (wp G a z) A s H locs → lv_has ls 3 [(0, .ref (a 1)), (1, .int (nI (cup z k))), (2, .int (nI (k)))] → W p l e R s m args below meth c H locs 0 0 Q (F0 m 4 ls []) := by
    intro fu
    induction fu with
    | zero => exact fun _ _ _ _ h => absurd h (Nat.not_lt_zero _)
    | succ fu ih4 =>
      intro k H locs ls hm4 hk hw hl
      refine lv_iload_n S.1 S.2.1 dX2_countUp_4 rfl (lv_at hl 2 rfl) ?_
      refine lv_bipush (v := 8) S.1 S.2.1 dX2_countUp_5 (by decide) ?_
      refine brN_ge (a := k) (b := 8) S (by omega) (by omega) (tgt := 28) dX2_countUp_7 (by decide) (fun c1 => ?_) (fun c1 => ?_)
      · skip
        have hk9 : k = 8 := by omega
        subst hk9
        refine lv_iload_n S.1 S.2.1 dX2_countUp_28 rfl (lv_at hl 1 rfl) ?_
        exact en_i (v := (nI (cup z 8))) z hQ S hr hlk hw (by skip; refine ⟨?_, ?_⟩ <;> first | rfl | (simp [b2, c1]; done) | (simp_all [b2]; done)) dX2_countUp_29
      · skip
        refine lv_aload_n S.1 S.2.1 dX2_countUp_10 rfl (lv_at hl 0 rfl) ?_
        refine gt_X2_0 (v := .ref (a 2)) S hK hw 1 rfl rfl LX2 k1 dX2_countUp_11 ?_
        refine lv_iload_n S.1 S.2.1 dX2_countUp_14 rfl (lv_at hl 2 rfl) ?_
        refine ald_z (f := z 1) (k := k) S hK hw 2 rfl (by omega) (by decide) (iz.1 _ (by omega)) dX2_countUp_15 ?_
        refine brB_eq (b := decide (z 1 (k) = 1)) S (tgt := 22) dX2_countUp_16 (by decide) (fun c2 => ?_) (fun c2 => ?_)
        · skip
          have hc9 : cup z (k + 1) = cup z k := by simp [cup, of_decide_eq_false c2]
          rw [← hc9] at hl
          refine lv_iinc (v := (nI (k + 1))) (lv' := [(2, .int (nI (k + 1))), (0, .ref (a 1)), (1, .int (nI (cup z (k + 1))))]) S.1 S.2.1 dX2_countUp_22 hl (k := 2) rfl (nI_add _ _) (by decide) rfl (fun ls hl => ?_)
          refine lv_goto (tgt := 4) S.1 S.2.1 dX2_countUp_25 (by decide) ?_
          exact ih4 (k + 1) _ _ _ (by omega) (by omega) hw (lv_sub hl [1, 2, 0] rfl)
        · skip
          refine lv_iinc (v := (nI (cup z k + 1))) (lv' := [(1, .int (nI (cup z k + 1))), (0, .ref (a 1)), (2, .int (nI (k)))]) S.1 S.2.1 dX2_countUp_19 hl (k := 1) rfl (nI_add _ _) (by decide) rfl (fun ls hl => ?_)
          have hc9 : cup z (k + 1) = cup z k + 1 := by simp [cup, of_decide_eq_true c2]
          rw [← hc9] at hl
          refine lv_iinc (v := (nI (k + 1))) (lv' := [(2, .int (nI (k + 1))), (1, .int (nI (cup z (k + 1)))), (0, .ref (a 1))]) S.1 S.2.1 dX2_countUp_22 hl (k := 2) rfl (nI_add _ _) (by decide) rfl (fun ls hl => ?_)
          refine lv_goto (tgt := 4) S.1 S.2.1 dX2_countUp_25 (by decide) ?_
          exact ih4 (k + 1) _ _ _ (by omega) (by omega) hw (lv_sub hl [2, 1, 0] rfl)
  exact K4 (9) (0) _ _ _ (by omega) (by omega) hw (lv_sub hl [2, 1, 0] rfl)
