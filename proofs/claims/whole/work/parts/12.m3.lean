theorem hd_X5_in : yX5_in.cls ≠ "java/lang/invoke/MethodHandle" ∧ yX5_in.cls ≠ "java/lang/invoke/VarHandle" ∧ (parseMethodDescriptor yX5_in.desc).map (fun d => d.parameters.length) = some 3 := by decide +kernel
set_option maxHeartbeats 4000000 in
set_option maxRecDepth 100000 in
theorem c_X5_in (l : Launch) (v : Int32) (lo : Int32) (hi : Int32) : Met l yX5_in wsX5_in ({ frames := 0, cells := 0, slots := 0, locals := 0 }) (va_Pc [.int (v), .int (lo), .int (hi)] (fun _ => True)) (vp_Si (fun (r : Int32) => r = b2 ((!decide (v < lo) && !decide (hi < v))))) 0 0 (fun _ => False) := by
  refine met_ps (cc := cX5_in) (maxL := 3) (ret := (some .boolean)) (vp_Si (fun (r : Int32) => r = b2 ((!decide (v < lo) && !decide (hi < v))))) (by decide) rfl (Nat.le_of_ble_eq_true rfl) ?_
  intro p e s m args below meth c R Q H ls hR hQ S hr hlk hH hl
  have hl : lv_has ls 3 [(0, .int (v)), (1, .int (lo)), (2, .int (hi))] := hl
  refine lv_iload_n S.1 S.2.1 dX5_in_0 rfl (lv_at hl 0 rfl) ?_
  refine lv_iload_n S.1 S.2.1 dX5_in_1 rfl (lv_at hl 1 rfl) ?_
  refine lv_icmp_lt (tgt := 14) S.1 S.2.1 dX5_in_2 (by decide) (fun c1 => ?_) (fun c1 => ?_)
  · skip
    refine lv_iconst (v := 0) S.1 S.2.1 dX5_in_14 (by decide) ?_
    exact en_p (v := (0)) hQ S hr hlk hH rfl (by first | rfl | (simp [b2, c1]; done)) dX5_in_15
  · skip
    refine lv_iload_n S.1 S.2.1 dX5_in_5 rfl (lv_at hl 0 rfl) ?_
    refine lv_iload_n S.1 S.2.1 dX5_in_6 rfl (lv_at hl 2 rfl) ?_
    refine lv_icmp_gt (tgt := 14) S.1 S.2.1 dX5_in_7 (by decide) (fun c2 => ?_) (fun c2 => ?_)
    · skip
      refine lv_iconst (v := 0) S.1 S.2.1 dX5_in_14 (by decide) ?_
      exact en_p (v := (0)) hQ S hr hlk hH rfl (by first | rfl | (simp [b2, c1, c2]; done)) dX5_in_15
    · skip
      refine lv_iconst (v := 1) S.1 S.2.1 dX5_in_10 (by decide) ?_
      refine lv_goto (tgt := 15) S.1 S.2.1 dX5_in_11 (by decide) ?_
      exact en_p (v := (1)) hQ S hr hlk hH rfl (by first | rfl | (simp [b2, c1, c2]; done)) dX5_in_15

theorem hd_X5_isNode : yX5_isNode.cls ≠ "java/lang/invoke/MethodHandle" ∧ yX5_isNode.cls ≠ "java/lang/invoke/VarHandle" ∧ (parseMethodDescriptor yX5_isNode.desc).map (fun d => d.parameters.length) = some 1 := by decide +kernel
set_option maxHeartbeats 4000000 in
set_option maxRecDepth 100000 in
theorem c_X5_isNode (l : Launch) (v : Int32) : Met l yX5_isNode wsX5_isNode ({ frames := 1, cells := 0, slots := 0, locals := 22 }) (va_Pc [.int (v)] (fun _ => True)) (vp_Si (fun (r : Int32) => r = b2 ((!decide (v < 0) && !decide (7 < v))))) 0 0 (fun _ => False) := by
  refine met_ps (cc := cX5_isNode) (maxL := 1) (ret := (some .boolean)) (vp_Si (fun (r : Int32) => r = b2 ((!decide (v < 0) && !decide (7 < v))))) (by decide) rfl (Nat.le_of_ble_eq_true rfl) ?_
  intro p e s m args below meth c R Q H ls hR hQ S hr hlk hH hl
  have hl : lv_has ls 1 [(0, .int (v))] := hl
  refine lv_iload_n S.1 S.2.1 dX5_isNode_0 rfl (lv_at hl 0 rfl) ?_
  refine lv_iconst (v := 0) S.1 S.2.1 dX5_isNode_1 (by decide) ?_
  refine lv_bipush (v := 7) S.1 S.2.1 dX5_isNode_2 (by decide) ?_
  refine vp_callSi (va_runS (As := [.int (v), .int 0, .int 7]) (rest := []) S (c_X5_in l (v) (0) (7) ) (va_cwS 3 S.2.2.2.2 gX5_isNode_X5_in rfl rfl rfl hd_X5_in ⟨by rw [hR]; exact Nat.le_of_ble_eq_true rfl, by rw [hR]; exact Nat.le_of_ble_eq_true rfl⟩) ⟨blind_T, fun U hU hW => ⟨rfl, trivial⟩⟩ rfl rfl hl.1 rfl (lv_room (Nat.le_of_ble_eq_true rfl)) dX5_isNode_4 ⟨Nat.zero_le _, Nat.zero_le _⟩).run (fun r1 h2 => ?_)
  subst h2
  exact en_p (v := (b2 ((!decide ((v) < (0)) && !decide ((7) < (v)))))) hQ S hr hlk hH (b2_narrow _) (by rfl) dX5_isNode_7

theorem hd_X5_bits : yX5_bits.cls ≠ "java/lang/invoke/MethodHandle" ∧ yX5_bits.cls ≠ "java/lang/invoke/VarHandle" ∧ (parseMethodDescriptor yX5_bits.desc).map (fun d => d.parameters.length) = some 1 := by decide +kernel
set_option maxHeartbeats 4000000 in
set_option maxRecDepth 100000 in
theorem c_X5_bits (l : Launch) (f : Nat → Bool) : Met l yX5_bits wsX5_bits ({ frames := 0, cells := 0, slots := 0, locals := 0 }) (va_Pc [.int (nI (mk f 8))] (fun _ => True)) (vp_Si (fun (r : Int32) => r = nI (cnt f 8))) 0 0 (fun _ => False) := by
  refine met_ps (cc := cX5_bits) (maxL := 3) (ret := (some .int)) (vp_Si (fun (r : Int32) => r = nI (cnt f 8))) (by decide) rfl (Nat.le_of_ble_eq_true rfl) ?_
  intro p e s m args below meth c R Q H ls hR hQ S hr hlk hH hl
  have hl : lv_has ls 3 [(0, .int (nI (mk f 8)))] := hl
  refine lv_iconst (v := 0) S.1 S.2.1 dX5_bits_0 (by decide) ?_
  refine lv_istore_n (lv' := [(1, .int 0), (0, .int (nI (mk f 8)))]) S.1 S.2.1 dX5_bits_1 rfl hl (by decide) rfl (fun ls hl => ?_)
  refine lv_iconst (v := 0) S.1 S.2.1 dX5_bits_2 (by decide) ?_
  refine lv_istore_n (lv' := [(2, .int 0), (1, .int 0), (0, .int (nI (mk f 8)))]) S.1 S.2.1 dX5_bits_3 rfl hl (by decide) rfl (fun ls hl => ?_)
  have K4 : ∀ (fu : Nat) (k : Nat) (ls : Array Slot), 8 - k < fu → k ≤ 8 → lv_has ls 3 [(0, .int (nI (mk f 8))), (1, .int (nI (cnt f k))), (2, .int (nI (k)))] → W p l e R s m args below meth c H [] 0 0 Q (F0 m 4 ls []) := by
    intro fu
    induction fu with
    | zero => exact fun _ _ h => absurd h (Nat.not_lt_zero _)
    | succ fu ih4 =>
      intro k ls hm4 hk hl
      refine lv_iload_n S.1 S.2.1 dX5_bits_4 rfl (lv_at hl 2 rfl) ?_
      refine lv_bipush (v := 8) S.1 S.2.1 dX5_bits_5 (by decide) ?_
      refine brN_ge (a := k) (b := 8) S (by omega) (by omega) (tgt := 24) dX5_bits_7 (by decide) (fun c1 => ?_) (fun c1 => ?_)
      · skip
        have hk9 : k = 8 := by omega
        subst hk9
        refine lv_iload_n S.1 S.2.1 dX5_bits_24 rfl (lv_at hl 1 rfl) ?_
        exact en_p (v := (nI (cnt f 8))) hQ S hr hlk hH rfl (by rfl) dX5_bits_25
      · skip
        refine lv_iload_n S.1 S.2.1 dX5_bits_10 rfl (lv_at hl 1 rfl) ?_
        refine lv_iload_n S.1 S.2.1 dX5_bits_11 rfl (lv_at hl 0 rfl) ?_
        refine lv_iload_n S.1 S.2.1 dX5_bits_12 rfl (lv_at hl 2 rfl) ?_
        refine lv_ishr S.1 S.2.1 dX5_bits_13 ?_
        refine lv_iconst (v := 1) S.1 S.2.1 dX5_bits_14 (by decide) ?_
        refine iand_to (v := b2 (f (k))) S (mk_sh f (by omega)) dX5_bits_15 ?_
        refine iadd_to (v := nI (cnt f (k + 1))) S (by rw [cnt]; cases f k <;> first | rfl | exact nI_add _ _) dX5_bits_16 ?_
        refine lv_istore_n (lv' := [(1, .int (nI (cnt f (k + 1)))), (0, .int (nI (mk f 8))), (2, .int (nI (k)))]) S.1 S.2.1 dX5_bits_17 rfl hl (by decide) rfl (fun ls hl => ?_)
        refine lv_iinc (v := (nI (k + 1))) (lv' := [(2, .int (nI (k + 1))), (1, .int (nI (cnt f (k + 1)))), (0, .int (nI (mk f 8)))]) S.1 S.2.1 dX5_bits_18 hl (k := 2) rfl (nI_add _ _) (by decide) rfl (fun ls hl => ?_)
        refine lv_goto (tgt := 4) S.1 S.2.1 dX5_bits_21 (by decide) ?_
        exact ih4 (k + 1) _ (by omega) (by omega) (lv_sub hl [2, 1, 0] rfl)
  exact K4 (9) (0) _ (by omega) (by omega) (lv_sub hl [2, 1, 0] rfl)

theorem hd_X5_areLinked : yX5_areLinked.cls = RX5 ∧ yX5_areLinked.cls ≠ "java/lang/invoke/MethodHandle" ∧ yX5_areLinked.cls ≠ "java/lang/invoke/VarHandle" ∧ (parseMethodDescriptor yX5_areLinked.desc).map (fun d => d.parameters.length) = some 2 := by decide +kernel
set_option maxHeartbeats 4000000 in
set_option maxRecDepth 100000 in
theorem c_X5_areLinked (l : Launch) (G : GA) (a : Nat → Nat) (z : St) (o : St) (sz : Nat) (n : Nat) (b : Nat) (hn : n < 8) (hb : b < 8) : Met l yX5_areLinked wsX5_areLinked ({ frames := 1, cells := 0, slots := 0, locals := 21 }) (va_Pc [.ref (a 0), .int (nI (n)), .int (nI (b))] (PW G (mp G a z o) sz)) (va_Qi (fun (r : Int32) (u : St × St) => r = b2 ((decide (z 3 n = z 3 b) && decide (z 9 (8 * n + b) = 0))) ∧ u.1 = z ∧ u.2 = o) (fun (u : St × St) t => va_P G.1 gcl (mp G a u.1 u.2) t.heap) (va_A (mp G a z o) sz)) 0 0 (va_A (mp G a z o) sz) := by
  refine met_st (cc := cX5_areLinked) (maxL := 3) (ret := (some .boolean)) (fun A => va_Qi (fun (r : Int32) (u : St × St) => r = b2 ((decide (z 3 n = z 3 b) && decide (z 9 (8 * n + b) = 0))) ∧ u.1 = z ∧ u.2 = o) (fun (u : St × St) t => va_P G.1 gcl (mp G a u.1 u.2) t.heap) A) (by decide) rfl (Nat.le_of_ble_eq_true rfl) ?_
  intro p e s m args below meth c R Q A H ls hR hQ S hr hlk _ hK hsz hH hAe hA hw hl
  have hl : lv_has ls 3 [(0, .ref (a 0)), (1, .int (nI (n))), (2, .int (nI (b)))] := hl
  have LX5 : ∀ w ∈ u_ws RX5 TX5 12, w.before args s = true := fun w h => S.2.2.2.2 w ((by decide +kernel : ∀ w ∈ u_ws RX5 TX5 12, w ∈ wsX5_areLinked) w h)
  have k1 : (Cond.fieldLink RX5 7 "GossipMembershipModel" "s" "[I").before args s = true := S.2.2.2.2 _ (by decide +kernel : (Cond.fieldLink RX5 7 "GossipMembershipModel" "s" "[I") ∈ wsX5_areLinked)
  refine lv_aload_n S.1 S.2.1 dX5_areLinked_0 rfl (lv_at hl 0 rfl) ?_
  refine gt_X5_1 (v := .ref (a 1)) S hK hw 0 rfl rfl LX5 k1 dX5_areLinked_1 ?_
  refine lv_bipush (v := 26) S.1 S.2.1 dX5_areLinked_4 (by decide) ?_
  refine lv_iload_n S.1 S.2.1 dX5_areLinked_6 rfl (lv_at hl 1 rfl) ?_
  refine addN (a := 26) (b := n) S dX5_areLinked_7 ?_
  refine ald_i (v := z 3 (n)) (k := 26 + n) S hK hw 1 rfl (by omega) (by decide) (fl_3 z (by omega)) dX5_areLinked_8 ?_
  refine lv_aload_n S.1 S.2.1 dX5_areLinked_9 rfl (lv_at hl 0 rfl) ?_
  refine gt_X5_1 (v := .ref (a 1)) S hK hw 0 rfl rfl LX5 k1 dX5_areLinked_10 ?_
  refine lv_bipush (v := 26) S.1 S.2.1 dX5_areLinked_13 (by decide) ?_
  refine lv_iload_n S.1 S.2.1 dX5_areLinked_15 rfl (lv_at hl 2 rfl) ?_
  refine addN (a := 26) (b := b) S dX5_areLinked_16 ?_
  refine ald_i (v := z 3 (b)) (k := 26 + b) S hK hw 1 rfl (by omega) (by decide) (fl_3 z (by omega)) dX5_areLinked_17 ?_
  refine lv_icmp_ne (tgt := 42) S.1 S.2.1 dX5_areLinked_18 (by decide) (fun c1 => ?_) (fun c1 => ?_)
  · skip
    refine lv_iconst (v := 0) S.1 S.2.1 dX5_areLinked_42 (by decide) ?_
    exact en_z (v := (0)) ((z, o) : St × St) hQ S hr hlk rfl hw (by skip; refine ⟨?_, ?_, ?_⟩ <;> first | rfl | (simp [b2, c1]; done) | (simp_all [b2]; done)) dX5_areLinked_43
  · skip
    refine lv_aload_n S.1 S.2.1 dX5_areLinked_21 rfl (lv_at hl 0 rfl) ?_
    refine gt_X5_1 (v := .ref (a 1)) S hK hw 0 rfl rfl LX5 k1 dX5_areLinked_22 ?_
    refine lv_sipush (v := 298) S.1 S.2.1 dX5_areLinked_25 (by decide) ?_
    refine lv_iload_n S.1 S.2.1 dX5_areLinked_28 rfl (lv_at hl 1 rfl) ?_
    refine lv_iload_n S.1 S.2.1 dX5_areLinked_29 rfl (lv_at hl 2 rfl) ?_
    refine pr_m (n := n) (b := b) S hl.1 gX5_areLinked_X5_pair ⟨by rw [hR]; exact Nat.le_of_ble_eq_true rfl, by rw [hR]; exact Nat.le_of_ble_eq_true rfl⟩ (Nat.zero_le _) (Nat.zero_le _) (Nat.le_of_ble_eq_true rfl) dX5_areLinked_30 ?_
    refine addN (a := 298) (b := 8 * n + b) S dX5_areLinked_33 ?_
    refine ald_i (v := z 9 ((8 * n + b))) (k := 298 + (8 * n + b)) S hK hw 1 rfl (by omega) (by decide) (fl_9 z _) dX5_areLinked_34 ?_
    refine lv_if_ne (tgt := 42) S.1 S.2.1 dX5_areLinked_35 (by decide) (fun c2 => ?_) (fun c2 => ?_)
    · skip
      refine lv_iconst (v := 0) S.1 S.2.1 dX5_areLinked_42 (by decide) ?_
      exact en_z (v := (0)) ((z, o) : St × St) hQ S hr hlk rfl hw (by skip; refine ⟨?_, ?_, ?_⟩ <;> first | rfl | (simp [b2, c1, c2]; done) | (simp_all [b2]; done)) dX5_areLinked_43
    · skip
      refine lv_iconst (v := 1) S.1 S.2.1 dX5_areLinked_38 (by decide) ?_
      refine lv_goto (tgt := 43) S.1 S.2.1 dX5_areLinked_39 (by decide) ?_
      exact en_z (v := (1)) ((z, o) : St × St) hQ S hr hlk rfl hw (by skip; refine ⟨?_, ?_, ?_⟩ <;> first | rfl | (simp [b2, c1, c2]; done) | (simp_all [b2]; done)) dX5_areLinked_43

theorem hd_X5_canReach : yX5_canReach.cls = RX5 ∧ yX5_canReach.cls ≠ "java/lang/invoke/MethodHandle" ∧ yX5_canReach.cls ≠ "java/lang/invoke/VarHandle" ∧ (parseMethodDescriptor yX5_canReach.desc).map (fun d => d.parameters.length) = some 2 := by decide +kernel
set_option maxHeartbeats 4000000 in
set_option maxRecDepth 100000 in
theorem c_X5_canReach (l : Launch) (G : GA) (a : Nat → Nat) (z : St) (o : St) (sz : Nat) (n : Nat) (b : Nat) (hn : n < 8) (hb : b < 8) (iz : Inv z) : Met l yX5_canReach wsX5_canReach ({ frames := 2, cells := 0, slots := 0, locals := 43 }) (va_Pc [.ref (a 0), .int (nI (n)), .int (nI (b))] (PW G (mp G a z o) sz)) (va_Qi (fun (r : Int32) (u : St × St) => r = b2 (cnn z n b) ∧ u.1 = z ∧ u.2 = o) (fun (u : St × St) t => va_P G.1 gcl (mp G a u.1 u.2) t.heap) (va_A (mp G a z o) sz)) 0 0 (va_A (mp G a z o) sz) := by
  refine met_st (cc := cX5_canReach) (maxL := 3) (ret := (some .boolean)) (fun A => va_Qi (fun (r : Int32) (u : St × St) => r = b2 (cnn z n b) ∧ u.1 = z ∧ u.2 = o) (fun (u : St × St) t => va_P G.1 gcl (mp G a u.1 u.2) t.heap) A) (by decide) rfl (Nat.le_of_ble_eq_true rfl) ?_
  intro p e s m args below meth c R Q A H ls hR hQ S hr hlk _ hK hsz hH hAe hA hw hl
  have hl : lv_has ls 3 [(0, .ref (a 0)), (1, .int (nI (n))), (2, .int (nI (b)))] := hl
  have LX5 : ∀ w ∈ u_ws RX5 TX5 12, w.before args s = true := fun w h => S.2.2.2.2 w ((by decide +kernel : ∀ w ∈ u_ws RX5 TX5 12, w ∈ wsX5_canReach) w h)
  have k1 : (Cond.fieldLink RX5 7 "GossipMembershipModel" "s" "[I").before args s = true := S.2.2.2.2 _ (by decide +kernel : (Cond.fieldLink RX5 7 "GossipMembershipModel" "s" "[I") ∈ wsX5_canReach)
  refine lv_iload_n S.1 S.2.1 dX5_canReach_0 rfl (lv_at hl 1 rfl) ?_
  refine lv_iload_n S.1 S.2.1 dX5_canReach_1 rfl (lv_at hl 2 rfl) ?_
  refine brN_eq (a := n) (b := b) S (by omega) (by omega) (tgt := 44) dX5_canReach_2 (by decide) (fun c1 => ?_) (fun c1 => ?_)
  · skip
    refine lv_iconst (v := 0) S.1 S.2.1 dX5_canReach_44 (by decide) ?_
    exact en_z (v := (0)) ((z, o) : St × St) hQ S hr hlk rfl hw (by skip; refine ⟨?_, rfl, rfl⟩; have e9 : decide (z 9 (8 * n + b) = 0) = !decide (z 9 (8 * n + b) = 1) := (by rcases iz.2.2.1 (8 * n + b) (by omega) with h9 | h9 <;> rw [h9] <;> rfl); first | (simp [cnn, wcn, b2, c1]; done) | (rw [e9] at c1; rw [cnn, wcn, c1]; simp [b2, c1]; done)) dX5_canReach_45
  · skip
    refine lv_aload_n S.1 S.2.1 dX5_canReach_5 rfl (lv_at hl 0 rfl) ?_
    refine gt_X5_1 (v := .ref (a 1)) S hK hw 0 rfl rfl LX5 k1 dX5_canReach_6 ?_
    refine lv_bipush (v := 10) S.1 S.2.1 dX5_canReach_9 (by decide) ?_
    refine lv_iload_n S.1 S.2.1 dX5_canReach_11 rfl (lv_at hl 1 rfl) ?_
    refine addN (a := 10) (b := n) S dX5_canReach_12 ?_
    refine ald_i (v := z 1 (n)) (k := 10 + n) S hK hw 1 rfl (by omega) (by decide) (fl_1 z (by omega)) dX5_canReach_13 ?_
    refine lv_iconst (v := 1) S.1 S.2.1 dX5_canReach_14 (by decide) ?_
    refine lv_icmp_ne (tgt := 44) S.1 S.2.1 dX5_canReach_15 (by decide) (fun c2 => ?_) (fun c2 => ?_)
    · skip
      refine lv_iconst (v := 0) S.1 S.2.1 dX5_canReach_44 (by decide) ?_
      exact en_z (v := (0)) ((z, o) : St × St) hQ S hr hlk rfl hw (by skip; refine ⟨?_, rfl, rfl⟩; have e9 : decide (z 9 (8 * n + b) = 0) = !decide (z 9 (8 * n + b) = 1) := (by rcases iz.2.2.1 (8 * n + b) (by omega) with h9 | h9 <;> rw [h9] <;> rfl); first | (simp [cnn, wcn, b2, c1, c2]; done) | (rw [e9] at c2; rw [cnn, wcn, c2]; simp [b2, c1, c2]; done)) dX5_canReach_45
    · skip
      refine lv_aload_n S.1 S.2.1 dX5_canReach_18 rfl (lv_at hl 0 rfl) ?_
      refine gt_X5_1 (v := .ref (a 1)) S hK hw 0 rfl rfl LX5 k1 dX5_canReach_19 ?_
      refine lv_bipush (v := 10) S.1 S.2.1 dX5_canReach_22 (by decide) ?_
      refine lv_iload_n S.1 S.2.1 dX5_canReach_24 rfl (lv_at hl 2 rfl) ?_
      refine addN (a := 10) (b := b) S dX5_canReach_25 ?_
      refine ald_i (v := z 1 (b)) (k := 10 + b) S hK hw 1 rfl (by omega) (by decide) (fl_1 z (by omega)) dX5_canReach_26 ?_
      refine lv_iconst (v := 1) S.1 S.2.1 dX5_canReach_27 (by decide) ?_
      refine lv_icmp_ne (tgt := 44) S.1 S.2.1 dX5_canReach_28 (by decide) (fun c3 => ?_) (fun c3 => ?_)
      · skip
        refine lv_iconst (v := 0) S.1 S.2.1 dX5_canReach_44 (by decide) ?_
        exact en_z (v := (0)) ((z, o) : St × St) hQ S hr hlk rfl hw (by skip; refine ⟨?_, rfl, rfl⟩; have e9 : decide (z 9 (8 * n + b) = 0) = !decide (z 9 (8 * n + b) = 1) := (by rcases iz.2.2.1 (8 * n + b) (by omega) with h9 | h9 <;> rw [h9] <;> rfl); first | (simp [cnn, wcn, b2, c1, c2, c3]; done) | (rw [e9] at c3; rw [cnn, wcn, c3]; simp [b2, c1, c2, c3]; done)) dX5_canReach_45
      · skip
        refine lv_aload_n S.1 S.2.1 dX5_canReach_31 rfl (lv_at hl 0 rfl) ?_
        refine lv_iload_n S.1 S.2.1 dX5_canReach_32 rfl (lv_at hl 1 rfl) ?_
        refine lv_iload_n S.1 S.2.1 dX5_canReach_33 rfl (lv_at hl 2 rfl) ?_
        refine cl_i (va_runV (As := [.int (nI (n)), .int (nI (b))]) (rest := []) S (c_X5_areLinked l G a z o H.size (n) (b) (by omega) (by omega)) (cwV 2 S.2.2.2.2 gX5_canReach_X5_areLinked rfl rfl rfl hd_X5_areLinked ⟨by rw [hR]; exact Nat.le_of_ble_eq_true rfl, by rw [hR]; exact Nat.le_of_ble_eq_true rfl⟩) ⟨PW.blind, va_recv hK.1 hw.1 (ci := 5) (q0 := 0) rfl rfl, fun U hU hW => ⟨rfl, PW.of hK hw hU hW⟩⟩ rfl rfl hl.1 rfl (lv_room (Nat.le_of_ble_eq_true rfl)) dX5_canReach_34 ⟨Nat.zero_le _, Nat.zero_le _⟩) hw hA (fun _ => rfl) (fun r4 z5 H locs h6 hw => ?_)
        obtain ⟨z7, o8⟩ := z5
        try dsimp only at h6 hw
        obtain ⟨rfl, qz7, qo8⟩ := h6
        rw [qz7] at hw
        rw [qo8] at hw
        refine brB_eq (b := (decide (z 3 (n) = z 3 (b)) && decide (z 9 (8 * (n) + (b)) = 0))) S (tgt := 44) dX5_canReach_37 (by decide) (fun c9 => ?_) (fun c9 => ?_)
        · skip
          refine lv_iconst (v := 0) S.1 S.2.1 dX5_canReach_44 (by decide) ?_
          exact en_z (v := (0)) ((z, o) : St × St) hQ S hr hlk rfl hw (by skip; refine ⟨?_, rfl, rfl⟩; have e9 : decide (z 9 (8 * n + b) = 0) = !decide (z 9 (8 * n + b) = 1) := (by rcases iz.2.2.1 (8 * n + b) (by omega) with h9 | h9 <;> rw [h9] <;> rfl); first | (simp [cnn, wcn, b2, c1, c2, c3, c9]; done) | (rw [e9] at c9; rw [cnn, wcn, c9]; simp [b2, c1, c2, c3, c9]; done)) dX5_canReach_45
        · skip
          refine lv_iconst (v := 1) S.1 S.2.1 dX5_canReach_40 (by decide) ?_
          refine lv_goto (tgt := 45) S.1 S.2.1 dX5_canReach_41 (by decide) ?_
          exact en_z (v := (1)) ((z, o) : St × St) hQ S hr hlk rfl hw (by skip; refine ⟨?_, rfl, rfl⟩; have e9 : decide (z 9 (8 * n + b) = 0) = !decide (z 9 (8 * n + b) = 1) := (by rcases iz.2.2.1 (8 * n + b) (by omega) with h9 | h9 <;> rw [h9] <;> rfl); first | (simp [cnn, wcn, b2, c1, c2, c3, c9]; done) | (rw [e9] at c9; rw [cnn, wcn, c9]; simp [b2, c1, c2, c3, c9]; done)) dX5_canReach_45

theorem hd_X5_changes : yX5_changes.cls = RX5 ∧ yX5_changes.cls ≠ "java/lang/invoke/MethodHandle" ∧ yX5_changes.cls ≠ "java/lang/invoke/VarHandle" ∧ (parseMethodDescriptor yX5_changes.desc).map (fun d => d.parameters.length) = some 2 := by decide +kernel
set_option maxHeartbeats 4000000 in
set_option maxRecDepth 100000 in
theorem c_X5_changes (l : Launch) (G : GA) (a : Nat → Nat) (z : St) (o : St) (sz : Nat) (n : Nat) (b : Nat) (hn : n < 8) (hb : b < 8) : Met l yX5_changes wsX5_changes ({ frames := 1, cells := 0, slots := 0, locals := 21 }) (va_Pc [.ref (a 0), .int (nI (n)), .int (nI (b))] (PW G (mp G a z o) sz)) (va_Qv (fun (u : St × St) => u.1 = chg z n b ∧ u.2 = o) (fun (u : St × St) t => va_P G.1 gcl (mp G a u.1 u.2) t.heap) (va_A (mp G a z o) sz)) 0 0 (va_A (mp G a z o) sz) := by
  refine met_st (cc := cX5_changes) (maxL := 3) (ret := none) (fun A => va_Qv (fun (u : St × St) => u.1 = chg z n b ∧ u.2 = o) (fun (u : St × St) t => va_P G.1 gcl (mp G a u.1 u.2) t.heap) A) (by decide) rfl (Nat.le_of_ble_eq_true rfl) ?_
  intro p e s m args below meth c R Q A H ls hR hQ S hr hlk _ hK hsz hH hAe hA hw hl
  have hl : lv_has ls 3 [(0, .ref (a 0)), (1, .int (nI (n))), (2, .int (nI (b)))] := hl
  have LX5 : ∀ w ∈ u_ws RX5 TX5 12, w.before args s = true := fun w h => S.2.2.2.2 w ((by decide +kernel : ∀ w ∈ u_ws RX5 TX5 12, w ∈ wsX5_changes) w h)
  have k1 : (Cond.fieldLink RX5 7 "GossipMembershipModel" "s" "[I").before args s = true := S.2.2.2.2 _ (by decide +kernel : (Cond.fieldLink RX5 7 "GossipMembershipModel" "s" "[I") ∈ wsX5_changes)
  refine lv_aload_n S.1 S.2.1 dX5_changes_0 rfl (lv_at hl 0 rfl) ?_
  refine gt_X5_1 (v := .ref (a 1)) S hK hw 0 rfl rfl LX5 k1 dX5_changes_1 ?_
  refine lv_sipush (v := 234) S.1 S.2.1 dX5_changes_4 (by decide) ?_
  refine lv_iload_n S.1 S.2.1 dX5_changes_7 rfl (lv_at hl 1 rfl) ?_
  refine lv_iload_n S.1 S.2.1 dX5_changes_8 rfl (lv_at hl 2 rfl) ?_
  refine pr_m (n := n) (b := b) S hl.1 gX5_changes_X5_pair ⟨by rw [hR]; exact Nat.le_of_ble_eq_true rfl, by rw [hR]; exact Nat.le_of_ble_eq_true rfl⟩ (Nat.zero_le _) (Nat.zero_le _) (Nat.le_of_ble_eq_true rfl) dX5_changes_9 ?_
  refine addN (a := 234) (b := 8 * n + b) S dX5_changes_12 ?_
  refine lv_aload_n S.1 S.2.1 dX5_changes_13 rfl (lv_at hl 0 rfl) ?_
  refine gt_X5_1 (v := .ref (a 1)) S hK hw 0 rfl rfl LX5 k1 dX5_changes_14 ?_
  refine lv_iconst (v := 3) S.1 S.2.1 dX5_changes_17 (by decide) ?_
  refine ald_i (v := z 0 (3)) (k := 3) S hK hw 1 rfl (by omega) (by decide) (fl_0 z (by omega)) dX5_changes_18 ?_
  refine ast_i (ws' := (mp G a (st z 8 ((8 * n + b)) (z 0 (3))) o)) (k := 234 + (8 * n + b)) S hK hw 1 rfl (by omega) (by decide) (mp_set (fu_8 z (by omega) _)) dX5_changes_19 (fun H locs hw => ?_)
  obtain ⟨z1, ez1⟩ : ∃ zz, zz = st z 8 ((8 * n + b)) (z 0 (3)) := ⟨_, rfl⟩
  have hw : WD G (mp G a z1 o) A s H locs := by rw [ez1]; exact hw
  refine lv_aload_n S.1 S.2.1 dX5_changes_20 rfl (lv_at hl 0 rfl) ?_
  refine gt_X5_1 (v := .ref (a 1)) S hK hw 0 rfl rfl LX5 k1 dX5_changes_21 ?_
  refine lv_bipush (v := 9) S.1 S.2.1 dX5_changes_24 (by decide) ?_
  refine lv_aload_n S.1 S.2.1 dX5_changes_26 rfl (lv_at hl 0 rfl) ?_
  refine gt_X5_1 (v := .ref (a 1)) S hK hw 0 rfl rfl LX5 k1 dX5_changes_27 ?_
  refine lv_iconst (v := 0) S.1 S.2.1 dX5_changes_30 (by decide) ?_
  refine ald_i (v := z1 0 (0)) (k := 0) S hK hw 1 rfl (by omega) (by decide) (fl_0 z1 (by omega)) dX5_changes_31 ?_
  refine ast_i (ws' := (mp G a (st z1 0 (9) (z1 0 (0))) o)) (k := 9) S hK hw 1 rfl (by omega) (by decide) (mp_set (fu_0 z1 (by omega) _)) dX5_changes_32 (fun H locs hw => ?_)
  obtain ⟨z2, ez2⟩ : ∃ zz, zz = st z1 0 (9) (z1 0 (0)) := ⟨_, rfl⟩
  have hw : WD G (mp G a z2 o) A s H locs := by rw [ez2]; exact hw
  exact en_v ((z2, o) : St × St) hQ S hr hlk hw (by subst ez2 ez1; exact ⟨rfl, rfl⟩) dX5_changes_33

theorem hd_X5_becomes : yX5_becomes.cls = RX5 ∧ yX5_becomes.cls ≠ "java/lang/invoke/MethodHandle" ∧ yX5_becomes.cls ≠ "java/lang/invoke/VarHandle" ∧ (parseMethodDescriptor yX5_becomes.desc).map (fun d => d.parameters.length) = some 4 := by decide +kernel
set_option maxHeartbeats 4000000 in
set_option maxRecDepth 100000 in
theorem c_X5_becomes (l : Launch) (G : GA) (a : Nat → Nat) (z : St) (o : St) (sz : Nat) (n : Nat) (b : Nat) (x : Int32) (i : Int32) (hn : n < 8) (hb : b < 8) : Met l yX5_becomes wsX5_becomes ({ frames := 2, cells := 0, slots := 0, locals := 43 }) (va_Pc [.ref (a 0), .int (nI (n)), .int (nI (b)), .int (x), .int (i)] (PW G (mp G a z o) sz)) (va_Qv (fun (u : St × St) => u.1 = bec z n b x i ∧ u.2 = o) (fun (u : St × St) t => va_P G.1 gcl (mp G a u.1 u.2) t.heap) (va_A (mp G a z o) sz)) 0 0 (va_A (mp G a z o) sz) := by
  refine met_st (cc := cX5_becomes) (maxL := 6) (ret := none) (fun A => va_Qv (fun (u : St × St) => u.1 = bec z n b x i ∧ u.2 = o) (fun (u : St × St) t => va_P G.1 gcl (mp G a u.1 u.2) t.heap) A) (by decide) rfl (Nat.le_of_ble_eq_true rfl) ?_
  intro p e s m args below meth c R Q A H ls hR hQ S hr hlk _ hK hsz hH hAe hA hw hl
  have hl : lv_has ls 6 [(0, .ref (a 0)), (1, .int (nI (n))), (2, .int (nI (b))), (3, .int (x)), (4, .int (i))] := hl
  have LX5 : ∀ w ∈ u_ws RX5 TX5 12, w.before args s = true := fun w h => S.2.2.2.2 w ((by decide +kernel : ∀ w ∈ u_ws RX5 TX5 12, w ∈ wsX5_becomes) w h)
  have k1 : (Cond.fieldLink RX5 7 "GossipMembershipModel" "s" "[I").before args s = true := S.2.2.2.2 _ (by decide +kernel : (Cond.fieldLink RX5 7 "GossipMembershipModel" "s" "[I") ∈ wsX5_becomes)
  refine lv_iload_n S.1 S.2.1 dX5_becomes_0 rfl (lv_at hl 1 rfl) ?_
  refine lv_iload_n S.1 S.2.1 dX5_becomes_1 rfl (lv_at hl 2 rfl) ?_
  refine pr_m (n := n) (b := b) S hl.1 gX5_becomes_X5_pair ⟨by rw [hR]; exact Nat.le_of_ble_eq_true rfl, by rw [hR]; exact Nat.le_of_ble_eq_true rfl⟩ (Nat.zero_le _) (Nat.zero_le _) (Nat.le_of_ble_eq_true rfl) dX5_becomes_2 ?_
  refine lv_istore (lv' := [(5, .int (nI (8 * n + b))), (0, .ref (a 0)), (1, .int (nI (n))), (2, .int (nI (b))), (3, .int (x)), (4, .int (i))]) S.1 S.2.1 dX5_becomes_5 hl (by decide) rfl (fun ls hl => ?_)
  refine lv_aload_n S.1 S.2.1 dX5_becomes_7 rfl (lv_at hl 1 rfl) ?_
  refine gt_X5_1 (v := .ref (a 1)) S hK hw 0 rfl rfl LX5 k1 dX5_becomes_8 ?_
  refine lv_bipush (v := 42) S.1 S.2.1 dX5_becomes_11 (by decide) ?_
  refine lv_iload S.1 S.2.1 dX5_becomes_13 (lv_at hl 0 rfl) ?_
  refine addN (a := 42) (b := 8 * n + b) S dX5_becomes_15 ?_
  refine lv_iload_n S.1 S.2.1 dX5_becomes_16 rfl (lv_at hl 4 rfl) ?_
  refine ast_i (ws' := (mp G a (st z 5 ((8 * n + b)) (x)) o)) (k := 42 + (8 * n + b)) S hK hw 1 rfl (by omega) (by decide) (mp_set (fu_5 z (by omega) _)) dX5_becomes_17 (fun H locs hw => ?_)
  obtain ⟨z1, ez1⟩ : ∃ zz, zz = st z 5 ((8 * n + b)) (x) := ⟨_, rfl⟩
  have hw : WD G (mp G a z1 o) A s H locs := by rw [ez1]; exact hw
  refine lv_aload_n S.1 S.2.1 dX5_becomes_18 rfl (lv_at hl 1 rfl) ?_
  refine gt_X5_1 (v := .ref (a 1)) S hK hw 0 rfl rfl LX5 k1 dX5_becomes_19 ?_
  refine lv_bipush (v := 106) S.1 S.2.1 dX5_becomes_22 (by decide) ?_
  refine lv_iload S.1 S.2.1 dX5_becomes_24 (lv_at hl 0 rfl) ?_
  refine addN (a := 106) (b := 8 * n + b) S dX5_becomes_26 ?_
  refine lv_iload S.1 S.2.1 dX5_becomes_27 (lv_at hl 5 rfl) ?_
  refine ast_i (ws' := (mp G a (st z1 6 ((8 * n + b)) (i)) o)) (k := 106 + (8 * n + b)) S hK hw 1 rfl (by omega) (by decide) (mp_set (fu_6 z1 (by omega) _)) dX5_becomes_29 (fun H locs hw => ?_)
  obtain ⟨z2, ez2⟩ : ∃ zz, zz = st z1 6 ((8 * n + b)) (i) := ⟨_, rfl⟩
  have hw : WD G (mp G a z2 o) A s H locs := by rw [ez2]; exact hw
  refine lv_iload_n S.1 S.2.1 dX5_becomes_30 rfl (lv_at hl 4 rfl) ?_
  refine lv_iconst (v := 2) S.1 S.2.1 dX5_becomes_31 (by decide) ?_
  refine lv_icmp_ne (tgt := 59) S.1 S.2.1 dX5_becomes_32 (by decide) (fun c3 => ?_) (fun c3 => ?_)
  · skip
    refine lv_aload_n S.1 S.2.1 dX5_becomes_59 rfl (lv_at hl 1 rfl) ?_
    refine lv_iload_n S.1 S.2.1 dX5_becomes_60 rfl (lv_at hl 2 rfl) ?_
    refine lv_iload_n S.1 S.2.1 dX5_becomes_61 rfl (lv_at hl 3 rfl) ?_
    refine cl_v (va_runV (As := [.int (nI (n)), .int (nI (b))]) (rest := []) S (c_X5_changes l G a z2 o H.size (n) (b) (by omega) (by omega)) (cwV 2 S.2.2.2.2 gX5_becomes_X5_changes rfl rfl rfl hd_X5_changes ⟨by rw [hR]; exact Nat.le_of_ble_eq_true rfl, by rw [hR]; exact Nat.le_of_ble_eq_true rfl⟩) ⟨PW.blind, va_recv hK.1 hw.1 (ci := 5) (q0 := 0) rfl rfl, fun U hU hW => ⟨rfl, PW.of hK hw hU hW⟩⟩ rfl rfl hl.1 rfl (lv_room (Nat.le_of_ble_eq_true rfl)) dX5_becomes_62 ⟨Nat.zero_le _, Nat.zero_le _⟩) hw hA (fun _ => rfl) (fun z5 H locs h6 hw => ?_)
    obtain ⟨z7, o8⟩ := z5
    try dsimp only at h6 hw
    obtain ⟨ez7, qo8⟩ := h6
    rw [qo8] at hw
    exact en_v ((z7, o) : St × St) hQ S hr hlk hw (by subst ez7 ez2 ez1; refine ⟨?_, rfl⟩; unfold bec rpl; first | (rw [if_pos (by assumption)]; first | done | rfl) | (rw [if_neg (by assumption)]; first | done | rfl)) dX5_becomes_65
  · skip
    refine lv_aload_n S.1 S.2.1 dX5_becomes_35 rfl (lv_at hl 1 rfl) ?_
    refine gt_X5_1 (v := .ref (a 1)) S hK hw 0 rfl rfl LX5 k1 dX5_becomes_36 ?_
    refine lv_sipush (v := 170) S.1 S.2.1 dX5_becomes_39 (by decide) ?_
    refine lv_iload S.1 S.2.1 dX5_becomes_42 (lv_at hl 0 rfl) ?_
    refine addN (a := 170) (b := 8 * n + b) S dX5_becomes_44 ?_
    refine lv_aload_n S.1 S.2.1 dX5_becomes_45 rfl (lv_at hl 1 rfl) ?_
    refine gt_X5_1 (v := .ref (a 1)) S hK hw 0 rfl rfl LX5 k1 dX5_becomes_46 ?_
    refine lv_iconst (v := 0) S.1 S.2.1 dX5_becomes_49 (by decide) ?_
    refine ald_i (v := z2 0 (0)) (k := 0) S hK hw 1 rfl (by omega) (by decide) (fl_0 z2 (by omega)) dX5_becomes_50 ?_
    refine lv_aload_n S.1 S.2.1 dX5_becomes_51 rfl (lv_at hl 1 rfl) ?_
    refine gt_X5_1 (v := .ref (a 1)) S hK hw 0 rfl rfl LX5 k1 dX5_becomes_52 ?_
    refine lv_iconst (v := 2) S.1 S.2.1 dX5_becomes_55 (by decide) ?_
    refine ald_i (v := z2 0 (2)) (k := 2) S hK hw 1 rfl (by omega) (by decide) (fl_0 z2 (by omega)) dX5_becomes_56 ?_
    refine lv_iadd S.1 S.2.1 dX5_becomes_57 ?_
    refine ast_i (ws' := (mp G a (st z2 7 ((8 * n + b)) ((z2 0 (0)) + (z2 0 (2)))) o)) (k := 170 + (8 * n + b)) S hK hw 1 rfl (by omega) (by decide) (mp_set (fu_7 z2 (by omega) _)) dX5_becomes_58 (fun H locs hw => ?_)
    obtain ⟨z9, ez9⟩ : ∃ zz, zz = st z2 7 ((8 * n + b)) ((z2 0 (0)) + (z2 0 (2))) := ⟨_, rfl⟩
    have hw : WD G (mp G a z9 o) A s H locs := by rw [ez9]; exact hw
    refine lv_aload_n S.1 S.2.1 dX5_becomes_59 rfl (lv_at hl 1 rfl) ?_
    refine lv_iload_n S.1 S.2.1 dX5_becomes_60 rfl (lv_at hl 2 rfl) ?_
    refine lv_iload_n S.1 S.2.1 dX5_becomes_61 rfl (lv_at hl 3 rfl) ?_
    refine cl_v (va_runV (As := [.int (nI (n)), .int (nI (b))]) (rest := []) S (c_X5_changes l G a z9 o H.size (n) (b) (by omega) (by omega)) (cwV 2 S.2.2.2.2 gX5_becomes_X5_changes rfl rfl rfl hd_X5_changes ⟨by rw [hR]; exact Nat.le_of_ble_eq_true rfl, by rw [hR]; exact Nat.le_of_ble_eq_true rfl⟩) ⟨PW.blind, va_recv hK.1 hw.1 (ci := 5) (q0 := 0) rfl rfl, fun U hU hW => ⟨rfl, PW.of hK hw hU hW⟩⟩ rfl rfl hl.1 rfl (lv_room (Nat.le_of_ble_eq_true rfl)) dX5_becomes_62 ⟨Nat.zero_le _, Nat.zero_le _⟩) hw hA (fun _ => rfl) (fun z11 H locs h12 hw => ?_)
    obtain ⟨z13, o14⟩ := z11
    try dsimp only at h12 hw
    obtain ⟨ez13, qo14⟩ := h12
    rw [qo14] at hw
    exact en_v ((z13, o) : St × St) hQ S hr hlk hw (by subst ez13 ez9 ez2 ez1; refine ⟨?_, rfl⟩; unfold bec rpl; first | (rw [if_pos (by assumption)]; first | done | rfl) | (rw [if_neg (by assumption)]; first | done | rfl)) dX5_becomes_65

theorem hd_X5_refutes : yX5_refutes.cls = RX5 ∧ yX5_refutes.cls ≠ "java/lang/invoke/MethodHandle" ∧ yX5_refutes.cls ≠ "java/lang/invoke/VarHandle" ∧ (parseMethodDescriptor yX5_refutes.desc).map (fun d => d.parameters.length) = some 3 := by decide +kernel
set_option maxHeartbeats 4000000 in
set_option maxRecDepth 100000 in
theorem c_X5_refutes (l : Launch) (G : GA) (a : Nat → Nat) (z : St) (o : St) (sz : Nat) (n : Nat) (x : Int32) (i : Int32) (hn : n < 8) : Met l yX5_refutes wsX5_refutes ({ frames := 2, cells := 0, slots := 0, locals := 43 }) (va_Pc [.ref (a 0), .int (nI (n)), .int (x), .int (i)] (PW G (mp G a z o) sz)) (va_Qi (fun (r : Int32) (u : St × St) => r = b2 (slf z n x i) ∧ u.1 = rft z n x i ∧ u.2 = o) (fun (u : St × St) t => va_P G.1 gcl (mp G a u.1 u.2) t.heap) (va_A (mp G a z o) sz)) 0 0 (va_A (mp G a z o) sz) := by
  refine met_st (cc := cX5_refutes) (maxL := 4) (ret := (some .boolean)) (fun A => va_Qi (fun (r : Int32) (u : St × St) => r = b2 (slf z n x i) ∧ u.1 = rft z n x i ∧ u.2 = o) (fun (u : St × St) t => va_P G.1 gcl (mp G a u.1 u.2) t.heap) A) (by decide) rfl (Nat.le_of_ble_eq_true rfl) ?_
  intro p e s m args below meth c R Q A H ls hR hQ S hr hlk _ hK hsz hH hAe hA hw hl
  have hl : lv_has ls 4 [(0, .ref (a 0)), (1, .int (nI (n))), (2, .int (x)), (3, .int (i))] := hl
  have LX5 : ∀ w ∈ u_ws RX5 TX5 12, w.before args s = true := fun w h => S.2.2.2.2 w ((by decide +kernel : ∀ w ∈ u_ws RX5 TX5 12, w ∈ wsX5_refutes) w h)
  have k1 : (Cond.fieldLink RX5 7 "GossipMembershipModel" "s" "[I").before args s = true := S.2.2.2.2 _ (by decide +kernel : (Cond.fieldLink RX5 7 "GossipMembershipModel" "s" "[I") ∈ wsX5_refutes)
  refine lv_iload_n S.1 S.2.1 dX5_refutes_0 rfl (lv_at hl 2 rfl) ?_
  refine lv_iconst (v := 1) S.1 S.2.1 dX5_refutes_1 (by decide) ?_
  refine lv_icmp_eq (tgt := 18) S.1 S.2.1 dX5_refutes_2 (by decide) (fun c1 => ?_) (fun c1 => ?_)
  · skip
    refine lv_iconst (v := 0) S.1 S.2.1 dX5_refutes_18 (by decide) ?_
    exact en_z (v := (0)) ((z, o) : St × St) hQ S hr hlk rfl hw (by refine ⟨?_, ?_, rfl⟩ <;> simp [rft, slf, b2, c1]) dX5_refutes_19
  · skip
    refine lv_iload_n S.1 S.2.1 dX5_refutes_5 rfl (lv_at hl 3 rfl) ?_
    refine lv_aload_n S.1 S.2.1 dX5_refutes_6 rfl (lv_at hl 0 rfl) ?_
    refine gt_X5_1 (v := .ref (a 1)) S hK hw 0 rfl rfl LX5 k1 dX5_refutes_7 ?_
    refine lv_bipush (v := 34) S.1 S.2.1 dX5_refutes_10 (by decide) ?_
    refine lv_iload_n S.1 S.2.1 dX5_refutes_12 rfl (lv_at hl 1 rfl) ?_
    refine addN (a := 34) (b := n) S dX5_refutes_13 ?_
    refine ald_i (v := z 4 (n)) (k := 34 + n) S hK hw 1 rfl (by omega) (by decide) (fl_4 z (by omega)) dX5_refutes_14 ?_
    refine lv_icmp_ge (tgt := 20) S.1 S.2.1 dX5_refutes_15 (by decide) (fun c2 => ?_) (fun c2 => ?_)
    · skip
      refine lv_aload_n S.1 S.2.1 dX5_refutes_20 rfl (lv_at hl 0 rfl) ?_
      refine gt_X5_1 (v := .ref (a 1)) S hK hw 0 rfl rfl LX5 k1 dX5_refutes_21 ?_
      refine lv_bipush (v := 34) S.1 S.2.1 dX5_refutes_24 (by decide) ?_
      refine lv_iload_n S.1 S.2.1 dX5_refutes_26 rfl (lv_at hl 1 rfl) ?_
      refine addN (a := 34) (b := n) S dX5_refutes_27 ?_
      refine lv_iload_n S.1 S.2.1 dX5_refutes_28 rfl (lv_at hl 3 rfl) ?_
      refine lv_iconst (v := 1) S.1 S.2.1 dX5_refutes_29 (by decide) ?_
      refine lv_iadd S.1 S.2.1 dX5_refutes_30 ?_
      refine ast_i (ws' := (mp G a (st z 4 (n) ((i) + (1))) o)) (k := 34 + n) S hK hw 1 rfl (by omega) (by decide) (mp_set (fu_4 z (by omega) _)) dX5_refutes_31 (fun H locs hw => ?_)
      obtain ⟨z3, ez3⟩ : ∃ zz, zz = st z 4 (n) ((i) + (1)) := ⟨_, rfl⟩
      have hw : WD G (mp G a z3 o) A s H locs := by rw [ez3]; exact hw
      refine lv_aload_n S.1 S.2.1 dX5_refutes_32 rfl (lv_at hl 0 rfl) ?_
      refine gt_X5_1 (v := .ref (a 1)) S hK hw 0 rfl rfl LX5 k1 dX5_refutes_33 ?_
      refine lv_bipush (v := 7) S.1 S.2.1 dX5_refutes_36 (by decide) ?_
      refine lv_dup2_11 S.1 S.2.1 dX5_refutes_38 rfl rfl ?_
      refine ald_i (v := z3 0 (7)) (k := 7) S hK hw 1 rfl (by omega) (by decide) (fl_0 z3 (by omega)) dX5_refutes_39 ?_
      refine lv_iconst (v := 1) S.1 S.2.1 dX5_refutes_40 (by decide) ?_
      refine lv_iadd S.1 S.2.1 dX5_refutes_41 ?_
      refine ast_i (ws' := (mp G a (st z3 0 (7) ((z3 0 (7)) + (1))) o)) (k := 7) S hK hw 1 rfl (by omega) (by decide) (mp_set (fu_0 z3 (by omega) _)) dX5_refutes_42 (fun H locs hw => ?_)
      obtain ⟨z4, ez4⟩ : ∃ zz, zz = st z3 0 (7) ((z3 0 (7)) + (1)) := ⟨_, rfl⟩
      have hw : WD G (mp G a z4 o) A s H locs := by rw [ez4]; exact hw
      refine lv_aload_n S.1 S.2.1 dX5_refutes_43 rfl (lv_at hl 0 rfl) ?_
      refine lv_iload_n S.1 S.2.1 dX5_refutes_44 rfl (lv_at hl 1 rfl) ?_
      refine lv_iload_n S.1 S.2.1 dX5_refutes_45 rfl (lv_at hl 1 rfl) ?_
      refine cl_v (va_runV (As := [.int (nI (n)), .int (nI (n))]) (rest := []) S (c_X5_changes l G a z4 o H.size (n) (n) (by omega) (by omega)) (cwV 2 S.2.2.2.2 gX5_refutes_X5_changes rfl rfl rfl hd_X5_changes ⟨by rw [hR]; exact Nat.le_of_ble_eq_true rfl, by rw [hR]; exact Nat.le_of_ble_eq_true rfl⟩) ⟨PW.blind, va_recv hK.1 hw.1 (ci := 5) (q0 := 0) rfl rfl, fun U hU hW => ⟨rfl, PW.of hK hw hU hW⟩⟩ rfl rfl hl.1 rfl (lv_room (Nat.le_of_ble_eq_true rfl)) dX5_refutes_46 ⟨Nat.zero_le _, Nat.zero_le _⟩) hw hA (fun _ => rfl) (fun z6 H locs h7 hw => ?_)
      obtain ⟨z8, o9⟩ := z6
      try dsimp only at h7 hw
      obtain ⟨ez8, qo9⟩ := h7
      rw [qo9] at hw
      refine lv_iconst (v := 1) S.1 S.2.1 dX5_refutes_49 (by decide) ?_
      exact en_z (v := (1)) ((z8, o) : St × St) hQ S hr hlk rfl hw (by have hb : slf z n x i = true := (by simp_all [slf]); subst ez8 ez4 ez3; exact ⟨by rw [hb]; rfl, by rw [rft, if_pos hb]; rfl, rfl⟩) dX5_refutes_50
    · skip
      refine lv_iconst (v := 0) S.1 S.2.1 dX5_refutes_18 (by decide) ?_
      exact en_z (v := (0)) ((z, o) : St × St) hQ S hr hlk rfl hw (by refine ⟨?_, ?_, rfl⟩ <;> simp [rft, slf, b2, c1, c2]) dX5_refutes_19

theorem hd_X5_takesIn : yX5_takesIn.cls = RX5 ∧ yX5_takesIn.cls ≠ "java/lang/invoke/MethodHandle" ∧ yX5_takesIn.cls ≠ "java/lang/invoke/VarHandle" ∧ (parseMethodDescriptor yX5_takesIn.desc).map (fun d => d.parameters.length) = some 4 := by decide +kernel
set_option maxHeartbeats 4000000 in
set_option maxRecDepth 100000 in
theorem c_X5_takesIn (l : Launch) (G : GA) (a : Nat → Nat) (z : St) (o : St) (sz : Nat) (n : Nat) (b : Nat) (x : Int32) (i : Int32) (hn : n < 8) (hb : b < 8) : Met l yX5_takesIn wsX5_takesIn ({ frames := 3, cells := 0, slots := 0, locals := 68 }) (va_Pc [.ref (a 0), .int (nI (n)), .int (nI (b)), .int (x), .int (i)] (PW G (mp G a z o) sz)) (va_Qi (fun (r : Int32) (u : St × St) => r = b2 (tkb z n b x i) ∧ u.1 = tk z n b x i ∧ u.2 = o) (fun (u : St × St) t => va_P G.1 gcl (mp G a u.1 u.2) t.heap) (va_A (mp G a z o) sz)) 0 0 (va_A (mp G a z o) sz) := by
  refine met_st (cc := cX5_takesIn) (maxL := 9) (ret := (some .boolean)) (fun A => va_Qi (fun (r : Int32) (u : St × St) => r = b2 (tkb z n b x i) ∧ u.1 = tk z n b x i ∧ u.2 = o) (fun (u : St × St) t => va_P G.1 gcl (mp G a u.1 u.2) t.heap) A) (by decide) rfl (Nat.le_of_ble_eq_true rfl) ?_
  intro p e s m args below meth c R Q A H ls hR hQ S hr hlk _ hK hsz hH hAe hA hw hl
  have hl : lv_has ls 9 [(0, .ref (a 0)), (1, .int (nI (n))), (2, .int (nI (b))), (3, .int (x)), (4, .int (i))] := hl
  have LX5 : ∀ w ∈ u_ws RX5 TX5 12, w.before args s = true := fun w h => S.2.2.2.2 w ((by decide +kernel : ∀ w ∈ u_ws RX5 TX5 12, w ∈ wsX5_takesIn) w h)
  have k1 : (Cond.fieldLink RX5 7 "GossipMembershipModel" "s" "[I").before args s = true := S.2.2.2.2 _ (by decide +kernel : (Cond.fieldLink RX5 7 "GossipMembershipModel" "s" "[I") ∈ wsX5_takesIn)
  refine lv_iload_n S.1 S.2.1 dX5_takesIn_0 rfl (lv_at hl 1 rfl) ?_
  refine lv_iload_n S.1 S.2.1 dX5_takesIn_1 rfl (lv_at hl 2 rfl) ?_
  refine brN_ne (a := n) (b := b) S (by omega) (by omega) (tgt := 14) dX5_takesIn_2 (by decide) (fun c1 => ?_) (fun c1 => ?_)
  · skip
    have hnb := c1
    refine lv_iload_n S.1 S.2.1 dX5_takesIn_14 rfl (lv_at hl 1 rfl) ?_
    refine lv_iload_n S.1 S.2.1 dX5_takesIn_15 rfl (lv_at hl 2 rfl) ?_
    refine pr_m (n := n) (b := b) S hl.1 gX5_takesIn_X5_pair ⟨by rw [hR]; exact Nat.le_of_ble_eq_true rfl, by rw [hR]; exact Nat.le_of_ble_eq_true rfl⟩ (Nat.zero_le _) (Nat.zero_le _) (Nat.le_of_ble_eq_true rfl) dX5_takesIn_16 ?_
    refine lv_istore (lv' := [(5, .int (nI (8 * n + b))), (0, .ref (a 0)), (1, .int (nI (n))), (2, .int (nI (b))), (3, .int (x)), (4, .int (i))]) S.1 S.2.1 dX5_takesIn_19 hl (by decide) rfl (fun ls hl => ?_)
    refine lv_aload_n S.1 S.2.1 dX5_takesIn_21 rfl (lv_at hl 1 rfl) ?_
    refine gt_X5_1 (v := .ref (a 1)) S hK hw 0 rfl rfl LX5 k1 dX5_takesIn_22 ?_
    refine lv_bipush (v := 42) S.1 S.2.1 dX5_takesIn_25 (by decide) ?_
    refine lv_iload S.1 S.2.1 dX5_takesIn_27 (lv_at hl 0 rfl) ?_
    refine addN (a := 42) (b := 8 * n + b) S dX5_takesIn_29 ?_
    refine ald_i (v := z 5 ((8 * n + b))) (k := 42 + (8 * n + b)) S hK hw 1 rfl (by omega) (by decide) (fl_5 z (by omega)) dX5_takesIn_30 ?_
    refine lv_istore (lv' := [(6, .int (z 5 ((8 * n + b)))), (5, .int (nI (8 * n + b))), (0, .ref (a 0)), (1, .int (nI (n))), (2, .int (nI (b))), (3, .int (x)), (4, .int (i))]) S.1 S.2.1 dX5_takesIn_31 hl (by decide) rfl (fun ls hl => ?_)
    refine lv_aload_n S.1 S.2.1 dX5_takesIn_33 rfl (lv_at hl 2 rfl) ?_
    refine gt_X5_1 (v := .ref (a 1)) S hK hw 0 rfl rfl LX5 k1 dX5_takesIn_34 ?_
    refine lv_bipush (v := 106) S.1 S.2.1 dX5_takesIn_37 (by decide) ?_
    refine lv_iload S.1 S.2.1 dX5_takesIn_39 (lv_at hl 1 rfl) ?_
    refine addN (a := 106) (b := 8 * n + b) S dX5_takesIn_41 ?_
    refine ald_i (v := z 6 ((8 * n + b))) (k := 106 + (8 * n + b)) S hK hw 1 rfl (by omega) (by decide) (fl_6 z (by omega)) dX5_takesIn_42 ?_
    refine lv_istore (lv' := [(7, .int (z 6 ((8 * n + b)))), (6, .int (z 5 ((8 * n + b)))), (5, .int (nI (8 * n + b))), (0, .ref (a 0)), (1, .int (nI (n))), (2, .int (nI (b))), (3, .int (x)), (4, .int (i))]) S.1 S.2.1 dX5_takesIn_43 hl (by decide) rfl (fun ls hl => ?_)
    have K72 : ∀  (H : Heap) (locs : List Loc) (ls : Array Slot), WD G (mp G a z o) A s H locs → lv_has ls 9 [(0, .ref (a 0)), (1, .int (nI (n))), (2, .int (nI (b))), (3, .int (x)), (4, .int (i)), (6, .int (z 5 (8 * n + b))), (7, .int (z 6 (8 * n + b)))] → W p l e R s m args below meth c H locs 0 0 Q (F0 m 72 ls [.int (b2 (wrs z (8 * n + b) x))]) := by
      intro  H locs ls  hw hl
      refine lv_istore (lv' := [(8, .int (b2 (wrs z (8 * n + b) x))), (0, .ref (a 0)), (1, .int (nI (n))), (2, .int (nI (b))), (3, .int (x)), (4, .int (i)), (6, .int (z 5 (8 * n + b))), (7, .int (z 6 (8 * n + b)))]) S.1 S.2.1 dX5_takesIn_72 hl (by decide) rfl (fun ls hl => ?_)
      refine lv_iload S.1 S.2.1 dX5_takesIn_74 (lv_at hl 6 rfl) ?_
      refine lv_if_eq (tgt := 100) S.1 S.2.1 dX5_takesIn_76 (by decide) (fun c2 => ?_) (fun c2 => ?_)
      · skip
        refine lv_aload_n S.1 S.2.1 dX5_takesIn_100 rfl (lv_at hl 1 rfl) ?_
        refine lv_iload_n S.1 S.2.1 dX5_takesIn_101 rfl (lv_at hl 2 rfl) ?_
        refine lv_iload_n S.1 S.2.1 dX5_takesIn_102 rfl (lv_at hl 3 rfl) ?_
        refine lv_iload_n S.1 S.2.1 dX5_takesIn_103 rfl (lv_at hl 4 rfl) ?_
        refine lv_iload S.1 S.2.1 dX5_takesIn_104 (lv_at hl 5 rfl) ?_
        refine cl_v (va_runV (As := [.int (nI (n)), .int (nI (b)), .int (x), .int (i)]) (rest := []) S (c_X5_becomes l G a z o H.size (n) (b) (x) (i) (by omega) (by omega)) (cwV 4 S.2.2.2.2 gX5_takesIn_X5_becomes rfl rfl rfl hd_X5_becomes ⟨by rw [hR]; exact Nat.le_of_ble_eq_true rfl, by rw [hR]; exact Nat.le_of_ble_eq_true rfl⟩) ⟨PW.blind, va_recv hK.1 hw.1 (ci := 5) (q0 := 0) rfl rfl, fun U hU hW => ⟨rfl, PW.of hK hw hU hW⟩⟩ rfl rfl hl.1 rfl (lv_room (Nat.le_of_ble_eq_true rfl)) dX5_takesIn_106 ⟨Nat.zero_le _, Nat.zero_le _⟩) hw hA (fun _ => rfl) (fun z4 H locs h5 hw => ?_)
        obtain ⟨z6, o7⟩ := z4
        try dsimp only at h5 hw
        obtain ⟨ez6, qo7⟩ := h5
        rw [qo7] at hw
        refine lv_iconst (v := 1) S.1 S.2.1 dX5_takesIn_109 (by decide) ?_
        exact en_z (v := (1)) ((z6, o) : St × St) hQ S hr hlk rfl hw (by have hb : owg z (8 * n + b) x i = true := (by first | exact owg_0 (by assumption) | exact owg_gt (by assumption) (by assumption) | exact owg_lt (by assumption) (by assumption) | exact (owg_eq (by assumption) (by assumption) (by assumption)).trans (by assumption)); have hn9 : ¬ b = n := fun e => hnb e.symm; subst ez6; refine ⟨?_, ?_, rfl⟩ <;> simp [tkb, tk, hn9, hb, b2, bec]) dX5_takesIn_110
      · skip
        refine lv_iload S.1 S.2.1 dX5_takesIn_79 (lv_at hl 5 rfl) ?_
        refine lv_iload S.1 S.2.1 dX5_takesIn_81 (lv_at hl 7 rfl) ?_
        refine lv_icmp_gt (tgt := 100) S.1 S.2.1 dX5_takesIn_83 (by decide) (fun c8 => ?_) (fun c8 => ?_)
        · skip
          refine lv_aload_n S.1 S.2.1 dX5_takesIn_100 rfl (lv_at hl 1 rfl) ?_
          refine lv_iload_n S.1 S.2.1 dX5_takesIn_101 rfl (lv_at hl 2 rfl) ?_
          refine lv_iload_n S.1 S.2.1 dX5_takesIn_102 rfl (lv_at hl 3 rfl) ?_
          refine lv_iload_n S.1 S.2.1 dX5_takesIn_103 rfl (lv_at hl 4 rfl) ?_
          refine lv_iload S.1 S.2.1 dX5_takesIn_104 (lv_at hl 5 rfl) ?_
          refine cl_v (va_runV (As := [.int (nI (n)), .int (nI (b)), .int (x), .int (i)]) (rest := []) S (c_X5_becomes l G a z o H.size (n) (b) (x) (i) (by omega) (by omega)) (cwV 4 S.2.2.2.2 gX5_takesIn_X5_becomes rfl rfl rfl hd_X5_becomes ⟨by rw [hR]; exact Nat.le_of_ble_eq_true rfl, by rw [hR]; exact Nat.le_of_ble_eq_true rfl⟩) ⟨PW.blind, va_recv hK.1 hw.1 (ci := 5) (q0 := 0) rfl rfl, fun U hU hW => ⟨rfl, PW.of hK hw hU hW⟩⟩ rfl rfl hl.1 rfl (lv_room (Nat.le_of_ble_eq_true rfl)) dX5_takesIn_106 ⟨Nat.zero_le _, Nat.zero_le _⟩) hw hA (fun _ => rfl) (fun z10 H locs h11 hw => ?_)
          obtain ⟨z12, o13⟩ := z10
          try dsimp only at h11 hw
          obtain ⟨ez12, qo13⟩ := h11
          rw [qo13] at hw
          refine lv_iconst (v := 1) S.1 S.2.1 dX5_takesIn_109 (by decide) ?_
          exact en_z (v := (1)) ((z12, o) : St × St) hQ S hr hlk rfl hw (by have hb : owg z (8 * n + b) x i = true := (by first | exact owg_0 (by assumption) | exact owg_gt (by assumption) (by assumption) | exact owg_lt (by assumption) (by assumption) | exact (owg_eq (by assumption) (by assumption) (by assumption)).trans (by assumption)); have hn9 : ¬ b = n := fun e => hnb e.symm; subst ez12; refine ⟨?_, ?_, rfl⟩ <;> simp [tkb, tk, hn9, hb, b2, bec]) dX5_takesIn_110
        · skip
          refine lv_iload S.1 S.2.1 dX5_takesIn_86 (lv_at hl 5 rfl) ?_
          refine lv_iload S.1 S.2.1 dX5_takesIn_88 (lv_at hl 7 rfl) ?_
          refine lv_icmp_lt (tgt := 98) S.1 S.2.1 dX5_takesIn_90 (by decide) (fun c14 => ?_) (fun c14 => ?_)
          · skip
            refine lv_iconst (v := 0) S.1 S.2.1 dX5_takesIn_98 (by decide) ?_
            exact en_z (v := (0)) ((z, o) : St × St) hQ S hr hlk rfl hw (by have hb : owg z (8 * n + b) x i = false := (by first | exact owg_0 (by assumption) | exact owg_gt (by assumption) (by assumption) | exact owg_lt (by assumption) (by assumption) | exact (owg_eq (by assumption) (by assumption) (by assumption)).trans (by assumption)); have hn9 : ¬ b = n := fun e => hnb e.symm; refine ⟨?_, ?_, rfl⟩ <;> simp [tkb, tk, hn9, hb, b2]) dX5_takesIn_99
          · skip
            refine lv_iload S.1 S.2.1 dX5_takesIn_93 (lv_at hl 0 rfl) ?_
            refine brB_ne (b := wrs z (8 * n + b) x) S (tgt := 100) dX5_takesIn_95 (by decide) (fun c15 => ?_) (fun c15 => ?_)
            · skip
              refine lv_aload_n S.1 S.2.1 dX5_takesIn_100 rfl (lv_at hl 1 rfl) ?_
              refine lv_iload_n S.1 S.2.1 dX5_takesIn_101 rfl (lv_at hl 2 rfl) ?_
              refine lv_iload_n S.1 S.2.1 dX5_takesIn_102 rfl (lv_at hl 3 rfl) ?_
              refine lv_iload_n S.1 S.2.1 dX5_takesIn_103 rfl (lv_at hl 4 rfl) ?_
              refine lv_iload S.1 S.2.1 dX5_takesIn_104 (lv_at hl 5 rfl) ?_
              refine cl_v (va_runV (As := [.int (nI (n)), .int (nI (b)), .int (x), .int (i)]) (rest := []) S (c_X5_becomes l G a z o H.size (n) (b) (x) (i) (by omega) (by omega)) (cwV 4 S.2.2.2.2 gX5_takesIn_X5_becomes rfl rfl rfl hd_X5_becomes ⟨by rw [hR]; exact Nat.le_of_ble_eq_true rfl, by rw [hR]; exact Nat.le_of_ble_eq_true rfl⟩) ⟨PW.blind, va_recv hK.1 hw.1 (ci := 5) (q0 := 0) rfl rfl, fun U hU hW => ⟨rfl, PW.of hK hw hU hW⟩⟩ rfl rfl hl.1 rfl (lv_room (Nat.le_of_ble_eq_true rfl)) dX5_takesIn_106 ⟨Nat.zero_le _, Nat.zero_le _⟩) hw hA (fun _ => rfl) (fun z17 H locs h18 hw => ?_)
              obtain ⟨z19, o20⟩ := z17
              try dsimp only at h18 hw
              obtain ⟨ez19, qo20⟩ := h18
              rw [qo20] at hw
              refine lv_iconst (v := 1) S.1 S.2.1 dX5_takesIn_109 (by decide) ?_
              exact en_z (v := (1)) ((z19, o) : St × St) hQ S hr hlk rfl hw (by have hb : owg z (8 * n + b) x i = true := (by first | exact owg_0 (by assumption) | exact owg_gt (by assumption) (by assumption) | exact owg_lt (by assumption) (by assumption) | exact (owg_eq (by assumption) (by assumption) (by assumption)).trans (by assumption)); have hn9 : ¬ b = n := fun e => hnb e.symm; subst ez19; refine ⟨?_, ?_, rfl⟩ <;> simp [tkb, tk, hn9, hb, b2, bec]) dX5_takesIn_110
            · skip
              refine lv_iconst (v := 0) S.1 S.2.1 dX5_takesIn_98 (by decide) ?_
              exact en_z (v := (0)) ((z, o) : St × St) hQ S hr hlk rfl hw (by have hb : owg z (8 * n + b) x i = false := (by first | exact owg_0 (by assumption) | exact owg_gt (by assumption) (by assumption) | exact owg_lt (by assumption) (by assumption) | exact (owg_eq (by assumption) (by assumption) (by assumption)).trans (by assumption)); have hn9 : ¬ b = n := fun e => hnb e.symm; refine ⟨?_, ?_, rfl⟩ <;> simp [tkb, tk, hn9, hb, b2]) dX5_takesIn_99
    refine lv_iload_n S.1 S.2.1 dX5_takesIn_45 rfl (lv_at hl 6 rfl) ?_
    refine lv_iconst (v := 2) S.1 S.2.1 dX5_takesIn_46 (by decide) ?_
    refine lv_icmp_ne (tgt := 56) S.1 S.2.1 dX5_takesIn_47 (by decide) (fun c21 => ?_) (fun c21 => ?_)
    · skip
      refine lv_iload_n S.1 S.2.1 dX5_takesIn_56 rfl (lv_at hl 6 rfl) ?_
      refine lv_iconst (v := 3) S.1 S.2.1 dX5_takesIn_57 (by decide) ?_
      refine lv_icmp_ne (tgt := 71) S.1 S.2.1 dX5_takesIn_58 (by decide) (fun c22 => ?_) (fun c22 => ?_)
      · skip
        refine lv_iconst (v := 0) S.1 S.2.1 dX5_takesIn_71 (by decide) ?_
        refine top_to (v := b2 (wrs z (8 * n + b) x)) S (by first | (simp [wrs, b2, c1, c21, c22]; done) | (simp_all [wrs, b2]; done)) ?_
        exact K72  _ _ _  hw (lv_sub hl [3, 4, 5, 6, 7, 1, 0] rfl)
      · skip
        refine lv_iload S.1 S.2.1 dX5_takesIn_61 (lv_at hl 1 rfl) ?_
        refine lv_iconst (v := 3) S.1 S.2.1 dX5_takesIn_63 (by decide) ?_
        refine lv_icmp_eq (tgt := 71) S.1 S.2.1 dX5_takesIn_64 (by decide) (fun c23 => ?_) (fun c23 => ?_)
        · skip
          refine lv_iconst (v := 0) S.1 S.2.1 dX5_takesIn_71 (by decide) ?_
          refine top_to (v := b2 (wrs z (8 * n + b) x)) S (by first | (simp [wrs, b2, c1, c21, c22, c23]; done) | (simp_all [wrs, b2]; done)) ?_
          exact K72  _ _ _  hw (lv_sub hl [3, 4, 5, 6, 7, 1, 0] rfl)
        · skip
          refine lv_iconst (v := 1) S.1 S.2.1 dX5_takesIn_67 (by decide) ?_
          refine lv_goto (tgt := 72) S.1 S.2.1 dX5_takesIn_68 (by decide) ?_
          refine top_to (v := b2 (wrs z (8 * n + b) x)) S (by first | (simp [wrs, b2, c1, c21, c22, c23]; done) | (simp_all [wrs, b2]; done)) ?_
          exact K72  _ _ _  hw (lv_sub hl [3, 4, 5, 6, 7, 1, 0] rfl)
    · skip
      refine lv_iload S.1 S.2.1 dX5_takesIn_50 (lv_at hl 1 rfl) ?_
      refine lv_iconst (v := 1) S.1 S.2.1 dX5_takesIn_52 (by decide) ?_
      refine lv_icmp_eq (tgt := 67) S.1 S.2.1 dX5_takesIn_53 (by decide) (fun c24 => ?_) (fun c24 => ?_)
      · skip
        refine lv_iconst (v := 1) S.1 S.2.1 dX5_takesIn_67 (by decide) ?_
        refine lv_goto (tgt := 72) S.1 S.2.1 dX5_takesIn_68 (by decide) ?_
        refine top_to (v := b2 (wrs z (8 * n + b) x)) S (by first | (simp [wrs, b2, c1, c21, c24]; done) | (simp_all [wrs, b2]; done)) ?_
        exact K72  _ _ _  hw (lv_sub hl [3, 4, 5, 6, 7, 1, 0] rfl)
      · skip
        refine lv_iload_n S.1 S.2.1 dX5_takesIn_56 rfl (lv_at hl 6 rfl) ?_
        refine lv_iconst (v := 3) S.1 S.2.1 dX5_takesIn_57 (by decide) ?_
        refine lv_icmp_ne (tgt := 71) S.1 S.2.1 dX5_takesIn_58 (by decide) (fun c25 => ?_) (fun c25 => ?_)
        · skip
          refine lv_iconst (v := 0) S.1 S.2.1 dX5_takesIn_71 (by decide) ?_
          refine top_to (v := b2 (wrs z (8 * n + b) x)) S (by first | (simp [wrs, b2, c1, c21, c24, c25]; done) | (simp_all [wrs, b2]; done)) ?_
          exact K72  _ _ _  hw (lv_sub hl [3, 4, 5, 6, 7, 1, 0] rfl)
        · skip
          refine lv_iload S.1 S.2.1 dX5_takesIn_61 (lv_at hl 1 rfl) ?_
          refine lv_iconst (v := 3) S.1 S.2.1 dX5_takesIn_63 (by decide) ?_
          refine lv_icmp_eq (tgt := 71) S.1 S.2.1 dX5_takesIn_64 (by decide) (fun c26 => ?_) (fun c26 => ?_)
          · skip
            refine lv_iconst (v := 0) S.1 S.2.1 dX5_takesIn_71 (by decide) ?_
            refine top_to (v := b2 (wrs z (8 * n + b) x)) S (by first | (simp [wrs, b2, c1, c21, c24, c25, c26]; done) | (simp_all [wrs, b2]; done)) ?_
            exact K72  _ _ _  hw (lv_sub hl [3, 4, 5, 6, 7, 1, 0] rfl)
          · skip
            refine lv_iconst (v := 1) S.1 S.2.1 dX5_takesIn_67 (by decide) ?_
            refine lv_goto (tgt := 72) S.1 S.2.1 dX5_takesIn_68 (by decide) ?_
            refine top_to (v := b2 (wrs z (8 * n + b) x)) S (by first | (simp [wrs, b2, c1, c21, c24, c25, c26]; done) | (simp_all [wrs, b2]; done)) ?_
            exact K72  _ _ _  hw (lv_sub hl [3, 4, 5, 6, 7, 1, 0] rfl)
  · skip
    refine lv_aload_n S.1 S.2.1 dX5_takesIn_5 rfl (lv_at hl 0 rfl) ?_
    refine lv_iload_n S.1 S.2.1 dX5_takesIn_6 rfl (lv_at hl 1 rfl) ?_
    refine lv_iload_n S.1 S.2.1 dX5_takesIn_7 rfl (lv_at hl 3 rfl) ?_
    refine lv_iload S.1 S.2.1 dX5_takesIn_8 (lv_at hl 4 rfl) ?_
    refine cl_i (va_runV (As := [.int (nI (n)), .int (x), .int (i)]) (rest := []) S (c_X5_refutes l G a z o H.size (n) (x) (i) (by omega)) (cwV 3 S.2.2.2.2 gX5_takesIn_X5_refutes rfl rfl rfl hd_X5_refutes ⟨by rw [hR]; exact Nat.le_of_ble_eq_true rfl, by rw [hR]; exact Nat.le_of_ble_eq_true rfl⟩) ⟨PW.blind, va_recv hK.1 hw.1 (ci := 5) (q0 := 0) rfl rfl, fun U hU hW => ⟨rfl, PW.of hK hw hU hW⟩⟩ rfl rfl hl.1 rfl (lv_room (Nat.le_of_ble_eq_true rfl)) dX5_takesIn_10 ⟨Nat.zero_le _, Nat.zero_le _⟩) hw hA (fun _ => rfl) (fun r27 z28 H locs h29 hw => ?_)
    obtain ⟨z30, o31⟩ := z28
    try dsimp only at h29 hw
    obtain ⟨rfl, ez30, qo31⟩ := h29
    rw [qo31] at hw
    exact en_z (v := (b2 (slf z (n) (x) (i)))) ((z30, o) : St × St) hQ S hr hlk (b2_narrow _) hw (by have hb9 : b = n := c1.symm; subst hb9; exact ⟨by rw [tkb_self], by rw [tk_self]; exact ez30, rfl⟩) dX5_takesIn_13

theorem hd_X5_mostCounted : yX5_mostCounted.cls = RX5 ∧ yX5_mostCounted.cls ≠ "java/lang/invoke/MethodHandle" ∧ yX5_mostCounted.cls ≠ "java/lang/invoke/VarHandle" ∧ (parseMethodDescriptor yX5_mostCounted.desc).map (fun d => d.parameters.length) = some 2 := by decide +kernel
set_option maxHeartbeats 4000000 in
set_option maxRecDepth 100000 in
theorem c_X5_mostCounted (l : Launch) (G : GA) (a : Nat → Nat) (z : St) (o : St) (sz : Nat) (n : Nat) (t : Nat → Bool) (hn : n < 8) : Met l yX5_mostCounted wsX5_mostCounted ({ frames := 1, cells := 0, slots := 0, locals := 21 }) (va_Pc [.ref (a 0), .int (nI (n)), .int (nI (mk t 8))] (PW G (mp G a z o) sz)) (va_Qi (fun (r : Int32) (u : St × St) => r = oI (mu z n t 8) ∧ u.1 = z ∧ u.2 = o) (fun (u : St × St) t => va_P G.1 gcl (mp G a u.1 u.2) t.heap) (va_A (mp G a z o) sz)) 0 0 (va_A (mp G a z o) sz) := by
  refine met_st (cc := cX5_mostCounted) (maxL := 6) (ret := (some .int)) (fun A => va_Qi (fun (r : Int32) (u : St × St) => r = oI (mu z n t 8) ∧ u.1 = z ∧ u.2 = o) (fun (u : St × St) t => va_P G.1 gcl (mp G a u.1 u.2) t.heap) A) (by decide) rfl (Nat.le_of_ble_eq_true rfl) ?_
  intro p e s m args below meth c R Q A H ls hR hQ S hr hlk _ hK hsz hH hAe hA hw hl
  have hl : lv_has ls 6 [(0, .ref (a 0)), (1, .int (nI (n))), (2, .int (nI (mk t 8)))] := hl
  have LX5 : ∀ w ∈ u_ws RX5 TX5 12, w.before args s = true := fun w h => S.2.2.2.2 w ((by decide +kernel : ∀ w ∈ u_ws RX5 TX5 12, w ∈ wsX5_mostCounted) w h)
  have k1 : (Cond.fieldLink RX5 7 "GossipMembershipModel" "s" "[I").before args s = true := S.2.2.2.2 _ (by decide +kernel : (Cond.fieldLink RX5 7 "GossipMembershipModel" "s" "[I") ∈ wsX5_mostCounted)
  refine lv_iconst (v := (-1)) S.1 S.2.1 dX5_mostCounted_0 (by decide) ?_
  refine lv_istore_n (lv' := [(3, .int (-1)), (0, .ref (a 0)), (1, .int (nI (n))), (2, .int (nI (mk t 8)))]) S.1 S.2.1 dX5_mostCounted_1 rfl hl (by decide) rfl (fun ls hl => ?_)
  refine lv_iconst (v := 0) S.1 S.2.1 dX5_mostCounted_2 (by decide) ?_
  refine lv_istore (lv' := [(4, .int 0), (3, .int (-1)), (0, .ref (a 0)), (1, .int (nI (n))), (2, .int (nI (mk t 8)))]) S.1 S.2.1 dX5_mostCounted_3 hl (by decide) rfl (fun ls hl => ?_)
  have K5 : ∀ (fu : Nat) (k : Nat) (H : Heap) (locs : List Loc) (ls : Array Slot), 8 - k < fu → k ≤ 8 → WD G (mp G a z o) A s H locs → lv_has ls 6 [(0, .ref (a 0)), (1, .int (nI (n))), (2, .int (nI (mk t 8))), (3, .int (oI (mu z n t k))), (4, .int (nI (k)))] → W p l e R s m args below meth c H locs 0 0 Q (F0 m 5 ls []) := by
    intro fu
    induction fu with
    | zero => exact fun _ _ _ _ h => absurd h (Nat.not_lt_zero _)
    | succ fu ih5 =>
      intro k H locs ls hm5 hk hw hl
      refine lv_iload S.1 S.2.1 dX5_mostCounted_5 (lv_at hl 4 rfl) ?_
      refine lv_bipush (v := 8) S.1 S.2.1 dX5_mostCounted_7 (by decide) ?_
      refine brN_ge (a := k) (b := 8) S (by omega) (by omega) (tgt := 76) dX5_mostCounted_9 (by decide) (fun c1 => ?_) (fun c1 => ?_)
      · skip
        have hk9 : k = 8 := by omega
        subst hk9
        refine lv_iload_n S.1 S.2.1 dX5_mostCounted_76 rfl (lv_at hl 3 rfl) ?_
        exact en_i (v := (oI (mu z n t 8))) ((z, o) : St × St) hQ S hr hlk hw (by exact ⟨rfl, rfl, rfl⟩) dX5_mostCounted_77
      · skip
        refine lv_aload_n S.1 S.2.1 dX5_mostCounted_12 rfl (lv_at hl 0 rfl) ?_
        refine gt_X5_1 (v := .ref (a 1)) S hK hw 0 rfl rfl LX5 k1 dX5_mostCounted_13 ?_
        refine lv_sipush (v := 234) S.1 S.2.1 dX5_mostCounted_16 (by decide) ?_
        refine lv_iload_n S.1 S.2.1 dX5_mostCounted_19 rfl (lv_at hl 1 rfl) ?_
        refine lv_iload S.1 S.2.1 dX5_mostCounted_20 (lv_at hl 4 rfl) ?_
        refine pr_m (n := n) (b := k) S hl.1 gX5_mostCounted_X5_pair ⟨by rw [hR]; exact Nat.le_of_ble_eq_true rfl, by rw [hR]; exact Nat.le_of_ble_eq_true rfl⟩ (Nat.zero_le _) (Nat.zero_le _) (Nat.le_of_ble_eq_true rfl) dX5_mostCounted_22 ?_
        refine addN (a := 234) (b := 8 * n + k) S dX5_mostCounted_25 ?_
        refine ald_i (v := z 8 ((8 * n + k))) (k := 234 + (8 * n + k)) S hK hw 1 rfl (by omega) (by decide) (fl_8 z (by omega)) dX5_mostCounted_26 ?_
        refine lv_istore (lv' := [(5, .int (z 8 ((8 * n + k)))), (0, .ref (a 0)), (1, .int (nI (n))), (2, .int (nI (mk t 8))), (3, .int (oI (mu z n t k))), (4, .int (nI (k)))]) S.1 S.2.1 dX5_mostCounted_27 hl (by decide) rfl (fun ls hl => ?_)
        refine lv_iload S.1 S.2.1 dX5_mostCounted_29 (lv_at hl 0 rfl) ?_
        refine lv_if_le (tgt := 70) S.1 S.2.1 dX5_mostCounted_31 (by decide) (fun c2 => ?_) (fun c2 => ?_)
        · skip
          have hm9 : mu z n t (k + 1) = mu z n t k := by first | exact mu_le0 (by assumption) | exact mu_bit (by assumption)
          have hl : lv_has ls 6 [(5, .int (z 8 ((8 * n + k)))), (0, .ref (a 0)), (1, .int (nI (n))), (2, .int (nI (mk t 8))), (3, .int (oI (mu z n t (k + 1)))), (4, .int (nI (k)))] := by rw [hm9]; exact hl
          refine lv_iinc (v := (nI (k + 1))) (lv' := [(4, .int (nI (k + 1))), (5, .int (z 8 ((8 * n + k)))), (0, .ref (a 0)), (1, .int (nI (n))), (2, .int (nI (mk t 8))), (3, .int (oI (mu z n t (k + 1))))]) S.1 S.2.1 dX5_mostCounted_70 hl (k := 5) rfl (nI_add _ _) (by decide) rfl (fun ls hl => ?_)
          refine lv_goto (tgt := 5) S.1 S.2.1 dX5_mostCounted_73 (by decide) ?_
          exact ih5 (k + 1) _ _ _ (by omega) (by omega) hw (lv_sub hl [2, 3, 4, 5, 0] rfl)
        · skip
          refine lv_iload_n S.1 S.2.1 dX5_mostCounted_34 rfl (lv_at hl 3 rfl) ?_
          refine lv_iload S.1 S.2.1 dX5_mostCounted_35 (lv_at hl 5 rfl) ?_
          refine lv_ishr S.1 S.2.1 dX5_mostCounted_37 ?_
          refine lv_iconst (v := 1) S.1 S.2.1 dX5_mostCounted_38 (by decide) ?_
          refine iand_to (v := b2 (t (k))) S (mk_sh t (by omega)) dX5_mostCounted_39 ?_
          refine brB_ne (b := t (k)) S (tgt := 70) dX5_mostCounted_40 (by decide) (fun c3 => ?_) (fun c3 => ?_)
          · skip
            have hm9 : mu z n t (k + 1) = mu z n t k := by first | exact mu_le0 (by assumption) | exact mu_bit (by assumption)
            have hl : lv_has ls 6 [(5, .int (z 8 ((8 * n + k)))), (0, .ref (a 0)), (1, .int (nI (n))), (2, .int (nI (mk t 8))), (3, .int (oI (mu z n t (k + 1)))), (4, .int (nI (k)))] := by rw [hm9]; exact hl
            refine lv_iinc (v := (nI (k + 1))) (lv' := [(4, .int (nI (k + 1))), (5, .int (z 8 ((8 * n + k)))), (0, .ref (a 0)), (1, .int (nI (n))), (2, .int (nI (mk t 8))), (3, .int (oI (mu z n t (k + 1))))]) S.1 S.2.1 dX5_mostCounted_70 hl (k := 5) rfl (nI_add _ _) (by decide) rfl (fun ls hl => ?_)
            refine lv_goto (tgt := 5) S.1 S.2.1 dX5_mostCounted_73 (by decide) ?_
            exact ih5 (k + 1) _ _ _ (by omega) (by omega) hw (lv_sub hl [2, 3, 4, 5, 0] rfl)
          · skip
            refine lv_iload_n S.1 S.2.1 dX5_mostCounted_43 rfl (lv_at hl 4 rfl) ?_
            refine lv_iconst (v := (-1)) S.1 S.2.1 dX5_mostCounted_44 (by decide) ?_
            refine lv_icmp_eq (tgt := 67) S.1 S.2.1 dX5_mostCounted_45 (by decide) (fun c4 => ?_) (fun c4 => ?_)
            · skip
              have hn9 := oI_none (fun y9 h9 => Nat.lt_of_lt_of_le (mu_lt _ _ _ _ _ h9) (by omega)) c4
              refine lv_iload S.1 S.2.1 dX5_mostCounted_67 (lv_at hl 5 rfl) ?_
              refine lv_istore_n (lv' := [(3, .int (nI (k))), (5, .int (z 8 ((8 * n + k)))), (0, .ref (a 0)), (1, .int (nI (n))), (2, .int (nI (mk t 8))), (4, .int (nI (k)))]) S.1 S.2.1 dX5_mostCounted_69 rfl hl (by decide) rfl (fun ls hl => ?_)
              have hm9 : mu z n t (k + 1) = some k := by first | exact mu_first (by assumption) (by assumption) (by assumption) | exact mu_yes hy9 (by assumption) (by assumption)
              have hl : lv_has ls 6 [(3, .int (oI (mu z n t (k + 1)))), (5, .int (z 8 ((8 * n + k)))), (0, .ref (a 0)), (1, .int (nI (n))), (2, .int (nI (mk t 8))), (4, .int (nI (k)))] := by rw [hm9]; exact hl
              refine lv_iinc (v := (nI (k + 1))) (lv' := [(4, .int (nI (k + 1))), (3, .int (oI (mu z n t (k + 1)))), (5, .int (z 8 ((8 * n + k)))), (0, .ref (a 0)), (1, .int (nI (n))), (2, .int (nI (mk t 8)))]) S.1 S.2.1 dX5_mostCounted_70 hl (k := 5) rfl (nI_add _ _) (by decide) rfl (fun ls hl => ?_)
              refine lv_goto (tgt := 5) S.1 S.2.1 dX5_mostCounted_73 (by decide) ?_
              exact ih5 (k + 1) _ _ _ (by omega) (by omega) hw (lv_sub hl [3, 4, 5, 1, 0] rfl)
            · skip
              obtain ⟨y, hy9⟩ := oI_some c4
              have hy8 := mu_lt _ _ _ _ _ hy9
              have hl : lv_has ls 6 [(5, .int (z 8 ((8 * n + k)))), (0, .ref (a 0)), (1, .int (nI (n))), (2, .int (nI (mk t 8))), (3, .int (nI (y))), (4, .int (nI (k)))] := by rw [hy9] at hl; exact hl
              refine lv_iload S.1 S.2.1 dX5_mostCounted_48 (lv_at hl 0 rfl) ?_
              refine lv_aload_n S.1 S.2.1 dX5_mostCounted_50 rfl (lv_at hl 1 rfl) ?_
              refine gt_X5_1 (v := .ref (a 1)) S hK hw 0 rfl rfl LX5 k1 dX5_mostCounted_51 ?_
              refine lv_sipush (v := 234) S.1 S.2.1 dX5_mostCounted_54 (by decide) ?_
              refine lv_iload_n S.1 S.2.1 dX5_mostCounted_57 rfl (lv_at hl 2 rfl) ?_
              refine lv_iload_n S.1 S.2.1 dX5_mostCounted_58 rfl (lv_at hl 4 rfl) ?_
              refine pr_m (n := n) (b := y) S hl.1 gX5_mostCounted_X5_pair ⟨by rw [hR]; exact Nat.le_of_ble_eq_true rfl, by rw [hR]; exact Nat.le_of_ble_eq_true rfl⟩ (Nat.zero_le _) (Nat.zero_le _) (Nat.le_of_ble_eq_true rfl) dX5_mostCounted_59 ?_
              refine addN (a := 234) (b := 8 * n + y) S dX5_mostCounted_62 ?_
              refine ald_i (v := z 8 ((8 * n + y))) (k := 234 + (8 * n + y)) S hK hw 1 rfl (by omega) (by decide) (fl_8 z (by omega)) dX5_mostCounted_63 ?_
              refine lv_icmp_le (tgt := 70) S.1 S.2.1 dX5_mostCounted_64 (by decide) (fun c5 => ?_) (fun c5 => ?_)
              · skip
                have hm9 : mu z n t (k + 1) = some y := mu_not hy9 (by assumption)
                have hl : lv_has ls 6 [(5, .int (z 8 ((8 * n + k)))), (0, .ref (a 0)), (1, .int (nI (n))), (2, .int (nI (mk t 8))), (3, .int (oI (mu z n t (k + 1)))), (4, .int (nI (k)))] := by rw [hm9]; exact hl
                refine lv_iinc (v := (nI (k + 1))) (lv' := [(4, .int (nI (k + 1))), (5, .int (z 8 ((8 * n + k)))), (0, .ref (a 0)), (1, .int (nI (n))), (2, .int (nI (mk t 8))), (3, .int (oI (mu z n t (k + 1))))]) S.1 S.2.1 dX5_mostCounted_70 hl (k := 5) rfl (nI_add _ _) (by decide) rfl (fun ls hl => ?_)
                refine lv_goto (tgt := 5) S.1 S.2.1 dX5_mostCounted_73 (by decide) ?_
                exact ih5 (k + 1) _ _ _ (by omega) (by omega) hw (lv_sub hl [2, 3, 4, 5, 0] rfl)
              · skip
                refine lv_iload S.1 S.2.1 dX5_mostCounted_67 (lv_at hl 5 rfl) ?_
                refine lv_istore_n (lv' := [(3, .int (nI (k))), (5, .int (z 8 ((8 * n + k)))), (0, .ref (a 0)), (1, .int (nI (n))), (2, .int (nI (mk t 8))), (4, .int (nI (k)))]) S.1 S.2.1 dX5_mostCounted_69 rfl hl (by decide) rfl (fun ls hl => ?_)
                have hm9 : mu z n t (k + 1) = some k := by first | exact mu_first (by assumption) (by assumption) (by assumption) | exact mu_yes hy9 (by assumption) (by assumption)
                have hl : lv_has ls 6 [(3, .int (oI (mu z n t (k + 1)))), (5, .int (z 8 ((8 * n + k)))), (0, .ref (a 0)), (1, .int (nI (n))), (2, .int (nI (mk t 8))), (4, .int (nI (k)))] := by rw [hm9]; exact hl
                refine lv_iinc (v := (nI (k + 1))) (lv' := [(4, .int (nI (k + 1))), (3, .int (oI (mu z n t (k + 1)))), (5, .int (z 8 ((8 * n + k)))), (0, .ref (a 0)), (1, .int (nI (n))), (2, .int (nI (mk t 8)))]) S.1 S.2.1 dX5_mostCounted_70 hl (k := 5) rfl (nI_add _ _) (by decide) rfl (fun ls hl => ?_)
                refine lv_goto (tgt := 5) S.1 S.2.1 dX5_mostCounted_73 (by decide) ?_
                exact ih5 (k + 1) _ _ _ (by omega) (by omega) hw (lv_sub hl [3, 4, 5, 1, 0] rfl)
  exact K5 (9) (0) _ _ _ (by omega) (by omega) hw (lv_sub hl [2, 3, 4, 1, 0] rfl)

theorem hd_X5_draws : yX5_draws.cls = RX5 ∧ yX5_draws.cls ≠ "java/lang/invoke/MethodHandle" ∧ yX5_draws.cls ≠ "java/lang/invoke/VarHandle" ∧ (parseMethodDescriptor yX5_draws.desc).map (fun d => d.parameters.length) = some 1 := by decide +kernel
set_option maxHeartbeats 4000000 in
set_option maxRecDepth 100000 in
theorem c_X5_draws (l : Launch) (G : GA) (a : Nat → Nat) (z : St) (o : St) (sz : Nat) (cn : Nat) (hcn : cn < 9) (iz : Inv z) (hc : 0 < cn) : Met l yX5_draws wsX5_draws ({ frames := 0, cells := 0, slots := 0, locals := 0 }) (va_Pc [.ref (a 0), .int (nI (cn))] (PW G (mp G a z o) sz)) (va_Qi (fun (r : Int32) (u : St × St) => r = nI ((sd (z 0 1) / 256 % cn)) ∧ u.1 = st z 0 1 (nI (sd (z 0 1))) ∧ u.2 = o) (fun (u : St × St) t => va_P G.1 gcl (mp G a u.1 u.2) t.heap) (va_A (mp G a z o) sz)) 0 0 (va_A (mp G a z o) sz) := by
  refine met_st (cc := cX5_draws) (maxL := 4) (ret := (some .int)) (fun A => va_Qi (fun (r : Int32) (u : St × St) => r = nI ((sd (z 0 1) / 256 % cn)) ∧ u.1 = st z 0 1 (nI (sd (z 0 1))) ∧ u.2 = o) (fun (u : St × St) t => va_P G.1 gcl (mp G a u.1 u.2) t.heap) A) (by decide) rfl (Nat.le_of_ble_eq_true rfl) ?_
  intro p e s m args below meth c R Q A H ls hR hQ S hr hlk _ hK hsz hH hAe hA hw hl
  have hl : lv_has ls 4 [(0, .ref (a 0)), (1, .int (nI (cn)))] := hl
  have LX5 : ∀ w ∈ u_ws RX5 TX5 12, w.before args s = true := fun w h => S.2.2.2.2 w ((by decide +kernel : ∀ w ∈ u_ws RX5 TX5 12, w ∈ wsX5_draws) w h)
  have k1 : (Cond.fieldLink RX5 7 "GossipMembershipModel" "s" "[I").before args s = true := S.2.2.2.2 _ (by decide +kernel : (Cond.fieldLink RX5 7 "GossipMembershipModel" "s" "[I") ∈ wsX5_draws)
  have k2 : (Cond.constantLong RX5 62 (1103515245)).before args s = true := S.2.2.2.2 _ (by decide +kernel : (Cond.constantLong RX5 62 (1103515245)) ∈ wsX5_draws)
  have k3 : (Cond.constantLong RX5 64 (12345)).before args s = true := S.2.2.2.2 _ (by decide +kernel : (Cond.constantLong RX5 64 (12345)) ∈ wsX5_draws)
  have k4 : (Cond.constantLong RX5 66 (2147483648)).before args s = true := S.2.2.2.2 _ (by decide +kernel : (Cond.constantLong RX5 66 (2147483648)) ∈ wsX5_draws)
  have k5 : (Cond.constantLong RX5 68 (256)).before args s = true := S.2.2.2.2 _ (by decide +kernel : (Cond.constantLong RX5 68 (256)) ∈ wsX5_draws)
  obtain ⟨w, hw31, hsd⟩ := nI_of iz.2.2.2.2.2.1
  have hsd9 : sd (z 0 1) = (w * 1103515245 + 12345) % 2147483648 := by rw [hsd, sd, nI_clamp hw31]
  refine lv_aload_n S.1 S.2.1 dX5_draws_0 rfl (lv_at hl 0 rfl) ?_
  refine gt_X5_1 (v := .ref (a 1)) S hK hw 0 rfl rfl LX5 k1 dX5_draws_1 ?_
  refine lv_iconst (v := 1) S.1 S.2.1 dX5_draws_4 (by decide) ?_
  refine ald_i (v := z 0 (1)) (k := 1) S hK hw 1 rfl (by omega) (by decide) (fl_0 z (by omega)) dX5_draws_5 ?_
  refine lv_i2l (v := lN w) S.1 S.2.1 dX5_draws_6 (by rw [hsd]; exact nI_l hw31) ?_
  refine lv_ldc2 (v := lN 1103515245) S.1 S.2.1 S.2.2.2.1 k2 dX5_draws_7 ?_
  refine lmul_to (v := lN (w * 1103515245)) S (lN_mul _ _) dX5_draws_10 ?_
  refine lv_ldc2 (v := lN 12345) S.1 S.2.1 S.2.2.2.1 k3 dX5_draws_11 ?_
  refine ladd_to (v := lN (w * 1103515245 + 12345)) S (lN_add _ _) dX5_draws_14 ?_
  refine lv_ldc2 (v := lN 2147483648) S.1 S.2.1 S.2.2.2.1 k4 dX5_draws_15 ?_
  refine lrem_to (v := lN ((w * 1103515245 + 12345) % 2147483648)) S (by decide) (pk_lRem (by omega) (by omega) (by omega)) dX5_draws_18 ?_
  refine lv_lstore_n (lv' := [(2, .long (lN ((w * 1103515245 + 12345) % 2147483648))), (0, .ref (a 0)), (1, .int (nI (cn)))]) S.1 S.2.1 dX5_draws_19 rfl hl (by decide) rfl (fun ls hl => ?_)
  refine lv_aload_n S.1 S.2.1 dX5_draws_20 rfl (lv_at hl 1 rfl) ?_
  refine gt_X5_1 (v := .ref (a 1)) S hK hw 0 rfl rfl LX5 k1 dX5_draws_21 ?_
  refine lv_iconst (v := 1) S.1 S.2.1 dX5_draws_24 (by decide) ?_
  refine lv_lload_n S.1 S.2.1 dX5_draws_25 rfl (lv_at hl 0 rfl) ?_
  refine lv_l2i (v := nI ((w * 1103515245 + 12345) % 2147483648)) S.1 S.2.1 dX5_draws_26 (lN_i _) ?_
  refine ast_i (ws' := (mp G a (st z 0 (1) (nI ((w * 1103515245 + 12345) % 2147483648))) o)) (k := 1) S hK hw 1 rfl (by omega) (by decide) (mp_set (fu_0 z (by omega) _)) dX5_draws_27 (fun H locs hw => ?_)
  obtain ⟨z1, ez1⟩ : ∃ zz, zz = st z 0 (1) (nI ((w * 1103515245 + 12345) % 2147483648)) := ⟨_, rfl⟩
  have hw : WD G (mp G a z1 o) A s H locs := by rw [ez1]; exact hw
  refine lv_lload_n S.1 S.2.1 dX5_draws_28 rfl (lv_at hl 0 rfl) ?_
  refine lv_ldc2 (v := lN 256) S.1 S.2.1 S.2.2.2.1 k5 dX5_draws_29 ?_
  refine ldiv_to (v := lN ((w * 1103515245 + 12345) % 2147483648 / 256)) S (by decide) (pk_lDiv (a := (w * 1103515245 + 12345) % 2147483648) (b := 256) (by omega) (by omega) (by omega)) dX5_draws_32 ?_
  refine lv_iload_n S.1 S.2.1 dX5_draws_33 rfl (lv_at hl 2 rfl) ?_
  refine lv_i2l (v := lN cn) S.1 S.2.1 dX5_draws_34 (nI_l (by omega)) ?_
  refine lrem_to (v := lN ((w * 1103515245 + 12345) % 2147483648 / 256 % cn)) S (by intro h9; have := (lN_eq (a := cn) (b := 0) (by omega) (by omega)).mp h9; omega) (pk_lRem (a := (w * 1103515245 + 12345) % 2147483648 / 256) (b := cn) (by omega) (by omega) (by omega)) dX5_draws_35 ?_
  refine lv_l2i (v := nI ((w * 1103515245 + 12345) % 2147483648 / 256 % cn)) S.1 S.2.1 dX5_draws_36 (lN_i _) ?_
  exact en_i (v := (nI ((w * 1103515245 + 12345) % 2147483648 / 256 % cn))) ((z1, o) : St × St) hQ S hr hlk hw (by refine ⟨by rw [hsd9], ?_, rfl⟩; rw [hsd9]; exact ez1) dX5_draws_37

theorem hd_X5_drawn : yX5_drawn.cls = RX5 ∧ yX5_drawn.cls ≠ "java/lang/invoke/MethodHandle" ∧ yX5_drawn.cls ≠ "java/lang/invoke/VarHandle" ∧ (parseMethodDescriptor yX5_drawn.desc).map (fun d => d.parameters.length) = some 1 := by decide +kernel
set_option maxHeartbeats 4000000 in
set_option maxRecDepth 100000 in
theorem c_X5_drawn (l : Launch) (G : GA) (a : Nat → Nat) (z : St) (o : St) (sz : Nat) (f : Nat → Bool) (iz : Inv z) (hf : ¬ cnt f 8 = 0) : Met l yX5_drawn wsX5_drawn ({ frames := 1, cells := 0, slots := 0, locals := 23 }) (va_Pc [.ref (a 0), .int (nI (mk f 8))] (PW G (mp G a z o) sz)) (va_Qi (fun (r : Int32) (u : St × St) => r = nI ((nth f (sd (z 0 1) / 256 % cnt f 8) 8)) ∧ u.1 = dz z f ∧ u.2 = o) (fun (u : St × St) t => va_P G.1 gcl (mp G a u.1 u.2) t.heap) (va_A (mp G a z o) sz)) 0 0 (va_A (mp G a z o) sz) := by
  refine met_st (cc := cX5_drawn) (maxL := 4) (ret := (some .int)) (fun A => va_Qi (fun (r : Int32) (u : St × St) => r = nI ((nth f (sd (z 0 1) / 256 % cnt f 8) 8)) ∧ u.1 = dz z f ∧ u.2 = o) (fun (u : St × St) t => va_P G.1 gcl (mp G a u.1 u.2) t.heap) A) (by decide) rfl (Nat.le_of_ble_eq_true rfl) ?_
  intro p e s m args below meth c R Q A H ls hR hQ S hr hlk _ hK hsz hH hAe hA hw hl
  have hl : lv_has ls 4 [(0, .ref (a 0)), (1, .int (nI (mk f 8)))] := hl
  have hcn := cnt_le f 8
  refine lv_aload_n S.1 S.2.1 dX5_drawn_0 rfl (lv_at hl 0 rfl) ?_
  refine lv_iload_n S.1 S.2.1 dX5_drawn_1 rfl (lv_at hl 1 rfl) ?_
  refine vp_callSi (va_runS (As := [.int (nI (mk f 8))]) (rest := [.ref (a 0)]) S (c_X5_bits l f ) (va_cwS 1 S.2.2.2.2 gX5_drawn_X5_bits rfl rfl rfl hd_X5_bits ⟨by rw [hR]; exact Nat.le_of_ble_eq_true rfl, by rw [hR]; exact Nat.le_of_ble_eq_true rfl⟩) ⟨blind_T, fun U hU hW => ⟨rfl, trivial⟩⟩ rfl rfl hl.1 rfl (lv_room (Nat.le_of_ble_eq_true rfl)) dX5_drawn_2 ⟨Nat.zero_le _, Nat.zero_le _⟩).run (fun r1 h2 => ?_)
  subst h2
  refine cl_i (va_runV (As := [.int (nI (cnt f 8))]) (rest := []) S (c_X5_draws l G a z o H.size (cnt f 8) (by omega) (by exact iz) (by omega)) (cwV 1 S.2.2.2.2 gX5_drawn_X5_draws rfl rfl rfl hd_X5_draws ⟨by rw [hR]; exact Nat.le_of_ble_eq_true rfl, by rw [hR]; exact Nat.le_of_ble_eq_true rfl⟩) ⟨PW.blind, va_recv hK.1 hw.1 (ci := 5) (q0 := 0) rfl rfl, fun U hU hW => ⟨rfl, PW.of hK hw hU hW⟩⟩ rfl rfl hl.1 rfl (lv_room (Nat.le_of_ble_eq_true rfl)) dX5_drawn_5 ⟨Nat.zero_le _, Nat.zero_le _⟩) hw hA (fun _ => rfl) (fun r3 z4 H locs h5 hw => ?_)
  obtain ⟨z6, o7⟩ := z4
  try dsimp only at h5 hw
  obtain ⟨rfl, ez6, qo7⟩ := h5
  rw [qo7] at hw
  have iz6 : Inv z6 := by rw [ez6]; exact inv_s iz (nI_pos (sd_lt _))
  obtain ⟨i, hi⟩ : ∃ i, i = sd (z 0 1) / 256 % cnt f 8 := ⟨_, rfl⟩
  rw [← hi]
  have hi8 : i < cnt f 8 := by rw [hi]; exact Nat.mod_lt _ (by omega)
  refine lv_istore_n (lv' := [(2, .int (nI (i))), (0, .ref (a 0)), (1, .int (nI (mk f 8)))]) S.1 S.2.1 dX5_drawn_8 rfl hl (by decide) rfl (fun ls hl => ?_)
  refine lv_iconst (v := 0) S.1 S.2.1 dX5_drawn_9 (by decide) ?_
  refine lv_istore_n (lv' := [(3, .int 0), (2, .int (nI (i))), (0, .ref (a 0)), (1, .int (nI (mk f 8)))]) S.1 S.2.1 dX5_drawn_10 rfl hl (by decide) rfl (fun ls hl => ?_)
  have K11 : ∀ (fu : Nat) (k : Nat) (H : Heap) (locs : List Loc) (ls : Array Slot), 8 - k < fu → k < 8 → cnt f k ≤ i → WD G (mp G a z6 o) A s H locs → lv_has ls 4 [(0, .ref (a 0)), (1, .int (nI (mk f 8))), (2, .int (nI (i - cnt f k))), (3, .int (nI (k)))] → W p l e R s m args below meth c H locs 0 0 Q (F0 m 11 ls []) := by
    intro fu
    induction fu with
    | zero => exact fun _ _ _ _ h => absurd h (Nat.not_lt_zero _)
    | succ fu ih11 =>
      intro k H locs ls hm11 hk hci hw hl
      refine lv_iload_n S.1 S.2.1 dX5_drawn_11 rfl (lv_at hl 1 rfl) ?_
      refine lv_iload_n S.1 S.2.1 dX5_drawn_12 rfl (lv_at hl 3 rfl) ?_
      refine lv_ishr S.1 S.2.1 dX5_drawn_13 ?_
      refine lv_iconst (v := 1) S.1 S.2.1 dX5_drawn_14 (by decide) ?_
      refine iand_to (v := b2 (f (k))) S (mk_sh f (by omega)) dX5_drawn_15 ?_
      refine brB_eq (b := f (k)) S (tgt := 23) dX5_drawn_16 (by decide) (fun c8 => ?_) (fun c8 => ?_)
      · skip
        have hcs : cnt f (k + 1) = if f k = true then cnt f k + 1 else cnt f k := rfl
        refine lv_iload_n S.1 S.2.1 dX5_drawn_23 rfl (lv_at hl 2 rfl) ?_
        refine lv_iload_n S.1 S.2.1 dX5_drawn_24 rfl (lv_at hl 1 rfl) ?_
        refine lv_iload_n S.1 S.2.1 dX5_drawn_25 rfl (lv_at hl 3 rfl) ?_
        refine lv_ishr S.1 S.2.1 dX5_drawn_26 ?_
        refine lv_iconst (v := 1) S.1 S.2.1 dX5_drawn_27 (by decide) ?_
        refine iand_to (v := b2 (f (k))) S (mk_sh f (by omega)) dX5_drawn_28 ?_
        refine isub_to (v := nI (i - cnt f (k + 1))) S (by rw [hcs, c8]; exact Int32.sub_zero _) dX5_drawn_29 ?_
        refine lv_istore_n (lv' := [(2, .int (nI (i - cnt f (k + 1)))), (0, .ref (a 0)), (1, .int (nI (mk f 8))), (3, .int (nI (k)))]) S.1 S.2.1 dX5_drawn_30 rfl hl (by decide) rfl (fun ls hl => ?_)
        refine lv_iinc (v := (nI (k + 1))) (lv' := [(3, .int (nI (k + 1))), (2, .int (nI (i - cnt f (k + 1)))), (0, .ref (a 0)), (1, .int (nI (mk f 8)))]) S.1 S.2.1 dX5_drawn_31 hl (k := 3) rfl (nI_add _ _) (by decide) rfl (fun ls hl => ?_)
        refine lv_goto (tgt := 11) S.1 S.2.1 dX5_drawn_34 (by decide) ?_
        exact ih11 (k + 1) _ _ _ (by omega) (by rcases Nat.lt_or_ge (k + 1) 8 with h9 | h9 <;> first | exact h9 | (have h10 : k + 1 = 8 := (by omega); rw [h10] at hcs; split at hcs <;> first | omega | simp_all)) (by split at hcs <;> first | omega | simp_all) hw (lv_sub hl [2, 3, 1, 0] rfl)
      · skip
        have hcs : cnt f (k + 1) = if f k = true then cnt f k + 1 else cnt f k := rfl
        refine lv_iload_n S.1 S.2.1 dX5_drawn_19 rfl (lv_at hl 2 rfl) ?_
        refine lv_if_le (tgt := 37) S.1 S.2.1 dX5_drawn_20 (by decide) (fun c9 => ?_) (fun c9 => ?_)
        · skip
          have hp9 : i - cnt f k = 0 := by rw [i_le, nI_toInt (by omega)] at c9; have : (0 : Int32).toInt = 0 := rfl; omega
          refine lv_iload_n S.1 S.2.1 dX5_drawn_37 rfl (lv_at hl 3 rfl) ?_
          exact en_i (v := (nI (k))) ((z6, o) : St × St) hQ S hr hlk hw (by refine ⟨by rw [← hi, nth_u (by assumption) (show cnt f k = i by omega) 8 (by omega)], by rw [dz, if_neg hf]; exact ez6, rfl⟩) dX5_drawn_38
        · skip
          have hp9 : 0 < i - cnt f k := by rw [i_le] at c9; rw [nI_toInt (by omega)] at c9; have : (0 : Int32).toInt = 0 := rfl; omega
          refine lv_iload_n S.1 S.2.1 dX5_drawn_23 rfl (lv_at hl 2 rfl) ?_
          refine lv_iload_n S.1 S.2.1 dX5_drawn_24 rfl (lv_at hl 1 rfl) ?_
          refine lv_iload_n S.1 S.2.1 dX5_drawn_25 rfl (lv_at hl 3 rfl) ?_
          refine lv_ishr S.1 S.2.1 dX5_drawn_26 ?_
          refine lv_iconst (v := 1) S.1 S.2.1 dX5_drawn_27 (by decide) ?_
          refine iand_to (v := b2 (f (k))) S (mk_sh f (by omega)) dX5_drawn_28 ?_
          refine isub_to (v := nI (i - cnt f (k + 1))) S (by rw [hcs, c8, if_pos rfl, show i - (cnt f k + 1) = (i - cnt f k) - 1 by omega]; exact pk_sub (b := 1) (by omega)) dX5_drawn_29 ?_
          refine lv_istore_n (lv' := [(2, .int (nI (i - cnt f (k + 1)))), (0, .ref (a 0)), (1, .int (nI (mk f 8))), (3, .int (nI (k)))]) S.1 S.2.1 dX5_drawn_30 rfl hl (by decide) rfl (fun ls hl => ?_)
          refine lv_iinc (v := (nI (k + 1))) (lv' := [(3, .int (nI (k + 1))), (2, .int (nI (i - cnt f (k + 1)))), (0, .ref (a 0)), (1, .int (nI (mk f 8)))]) S.1 S.2.1 dX5_drawn_31 hl (k := 3) rfl (nI_add _ _) (by decide) rfl (fun ls hl => ?_)
          refine lv_goto (tgt := 11) S.1 S.2.1 dX5_drawn_34 (by decide) ?_
          exact ih11 (k + 1) _ _ _ (by omega) (by rcases Nat.lt_or_ge (k + 1) 8 with h9 | h9 <;> first | exact h9 | (have h10 : k + 1 = 8 := (by omega); rw [h10] at hcs; split at hcs <;> first | omega | simp_all)) (by split at hcs <;> first | omega | simp_all) hw (lv_sub hl [2, 3, 1, 0] rfl)
  exact K11 (9) (0) _ _ _ (by omega) (by omega) (by exact Nat.zero_le _) hw (lv_sub hl [2, 3, 1, 0] rfl)

theorem hd_X5_viewed : yX5_viewed.cls = RX5 ∧ yX5_viewed.cls ≠ "java/lang/invoke/MethodHandle" ∧ yX5_viewed.cls ≠ "java/lang/invoke/VarHandle" ∧ (parseMethodDescriptor yX5_viewed.desc).map (fun d => d.parameters.length) = some 3 := by decide +kernel
set_option maxHeartbeats 4000000 in
set_option maxRecDepth 100000 in
theorem c_X5_viewed (l : Launch) (G : GA) (a : Nat → Nat) (z : St) (o : St) (sz : Nat) (n : Nat) (lo : Int32) (hi : Int32) (hn : n < 8) : Met l yX5_viewed wsX5_viewed ({ frames := 1, cells := 0, slots := 0, locals := 22 }) (va_Pc [.ref (a 0), .int (nI (n)), .int (lo), .int (hi)] (PW G (mp G a z o) sz)) (va_Qi (fun (r : Int32) (u : St × St) => r = nI (mk (vwd z n lo hi) 8) ∧ u.1 = z ∧ u.2 = o) (fun (u : St × St) t => va_P G.1 gcl (mp G a u.1 u.2) t.heap) (va_A (mp G a z o) sz)) 0 0 (va_A (mp G a z o) sz) := by
  refine met_st (cc := cX5_viewed) (maxL := 6) (ret := (some .int)) (fun A => va_Qi (fun (r : Int32) (u : St × St) => r = nI (mk (vwd z n lo hi) 8) ∧ u.1 = z ∧ u.2 = o) (fun (u : St × St) t => va_P G.1 gcl (mp G a u.1 u.2) t.heap) A) (by decide) rfl (Nat.le_of_ble_eq_true rfl) ?_
  intro p e s m args below meth c R Q A H ls hR hQ S hr hlk _ hK hsz hH hAe hA hw hl
  have hl : lv_has ls 6 [(0, .ref (a 0)), (1, .int (nI (n))), (2, .int (lo)), (3, .int (hi))] := hl
  have LX5 : ∀ w ∈ u_ws RX5 TX5 12, w.before args s = true := fun w h => S.2.2.2.2 w ((by decide +kernel : ∀ w ∈ u_ws RX5 TX5 12, w ∈ wsX5_viewed) w h)
  have k1 : (Cond.fieldLink RX5 7 "GossipMembershipModel" "s" "[I").before args s = true := S.2.2.2.2 _ (by decide +kernel : (Cond.fieldLink RX5 7 "GossipMembershipModel" "s" "[I") ∈ wsX5_viewed)
  refine lv_iconst (v := 0) S.1 S.2.1 dX5_viewed_0 (by decide) ?_
  refine lv_istore (lv' := [(4, .int 0), (0, .ref (a 0)), (1, .int (nI (n))), (2, .int (lo)), (3, .int (hi))]) S.1 S.2.1 dX5_viewed_1 hl (by decide) rfl (fun ls hl => ?_)
  refine lv_iconst (v := 0) S.1 S.2.1 dX5_viewed_3 (by decide) ?_
  refine lv_istore (lv' := [(5, .int 0), (4, .int 0), (0, .ref (a 0)), (1, .int (nI (n))), (2, .int (lo)), (3, .int (hi))]) S.1 S.2.1 dX5_viewed_4 hl (by decide) rfl (fun ls hl => ?_)
  have K6 : ∀ (fu : Nat) (k : Nat) (H : Heap) (locs : List Loc) (ls : Array Slot), 8 - k < fu → k ≤ 8 → WD G (mp G a z o) A s H locs → lv_has ls 6 [(0, .ref (a 0)), (1, .int (nI (n))), (2, .int (lo)), (3, .int (hi)), (4, .int (nI (mk (vwd z n lo hi) k))), (5, .int (nI (k)))] → W p l e R s m args below meth c H locs 0 0 Q (F0 m 6 ls []) := by
    intro fu
    induction fu with
    | zero => exact fun _ _ _ _ h => absurd h (Nat.not_lt_zero _)
    | succ fu ih6 =>
      intro k H locs ls hm6 hk hw hl
      refine lv_iload S.1 S.2.1 dX5_viewed_6 (lv_at hl 5 rfl) ?_
      refine lv_bipush (v := 8) S.1 S.2.1 dX5_viewed_8 (by decide) ?_
      refine brN_ge (a := k) (b := 8) S (by omega) (by omega) (tgt := 60) dX5_viewed_10 (by decide) (fun c1 => ?_) (fun c1 => ?_)
      · skip
        have hk9 : k = 8 := by omega
        subst hk9
        refine lv_iload S.1 S.2.1 dX5_viewed_60 (lv_at hl 4 rfl) ?_
        exact en_i (v := (nI (mk (vwd z n lo hi) 8))) ((z, o) : St × St) hQ S hr hlk hw (by exact ⟨rfl, rfl, rfl⟩) dX5_viewed_62
      · skip
        refine lv_iload S.1 S.2.1 dX5_viewed_13 (lv_at hl 4 rfl) ?_
        refine lv_iload S.1 S.2.1 dX5_viewed_15 (lv_at hl 5 rfl) ?_
        refine lv_iload_n S.1 S.2.1 dX5_viewed_17 rfl (lv_at hl 1 rfl) ?_
        refine brN_eq (a := k) (b := n) S (by omega) (by omega) (tgt := 50) dX5_viewed_18 (by decide) (fun c2 => ?_) (fun c2 => ?_)
        · skip
          refine lv_iconst (v := 0) S.1 S.2.1 dX5_viewed_50 (by decide) ?_
          refine ior_to (v := nI (mk (vwd z n lo hi) (k + 1))) S (by rw [mk_skip _ (by simp [vwd, c1, c2]; done)]; exact Int32.or_zero) dX5_viewed_51 ?_
          refine lv_istore (lv' := [(4, .int (nI (mk (vwd z n lo hi) (k + 1)))), (0, .ref (a 0)), (1, .int (nI (n))), (2, .int (lo)), (3, .int (hi)), (5, .int (nI (k)))]) S.1 S.2.1 dX5_viewed_52 hl (by decide) rfl (fun ls hl => ?_)
          refine lv_iinc (v := (nI (k + 1))) (lv' := [(5, .int (nI (k + 1))), (4, .int (nI (mk (vwd z n lo hi) (k + 1)))), (0, .ref (a 0)), (1, .int (nI (n))), (2, .int (lo)), (3, .int (hi))]) S.1 S.2.1 dX5_viewed_54 hl (k := 5) rfl (nI_add _ _) (by decide) rfl (fun ls hl => ?_)
          refine lv_goto (tgt := 6) S.1 S.2.1 dX5_viewed_57 (by decide) ?_
          exact ih6 (k + 1) _ _ _ (by omega) (by omega) hw (lv_sub hl [2, 3, 4, 5, 1, 0] rfl)
        · skip
          refine lv_aload_n S.1 S.2.1 dX5_viewed_21 rfl (lv_at hl 0 rfl) ?_
          refine gt_X5_1 (v := .ref (a 1)) S hK hw 0 rfl rfl LX5 k1 dX5_viewed_22 ?_
          refine lv_bipush (v := 42) S.1 S.2.1 dX5_viewed_25 (by decide) ?_
          refine lv_iload_n S.1 S.2.1 dX5_viewed_27 rfl (lv_at hl 1 rfl) ?_
          refine lv_iload S.1 S.2.1 dX5_viewed_28 (lv_at hl 5 rfl) ?_
          refine pr_m (n := n) (b := k) S hl.1 gX5_viewed_X5_pair ⟨by rw [hR]; exact Nat.le_of_ble_eq_true rfl, by rw [hR]; exact Nat.le_of_ble_eq_true rfl⟩ (Nat.zero_le _) (Nat.zero_le _) (Nat.le_of_ble_eq_true rfl) dX5_viewed_30 ?_
          refine addN (a := 42) (b := 8 * n + k) S dX5_viewed_33 ?_
          refine ald_i (v := z 5 ((8 * n + k))) (k := 42 + (8 * n + k)) S hK hw 1 rfl (by omega) (by decide) (fl_5 z (by omega)) dX5_viewed_34 ?_
          refine lv_iload_n S.1 S.2.1 dX5_viewed_35 rfl (lv_at hl 2 rfl) ?_
          refine lv_iload_n S.1 S.2.1 dX5_viewed_36 rfl (lv_at hl 3 rfl) ?_
          refine vp_callSi (va_runS (As := [.int (z 5 ((8 * n + k))), .int (lo), .int (hi)]) (rest := [.int (nI (mk (vwd z n lo hi) k))]) S (c_X5_in l (z 5 ((8 * n + k))) (lo) (hi) ) (va_cwS 3 S.2.2.2.2 gX5_viewed_X5_in rfl rfl rfl hd_X5_in ⟨by rw [hR]; exact Nat.le_of_ble_eq_true rfl, by rw [hR]; exact Nat.le_of_ble_eq_true rfl⟩) ⟨blind_T, fun U hU hW => ⟨rfl, trivial⟩⟩ rfl rfl hl.1 rfl (lv_room (Nat.le_of_ble_eq_true rfl)) dX5_viewed_37 ⟨Nat.zero_le _, Nat.zero_le _⟩).run (fun r3 h4 => ?_)
          subst h4
          refine brB_eq (b := (!decide ((z 5 ((8 * n + k))) < (lo)) && !decide ((hi) < (z 5 ((8 * n + k)))))) S (tgt := 50) dX5_viewed_40 (by decide) (fun c5 => ?_) (fun c5 => ?_)
          · skip
            refine lv_iconst (v := 0) S.1 S.2.1 dX5_viewed_50 (by decide) ?_
            refine ior_to (v := nI (mk (vwd z n lo hi) (k + 1))) S (by rw [mk_skip _ (by simp [vwd, c2, c5]; done)]; exact Int32.or_zero) dX5_viewed_51 ?_
            refine lv_istore (lv' := [(4, .int (nI (mk (vwd z n lo hi) (k + 1)))), (0, .ref (a 0)), (1, .int (nI (n))), (2, .int (lo)), (3, .int (hi)), (5, .int (nI (k)))]) S.1 S.2.1 dX5_viewed_52 hl (by decide) rfl (fun ls hl => ?_)
            refine lv_iinc (v := (nI (k + 1))) (lv' := [(5, .int (nI (k + 1))), (4, .int (nI (mk (vwd z n lo hi) (k + 1)))), (0, .ref (a 0)), (1, .int (nI (n))), (2, .int (lo)), (3, .int (hi))]) S.1 S.2.1 dX5_viewed_54 hl (k := 5) rfl (nI_add _ _) (by decide) rfl (fun ls hl => ?_)
            refine lv_goto (tgt := 6) S.1 S.2.1 dX5_viewed_57 (by decide) ?_
            exact ih6 (k + 1) _ _ _ (by omega) (by omega) hw (lv_sub hl [2, 3, 4, 5, 1, 0] rfl)
          · skip
            refine lv_iconst (v := 1) S.1 S.2.1 dX5_viewed_43 (by decide) ?_
            refine lv_iload S.1 S.2.1 dX5_viewed_44 (lv_at hl 5 rfl) ?_
            refine lv_ishl S.1 S.2.1 dX5_viewed_46 ?_
            refine lv_goto (tgt := 51) S.1 S.2.1 dX5_viewed_47 (by decide) ?_
            refine ior_to (v := nI (mk (vwd z n lo hi) (k + 1))) S (mk_step _ (by omega) (by simp [vwd, c2, c5]; first | done | simp_all)) dX5_viewed_51 ?_
            refine lv_istore (lv' := [(4, .int (nI (mk (vwd z n lo hi) (k + 1)))), (0, .ref (a 0)), (1, .int (nI (n))), (2, .int (lo)), (3, .int (hi)), (5, .int (nI (k)))]) S.1 S.2.1 dX5_viewed_52 hl (by decide) rfl (fun ls hl => ?_)
            refine lv_iinc (v := (nI (k + 1))) (lv' := [(5, .int (nI (k + 1))), (4, .int (nI (mk (vwd z n lo hi) (k + 1)))), (0, .ref (a 0)), (1, .int (nI (n))), (2, .int (lo)), (3, .int (hi))]) S.1 S.2.1 dX5_viewed_54 hl (k := 5) rfl (nI_add _ _) (by decide) rfl (fun ls hl => ?_)
            refine lv_goto (tgt := 6) S.1 S.2.1 dX5_viewed_57 (by decide) ?_
            exact ih6 (k + 1) _ _ _ (by omega) (by omega) hw (lv_sub hl [2, 3, 4, 5, 1, 0] rfl)
  exact K6 (9) (0) _ _ _ (by omega) (by omega) hw (lv_sub hl [2, 3, 4, 5, 1, 0] rfl)

theorem hd_X5_declares : yX5_declares.cls = RX5 ∧ yX5_declares.cls ≠ "java/lang/invoke/MethodHandle" ∧ yX5_declares.cls ≠ "java/lang/invoke/VarHandle" ∧ (parseMethodDescriptor yX5_declares.desc).map (fun d => d.parameters.length) = some 1 := by decide +kernel
set_option maxHeartbeats 4000000 in
set_option maxRecDepth 100000 in
theorem c_X5_declares (l : Launch) (G : GA) (a : Nat → Nat) (z : St) (o : St) (sz : Nat) (n : Nat) (hn : n < 8) (iz : Inv z) : Met l yX5_declares wsX5_declares ({ frames := 3, cells := 0, slots := 0, locals := 68 }) (va_Pc [.ref (a 0), .int (nI (n))] (PW G (mp G a z o) sz)) (va_Qv (fun (u : St × St) => u.1 = dco z n ∧ u.2 = o) (fun (u : St × St) t => va_P G.1 gcl (mp G a u.1 u.2) t.heap) (va_A (mp G a z o) sz)) 0 0 (va_A (mp G a z o) sz) := by
  refine met_st (cc := cX5_declares) (maxL := 4) (ret := none) (fun A => va_Qv (fun (u : St × St) => u.1 = dco z n ∧ u.2 = o) (fun (u : St × St) t => va_P G.1 gcl (mp G a u.1 u.2) t.heap) A) (by decide) rfl (Nat.le_of_ble_eq_true rfl) ?_
  intro p e s m args below meth c R Q A H ls hR hQ S hr hlk _ hK hsz hH hAe hA hw hl
  have hl : lv_has ls 4 [(0, .ref (a 0)), (1, .int (nI (n)))] := hl
  have LX5 : ∀ w ∈ u_ws RX5 TX5 12, w.before args s = true := fun w h => S.2.2.2.2 w ((by decide +kernel : ∀ w ∈ u_ws RX5 TX5 12, w ∈ wsX5_declares) w h)
  have k1 : (Cond.fieldLink RX5 7 "GossipMembershipModel" "s" "[I").before args s = true := S.2.2.2.2 _ (by decide +kernel : (Cond.fieldLink RX5 7 "GossipMembershipModel" "s" "[I") ∈ wsX5_declares)
  refine lv_iconst (v := 0) S.1 S.2.1 dX5_declares_0 (by decide) ?_
  refine lv_istore_n (lv' := [(2, .int 0), (0, .ref (a 0)), (1, .int (nI (n)))]) S.1 S.2.1 dX5_declares_1 rfl hl (by decide) rfl (fun ls hl => ?_)
  have K2 : ∀ (fu : Nat) (k : Nat) (t : St) (H : Heap) (locs : List Loc) (ls : Array Slot), 8 - k < fu → k ≤ 8 → t = dcK z n k → Inv t → WD G (mp G a t o) A s H locs → lv_has ls 4 [(0, .ref (a 0)), (1, .int (nI (n))), (2, .int (nI (k)))] → W p l e R s m args below meth c H locs 0 0 Q (F0 m 2 ls []) := by
    intro fu
    induction fu with
    | zero => exact fun _ _ _ _ _ h => absurd h (Nat.not_lt_zero _)
    | succ fu ih2 =>
      intro k t H locs ls hm2 hk ht it hw hl
      refine lv_iload_n S.1 S.2.1 dX5_declares_2 rfl (lv_at hl 2 rfl) ?_
      refine lv_bipush (v := 8) S.1 S.2.1 dX5_declares_3 (by decide) ?_
      refine brN_ge (a := k) (b := 8) S (by omega) (by omega) (tgt := 107) dX5_declares_5 (by decide) (fun c1 => ?_) (fun c1 => ?_)
      · skip
        have hk9 : k = 8 := by omega
        subst hk9
        exact en_v ((t, o) : St × St) hQ S hr hlk hw (by exact ⟨ht, rfl⟩) dX5_declares_107
      · skip
        refine lv_iload_n S.1 S.2.1 dX5_declares_8 rfl (lv_at hl 1 rfl) ?_
        refine lv_iload_n S.1 S.2.1 dX5_declares_9 rfl (lv_at hl 2 rfl) ?_
        refine pr_m (n := n) (b := k) S hl.1 gX5_declares_X5_pair ⟨by rw [hR]; exact Nat.le_of_ble_eq_true rfl, by rw [hR]; exact Nat.le_of_ble_eq_true rfl⟩ (Nat.zero_le _) (Nat.zero_le _) (Nat.le_of_ble_eq_true rfl) dX5_declares_10 ?_
        refine lv_istore_n (lv' := [(3, .int (nI (8 * n + k))), (0, .ref (a 0)), (1, .int (nI (n))), (2, .int (nI (k)))]) S.1 S.2.1 dX5_declares_13 rfl hl (by decide) rfl (fun ls hl => ?_)
        refine lv_iload_n S.1 S.2.1 dX5_declares_14 rfl (lv_at hl 3 rfl) ?_
        refine lv_iload_n S.1 S.2.1 dX5_declares_15 rfl (lv_at hl 2 rfl) ?_
        refine brN_eq (a := k) (b := n) S (by omega) (by omega) (tgt := 101) dX5_declares_16 (by decide) (fun c2 => ?_) (fun c2 => ?_)
        · skip
          refine lv_iinc (v := (nI (k + 1))) (lv' := [(2, .int (nI (k + 1))), (3, .int (nI (8 * n + k))), (0, .ref (a 0)), (1, .int (nI (n)))]) S.1 S.2.1 dX5_declares_101 hl (k := 3) rfl (nI_add _ _) (by decide) rfl (fun ls hl => ?_)
          refine lv_goto (tgt := 2) S.1 S.2.1 dX5_declares_104 (by decide) ?_
          exact ih2 (k + 1) (t) _ _ _ (by omega) (by omega) (by first | exact dcK_skip ht (Or.inl (by assumption)) iz hn | exact dcK_skip ht (Or.inr (Or.inl (by assumption))) iz hn | exact dcK_skip ht (Or.inr (Or.inr (by assumption))) iz hn | exact {q-1}.trans ((dcK_yes ht (by assumption) (by assumption) (by assumption) {q-3} {q-2}).1 (by assumption)) | (rw [{q-1}, Int32.add_zero, st_self]; exact (dcK_yes ht (by assumption) (by assumption) (by assumption) {q-3} {q-2}).2 (by assumption))) (by exact it) hw (lv_sub hl [2, 3, 0] rfl)
        · skip
          refine lv_aload_n S.1 S.2.1 dX5_declares_19 rfl (lv_at hl 1 rfl) ?_
          refine gt_X5_1 (v := .ref (a 1)) S hK hw 0 rfl rfl LX5 k1 dX5_declares_20 ?_
          refine lv_bipush (v := 42) S.1 S.2.1 dX5_declares_23 (by decide) ?_
          refine lv_iload_n S.1 S.2.1 dX5_declares_25 rfl (lv_at hl 0 rfl) ?_
          refine addN (a := 42) (b := 8 * n + k) S dX5_declares_26 ?_
          refine ald_i (v := t 5 ((8 * n + k))) (k := 42 + (8 * n + k)) S hK hw 1 rfl (by omega) (by decide) (fl_5 t (by omega)) dX5_declares_27 ?_
          refine lv_iconst (v := 2) S.1 S.2.1 dX5_declares_28 (by decide) ?_
          refine lv_icmp_ne (tgt := 101) S.1 S.2.1 dX5_declares_29 (by decide) (fun c3 => ?_) (fun c3 => ?_)
          · skip
            refine lv_iinc (v := (nI (k + 1))) (lv' := [(2, .int (nI (k + 1))), (3, .int (nI (8 * n + k))), (0, .ref (a 0)), (1, .int (nI (n)))]) S.1 S.2.1 dX5_declares_101 hl (k := 3) rfl (nI_add _ _) (by decide) rfl (fun ls hl => ?_)
            refine lv_goto (tgt := 2) S.1 S.2.1 dX5_declares_104 (by decide) ?_
            exact ih2 (k + 1) (t) _ _ _ (by omega) (by omega) (by first | exact dcK_skip ht (Or.inl (by assumption)) iz hn | exact dcK_skip ht (Or.inr (Or.inl (by assumption))) iz hn | exact dcK_skip ht (Or.inr (Or.inr (by assumption))) iz hn | exact {q-1}.trans ((dcK_yes ht (by assumption) (by assumption) (by assumption) {q-3} {q-2}).1 (by assumption)) | (rw [{q-1}, Int32.add_zero, st_self]; exact (dcK_yes ht (by assumption) (by assumption) (by assumption) {q-3} {q-2}).2 (by assumption))) (by exact it) hw (lv_sub hl [2, 3, 0] rfl)
          · skip
            refine lv_aload_n S.1 S.2.1 dX5_declares_32 rfl (lv_at hl 1 rfl) ?_
            refine gt_X5_1 (v := .ref (a 1)) S hK hw 0 rfl rfl LX5 k1 dX5_declares_33 ?_
            refine lv_sipush (v := 170) S.1 S.2.1 dX5_declares_36 (by decide) ?_
            refine lv_iload_n S.1 S.2.1 dX5_declares_39 rfl (lv_at hl 0 rfl) ?_
            refine addN (a := 170) (b := 8 * n + k) S dX5_declares_40 ?_
            refine ald_i (v := t 7 ((8 * n + k))) (k := 170 + (8 * n + k)) S hK hw 1 rfl (by omega) (by decide) (fl_7 t (by omega)) dX5_declares_41 ?_
            refine lv_aload_n S.1 S.2.1 dX5_declares_42 rfl (lv_at hl 1 rfl) ?_
            refine gt_X5_1 (v := .ref (a 1)) S hK hw 0 rfl rfl LX5 k1 dX5_declares_43 ?_
            refine lv_iconst (v := 0) S.1 S.2.1 dX5_declares_46 (by decide) ?_
            refine ald_i (v := t 0 (0)) (k := 0) S hK hw 1 rfl (by omega) (by decide) (fl_0 t (by omega)) dX5_declares_47 ?_
            refine lv_icmp_gt (tgt := 101) S.1 S.2.1 dX5_declares_48 (by decide) (fun c4 => ?_) (fun c4 => ?_)
            · skip
              refine lv_iinc (v := (nI (k + 1))) (lv' := [(2, .int (nI (k + 1))), (3, .int (nI (8 * n + k))), (0, .ref (a 0)), (1, .int (nI (n)))]) S.1 S.2.1 dX5_declares_101 hl (k := 3) rfl (nI_add _ _) (by decide) rfl (fun ls hl => ?_)
              refine lv_goto (tgt := 2) S.1 S.2.1 dX5_declares_104 (by decide) ?_
              exact ih2 (k + 1) (t) _ _ _ (by omega) (by omega) (by first | exact dcK_skip ht (Or.inl (by assumption)) iz hn | exact dcK_skip ht (Or.inr (Or.inl (by assumption))) iz hn | exact dcK_skip ht (Or.inr (Or.inr (by assumption))) iz hn | exact {q-1}.trans ((dcK_yes ht (by assumption) (by assumption) (by assumption) {q-3} {q-2}).1 (by assumption)) | (rw [{q-1}, Int32.add_zero, st_self]; exact (dcK_yes ht (by assumption) (by assumption) (by assumption) {q-3} {q-2}).2 (by assumption))) (by exact it) hw (lv_sub hl [2, 3, 0] rfl)
            · skip
              refine lv_aload_n S.1 S.2.1 dX5_declares_51 rfl (lv_at hl 1 rfl) ?_
              refine lv_iload_n S.1 S.2.1 dX5_declares_52 rfl (lv_at hl 2 rfl) ?_
              refine lv_iload_n S.1 S.2.1 dX5_declares_53 rfl (lv_at hl 3 rfl) ?_
              refine lv_iconst (v := 3) S.1 S.2.1 dX5_declares_54 (by decide) ?_
              refine lv_aload_n S.1 S.2.1 dX5_declares_55 rfl (lv_at hl 1 rfl) ?_
              refine gt_X5_1 (v := .ref (a 1)) S hK hw 0 rfl rfl LX5 k1 dX5_declares_56 ?_
              refine lv_bipush (v := 106) S.1 S.2.1 dX5_declares_59 (by decide) ?_
              refine lv_iload_n S.1 S.2.1 dX5_declares_61 rfl (lv_at hl 0 rfl) ?_
              refine addN (a := 106) (b := 8 * n + k) S dX5_declares_62 ?_
              refine ald_i (v := t 6 ((8 * n + k))) (k := 106 + (8 * n + k)) S hK hw 1 rfl (by omega) (by decide) (fl_6 t (by omega)) dX5_declares_63 ?_
              refine cl_v (va_runV (As := [.int (nI (n)), .int (nI (k)), .int 3, .int (t 6 ((8 * n + k)))]) (rest := []) S (c_X5_becomes l G a t o H.size (n) (k) (3) (t 6 ((8 * n + k))) (by omega) (by omega)) (cwV 4 S.2.2.2.2 gX5_declares_X5_becomes rfl rfl rfl hd_X5_becomes ⟨by rw [hR]; exact Nat.le_of_ble_eq_true rfl, by rw [hR]; exact Nat.le_of_ble_eq_true rfl⟩) ⟨PW.blind, va_recv hK.1 hw.1 (ci := 5) (q0 := 0) rfl rfl, fun U hU hW => ⟨rfl, PW.of hK hw hU hW⟩⟩ rfl rfl hl.1 rfl (lv_room (Nat.le_of_ble_eq_true rfl)) dX5_declares_64 ⟨Nat.zero_le _, Nat.zero_le _⟩) hw hA (fun _ => rfl) (fun z6 H locs h7 hw => ?_)
              obtain ⟨z8, o9⟩ := z6
              try dsimp only at h7 hw
              obtain ⟨ez8, qo9⟩ := h7
              rw [qo9] at hw
              have iz8 : Inv z8 := by rw [ez8]; exact inv_bec it (n := (n)) (b := (k)) (by omega) (by omega) (by omega) (3) (t 6 ((8 * n + k)))
              refine lv_aload_n S.1 S.2.1 dX5_declares_67 rfl (lv_at hl 1 rfl) ?_
              refine gt_X5_1 (v := .ref (a 1)) S hK hw 0 rfl rfl LX5 k1 dX5_declares_68 ?_
              refine lv_iconst (v := 5) S.1 S.2.1 dX5_declares_71 (by decide) ?_
              refine lv_dup2_11 S.1 S.2.1 dX5_declares_72 rfl rfl ?_
              refine ald_i (v := z8 0 (5)) (k := 5) S hK hw 1 rfl (by omega) (by decide) (fl_0 z8 (by omega)) dX5_declares_73 ?_
              refine lv_iconst (v := 1) S.1 S.2.1 dX5_declares_74 (by decide) ?_
              refine lv_iadd S.1 S.2.1 dX5_declares_75 ?_
              refine ast_i (ws' := (mp G a (st z8 0 (5) ((z8 0 (5)) + (1))) o)) (k := 5) S hK hw 1 rfl (by omega) (by decide) (mp_set (fu_0 z8 (by omega) _)) dX5_declares_76 (fun H locs hw => ?_)
              obtain ⟨z10, ez10⟩ : ∃ zz, zz = st z8 0 (5) ((z8 0 (5)) + (1)) := ⟨_, rfl⟩
              have hw : WD G (mp G a z10 o) A s H locs := by rw [ez10]; exact hw
              have iz10 : Inv z10 := by rw [ez10]; exact inv_o iz8 (by decide) (by decide)
              refine lv_aload_n S.1 S.2.1 dX5_declares_77 rfl (lv_at hl 1 rfl) ?_
              refine gt_X5_1 (v := .ref (a 1)) S hK hw 0 rfl rfl LX5 k1 dX5_declares_78 ?_
              refine lv_bipush (v := 6) S.1 S.2.1 dX5_declares_81 (by decide) ?_
              refine lv_dup2_11 S.1 S.2.1 dX5_declares_83 rfl rfl ?_
              refine ald_i (v := z10 0 (6)) (k := 6) S hK hw 1 rfl (by omega) (by decide) (fl_0 z10 (by omega)) dX5_declares_84 ?_
              refine lv_aload_n S.1 S.2.1 dX5_declares_85 rfl (lv_at hl 1 rfl) ?_
              refine lv_iload_n S.1 S.2.1 dX5_declares_86 rfl (lv_at hl 2 rfl) ?_
              refine lv_iload_n S.1 S.2.1 dX5_declares_87 rfl (lv_at hl 3 rfl) ?_
              refine cl_i (va_runV (As := [.int (nI (n)), .int (nI (k))]) (rest := [.int (z10 0 (6)), .int 6, .ref (a 1)]) S (c_X5_canReach l G a z10 o H.size (n) (k) (by omega) (by omega) (by exact iz10)) (cwV 2 S.2.2.2.2 gX5_declares_X5_canReach rfl rfl rfl hd_X5_canReach ⟨by rw [hR]; exact Nat.le_of_ble_eq_true rfl, by rw [hR]; exact Nat.le_of_ble_eq_true rfl⟩) ⟨PW.blind, va_recv hK.1 hw.1 (ci := 5) (q0 := 0) rfl rfl, fun U hU hW => ⟨rfl, PW.of hK hw hU hW⟩⟩ rfl rfl hl.1 rfl (lv_room (Nat.le_of_ble_eq_true rfl)) dX5_declares_88 ⟨Nat.zero_le _, Nat.zero_le _⟩) hw hA (fun _ => rfl) (fun r11 z12 H locs h13 hw => ?_)
              obtain ⟨z14, o15⟩ := z12
              try dsimp only at h13 hw
              obtain ⟨rfl, qz14, qo15⟩ := h13
              rw [qz14] at hw
              rw [qo15] at hw
              refine brB_eq (b := cnn z10 (n) (k)) S (tgt := 98) dX5_declares_91 (by decide) (fun c16 => ?_) (fun c16 => ?_)
              · skip
                refine lv_iconst (v := 0) S.1 S.2.1 dX5_declares_98 (by decide) ?_
                refine lv_iadd S.1 S.2.1 dX5_declares_99 ?_
                refine ast_i (ws' := (mp G a (st z10 0 (6) ((z10 0 (6)) + (0))) o)) (k := 6) S hK hw 1 rfl (by omega) (by decide) (mp_set (fu_0 z10 (by omega) _)) dX5_declares_100 (fun H locs hw => ?_)
                obtain ⟨z17, ez17⟩ : ∃ zz, zz = st z10 0 (6) ((z10 0 (6)) + (0)) := ⟨_, rfl⟩
                have hw : WD G (mp G a z17 o) A s H locs := by rw [ez17]; exact hw
                have iz17 : Inv z17 := by rw [ez17]; exact inv_o iz10 (by decide) (by decide)
                refine lv_iinc (v := (nI (k + 1))) (lv' := [(2, .int (nI (k + 1))), (3, .int (nI (8 * n + k))), (0, .ref (a 0)), (1, .int (nI (n)))]) S.1 S.2.1 dX5_declares_101 hl (k := 3) rfl (nI_add _ _) (by decide) rfl (fun ls hl => ?_)
                refine lv_goto (tgt := 2) S.1 S.2.1 dX5_declares_104 (by decide) ?_
                exact ih2 (k + 1) (z17) _ _ _ (by omega) (by omega) (by first | exact dcK_skip ht (Or.inl (by assumption)) iz hn | exact dcK_skip ht (Or.inr (Or.inl (by assumption))) iz hn | exact dcK_skip ht (Or.inr (Or.inr (by assumption))) iz hn | exact ez17.trans ((dcK_yes ht (by assumption) (by assumption) (by assumption) ez8 ez10).1 (by assumption)) | (rw [ez17, Int32.add_zero, st_self]; exact (dcK_yes ht (by assumption) (by assumption) (by assumption) ez8 ez10).2 (by assumption))) (by exact iz17) hw (lv_sub hl [2, 3, 0] rfl)
              · skip
                refine lv_iconst (v := 1) S.1 S.2.1 dX5_declares_94 (by decide) ?_
                refine lv_goto (tgt := 99) S.1 S.2.1 dX5_declares_95 (by decide) ?_
                refine lv_iadd S.1 S.2.1 dX5_declares_99 ?_
                refine ast_i (ws' := (mp G a (st z10 0 (6) ((z10 0 (6)) + (1))) o)) (k := 6) S hK hw 1 rfl (by omega) (by decide) (mp_set (fu_0 z10 (by omega) _)) dX5_declares_100 (fun H locs hw => ?_)
                obtain ⟨z18, ez18⟩ : ∃ zz, zz = st z10 0 (6) ((z10 0 (6)) + (1)) := ⟨_, rfl⟩
                have hw : WD G (mp G a z18 o) A s H locs := by rw [ez18]; exact hw
                have iz18 : Inv z18 := by rw [ez18]; exact inv_o iz10 (by decide) (by decide)
                refine lv_iinc (v := (nI (k + 1))) (lv' := [(2, .int (nI (k + 1))), (3, .int (nI (8 * n + k))), (0, .ref (a 0)), (1, .int (nI (n)))]) S.1 S.2.1 dX5_declares_101 hl (k := 3) rfl (nI_add _ _) (by decide) rfl (fun ls hl => ?_)
                refine lv_goto (tgt := 2) S.1 S.2.1 dX5_declares_104 (by decide) ?_
                exact ih2 (k + 1) (z18) _ _ _ (by omega) (by omega) (by first | exact dcK_skip ht (Or.inl (by assumption)) iz hn | exact dcK_skip ht (Or.inr (Or.inl (by assumption))) iz hn | exact dcK_skip ht (Or.inr (Or.inr (by assumption))) iz hn | exact ez18.trans ((dcK_yes ht (by assumption) (by assumption) (by assumption) ez8 ez10).1 (by assumption)) | (rw [ez18, Int32.add_zero, st_self]; exact (dcK_yes ht (by assumption) (by assumption) (by assumption) ez8 ez10).2 (by assumption))) (by exact iz18) hw (lv_sub hl [2, 3, 0] rfl)
  exact K2 (9) (0) (z) _ _ _ (by omega) (by omega) (by rfl) (by exact iz) hw (lv_sub hl [1, 2, 0] rfl)

theorem hd_X5_isHelped : yX5_isHelped.cls = RX5 ∧ yX5_isHelped.cls ≠ "java/lang/invoke/MethodHandle" ∧ yX5_isHelped.cls ≠ "java/lang/invoke/VarHandle" ∧ (parseMethodDescriptor yX5_isHelped.desc).map (fun d => d.parameters.length) = some 2 := by decide +kernel
set_option maxHeartbeats 4000000 in
set_option maxRecDepth 100000 in
theorem c_X5_isHelped (l : Launch) (G : GA) (a : Nat → Nat) (z : St) (o : St) (sz : Nat) (n : Nat) (y : Nat) (hn : n < 8) (hy : y < 8) (iz : Inv z) : Met l yX5_isHelped wsX5_isHelped ({ frames := 3, cells := 0, slots := 0, locals := 65 }) (va_Pc [.ref (a 0), .int (nI (n)), .int (nI (y))] (PW G (mp G a z o) sz)) (va_Qi (fun (r : Int32) (u : St × St) => r = b2 ((hpr z n y).2.2) ∧ u.1 = (hpr z n y).1 ∧ u.2 = o) (fun (u : St × St) t => va_P G.1 gcl (mp G a u.1 u.2) t.heap) (va_A (mp G a z o) sz)) 0 0 (va_A (mp G a z o) sz) := by
  refine met_st (cc := cX5_isHelped) (maxL := 7) (ret := (some .boolean)) (fun A => va_Qi (fun (r : Int32) (u : St × St) => r = b2 ((hpr z n y).2.2) ∧ u.1 = (hpr z n y).1 ∧ u.2 = o) (fun (u : St × St) t => va_P G.1 gcl (mp G a u.1 u.2) t.heap) A) (by decide) rfl (Nat.le_of_ble_eq_true rfl) ?_
  intro p e s m args below meth c R Q A H ls hR hQ S hr hlk _ hK hsz hH hAe hA hw hl
  have hl : lv_has ls 7 [(0, .ref (a 0)), (1, .int (nI (n))), (2, .int (nI (y)))] := hl
  have LX5 : ∀ w ∈ u_ws RX5 TX5 12, w.before args s = true := fun w h => S.2.2.2.2 w ((by decide +kernel : ∀ w ∈ u_ws RX5 TX5 12, w ∈ wsX5_isHelped) w h)
  have k1 : (Cond.fieldLink RX5 7 "GossipMembershipModel" "s" "[I").before args s = true := S.2.2.2.2 _ (by decide +kernel : (Cond.fieldLink RX5 7 "GossipMembershipModel" "s" "[I") ∈ wsX5_isHelped)
  have hm3 : hm z ≤ 3 := iz.2.2.2.2.2.2.2
  refine lv_aload_n S.1 S.2.1 dX5_isHelped_0 rfl (lv_at hl 0 rfl) ?_
  refine lv_iload_n S.1 S.2.1 dX5_isHelped_1 rfl (lv_at hl 1 rfl) ?_
  refine lv_iconst (v := 1) S.1 S.2.1 dX5_isHelped_2 (by decide) ?_
  refine lv_iconst (v := 1) S.1 S.2.1 dX5_isHelped_3 (by decide) ?_
  refine cl_i (va_runV (As := [.int (nI (n)), .int 1, .int 1]) (rest := []) S (c_X5_viewed l G a z o H.size (n) (1) (1) (by omega)) (cwV 3 S.2.2.2.2 gX5_isHelped_X5_viewed rfl rfl rfl hd_X5_viewed ⟨by rw [hR]; exact Nat.le_of_ble_eq_true rfl, by rw [hR]; exact Nat.le_of_ble_eq_true rfl⟩) ⟨PW.blind, va_recv hK.1 hw.1 (ci := 5) (q0 := 0) rfl rfl, fun U hU hW => ⟨rfl, PW.of hK hw hU hW⟩⟩ rfl rfl hl.1 rfl (lv_room (Nat.le_of_ble_eq_true rfl)) dX5_isHelped_4 ⟨Nat.zero_le _, Nat.zero_le _⟩) hw hA (fun _ => rfl) (fun r1 z2 H locs h3 hw => ?_)
  obtain ⟨z4, o5⟩ := z2
  try dsimp only at h3 hw
  obtain ⟨rfl, qz4, qo5⟩ := h3
  rw [qz4] at hw
  rw [qo5] at hw
  refine top_to (v := (nI (mk (nst z n 1) 8))) S (by rw [mk_ext 8 (fun j _ => vwd_1 iz hn j)]) ?_
  refine lv_iconst (v := 1) S.1 S.2.1 dX5_isHelped_7 (by decide) ?_
  refine lv_iload_n S.1 S.2.1 dX5_isHelped_8 rfl (lv_at hl 2 rfl) ?_
  refine lv_ishl S.1 S.2.1 dX5_isHelped_9 ?_
  refine lv_iconst (v := (-1)) S.1 S.2.1 dX5_isHelped_10 (by decide) ?_
  refine lv_ixor S.1 S.2.1 dX5_isHelped_11 ?_
  refine iand_to (v := nI (mk (fun j => (nst z n 1) j && !decide (j = y)) 8)) S (mk_del (nst z n 1) (by omega)) dX5_isHelped_12 ?_
  refine lv_istore_n (lv' := [(3, .int (nI (mk (fun j => (nst z n 1) j && !decide (j = y)) 8))), (0, .ref (a 0)), (1, .int (nI (n))), (2, .int (nI (y)))]) S.1 S.2.1 dX5_isHelped_13 rfl hl (by decide) rfl (fun ls hl => ?_)
  refine lv_iconst (v := 0) S.1 S.2.1 dX5_isHelped_14 (by decide) ?_
  refine lv_istore (lv' := [(4, .int 0), (3, .int (nI (mk (fun j => (nst z n 1) j && !decide (j = y)) 8))), (0, .ref (a 0)), (1, .int (nI (n))), (2, .int (nI (y)))]) S.1 S.2.1 dX5_isHelped_15 hl (by decide) rfl (fun ls hl => ?_)
  refine lv_iconst (v := 0) S.1 S.2.1 dX5_isHelped_17 (by decide) ?_
  refine lv_istore (lv' := [(5, .int 0), (4, .int 0), (3, .int (nI (mk (fun j => (nst z n 1) j && !decide (j = y)) 8))), (0, .ref (a 0)), (1, .int (nI (n))), (2, .int (nI (y)))]) S.1 S.2.1 dX5_isHelped_18 hl (by decide) rfl (fun ls hl => ?_)
  have K20 : ∀ (fu : Nat) (d : Nat) (t : St) (q : Nat → Bool) (rb : Bool) (H : Heap) (locs : List Loc) (ls : Array Slot), hm z - d < fu → d ≤ hm z → hpK n y (hp0 z n y) d = (t, q, rb) → Inv t → WD G (mp G a t o) A s H locs → lv_has ls 7 [(0, .ref (a 0)), (1, .int (nI (n))), (2, .int (nI (y))), (3, .int (nI (mk q 8))), (4, .int (b2 (rb))), (5, .int (nI (d)))] → W p l e R s m args below meth c H locs 0 0 Q (F0 m 20 ls []) := by
    intro fu
    induction fu with
    | zero => exact fun _ _ _ _ _ _ _ h => absurd h (Nat.not_lt_zero _)
    | succ fu ih20 =>
      intro d t q rb H locs ls hm20 hd hp it hw hl
      refine lv_iload S.1 S.2.1 dX5_isHelped_20 (lv_at hl 5 rfl) ?_
      refine lv_aload_n S.1 S.2.1 dX5_isHelped_22 rfl (lv_at hl 0 rfl) ?_
      refine gt_X5_1 (v := .ref (a 1)) S hK hw 0 rfl rfl LX5 k1 dX5_isHelped_23 ?_
      refine lv_iconst (v := 4) S.1 S.2.1 dX5_isHelped_26 (by decide) ?_
      refine ald_i (v := t 0 (4)) (k := 4) S hK hw 1 rfl (by omega) (by decide) (fl_0 t (by omega)) dX5_isHelped_27 ?_
      refine lv_icmp_ge (tgt := 89) S.1 S.2.1 dX5_isHelped_28 (by decide) (fun c6 => ?_) (fun c6 => ?_)
      · skip
        have h04 : t 0 4 = nI (hm z) := by have := hpK_04 n y (hp0 z n y) d; rw [hp] at this; exact this.trans iz.2.2.2.2.2.2.1
        have hde : d = hm z := by rw [h04] at c6; have := (nI_leI (by omega) (by omega)).mp c6; omega
        refine lv_iload S.1 S.2.1 dX5_isHelped_89 (lv_at hl 4 rfl) ?_
        exact en_z (v := (b2 (rb))) ((t, o) : St × St) hQ S hr hlk (b2_narrow _) hw (by first | (rw [hpr, ← hde, hp]; exact ⟨rfl, rfl, rfl⟩) | (have hs := hpK_stop n y (hp0 z n y) (d := d) (by rw [hp]; exact hn9) (hm z - d); rw [show d + (hm z - d) = hm z by omega, hp] at hs; rw [hpr, hs]; exact ⟨rfl, rfl, rfl⟩)) dX5_isHelped_91
      · skip
        have h04 : t 0 4 = nI (hm z) := by have := hpK_04 n y (hp0 z n y) d; rw [hp] at this; exact this.trans iz.2.2.2.2.2.2.1
        have hdl : d < hm z := by rw [h04] at c6; exact Nat.lt_of_not_le (fun q9 => c6 ((nI_leI (by omega) (by omega)).mpr q9))
        refine lv_iload_n S.1 S.2.1 dX5_isHelped_31 rfl (lv_at hl 3 rfl) ?_
        refine brN0_eq (a := mk q 8) S (by first | omega | exact Nat.lt_trans (mk_256 _) (by decide)) (tgt := 89) dX5_isHelped_32 (by decide) (fun c7 => ?_) (fun c7 => ?_)
        · skip
          have hn9 : dv t q = none := by rw [dv, if_pos (mk_cnt.mp c7)]
          refine lv_iload S.1 S.2.1 dX5_isHelped_89 (lv_at hl 4 rfl) ?_
          exact en_z (v := (b2 (rb))) ((t, o) : St × St) hQ S hr hlk (b2_narrow _) hw (by first | (rw [hpr, ← hde, hp]; exact ⟨rfl, rfl, rfl⟩) | (have hs := hpK_stop n y (hp0 z n y) (d := d) (by rw [hp]; exact hn9) (hm z - d); rw [show d + (hm z - d) = hm z by omega, hp] at hs; rw [hpr, hs]; exact ⟨rfl, rfl, rfl⟩)) dX5_isHelped_91
        · skip
          have hc9 : ¬ cnt q 8 = 0 := fun h9 => c7 (mk_cnt.mpr h9)
          refine lv_aload_n S.1 S.2.1 dX5_isHelped_35 rfl (lv_at hl 0 rfl) ?_
          refine lv_iload_n S.1 S.2.1 dX5_isHelped_36 rfl (lv_at hl 3 rfl) ?_
          refine cl_i (va_runV (As := [.int (nI (mk q 8))]) (rest := []) S (c_X5_drawn l G a t o H.size q (by exact it) (by assumption)) (cwV 1 S.2.2.2.2 gX5_isHelped_X5_drawn rfl rfl rfl hd_X5_drawn ⟨by rw [hR]; exact Nat.le_of_ble_eq_true rfl, by rw [hR]; exact Nat.le_of_ble_eq_true rfl⟩) ⟨PW.blind, va_recv hK.1 hw.1 (ci := 5) (q0 := 0) rfl rfl, fun U hU hW => ⟨rfl, PW.of hK hw hU hW⟩⟩ rfl rfl hl.1 rfl (lv_room (Nat.le_of_ble_eq_true rfl)) dX5_isHelped_37 ⟨Nat.zero_le _, Nat.zero_le _⟩) hw hA (fun _ => rfl) (fun r8 z9 H locs h10 hw => ?_)
          obtain ⟨z11, o12⟩ := z9
          try dsimp only at h10 hw
          obtain ⟨rfl, ez11, qo12⟩ := h10
          rw [qo12] at hw
          have iz11 : Inv z11 := by rw [ez11]; exact inv_dz it q
          obtain ⟨h, hhv⟩ : ∃ q9, q9 = (nth q (sd (t 0 1) / 256 % cnt q 8) 8) := ⟨_, rfl⟩
          rw [← hhv]
          have hh9 : dv t q = some h := by rw [hhv]; exact dv_cnt hc9
          have hh8 := dv_in hh9
          refine lv_istore (lv' := [(6, .int (nI (h))), (0, .ref (a 0)), (1, .int (nI (n))), (2, .int (nI (y))), (3, .int (nI (mk q 8))), (4, .int (b2 (rb))), (5, .int (nI (d)))]) S.1 S.2.1 dX5_isHelped_40 hl (by decide) rfl (fun ls hl => ?_)
          refine lv_iload_n S.1 S.2.1 dX5_isHelped_42 rfl (lv_at hl 4 rfl) ?_
          refine lv_iconst (v := 1) S.1 S.2.1 dX5_isHelped_43 (by decide) ?_
          refine lv_iload S.1 S.2.1 dX5_isHelped_44 (lv_at hl 0 rfl) ?_
          refine lv_ishl S.1 S.2.1 dX5_isHelped_46 ?_
          refine lv_iconst (v := (-1)) S.1 S.2.1 dX5_isHelped_47 (by decide) ?_
          refine lv_ixor S.1 S.2.1 dX5_isHelped_48 ?_
          refine iand_to (v := nI (mk (fun j => q j && !decide (j = h)) 8)) S (mk_del q (by omega)) dX5_isHelped_49 ?_
          refine lv_istore_n (lv' := [(3, .int (nI (mk (fun j => q j && !decide (j = h)) 8))), (6, .int (nI (h))), (0, .ref (a 0)), (1, .int (nI (n))), (2, .int (nI (y))), (4, .int (b2 (rb))), (5, .int (nI (d)))]) S.1 S.2.1 dX5_isHelped_50 rfl hl (by decide) rfl (fun ls hl => ?_)
          refine lv_iload S.1 S.2.1 dX5_isHelped_51 (lv_at hl 5 rfl) ?_
          refine brB_ne (b := rb) S (tgt := 76) dX5_isHelped_53 (by decide) (fun c13 => ?_) (fun c13 => ?_)
          · skip
            refine lv_iconst (v := 1) S.1 S.2.1 dX5_isHelped_76 (by decide) ?_
            refine lv_goto (tgt := 81) S.1 S.2.1 dX5_isHelped_77 (by decide) ?_
            refine top_to (v := (b2 ((rb || (cnn z11 n h && cnn z11 h y))))) S (by simp [b2, c6, c7, c13]) ?_
            refine lv_istore (lv' := [(4, .int (b2 ((rb || (cnn z11 n h && cnn z11 h y))))), (3, .int (nI (mk (fun j => q j && !decide (j = h)) 8))), (6, .int (nI (h))), (0, .ref (a 0)), (1, .int (nI (n))), (2, .int (nI (y))), (5, .int (nI (d)))]) S.1 S.2.1 dX5_isHelped_81 hl (by decide) rfl (fun ls hl => ?_)
            refine lv_iinc (v := (nI (d + 1))) (lv' := [(5, .int (nI (d + 1))), (4, .int (b2 ((rb || (cnn z11 n h && cnn z11 h y))))), (3, .int (nI (mk (fun j => q j && !decide (j = h)) 8))), (6, .int (nI (h))), (0, .ref (a 0)), (1, .int (nI (n))), (2, .int (nI (y)))]) S.1 S.2.1 dX5_isHelped_83 hl (k := 6) rfl (nI_add _ _) (by decide) rfl (fun ls hl => ?_)
            refine lv_goto (tgt := 20) S.1 S.2.1 dX5_isHelped_86 (by decide) ?_
            exact ih20 (d + 1) (z11) ((fun j => q j && !decide (j = h))) ((rb || (cnn z11 n h && cnn z11 h y))) _ _ _ (by omega) (by omega) (by show hpS n y (hpK n y (hp0 z n y) d) = _; rw [hp, hpS]; dsimp only; rw [hh9, ez11]) (by exact iz11) hw (lv_sub hl [4, 5, 6, 2, 1, 0] rfl)
          · skip
            refine lv_aload_n S.1 S.2.1 dX5_isHelped_56 rfl (lv_at hl 2 rfl) ?_
            refine lv_iload_n S.1 S.2.1 dX5_isHelped_57 rfl (lv_at hl 3 rfl) ?_
            refine lv_iload S.1 S.2.1 dX5_isHelped_58 (lv_at hl 1 rfl) ?_
            refine cl_i (va_runV (As := [.int (nI (n)), .int (nI (h))]) (rest := []) S (c_X5_canReach l G a z11 o H.size (n) (h) (by omega) (by omega) (by exact iz11)) (cwV 2 S.2.2.2.2 gX5_isHelped_X5_canReach rfl rfl rfl hd_X5_canReach ⟨by rw [hR]; exact Nat.le_of_ble_eq_true rfl, by rw [hR]; exact Nat.le_of_ble_eq_true rfl⟩) ⟨PW.blind, va_recv hK.1 hw.1 (ci := 5) (q0 := 0) rfl rfl, fun U hU hW => ⟨rfl, PW.of hK hw hU hW⟩⟩ rfl rfl hl.1 rfl (lv_room (Nat.le_of_ble_eq_true rfl)) dX5_isHelped_60 ⟨Nat.zero_le _, Nat.zero_le _⟩) hw hA (fun _ => rfl) (fun r14 z15 H locs h16 hw => ?_)
            obtain ⟨z17, o18⟩ := z15
            try dsimp only at h16 hw
            obtain ⟨rfl, qz17, qo18⟩ := h16
            rw [qz17] at hw
            rw [qo18] at hw
            refine brB_eq (b := cnn z11 (n) (h)) S (tgt := 80) dX5_isHelped_63 (by decide) (fun c19 => ?_) (fun c19 => ?_)
            · skip
              refine lv_iconst (v := 0) S.1 S.2.1 dX5_isHelped_80 (by decide) ?_
              refine top_to (v := (b2 ((rb || (cnn z11 n h && cnn z11 h y))))) S (by simp [b2, c7, c13, c19]) ?_
              refine lv_istore (lv' := [(4, .int (b2 ((rb || (cnn z11 n h && cnn z11 h y))))), (3, .int (nI (mk (fun j => q j && !decide (j = h)) 8))), (6, .int (nI (h))), (0, .ref (a 0)), (1, .int (nI (n))), (2, .int (nI (y))), (5, .int (nI (d)))]) S.1 S.2.1 dX5_isHelped_81 hl (by decide) rfl (fun ls hl => ?_)
              refine lv_iinc (v := (nI (d + 1))) (lv' := [(5, .int (nI (d + 1))), (4, .int (b2 ((rb || (cnn z11 n h && cnn z11 h y))))), (3, .int (nI (mk (fun j => q j && !decide (j = h)) 8))), (6, .int (nI (h))), (0, .ref (a 0)), (1, .int (nI (n))), (2, .int (nI (y)))]) S.1 S.2.1 dX5_isHelped_83 hl (k := 6) rfl (nI_add _ _) (by decide) rfl (fun ls hl => ?_)
              refine lv_goto (tgt := 20) S.1 S.2.1 dX5_isHelped_86 (by decide) ?_
              exact ih20 (d + 1) (z11) ((fun j => q j && !decide (j = h))) ((rb || (cnn z11 n h && cnn z11 h y))) _ _ _ (by omega) (by omega) (by show hpS n y (hpK n y (hp0 z n y) d) = _; rw [hp, hpS]; dsimp only; rw [hh9, ez11]) (by exact iz11) hw (lv_sub hl [4, 5, 6, 2, 1, 0] rfl)
            · skip
              refine lv_aload_n S.1 S.2.1 dX5_isHelped_66 rfl (lv_at hl 2 rfl) ?_
              refine lv_iload S.1 S.2.1 dX5_isHelped_67 (lv_at hl 1 rfl) ?_
              refine lv_iload_n S.1 S.2.1 dX5_isHelped_69 rfl (lv_at hl 4 rfl) ?_
              refine cl_i (va_runV (As := [.int (nI (h)), .int (nI (y))]) (rest := []) S (c_X5_canReach l G a z11 o H.size (h) (y) (by omega) (by omega) (by exact iz11)) (cwV 2 S.2.2.2.2 gX5_isHelped_X5_canReach rfl rfl rfl hd_X5_canReach ⟨by rw [hR]; exact Nat.le_of_ble_eq_true rfl, by rw [hR]; exact Nat.le_of_ble_eq_true rfl⟩) ⟨PW.blind, va_recv hK.1 hw.1 (ci := 5) (q0 := 0) rfl rfl, fun U hU hW => ⟨rfl, PW.of hK hw hU hW⟩⟩ rfl rfl hl.1 rfl (lv_room (Nat.le_of_ble_eq_true rfl)) dX5_isHelped_70 ⟨Nat.zero_le _, Nat.zero_le _⟩) hw hA (fun _ => rfl) (fun r20 z21 H locs h22 hw => ?_)
              obtain ⟨z23, o24⟩ := z21
              try dsimp only at h22 hw
              obtain ⟨rfl, qz23, qo24⟩ := h22
              rw [qz23] at hw
              rw [qo24] at hw
              refine brB_eq (b := cnn z11 (h) (y)) S (tgt := 80) dX5_isHelped_73 (by decide) (fun c25 => ?_) (fun c25 => ?_)
              · skip
                refine lv_iconst (v := 0) S.1 S.2.1 dX5_isHelped_80 (by decide) ?_
                refine top_to (v := (b2 ((rb || (cnn z11 n h && cnn z11 h y))))) S (by simp [b2, c13, c19, c25]) ?_
                refine lv_istore (lv' := [(4, .int (b2 ((rb || (cnn z11 n h && cnn z11 h y))))), (3, .int (nI (mk (fun j => q j && !decide (j = h)) 8))), (6, .int (nI (h))), (0, .ref (a 0)), (1, .int (nI (n))), (2, .int (nI (y))), (5, .int (nI (d)))]) S.1 S.2.1 dX5_isHelped_81 hl (by decide) rfl (fun ls hl => ?_)
                refine lv_iinc (v := (nI (d + 1))) (lv' := [(5, .int (nI (d + 1))), (4, .int (b2 ((rb || (cnn z11 n h && cnn z11 h y))))), (3, .int (nI (mk (fun j => q j && !decide (j = h)) 8))), (6, .int (nI (h))), (0, .ref (a 0)), (1, .int (nI (n))), (2, .int (nI (y)))]) S.1 S.2.1 dX5_isHelped_83 hl (k := 6) rfl (nI_add _ _) (by decide) rfl (fun ls hl => ?_)
                refine lv_goto (tgt := 20) S.1 S.2.1 dX5_isHelped_86 (by decide) ?_
                exact ih20 (d + 1) (z11) ((fun j => q j && !decide (j = h))) ((rb || (cnn z11 n h && cnn z11 h y))) _ _ _ (by omega) (by omega) (by show hpS n y (hpK n y (hp0 z n y) d) = _; rw [hp, hpS]; dsimp only; rw [hh9, ez11]) (by exact iz11) hw (lv_sub hl [4, 5, 6, 2, 1, 0] rfl)
              · skip
                refine lv_iconst (v := 1) S.1 S.2.1 dX5_isHelped_76 (by decide) ?_
                refine lv_goto (tgt := 81) S.1 S.2.1 dX5_isHelped_77 (by decide) ?_
                refine top_to (v := (b2 ((rb || (cnn z11 n h && cnn z11 h y))))) S (by simp [b2, c13, c19, c25]) ?_
                refine lv_istore (lv' := [(4, .int (b2 ((rb || (cnn z11 n h && cnn z11 h y))))), (3, .int (nI (mk (fun j => q j && !decide (j = h)) 8))), (6, .int (nI (h))), (0, .ref (a 0)), (1, .int (nI (n))), (2, .int (nI (y))), (5, .int (nI (d)))]) S.1 S.2.1 dX5_isHelped_81 hl (by decide) rfl (fun ls hl => ?_)
                refine lv_iinc (v := (nI (d + 1))) (lv' := [(5, .int (nI (d + 1))), (4, .int (b2 ((rb || (cnn z11 n h && cnn z11 h y))))), (3, .int (nI (mk (fun j => q j && !decide (j = h)) 8))), (6, .int (nI (h))), (0, .ref (a 0)), (1, .int (nI (n))), (2, .int (nI (y)))]) S.1 S.2.1 dX5_isHelped_83 hl (k := 6) rfl (nI_add _ _) (by decide) rfl (fun ls hl => ?_)
                refine lv_goto (tgt := 20) S.1 S.2.1 dX5_isHelped_86 (by decide) ?_
                exact ih20 (d + 1) (z11) ((fun j => q j && !decide (j = h))) ((rb || (cnn z11 n h && cnn z11 h y))) _ _ _ (by omega) (by omega) (by show hpS n y (hpK n y (hp0 z n y) d) = _; rw [hp, hpS]; dsimp only; rw [hh9, ez11]) (by exact iz11) hw (lv_sub hl [4, 5, 6, 2, 1, 0] rfl)
  exact K20 (hm z + 1) (0) (z) (fun j => nst z n 1 j && !decide (j = y)) (false) _ _ _ (by omega) (by exact Nat.zero_le _) (by rfl) (by exact iz) hw (lv_sub hl [3, 4, 5, 2, 1, 0] rfl)

theorem hd_X5_composes : yX5_composes.cls = RX5 ∧ yX5_composes.cls ≠ "java/lang/invoke/MethodHandle" ∧ yX5_composes.cls ≠ "java/lang/invoke/VarHandle" ∧ (parseMethodDescriptor yX5_composes.desc).map (fun d => d.parameters.length) = some 2 := by decide +kernel
set_option maxHeartbeats 4000000 in
set_option maxRecDepth 100000 in
theorem c_X5_composes (l : Launch) (G : GA) (a : Nat → Nat) (z : St) (o : St) (sz : Nat) (n : Nat) (b : Nat) (hn : n < 8) (hb : b < 8) : Met l yX5_composes wsX5_composes ({ frames := 2, cells := 0, slots := 0, locals := 46 }) (va_Pc [.ref (a 0), .int (nI (n)), .int (nI (b))] (PW G (mp G a z o) sz)) (va_Qv (fun (u : St × St) => u.1 = cmZ z n b ∧ SC o u.2 ∧ CL u.2 (cmF z n b).2) (fun (u : St × St) t => va_P G.1 gcl (mp G a u.1 u.2) t.heap) (va_A (mp G a z o) sz)) 0 0 (va_A (mp G a z o) sz) := by
  refine met_st (cc := cX5_composes) (maxL := 7) (ret := none) (fun A => va_Qv (fun (u : St × St) => u.1 = cmZ z n b ∧ SC o u.2 ∧ CL u.2 (cmF z n b).2) (fun (u : St × St) t => va_P G.1 gcl (mp G a u.1 u.2) t.heap) A) (by decide) rfl (Nat.le_of_ble_eq_true rfl) ?_
  intro p e s m args below meth c R Q A H ls hR hQ S hr hlk _ hK hsz hH hAe hA hw hl
  have hl : lv_has ls 7 [(0, .ref (a 0)), (1, .int (nI (n))), (2, .int (nI (b)))] := hl
  have LX5 : ∀ w ∈ u_ws RX5 TX5 12, w.before args s = true := fun w h => S.2.2.2.2 w ((by decide +kernel : ∀ w ∈ u_ws RX5 TX5 12, w ∈ wsX5_composes) w h)
  have k1 : (Cond.fieldLink RX5 49 "GossipMembershipModel" "sentMany" "I").before args s = true := S.2.2.2.2 _ (by decide +kernel : (Cond.fieldLink RX5 49 "GossipMembershipModel" "sentMany" "I") ∈ wsX5_composes)
  have k2 : (Cond.fieldLink RX5 7 "GossipMembershipModel" "s" "[I").before args s = true := S.2.2.2.2 _ (by decide +kernel : (Cond.fieldLink RX5 7 "GossipMembershipModel" "s" "[I") ∈ wsX5_composes)
  have k3 : (Cond.fieldLink RX5 19 "GossipMembershipModel" "sent" "[I").before args s = true := S.2.2.2.2 _ (by decide +kernel : (Cond.fieldLink RX5 19 "GossipMembershipModel" "sent" "[I") ∈ wsX5_composes)
  refine lv_aload_n S.1 S.2.1 dX5_composes_0 rfl (lv_at hl 0 rfl) ?_
  refine lv_iconst (v := 0) S.1 S.2.1 dX5_composes_1 (by decide) ?_
  refine pt_X5_9 (ws' := (mp G a z (st o 0 5 (0)))) S hK hw 0 rfl LX5 k1 rfl (Nat.le_of_ble_eq_true rfl) dX5_composes_2 (fun H locs hw => ?_)
  obtain ⟨o1, eo1⟩ : ∃ zz, zz = st o 0 5 (0) := ⟨_, rfl⟩
  have hw : WD G (mp G a z o1) A s H locs := by rw [eo1]; exact hw
  have K44 : ∀  (H : Heap) (locs : List Loc) (ls : Array Slot), WD G (mp G a z o1) A s H locs → lv_has ls 7 [(0, .ref (a 0)), (1, .int (nI (n))), (2, .int (nI (b)))] → W p l e R s m args below meth c H locs 0 0 Q (F0 m 44 ls [.int (b2 (cmA z n b))]) := by
    intro  H locs ls  hw hl
    refine lv_istore_n (lv' := [(3, .int (b2 (cmA z n b))), (0, .ref (a 0)), (1, .int (nI (n))), (2, .int (nI (b)))]) S.1 S.2.1 dX5_composes_44 rfl hl (by decide) rfl (fun ls hl => ?_)
    have K67 : ∀ (fu : Nat) (j : Nat) (q : Nat → Bool) (L : List Nat) (w : St) (H : Heap) (locs : List Loc) (ls : Array Slot), 3 - j < fu → j ≤ 3 → cmK z (cmA z n b) n b (cm0 (cmA z n b) b) j = (q, L) → CL w L → SC o w → WD G (mp G a z w) A s H locs → lv_has ls 7 [(0, .ref (a 0)), (1, .int (nI (n))), (2, .int (nI (b))), (3, .int (b2 (cmA z n b))), (4, .int (nI (mk q 8))), (5, .int (nI (j)))] → W p l e R s m args below meth c H locs 0 0 Q (F0 m 67 ls []) := by
      intro fu
      induction fu with
      | zero => exact fun _ _ _ _ _ _ _ h => absurd h (Nat.not_lt_zero _)
      | succ fu ih67 =>
        intro j q L w H locs ls hm67 hj hq hL hsc hw hl
        refine lv_iload S.1 S.2.1 dX5_composes_67 (lv_at hl 5 rfl) ?_
        refine lv_iconst (v := 3) S.1 S.2.1 dX5_composes_69 (by decide) ?_
        refine brN_ge (a := j) (b := 3) S (by omega) (by omega) (tgt := 134) dX5_composes_70 (by decide) (fun c2 => ?_) (fun c2 => ?_)
        · skip
          have hj9 : j = 3 := by omega
          subst hj9
          refine lv_iconst (v := 0) S.1 S.2.1 dX5_composes_134 (by decide) ?_
          refine lv_istore (lv' := [(5, .int 0), (0, .ref (a 0)), (1, .int (nI (n))), (2, .int (nI (b))), (3, .int (b2 (cmA z n b))), (4, .int (nI (mk q 8)))]) S.1 S.2.1 dX5_composes_135 hl (by decide) rfl (fun ls hl => ?_)
          have K137 : ∀ (fu : Nat) (k : Nat) (t : St) (H : Heap) (locs : List Loc) (ls : Array Slot), 8 - k < fu → k ≤ 8 → t = dcr z n q k → WD G (mp G a t w) A s H locs → lv_has ls 7 [(0, .ref (a 0)), (1, .int (nI (n))), (4, .int (nI (mk q 8))), (5, .int (nI (k)))] → W p l e R s m args below meth c H locs 0 0 Q (F0 m 137 ls []) := by
            intro fu
            induction fu with
            | zero => exact fun _ _ _ _ _ h => absurd h (Nat.not_lt_zero _)
            | succ fu ih137 =>
              intro k t H locs ls hm137 hk ht hw hl
              refine lv_iload S.1 S.2.1 dX5_composes_137 (lv_at hl 3 rfl) ?_
              refine lv_bipush (v := 8) S.1 S.2.1 dX5_composes_139 (by decide) ?_
              refine brN_ge (a := k) (b := 8) S (by omega) (by omega) (tgt := 175) dX5_composes_141 (by decide) (fun c3 => ?_) (fun c3 => ?_)
              · skip
                have hk9 : k = 8 := by omega
                subst hk9
                exact en_v ((t, w) : St × St) hQ S hr hlk hw (by exact ⟨by rw [cmZ, cmF, hq]; exact ht, hsc, by rw [cmF, hq]; exact hL⟩) dX5_composes_175
              · skip
                refine lv_aload_n S.1 S.2.1 dX5_composes_144 rfl (lv_at hl 0 rfl) ?_
                refine gt_X5_1 (v := .ref (a 1)) S hK hw 0 rfl rfl LX5 k2 dX5_composes_145 ?_
                refine lv_sipush (v := 234) S.1 S.2.1 dX5_composes_148 (by decide) ?_
                refine lv_iload_n S.1 S.2.1 dX5_composes_151 rfl (lv_at hl 1 rfl) ?_
                refine lv_iload S.1 S.2.1 dX5_composes_152 (lv_at hl 3 rfl) ?_
                refine pr_m (n := n) (b := k) S hl.1 gX5_composes_X5_pair ⟨by rw [hR]; exact Nat.le_of_ble_eq_true rfl, by rw [hR]; exact Nat.le_of_ble_eq_true rfl⟩ (Nat.zero_le _) (Nat.zero_le _) (Nat.le_of_ble_eq_true rfl) dX5_composes_154 ?_
                refine addN (a := 234) (b := 8 * n + k) S dX5_composes_157 ?_
                refine lv_dup2_11 S.1 S.2.1 dX5_composes_158 rfl rfl ?_
                refine ald_i (v := t 8 ((8 * n + k))) (k := 234 + (8 * n + k)) S hK hw 1 rfl (by omega) (by decide) (fl_8 t (by omega)) dX5_composes_159 ?_
                refine lv_iload S.1 S.2.1 dX5_composes_160 (lv_at hl 2 rfl) ?_
                refine lv_iload S.1 S.2.1 dX5_composes_162 (lv_at hl 3 rfl) ?_
                refine lv_ishr S.1 S.2.1 dX5_composes_164 ?_
                refine lv_iconst (v := 1) S.1 S.2.1 dX5_composes_165 (by decide) ?_
                refine iand_to (v := b2 (q (k))) S (mk_sh q (by omega)) dX5_composes_166 ?_
                refine lv_isub S.1 S.2.1 dX5_composes_167 ?_
                refine ast_i (ws' := (mp G a (st t 8 ((8 * n + k)) ((t 8 ((8 * n + k))) - (b2 (q (k))))) w)) (k := 234 + (8 * n + k)) S hK hw 1 rfl (by omega) (by decide) (mp_set (fu_8 t (by omega) _)) dX5_composes_168 (fun H locs hw => ?_)
                obtain ⟨z4, ez4⟩ : ∃ zz, zz = st t 8 ((8 * n + k)) ((t 8 ((8 * n + k))) - (b2 (q (k)))) := ⟨_, rfl⟩
                have hw : WD G (mp G a z4 w) A s H locs := by rw [ez4]; exact hw
                refine lv_iinc (v := (nI (k + 1))) (lv' := [(5, .int (nI (k + 1))), (0, .ref (a 0)), (1, .int (nI (n))), (4, .int (nI (mk q 8)))]) S.1 S.2.1 dX5_composes_169 hl (k := 3) rfl (nI_add _ _) (by decide) rfl (fun ls hl => ?_)
                refine lv_goto (tgt := 137) S.1 S.2.1 dX5_composes_172 (by decide) ?_
                exact ih137 (k + 1) (z4) _ _ _ (by omega) (by omega) (by subst ez4 eo1; subst ht; rfl) hw (lv_sub hl [1, 2, 3, 0] rfl)
          exact K137 (9) (0) (z) _ _ _ (by omega) (by omega) (by rfl) hw (lv_sub hl [1, 2, 5, 0] rfl)
        · skip
          refine lv_aload_n S.1 S.2.1 dX5_composes_73 rfl (lv_at hl 0 rfl) ?_
          refine lv_iload_n S.1 S.2.1 dX5_composes_74 rfl (lv_at hl 1 rfl) ?_
          refine lv_iload S.1 S.2.1 dX5_composes_75 (lv_at hl 4 rfl) ?_
          refine cl_i (va_runV (As := [.int (nI (n)), .int (nI (mk q 8))]) (rest := []) S (c_X5_mostCounted l G a z w H.size (n) q (by omega)) (cwV 2 S.2.2.2.2 gX5_composes_X5_mostCounted rfl rfl rfl hd_X5_mostCounted ⟨by rw [hR]; exact Nat.le_of_ble_eq_true rfl, by rw [hR]; exact Nat.le_of_ble_eq_true rfl⟩) ⟨PW.blind, va_recv hK.1 hw.1 (ci := 5) (q0 := 0) rfl rfl, fun U hU hW => ⟨rfl, PW.of hK hw hU hW⟩⟩ rfl rfl hl.1 rfl (lv_room (Nat.le_of_ble_eq_true rfl)) dX5_composes_77 ⟨Nat.zero_le _, Nat.zero_le _⟩) hw hA (fun _ => rfl) (fun r5 z6 H locs h7 hw => ?_)
          obtain ⟨z8, o9⟩ := z6
          try dsimp only at h7 hw
          obtain ⟨rfl, qz8, qo9⟩ := h7
          rw [qz8] at hw
          rw [qo9] at hw
          refine lv_istore (lv' := [(6, .int (oI (mu z (n) q 8))), (0, .ref (a 0)), (1, .int (nI (n))), (2, .int (nI (b))), (3, .int (b2 (cmA z n b))), (4, .int (nI (mk q 8))), (5, .int (nI (j)))]) S.1 S.2.1 dX5_composes_80 hl (by decide) rfl (fun ls hl => ?_)
          refine lv_iload S.1 S.2.1 dX5_composes_82 (lv_at hl 0 rfl) ?_
          refine lv_iconst (v := (-1)) S.1 S.2.1 dX5_composes_84 (by decide) ?_
          refine lv_icmp_eq (tgt := 128) S.1 S.2.1 dX5_composes_85 (by decide) (fun c10 => ?_) (fun c10 => ?_)
          · skip
            have hn9 : mu z n q 8 = none := oI_none (fun y9 h9 => mu_lt _ _ _ 8 y9 h9) c10
            refine lv_iinc (v := (nI (j + 1))) (lv' := [(5, .int (nI (j + 1))), (6, .int (oI (mu z (n) q 8))), (0, .ref (a 0)), (1, .int (nI (n))), (2, .int (nI (b))), (3, .int (b2 (cmA z n b))), (4, .int (nI (mk q 8)))]) S.1 S.2.1 dX5_composes_128 hl (k := 6) rfl (nI_add _ _) (by decide) rfl (fun ls hl => ?_)
            refine lv_goto (tgt := 67) S.1 S.2.1 dX5_composes_131 (by decide) ?_
            exact ih67 (j + 1) (q) (L) (w) _ _ _ (by omega) (by omega) (by rw [cmK, hq, cmS]; dsimp only; first | (rw [hn9]; done) | (rw [hy9]; dsimp only; first | (rw [if_pos ⟨by assumption, by assumption⟩]; done) | (rw [if_neg (fun h => absurd h.2 (by assumption))]; done) | (rw [if_neg (fun h => absurd h.1 (by rw [c10]; decide))]; done))) (by first | exact hL | (subst eo1; exact CL_add hL y)) (by first | exact hsc | (subst eo1; exact SC_5 (SC_3 hsc _ _) _)) hw (lv_sub hl [2, 3, 4, 5, 6, 0] rfl)
          · skip
            obtain ⟨y, hy9⟩ := oI_some c10
            have hy8 := mu_lt _ _ _ 8 y hy9
            have hl : lv_has ls 7 [(6, .int (nI (y))), (0, .ref (a 0)), (1, .int (nI (n))), (2, .int (nI (b))), (3, .int (b2 (cmA z n b))), (4, .int (nI (mk q 8))), (5, .int (nI (j)))] := by rw [hy9] at hl; exact hl
            refine lv_iload S.1 S.2.1 dX5_composes_88 (lv_at hl 5 rfl) ?_
            refine lv_iconst (v := 1) S.1 S.2.1 dX5_composes_90 (by decide) ?_
            refine lv_iload S.1 S.2.1 dX5_composes_91 (lv_at hl 0 rfl) ?_
            refine lv_ishl S.1 S.2.1 dX5_composes_93 ?_
            refine ior_to (v := nI (mk (fun j2 => q j2 || decide (j2 = y)) 8)) S (mk_ins q (by omega)) dX5_composes_94 ?_
            refine lv_istore (lv' := [(4, .int (nI (mk (fun j2 => q j2 || decide (j2 = y)) 8))), (6, .int (nI (y))), (0, .ref (a 0)), (1, .int (nI (n))), (2, .int (nI (b))), (3, .int (b2 (cmA z n b))), (5, .int (nI (j)))]) S.1 S.2.1 dX5_composes_95 hl (by decide) rfl (fun ls hl => ?_)
            refine lv_iload S.1 S.2.1 dX5_composes_97 (lv_at hl 1 rfl) ?_
            refine lv_iload_n S.1 S.2.1 dX5_composes_99 rfl (lv_at hl 4 rfl) ?_
            refine brN_ne (a := y) (b := b) S (by omega) (by omega) (tgt := 107) dX5_composes_100 (by decide) (fun c11 => ?_) (fun c11 => ?_)
            · skip
              refine lv_aload_n S.1 S.2.1 dX5_composes_107 rfl (lv_at hl 2 rfl) ?_
              refine gt_X5_8 (v := .ref (a 4)) S hK hw 0 rfl rfl LX5 k3 dX5_composes_108 ?_
              refine lv_aload_n S.1 S.2.1 dX5_composes_111 rfl (lv_at hl 2 rfl) ?_
              refine gt_X5_9 (v := .int (w 0 5)) S hK hw 0 rfl rfl LX5 k1 dX5_composes_112 ?_
              refine top_to (v := (nI (L.length))) S (hL.1) ?_
              have hlen : L.length ≤ j + 1 := by have h9 := cmK_len z (cmA z n b) n b j; rw [hq] at h9; exact h9
              refine lv_iload S.1 S.2.1 dX5_composes_115 (lv_at hl 1 rfl) ?_
              refine ast_i (ws' := (mp G a z (st w 3 (L.length) (nI (y))))) (k := L.length) S hK hw 4 rfl (by omega) (by decide) rfl dX5_composes_117 (fun H locs hw => ?_)
              obtain ⟨o12, eo12⟩ : ∃ zz, zz = st w 3 (L.length) (nI (y)) := ⟨_, rfl⟩
              have hw : WD G (mp G a z o12) A s H locs := by rw [eo12]; exact hw
              refine lv_aload_n S.1 S.2.1 dX5_composes_118 rfl (lv_at hl 2 rfl) ?_
              refine lv_dup S.1 S.2.1 dX5_composes_119 rfl ?_
              refine gt_X5_9 (v := .int (o12 0 5)) S hK hw 0 rfl rfl LX5 k1 dX5_composes_120 ?_
              refine lv_iconst (v := 1) S.1 S.2.1 dX5_composes_123 (by decide) ?_
              refine lv_iadd S.1 S.2.1 dX5_composes_124 ?_
              refine pt_X5_9 (ws' := (mp G a z (st o12 0 5 ((o12 0 5) + (1))))) S hK hw 0 rfl LX5 k1 rfl (Nat.le_of_ble_eq_true rfl) dX5_composes_125 (fun H locs hw => ?_)
              obtain ⟨o13, eo13⟩ : ∃ zz, zz = st o12 0 5 ((o12 0 5) + (1)) := ⟨_, rfl⟩
              have hw : WD G (mp G a z o13) A s H locs := by rw [eo13]; exact hw
              refine lv_iinc (v := (nI (j + 1))) (lv' := [(5, .int (nI (j + 1))), (4, .int (nI (mk (fun j2 => q j2 || decide (j2 = y)) 8))), (6, .int (nI (y))), (0, .ref (a 0)), (1, .int (nI (n))), (2, .int (nI (b))), (3, .int (b2 (cmA z n b)))]) S.1 S.2.1 dX5_composes_128 hl (k := 6) rfl (nI_add _ _) (by decide) rfl (fun ls hl => ?_)
              refine lv_goto (tgt := 67) S.1 S.2.1 dX5_composes_131 (by decide) ?_
              exact ih67 (j + 1) ((fun j2 => q j2 || decide (j2 = y))) (L ++ [y]) (o13) _ _ _ (by omega) (by omega) (by rw [cmK, hq, cmS]; dsimp only; first | (rw [hn9]; done) | (rw [hy9]; dsimp only; first | (rw [if_pos ⟨by assumption, by assumption⟩]; done) | (rw [if_neg (fun h => absurd h.2 (by assumption))]; done) | (rw [if_neg (fun h => absurd h.1 (by rw [c11]; decide))]; done))) (by first | exact hL | (subst eo13 eo12 eo1; exact CL_add hL y)) (by first | exact hsc | (subst eo13 eo12 eo1; exact SC_5 (SC_3 hsc _ _) _)) hw (lv_sub hl [3, 4, 5, 6, 1, 0] rfl)
            · skip
              refine lv_iload_n S.1 S.2.1 dX5_composes_103 rfl (lv_at hl 5 rfl) ?_
              refine brB_ne (b := cmA z n b) S (tgt := 128) dX5_composes_104 (by decide) (fun c14 => ?_) (fun c14 => ?_)
              · skip
                refine lv_iinc (v := (nI (j + 1))) (lv' := [(5, .int (nI (j + 1))), (4, .int (nI (mk (fun j2 => q j2 || decide (j2 = y)) 8))), (6, .int (nI (y))), (0, .ref (a 0)), (1, .int (nI (n))), (2, .int (nI (b))), (3, .int (b2 (cmA z n b)))]) S.1 S.2.1 dX5_composes_128 hl (k := 6) rfl (nI_add _ _) (by decide) rfl (fun ls hl => ?_)
                refine lv_goto (tgt := 67) S.1 S.2.1 dX5_composes_131 (by decide) ?_
                exact ih67 (j + 1) ((fun j2 => q j2 || decide (j2 = y))) (L) (w) _ _ _ (by omega) (by omega) (by rw [cmK, hq, cmS]; dsimp only; first | (rw [hn9]; done) | (rw [hy9]; dsimp only; first | (rw [if_pos ⟨by assumption, by assumption⟩]; done) | (rw [if_neg (fun h => absurd h.2 (by assumption))]; done) | (rw [if_neg (fun h => absurd h.1 (by rw [c14]; decide))]; done))) (by first | exact hL | (subst eo1; exact CL_add hL y)) (by first | exact hsc | (subst eo1; exact SC_5 (SC_3 hsc _ _) _)) hw (lv_sub hl [3, 4, 5, 6, 1, 0] rfl)
              · skip
                refine lv_aload_n S.1 S.2.1 dX5_composes_107 rfl (lv_at hl 2 rfl) ?_
                refine gt_X5_8 (v := .ref (a 4)) S hK hw 0 rfl rfl LX5 k3 dX5_composes_108 ?_
                refine lv_aload_n S.1 S.2.1 dX5_composes_111 rfl (lv_at hl 2 rfl) ?_
                refine gt_X5_9 (v := .int (w 0 5)) S hK hw 0 rfl rfl LX5 k1 dX5_composes_112 ?_
                refine top_to (v := (nI (L.length))) S (hL.1) ?_
                have hlen : L.length ≤ j + 1 := by have h9 := cmK_len z (cmA z n b) n b j; rw [hq] at h9; exact h9
                refine lv_iload S.1 S.2.1 dX5_composes_115 (lv_at hl 1 rfl) ?_
                refine ast_i (ws' := (mp G a z (st w 3 (L.length) (nI (y))))) (k := L.length) S hK hw 4 rfl (by omega) (by decide) rfl dX5_composes_117 (fun H locs hw => ?_)
                obtain ⟨o15, eo15⟩ : ∃ zz, zz = st w 3 (L.length) (nI (y)) := ⟨_, rfl⟩
                have hw : WD G (mp G a z o15) A s H locs := by rw [eo15]; exact hw
                refine lv_aload_n S.1 S.2.1 dX5_composes_118 rfl (lv_at hl 2 rfl) ?_
                refine lv_dup S.1 S.2.1 dX5_composes_119 rfl ?_
                refine gt_X5_9 (v := .int (o15 0 5)) S hK hw 0 rfl rfl LX5 k1 dX5_composes_120 ?_
                refine lv_iconst (v := 1) S.1 S.2.1 dX5_composes_123 (by decide) ?_
                refine lv_iadd S.1 S.2.1 dX5_composes_124 ?_
                refine pt_X5_9 (ws' := (mp G a z (st o15 0 5 ((o15 0 5) + (1))))) S hK hw 0 rfl LX5 k1 rfl (Nat.le_of_ble_eq_true rfl) dX5_composes_125 (fun H locs hw => ?_)
                obtain ⟨o16, eo16⟩ : ∃ zz, zz = st o15 0 5 ((o15 0 5) + (1)) := ⟨_, rfl⟩
                have hw : WD G (mp G a z o16) A s H locs := by rw [eo16]; exact hw
                refine lv_iinc (v := (nI (j + 1))) (lv' := [(5, .int (nI (j + 1))), (4, .int (nI (mk (fun j2 => q j2 || decide (j2 = y)) 8))), (6, .int (nI (y))), (0, .ref (a 0)), (1, .int (nI (n))), (2, .int (nI (b))), (3, .int (b2 (cmA z n b)))]) S.1 S.2.1 dX5_composes_128 hl (k := 6) rfl (nI_add _ _) (by decide) rfl (fun ls hl => ?_)
                refine lv_goto (tgt := 67) S.1 S.2.1 dX5_composes_131 (by decide) ?_
                exact ih67 (j + 1) ((fun j2 => q j2 || decide (j2 = y))) (L ++ [y]) (o16) _ _ _ (by omega) (by omega) (by rw [cmK, hq, cmS]; dsimp only; first | (rw [hn9]; done) | (rw [hy9]; dsimp only; first | (rw [if_pos ⟨by assumption, by assumption⟩]; done) | (rw [if_neg (fun h => absurd h.2 (by assumption))]; done) | (rw [if_neg (fun h => absurd h.1 (by rw [c14]; decide))]; done))) (by first | exact hL | (subst eo16 eo15 eo1; exact CL_add hL y)) (by first | exact hsc | (subst eo16 eo15 eo1; exact SC_5 (SC_3 hsc _ _) _)) hw (lv_sub hl [3, 4, 5, 6, 1, 0] rfl)
    refine lv_iload_n S.1 S.2.1 dX5_composes_45 rfl (lv_at hl 0 rfl) ?_
    refine brB_eq (b := cmA z n b) S (tgt := 61) dX5_composes_46 (by decide) (fun c17 => ?_) (fun c17 => ?_)
    · skip
      refine lv_iconst (v := 0) S.1 S.2.1 dX5_composes_61 (by decide) ?_
      refine lv_istore (lv' := [(4, .int 0), (3, .int (b2 (cmA z n b))), (0, .ref (a 0)), (1, .int (nI (n))), (2, .int (nI (b)))]) S.1 S.2.1 dX5_composes_62 hl (by decide) rfl (fun ls hl => ?_)
      refine lv_iconst (v := 0) S.1 S.2.1 dX5_composes_64 (by decide) ?_
      refine lv_istore (lv' := [(5, .int 0), (4, .int 0), (3, .int (b2 (cmA z n b))), (0, .ref (a 0)), (1, .int (nI (n))), (2, .int (nI (b)))]) S.1 S.2.1 dX5_composes_65 hl (by decide) rfl (fun ls hl => ?_)
      exact K67 (4) (0) (fun _ => false) ([]) (o1) _ _ _ (by omega) (by omega) (by rw [cmK, cm0]; first | (rw [if_pos (by assumption)]; done) | (rw [if_neg (by rw [c17]; decide)]; done)) (by subst eo1; first | exact CL_one _ _ | exact CL_nil (st_s _ _ _ _)) (by subst eo1; first | exact SC_5 (SC_3 (SC_5 (SC.rf o) _) _ _) _ | exact SC_5 (SC.rf o) _) hw (lv_sub hl [3, 4, 5, 2, 1, 0] rfl)
    · skip
      refine lv_aload_n S.1 S.2.1 dX5_composes_49 rfl (lv_at hl 1 rfl) ?_
      refine gt_X5_8 (v := .ref (a 4)) S hK hw 0 rfl rfl LX5 k3 dX5_composes_50 ?_
      refine lv_iconst (v := 0) S.1 S.2.1 dX5_composes_53 (by decide) ?_
      refine lv_iload_n S.1 S.2.1 dX5_composes_54 rfl (lv_at hl 3 rfl) ?_
      refine ast_i (ws' := (mp G a z (st o1 3 (0) (nI (b))))) (k := 0) S hK hw 4 rfl (by omega) (by decide) rfl dX5_composes_55 (fun H locs hw => ?_)
      obtain ⟨o18, eo18⟩ : ∃ zz, zz = st o1 3 (0) (nI (b)) := ⟨_, rfl⟩
      have hw : WD G (mp G a z o18) A s H locs := by rw [eo18]; exact hw
      refine lv_aload_n S.1 S.2.1 dX5_composes_56 rfl (lv_at hl 1 rfl) ?_
      refine lv_iconst (v := 1) S.1 S.2.1 dX5_composes_57 (by decide) ?_
      refine pt_X5_9 (ws' := (mp G a z (st o18 0 5 (1)))) S hK hw 0 rfl LX5 k1 rfl (Nat.le_of_ble_eq_true rfl) dX5_composes_58 (fun H locs hw => ?_)
      obtain ⟨o19, eo19⟩ : ∃ zz, zz = st o18 0 5 (1) := ⟨_, rfl⟩
      have hw : WD G (mp G a z o19) A s H locs := by rw [eo19]; exact hw
      refine lv_iconst (v := 0) S.1 S.2.1 dX5_composes_61 (by decide) ?_
      refine lv_istore (lv' := [(4, .int 0), (3, .int (b2 (cmA z n b))), (0, .ref (a 0)), (1, .int (nI (n))), (2, .int (nI (b)))]) S.1 S.2.1 dX5_composes_62 hl (by decide) rfl (fun ls hl => ?_)
      refine lv_iconst (v := 0) S.1 S.2.1 dX5_composes_64 (by decide) ?_
      refine lv_istore (lv' := [(5, .int 0), (4, .int 0), (3, .int (b2 (cmA z n b))), (0, .ref (a 0)), (1, .int (nI (n))), (2, .int (nI (b)))]) S.1 S.2.1 dX5_composes_65 hl (by decide) rfl (fun ls hl => ?_)
      exact K67 (4) (0) (fun _ => false) ([b]) (o19) _ _ _ (by omega) (by omega) (by rw [cmK, cm0]; first | (rw [if_pos (by assumption)]; done) | (rw [if_neg (by rw [c17]; decide)]; done)) (by subst eo19 eo18 eo1; first | exact CL_one _ _ | exact CL_nil (st_s _ _ _ _)) (by subst eo19 eo18 eo1; first | exact SC_5 (SC_3 (SC_5 (SC.rf o) _) _ _) _ | exact SC_5 (SC.rf o) _) hw (lv_sub hl [3, 4, 5, 2, 1, 0] rfl)
  refine lv_aload_n S.1 S.2.1 dX5_composes_5 rfl (lv_at hl 0 rfl) ?_
  refine gt_X5_1 (v := .ref (a 1)) S hK hw 0 rfl rfl LX5 k2 dX5_composes_6 ?_
  refine lv_bipush (v := 42) S.1 S.2.1 dX5_composes_9 (by decide) ?_
  refine lv_iload_n S.1 S.2.1 dX5_composes_11 rfl (lv_at hl 1 rfl) ?_
  refine lv_iload_n S.1 S.2.1 dX5_composes_12 rfl (lv_at hl 2 rfl) ?_
  refine pr_m (n := n) (b := b) S hl.1 gX5_composes_X5_pair ⟨by rw [hR]; exact Nat.le_of_ble_eq_true rfl, by rw [hR]; exact Nat.le_of_ble_eq_true rfl⟩ (Nat.zero_le _) (Nat.zero_le _) (Nat.le_of_ble_eq_true rfl) dX5_composes_13 ?_
  refine addN (a := 42) (b := 8 * n + b) S dX5_composes_16 ?_
  refine ald_i (v := z 5 ((8 * n + b))) (k := 42 + (8 * n + b)) S hK hw 1 rfl (by omega) (by decide) (fl_5 z (by omega)) dX5_composes_17 ?_
  refine lv_iconst (v := 2) S.1 S.2.1 dX5_composes_18 (by decide) ?_
  refine lv_icmp_eq (tgt := 39) S.1 S.2.1 dX5_composes_19 (by decide) (fun c20 => ?_) (fun c20 => ?_)
  · skip
    refine lv_iconst (v := 1) S.1 S.2.1 dX5_composes_39 (by decide) ?_
    refine lv_goto (tgt := 44) S.1 S.2.1 dX5_composes_40 (by decide) ?_
    refine top_to (v := (b2 (cmA z n b))) S (by simp [cmA, b2, c20]) ?_
    exact K44  _ _ _  hw (lv_sub hl [0, 1, 2] rfl)
  · skip
    refine lv_aload_n S.1 S.2.1 dX5_composes_22 rfl (lv_at hl 0 rfl) ?_
    refine gt_X5_1 (v := .ref (a 1)) S hK hw 0 rfl rfl LX5 k2 dX5_composes_23 ?_
    refine lv_bipush (v := 42) S.1 S.2.1 dX5_composes_26 (by decide) ?_
    refine lv_iload_n S.1 S.2.1 dX5_composes_28 rfl (lv_at hl 1 rfl) ?_
    refine lv_iload_n S.1 S.2.1 dX5_composes_29 rfl (lv_at hl 2 rfl) ?_
    refine pr_m (n := n) (b := b) S hl.1 gX5_composes_X5_pair ⟨by rw [hR]; exact Nat.le_of_ble_eq_true rfl, by rw [hR]; exact Nat.le_of_ble_eq_true rfl⟩ (Nat.zero_le _) (Nat.zero_le _) (Nat.le_of_ble_eq_true rfl) dX5_composes_30 ?_
    refine addN (a := 42) (b := 8 * n + b) S dX5_composes_33 ?_
    refine ald_i (v := z 5 ((8 * n + b))) (k := 42 + (8 * n + b)) S hK hw 1 rfl (by omega) (by decide) (fl_5 z (by omega)) dX5_composes_34 ?_
    refine lv_iconst (v := 3) S.1 S.2.1 dX5_composes_35 (by decide) ?_
    refine lv_icmp_ne (tgt := 43) S.1 S.2.1 dX5_composes_36 (by decide) (fun c21 => ?_) (fun c21 => ?_)
    · skip
      refine lv_iconst (v := 0) S.1 S.2.1 dX5_composes_43 (by decide) ?_
      refine top_to (v := (b2 (cmA z n b))) S (by simp [cmA, b2, c20, c21]) ?_
      exact K44  _ _ _  hw (lv_sub hl [0, 1, 2] rfl)
    · skip
      refine lv_iconst (v := 1) S.1 S.2.1 dX5_composes_39 (by decide) ?_
      refine lv_goto (tgt := 44) S.1 S.2.1 dX5_composes_40 (by decide) ?_
      refine top_to (v := (b2 (cmA z n b))) S (by simp [cmA, b2, c20, c21]) ?_
      exact K44  _ _ _  hw (lv_sub hl [0, 1, 2] rfl)

theorem hd_X5_sends : yX5_sends.cls = RX5 ∧ yX5_sends.cls ≠ "java/lang/invoke/MethodHandle" ∧ yX5_sends.cls ≠ "java/lang/invoke/VarHandle" ∧ (parseMethodDescriptor yX5_sends.desc).map (fun d => d.parameters.length) = some 2 := by decide +kernel
set_option maxHeartbeats 4000000 in
set_option maxRecDepth 100000 in
theorem c_X5_sends (l : Launch) (G : GA) (a : Nat → Nat) (z : St) (o : St) (sz : Nat) (n : Nat) (b : Nat) (hn : n < 8) (hb : b < 8) (hnb : ¬ n = b) : Met l yX5_sends wsX5_sends ({ frames := 4, cells := 0, slots := 0, locals := 96 }) (va_Pc [.ref (a 0), .int (nI (n)), .int (nI (b))] (PW G (mp G a z o) sz)) (va_Qv (fun (u : St × St) => u.1 = snM z n b ∧ SC o u.2) (fun (u : St × St) t => va_P G.1 gcl (mp G a u.1 u.2) t.heap) (va_A (mp G a z o) sz)) 0 0 (va_A (mp G a z o) sz) := by
  refine met_st (cc := cX5_sends) (maxL := 6) (ret := none) (fun A => va_Qv (fun (u : St × St) => u.1 = snM z n b ∧ SC o u.2) (fun (u : St × St) t => va_P G.1 gcl (mp G a u.1 u.2) t.heap) A) (by decide) rfl (Nat.le_of_ble_eq_true rfl) ?_
  intro p e s m args below meth c R Q A H ls hR hQ S hr hlk _ hK hsz hH hAe hA hw hl
  have hl : lv_has ls 6 [(0, .ref (a 0)), (1, .int (nI (n))), (2, .int (nI (b)))] := hl
  have LX5 : ∀ w ∈ u_ws RX5 TX5 12, w.before args s = true := fun w h => S.2.2.2.2 w ((by decide +kernel : ∀ w ∈ u_ws RX5 TX5 12, w ∈ wsX5_sends) w h)
  have k1 : (Cond.fieldLink RX5 7 "GossipMembershipModel" "s" "[I").before args s = true := S.2.2.2.2 _ (by decide +kernel : (Cond.fieldLink RX5 7 "GossipMembershipModel" "s" "[I") ∈ wsX5_sends)
  have k2 : (Cond.fieldLink RX5 49 "GossipMembershipModel" "sentMany" "I").before args s = true := S.2.2.2.2 _ (by decide +kernel : (Cond.fieldLink RX5 49 "GossipMembershipModel" "sentMany" "I") ∈ wsX5_sends)
  have k3 : (Cond.fieldLink RX5 19 "GossipMembershipModel" "sent" "[I").before args s = true := S.2.2.2.2 _ (by decide +kernel : (Cond.fieldLink RX5 19 "GossipMembershipModel" "sent" "[I") ∈ wsX5_sends)
  have hLl : (cmF z n b).2.length ≤ 4 := cmK_len z (cmA z n b) n b 3
  refine lv_aload_n S.1 S.2.1 dX5_sends_0 rfl (lv_at hl 0 rfl) ?_
  refine lv_iload_n S.1 S.2.1 dX5_sends_1 rfl (lv_at hl 1 rfl) ?_
  refine lv_iload_n S.1 S.2.1 dX5_sends_2 rfl (lv_at hl 2 rfl) ?_
  refine cl_v (va_runV (As := [.int (nI (n)), .int (nI (b))]) (rest := []) S (c_X5_composes l G a z o H.size (n) (b) (by omega) (by omega)) (cwV 2 S.2.2.2.2 gX5_sends_X5_composes rfl rfl rfl hd_X5_composes ⟨by rw [hR]; exact Nat.le_of_ble_eq_true rfl, by rw [hR]; exact Nat.le_of_ble_eq_true rfl⟩) ⟨PW.blind, va_recv hK.1 hw.1 (ci := 5) (q0 := 0) rfl rfl, fun U hU hW => ⟨rfl, PW.of hK hw hU hW⟩⟩ rfl rfl hl.1 rfl (lv_room (Nat.le_of_ble_eq_true rfl)) dX5_sends_3 ⟨Nat.zero_le _, Nat.zero_le _⟩) hw hA (fun _ => rfl) (fun z2 H locs h3 hw => ?_)
  obtain ⟨z4, o5⟩ := z2
  try dsimp only at h3 hw
  obtain ⟨ez4, eo5, hL⟩ := h3
  refine lv_aload_n S.1 S.2.1 dX5_sends_6 rfl (lv_at hl 0 rfl) ?_
  refine gt_X5_1 (v := .ref (a 1)) S hK hw 0 rfl rfl LX5 k1 dX5_sends_7 ?_
  refine lv_bipush (v := 8) S.1 S.2.1 dX5_sends_10 (by decide) ?_
  refine lv_dup2_11 S.1 S.2.1 dX5_sends_12 rfl rfl ?_
  refine ald_i (v := z4 0 (8)) (k := 8) S hK hw 1 rfl (by omega) (by decide) (fl_0 z4 (by omega)) dX5_sends_13 ?_
  refine lv_iconst (v := 1) S.1 S.2.1 dX5_sends_14 (by decide) ?_
  refine lv_iadd S.1 S.2.1 dX5_sends_15 ?_
  refine ast_i (ws' := (mp G a (st z4 0 (8) ((z4 0 (8)) + (1))) o5)) (k := 8) S hK hw 1 rfl (by omega) (by decide) (mp_set (fu_0 z4 (by omega) _)) dX5_sends_16 (fun H locs hw => ?_)
  obtain ⟨z6, ez6⟩ : ∃ zz, zz = st z4 0 (8) ((z4 0 (8)) + (1)) := ⟨_, rfl⟩
  have hw : WD G (mp G a z6 o5) A s H locs := by rw [ez6]; exact hw
  refine lv_iconst (v := 0) S.1 S.2.1 dX5_sends_17 (by decide) ?_
  refine lv_istore_n (lv' := [(3, .int 0), (0, .ref (a 0)), (1, .int (nI (n))), (2, .int (nI (b)))]) S.1 S.2.1 dX5_sends_18 rfl hl (by decide) rfl (fun ls hl => ?_)
  have K19 : ∀ (fu : Nat) (k : Nat) (t : St) (H : Heap) (locs : List Loc) (ls : Array Slot), (cmF z n b).2.length - k < fu → k ≤ (cmF z n b).2.length → t = tlL n b z6 ((cmF z n b).2.take k) → WD G (mp G a t o5) A s H locs → lv_has ls 6 [(0, .ref (a 0)), (1, .int (nI (n))), (2, .int (nI (b))), (3, .int (nI (k)))] → W p l e R s m args below meth c H locs 0 0 Q (F0 m 19 ls []) := by
    intro fu
    induction fu with
    | zero => exact fun _ _ _ _ _ h => absurd h (Nat.not_lt_zero _)
    | succ fu ih19 =>
      intro k t H locs ls hm19 hk ht hw hl
      refine lv_iload_n S.1 S.2.1 dX5_sends_19 rfl (lv_at hl 3 rfl) ?_
      refine lv_aload_n S.1 S.2.1 dX5_sends_20 rfl (lv_at hl 0 rfl) ?_
      refine gt_X5_9 (v := .int (o5 0 5)) S hK hw 0 rfl rfl LX5 k2 dX5_sends_21 ?_
      refine top_to (v := (nI ((cmF z n b).2.length))) S (hL.1) ?_
      refine brN_ge (a := k) (b := (cmF z n b).2.length) S (by omega) (by omega) (tgt := 104) dX5_sends_24 (by decide) (fun c7 => ?_) (fun c7 => ?_)
      · skip
        have hke : k = (cmF z n b).2.length := by omega
        exact en_v ((t, o5) : St × St) hQ S hr hlk hw (by refine ⟨?_, (SC.tr (SC.rf o) eo5)⟩; rw [← snR_eq hnb hn hb, snR, ht, List.take_of_length_le (Nat.le_of_eq hke.symm), ez6, ez4]) dX5_sends_104
      · skip
        refine lv_aload_n S.1 S.2.1 dX5_sends_27 rfl (lv_at hl 0 rfl) ?_
        refine gt_X5_8 (v := .ref (a 4)) S hK hw 0 rfl rfl LX5 k3 dX5_sends_28 ?_
        refine lv_iload_n S.1 S.2.1 dX5_sends_31 rfl (lv_at hl 3 rfl) ?_
        refine ald_i (v := o5 3 (k)) (k := k) S hK hw 4 rfl (by omega) (by decide) rfl dX5_sends_32 ?_
        obtain ⟨y, hy⟩ : ∃ y, y = (cmF z n b).2[k] := ⟨_, rfl⟩
        have hgy : (cmF z n b).2.getD k 0 = y := by rw [hy]; simp [List.getD, List.getElem?_eq_getElem (by omega : k < (cmF z n b).2.length)]
        have hy8 : y < 8 := by rw [hy]; exact cmK_lt z (cmA z n b) n hb 3 _ (List.getElem_mem _)
        refine top_to (v := (nI (y))) S (by rw [hL.2 k (by omega), hgy]) ?_
        refine lv_istore (lv' := [(4, .int (nI (y))), (0, .ref (a 0)), (1, .int (nI (n))), (2, .int (nI (b))), (3, .int (nI (k)))]) S.1 S.2.1 dX5_sends_33 hl (by decide) rfl (fun ls hl => ?_)
        refine lv_iload_n S.1 S.2.1 dX5_sends_35 rfl (lv_at hl 2 rfl) ?_
        refine lv_iload S.1 S.2.1 dX5_sends_36 (lv_at hl 0 rfl) ?_
        refine pr_m (n := n) (b := y) S hl.1 gX5_sends_X5_pair ⟨by rw [hR]; exact Nat.le_of_ble_eq_true rfl, by rw [hR]; exact Nat.le_of_ble_eq_true rfl⟩ (Nat.zero_le _) (Nat.zero_le _) (Nat.le_of_ble_eq_true rfl) dX5_sends_38 ?_
        refine lv_istore (lv' := [(5, .int (nI (8 * n + y))), (4, .int (nI (y))), (0, .ref (a 0)), (1, .int (nI (n))), (2, .int (nI (b))), (3, .int (nI (k)))]) S.1 S.2.1 dX5_sends_41 hl (by decide) rfl (fun ls hl => ?_)
        refine lv_iload S.1 S.2.1 dX5_sends_43 (lv_at hl 1 rfl) ?_
        refine lv_iload_n S.1 S.2.1 dX5_sends_45 rfl (lv_at hl 3 rfl) ?_
        refine brN_ne (a := y) (b := n) S (by omega) (by omega) (tgt := 70) dX5_sends_46 (by decide) (fun c8 => ?_) (fun c8 => ?_)
        · skip
          refine lv_aload_n S.1 S.2.1 dX5_sends_70 rfl (lv_at hl 2 rfl) ?_
          refine lv_iload_n S.1 S.2.1 dX5_sends_71 rfl (lv_at hl 4 rfl) ?_
          refine lv_iload S.1 S.2.1 dX5_sends_72 (lv_at hl 1 rfl) ?_
          refine lv_aload_n S.1 S.2.1 dX5_sends_74 rfl (lv_at hl 2 rfl) ?_
          refine gt_X5_1 (v := .ref (a 1)) S hK hw 0 rfl rfl LX5 k1 dX5_sends_75 ?_
          refine lv_bipush (v := 42) S.1 S.2.1 dX5_sends_78 (by decide) ?_
          refine lv_iload S.1 S.2.1 dX5_sends_80 (lv_at hl 0 rfl) ?_
          refine addN (a := 42) (b := 8 * n + y) S dX5_sends_82 ?_
          refine ald_i (v := t 5 ((8 * n + y))) (k := 42 + (8 * n + y)) S hK hw 1 rfl (by omega) (by decide) (fl_5 t (by omega)) dX5_sends_83 ?_
          refine lv_aload_n S.1 S.2.1 dX5_sends_84 rfl (lv_at hl 2 rfl) ?_
          refine gt_X5_1 (v := .ref (a 1)) S hK hw 0 rfl rfl LX5 k1 dX5_sends_85 ?_
          refine lv_bipush (v := 106) S.1 S.2.1 dX5_sends_88 (by decide) ?_
          refine lv_iload S.1 S.2.1 dX5_sends_90 (lv_at hl 0 rfl) ?_
          refine addN (a := 106) (b := 8 * n + y) S dX5_sends_92 ?_
          refine ald_i (v := t 6 ((8 * n + y))) (k := 106 + (8 * n + y)) S hK hw 1 rfl (by omega) (by decide) (fl_6 t (by omega)) dX5_sends_93 ?_
          refine cl_i (va_runV (As := [.int (nI (b)), .int (nI (y)), .int (t 5 ((8 * n + y))), .int (t 6 ((8 * n + y)))]) (rest := []) S (c_X5_takesIn l G a t o5 H.size (b) (y) (t 5 ((8 * n + y))) (t 6 ((8 * n + y))) (by omega) (by omega)) (cwV 4 S.2.2.2.2 gX5_sends_X5_takesIn rfl rfl rfl hd_X5_takesIn ⟨by rw [hR]; exact Nat.le_of_ble_eq_true rfl, by rw [hR]; exact Nat.le_of_ble_eq_true rfl⟩) ⟨PW.blind, va_recv hK.1 hw.1 (ci := 5) (q0 := 0) rfl rfl, fun U hU hW => ⟨rfl, PW.of hK hw hU hW⟩⟩ rfl rfl hl.1 rfl (lv_room (Nat.le_of_ble_eq_true rfl)) dX5_sends_94 ⟨Nat.zero_le _, Nat.zero_le _⟩) hw hA (fun _ => rfl) (fun r9 z10 H locs h11 hw => ?_)
          obtain ⟨z12, o13⟩ := z10
          try dsimp only at h11 hw
          obtain ⟨rfl, ez12, qo13⟩ := h11
          rw [qo13] at hw
          refine lv_pop S.1 S.2.1 dX5_sends_97 rfl ?_
          refine lv_iinc (v := (nI (k + 1))) (lv' := [(3, .int (nI (k + 1))), (5, .int (nI (8 * n + y))), (4, .int (nI (y))), (0, .ref (a 0)), (1, .int (nI (n))), (2, .int (nI (b)))]) S.1 S.2.1 dX5_sends_98 hl (k := 5) rfl (nI_add _ _) (by decide) rfl (fun ls hl => ?_)
          refine lv_goto (tgt := 19) S.1 S.2.1 dX5_sends_101 (by decide) ?_
          exact ih19 (k + 1) (z12) _ _ _ (by omega) (by omega) (by rw [List.take_succ_eq_append_getElem (by omega), tlL_app, ← ht, ez12, ← hy]; first | (rw [toS, toI, if_pos (by assumption), if_pos (by assumption)]; done) | (rw [toS, toI, if_neg (by assumption), if_neg (by assumption)]; done)) hw (lv_sub hl [3, 4, 5, 0] rfl)
        · skip
          refine lv_aload_n S.1 S.2.1 dX5_sends_49 rfl (lv_at hl 2 rfl) ?_
          refine lv_iload_n S.1 S.2.1 dX5_sends_50 rfl (lv_at hl 4 rfl) ?_
          refine lv_iload S.1 S.2.1 dX5_sends_51 (lv_at hl 1 rfl) ?_
          refine lv_iconst (v := 1) S.1 S.2.1 dX5_sends_53 (by decide) ?_
          refine lv_aload_n S.1 S.2.1 dX5_sends_54 rfl (lv_at hl 2 rfl) ?_
          refine gt_X5_1 (v := .ref (a 1)) S hK hw 0 rfl rfl LX5 k1 dX5_sends_55 ?_
          refine lv_bipush (v := 34) S.1 S.2.1 dX5_sends_58 (by decide) ?_
          refine lv_iload_n S.1 S.2.1 dX5_sends_60 rfl (lv_at hl 3 rfl) ?_
          refine addN (a := 34) (b := n) S dX5_sends_61 ?_
          refine ald_i (v := t 4 (n)) (k := 34 + n) S hK hw 1 rfl (by omega) (by decide) (fl_4 t (by omega)) dX5_sends_62 ?_
          refine cl_i (va_runV (As := [.int (nI (b)), .int (nI (y)), .int 1, .int (t 4 (n))]) (rest := []) S (c_X5_takesIn l G a t o5 H.size (b) (y) (1) (t 4 (n)) (by omega) (by omega)) (cwV 4 S.2.2.2.2 gX5_sends_X5_takesIn rfl rfl rfl hd_X5_takesIn ⟨by rw [hR]; exact Nat.le_of_ble_eq_true rfl, by rw [hR]; exact Nat.le_of_ble_eq_true rfl⟩) ⟨PW.blind, va_recv hK.1 hw.1 (ci := 5) (q0 := 0) rfl rfl, fun U hU hW => ⟨rfl, PW.of hK hw hU hW⟩⟩ rfl rfl hl.1 rfl (lv_room (Nat.le_of_ble_eq_true rfl)) dX5_sends_63 ⟨Nat.zero_le _, Nat.zero_le _⟩) hw hA (fun _ => rfl) (fun r14 z15 H locs h16 hw => ?_)
          obtain ⟨z17, o18⟩ := z15
          try dsimp only at h16 hw
          obtain ⟨rfl, ez17, qo18⟩ := h16
          rw [qo18] at hw
          refine lv_pop S.1 S.2.1 dX5_sends_66 rfl ?_
          refine lv_goto (tgt := 98) S.1 S.2.1 dX5_sends_67 (by decide) ?_
          refine lv_iinc (v := (nI (k + 1))) (lv' := [(3, .int (nI (k + 1))), (5, .int (nI (8 * n + y))), (4, .int (nI (y))), (0, .ref (a 0)), (1, .int (nI (n))), (2, .int (nI (b)))]) S.1 S.2.1 dX5_sends_98 hl (k := 5) rfl (nI_add _ _) (by decide) rfl (fun ls hl => ?_)
          refine lv_goto (tgt := 19) S.1 S.2.1 dX5_sends_101 (by decide) ?_
          exact ih19 (k + 1) (z17) _ _ _ (by omega) (by omega) (by rw [List.take_succ_eq_append_getElem (by omega), tlL_app, ← ht, ez17, ← hy]; first | (rw [toS, toI, if_pos (by assumption), if_pos (by assumption)]; done) | (rw [toS, toI, if_neg (by assumption), if_neg (by assumption)]; done)) hw (lv_sub hl [3, 4, 5, 0] rfl)
  exact K19 ((cmF z n b).2.length + 1) (0) (z6) _ _ _ (by omega) (by exact Nat.zero_le _) (by rfl) hw (lv_sub hl [1, 2, 3, 0] rfl)

theorem hd_X5_turns : yX5_turns.cls = RX5 ∧ yX5_turns.cls ≠ "java/lang/invoke/MethodHandle" ∧ yX5_turns.cls ≠ "java/lang/invoke/VarHandle" ∧ (parseMethodDescriptor yX5_turns.desc).map (fun d => d.parameters.length) = some 1 := by decide +kernel
set_option maxHeartbeats 4000000 in
set_option maxRecDepth 100000 in
theorem c_X5_turns (l : Launch) (G : GA) (a : Nat → Nat) (z : St) (o : St) (sz : Nat) (n : Nat) (hn : n < 8) (iz : Inv z) : Met l yX5_turns wsX5_turns ({ frames := 5, cells := 0, slots := 0, locals := 121 }) (va_Pc [.ref (a 0), .int (nI (n))] (PW G (mp G a z o) sz)) (va_Qv (fun (u : St × St) => u.1 = trn z n ∧ SC o u.2) (fun (u : St × St) t => va_P G.1 gcl (mp G a u.1 u.2) t.heap) (va_A (mp G a z o) sz)) 0 0 (va_A (mp G a z o) sz) := by
  refine met_st (cc := cX5_turns) (maxL := 4) (ret := none) (fun A => va_Qv (fun (u : St × St) => u.1 = trn z n ∧ SC o u.2) (fun (u : St × St) t => va_P G.1 gcl (mp G a u.1 u.2) t.heap) A) (by decide) rfl (Nat.le_of_ble_eq_true rfl) ?_
  intro p e s m args below meth c R Q A H ls hR hQ S hr hlk _ hK hsz hH hAe hA hw hl
  have hl : lv_has ls 4 [(0, .ref (a 0)), (1, .int (nI (n)))] := hl
  have LX5 : ∀ w ∈ u_ws RX5 TX5 12, w.before args s = true := fun w h => S.2.2.2.2 w ((by decide +kernel : ∀ w ∈ u_ws RX5 TX5 12, w ∈ wsX5_turns) w h)
  have k1 : (Cond.fieldLink RX5 7 "GossipMembershipModel" "s" "[I").before args s = true := S.2.2.2.2 _ (by decide +kernel : (Cond.fieldLink RX5 7 "GossipMembershipModel" "s" "[I") ∈ wsX5_turns)
  refine lv_aload_n S.1 S.2.1 dX5_turns_0 rfl (lv_at hl 0 rfl) ?_
  refine lv_iload_n S.1 S.2.1 dX5_turns_1 rfl (lv_at hl 1 rfl) ?_
  refine cl_v (va_runV (As := [.int (nI (n))]) (rest := []) S (c_X5_declares l G a z o H.size (n) (by omega) (by exact iz)) (cwV 1 S.2.2.2.2 gX5_turns_X5_declares rfl rfl rfl hd_X5_declares ⟨by rw [hR]; exact Nat.le_of_ble_eq_true rfl, by rw [hR]; exact Nat.le_of_ble_eq_true rfl⟩) ⟨PW.blind, va_recv hK.1 hw.1 (ci := 5) (q0 := 0) rfl rfl, fun U hU hW => ⟨rfl, PW.of hK hw hU hW⟩⟩ rfl rfl hl.1 rfl (lv_room (Nat.le_of_ble_eq_true rfl)) dX5_turns_2 ⟨Nat.zero_le _, Nat.zero_le _⟩) hw hA (fun _ => rfl) (fun z2 H locs h3 hw => ?_)
  obtain ⟨z4, o5⟩ := z2
  try dsimp only at h3 hw
  obtain ⟨ez4, qo5⟩ := h3
  rw [qo5] at hw
  have iz4 : Inv z4 := by rw [ez4]; exact inv_dco iz (n := (n)) (by omega)
  refine lv_aload_n S.1 S.2.1 dX5_turns_5 rfl (lv_at hl 0 rfl) ?_
  refine lv_iload_n S.1 S.2.1 dX5_turns_6 rfl (lv_at hl 1 rfl) ?_
  refine lv_iconst (v := 1) S.1 S.2.1 dX5_turns_7 (by decide) ?_
  refine lv_iconst (v := 2) S.1 S.2.1 dX5_turns_8 (by decide) ?_
  refine cl_i (va_runV (As := [.int (nI (n)), .int 1, .int 2]) (rest := []) S (c_X5_viewed l G a z4 o H.size (n) (1) (2) (by omega)) (cwV 3 S.2.2.2.2 gX5_turns_X5_viewed rfl rfl rfl hd_X5_viewed ⟨by rw [hR]; exact Nat.le_of_ble_eq_true rfl, by rw [hR]; exact Nat.le_of_ble_eq_true rfl⟩) ⟨PW.blind, va_recv hK.1 hw.1 (ci := 5) (q0 := 0) rfl rfl, fun U hU hW => ⟨rfl, PW.of hK hw hU hW⟩⟩ rfl rfl hl.1 rfl (lv_room (Nat.le_of_ble_eq_true rfl)) dX5_turns_9 ⟨Nat.zero_le _, Nat.zero_le _⟩) hw hA (fun _ => rfl) (fun r6 z7 H locs h8 hw => ?_)
  obtain ⟨z9, o10⟩ := z7
  try dsimp only at h8 hw
  obtain ⟨rfl, qz9, qo10⟩ := h8
  rw [qz9] at hw
  rw [qo10] at hw
  refine top_to (v := (nI (mk (prt z4 n) 8))) S (by rw [mk_ext 8 (fun j _ => vwd_2 iz4 hn j)]) ?_
  refine lv_istore_n (lv' := [(2, .int (nI (mk (prt z4 n) 8))), (0, .ref (a 0)), (1, .int (nI (n)))]) S.1 S.2.1 dX5_turns_12 rfl hl (by decide) rfl (fun ls hl => ?_)
  refine lv_iload_n S.1 S.2.1 dX5_turns_13 rfl (lv_at hl 0 rfl) ?_
  refine brN0_ne (a := mk (prt z4 n) 8) S (by first | omega | exact Nat.lt_trans (mk_256 _) (by decide)) (tgt := 18) dX5_turns_14 (by decide) (fun c11 => ?_) (fun c11 => ?_)
  · skip
    have hc9 : ¬ cnt (prt z4 n) 8 = 0 := fun h9 => c11 (mk_cnt.mpr h9)
    refine lv_aload_n S.1 S.2.1 dX5_turns_18 rfl (lv_at hl 1 rfl) ?_
    refine lv_iload_n S.1 S.2.1 dX5_turns_19 rfl (lv_at hl 0 rfl) ?_
    refine cl_i (va_runV (As := [.int (nI (mk (prt z4 n) 8))]) (rest := []) S (c_X5_drawn l G a z4 o H.size (prt z4 n) (by exact iz4) (by assumption)) (cwV 1 S.2.2.2.2 gX5_turns_X5_drawn rfl rfl rfl hd_X5_drawn ⟨by rw [hR]; exact Nat.le_of_ble_eq_true rfl, by rw [hR]; exact Nat.le_of_ble_eq_true rfl⟩) ⟨PW.blind, va_recv hK.1 hw.1 (ci := 5) (q0 := 0) rfl rfl, fun U hU hW => ⟨rfl, PW.of hK hw hU hW⟩⟩ rfl rfl hl.1 rfl (lv_room (Nat.le_of_ble_eq_true rfl)) dX5_turns_20 ⟨Nat.zero_le _, Nat.zero_le _⟩) hw hA (fun _ => rfl) (fun r12 z13 H locs h14 hw => ?_)
    obtain ⟨z15, o16⟩ := z13
    try dsimp only at h14 hw
    obtain ⟨rfl, ez15, qo16⟩ := h14
    rw [qo16] at hw
    have iz15 : Inv z15 := by rw [ez15]; exact inv_dz iz4 (prt z4 n)
    obtain ⟨y, hyv⟩ : ∃ q9, q9 = (nth (prt z4 n) (sd (z4 0 1) / 256 % cnt (prt z4 n) 8) 8) := ⟨_, rfl⟩
    rw [← hyv]
    have hy9 : dv z4 (prt z4 n) = some y := by rw [hyv]; exact dv_cnt hc9
    have hy8 := dv_in hy9
    have hny : ¬ n = y := fun h9 => by have h8 := hy8.2; rw [← h9, prt_n iz4 hn] at h8; cases h8
    refine lv_istore_n (lv' := [(3, .int (nI (y))), (2, .int (nI (mk (prt z4 n) 8))), (0, .ref (a 0)), (1, .int (nI (n)))]) S.1 S.2.1 dX5_turns_23 rfl hl (by decide) rfl (fun ls hl => ?_)
    refine lv_aload_n S.1 S.2.1 dX5_turns_24 rfl (lv_at hl 2 rfl) ?_
    refine lv_iload_n S.1 S.2.1 dX5_turns_25 rfl (lv_at hl 3 rfl) ?_
    refine lv_iload_n S.1 S.2.1 dX5_turns_26 rfl (lv_at hl 0 rfl) ?_
    refine cl_i (va_runV (As := [.int (nI (n)), .int (nI (y))]) (rest := []) S (c_X5_canReach l G a z15 o H.size (n) (y) (by omega) (by omega) (by exact iz15)) (cwV 2 S.2.2.2.2 gX5_turns_X5_canReach rfl rfl rfl hd_X5_canReach ⟨by rw [hR]; exact Nat.le_of_ble_eq_true rfl, by rw [hR]; exact Nat.le_of_ble_eq_true rfl⟩) ⟨PW.blind, va_recv hK.1 hw.1 (ci := 5) (q0 := 0) rfl rfl, fun U hU hW => ⟨rfl, PW.of hK hw hU hW⟩⟩ rfl rfl hl.1 rfl (lv_room (Nat.le_of_ble_eq_true rfl)) dX5_turns_27 ⟨Nat.zero_le _, Nat.zero_le _⟩) hw hA (fun _ => rfl) (fun r17 z18 H locs h19 hw => ?_)
    obtain ⟨z20, o21⟩ := z18
    try dsimp only at h19 hw
    obtain ⟨rfl, qz20, qo21⟩ := h19
    rw [qz20] at hw
    rw [qo21] at hw
    refine brB_eq (b := cnn z15 (n) (y)) S (tgt := 46) dX5_turns_30 (by decide) (fun c22 => ?_) (fun c22 => ?_)
    · skip
      refine lv_aload_n S.1 S.2.1 dX5_turns_46 rfl (lv_at hl 2 rfl) ?_
      refine lv_iload_n S.1 S.2.1 dX5_turns_47 rfl (lv_at hl 3 rfl) ?_
      refine lv_iload_n S.1 S.2.1 dX5_turns_48 rfl (lv_at hl 0 rfl) ?_
      refine cl_i (va_runV (As := [.int (nI (n)), .int (nI (y))]) (rest := []) S (c_X5_isHelped l G a z15 o H.size (n) (y) (by omega) (by omega) (by exact iz15)) (cwV 2 S.2.2.2.2 gX5_turns_X5_isHelped rfl rfl rfl hd_X5_isHelped ⟨by rw [hR]; exact Nat.le_of_ble_eq_true rfl, by rw [hR]; exact Nat.le_of_ble_eq_true rfl⟩) ⟨PW.blind, va_recv hK.1 hw.1 (ci := 5) (q0 := 0) rfl rfl, fun U hU hW => ⟨rfl, PW.of hK hw hU hW⟩⟩ rfl rfl hl.1 rfl (lv_room (Nat.le_of_ble_eq_true rfl)) dX5_turns_49 ⟨Nat.zero_le _, Nat.zero_le _⟩) hw hA (fun _ => rfl) (fun r23 z24 H locs h25 hw => ?_)
      obtain ⟨z26, o27⟩ := z24
      try dsimp only at h25 hw
      obtain ⟨rfl, ez26, qo27⟩ := h25
      rw [qo27] at hw
      have iz26 : Inv z26 := by rw [ez26]; exact inv_hpK (w := hp0 _ (n) (y)) iz15 (n) (y) _
      refine brB_ne (b := (hpr z15 (n) (y)).2.2) S (tgt := 92) dX5_turns_52 (by decide) (fun c28 => ?_) (fun c28 => ?_)
      · skip
        exact en_v ((z26, o) : St × St) hQ S hr hlk hw (by refine ⟨?_, (SC.rf o)⟩; show z26 = _; first | (rw [trn_help ez4 ez15 hy9 (by assumption) (by assumption)]; exact ez26) | (rw [trn_sus ez4 ez15 hy9 (by assumption) (by assumption), ← ez26]; have hi9 : toI z26 n y = z26 6 (8 * n + y) := (by rw [toI, if_neg (fun h9 => hny h9.symm)]); rw [hi9]; first | (rw [tk_sus (fun h9 => hny h9.symm) (by assumption)]; exact ez26) | (rw [tk_sus2 (fun h9 => hny h9.symm) (h59.resolve_left (by assumption))]; done))) dX5_turns_92
      · skip
        have h59 : z26 5 (8 * n + y) = 1 ∨ z26 5 (8 * n + y) = 2 := by rw [ez26, hpr_5, ez15, dz_5]; have h9 := hy8.2; unfold prt nst at h9; simpa using h9
        refine lv_aload_n S.1 S.2.1 dX5_turns_55 rfl (lv_at hl 2 rfl) ?_
        refine gt_X5_1 (v := .ref (a 1)) S hK hw 0 rfl rfl LX5 k1 dX5_turns_56 ?_
        refine lv_bipush (v := 42) S.1 S.2.1 dX5_turns_59 (by decide) ?_
        refine lv_iload_n S.1 S.2.1 dX5_turns_61 rfl (lv_at hl 3 rfl) ?_
        refine lv_iload_n S.1 S.2.1 dX5_turns_62 rfl (lv_at hl 0 rfl) ?_
        refine pr_m (n := n) (b := y) S hl.1 gX5_turns_X5_pair ⟨by rw [hR]; exact Nat.le_of_ble_eq_true rfl, by rw [hR]; exact Nat.le_of_ble_eq_true rfl⟩ (Nat.zero_le _) (Nat.zero_le _) (Nat.le_of_ble_eq_true rfl) dX5_turns_63 ?_
        refine addN (a := 42) (b := 8 * n + y) S dX5_turns_66 ?_
        refine ald_i (v := z26 5 ((8 * n + y))) (k := 42 + (8 * n + y)) S hK hw 1 rfl (by omega) (by decide) (fl_5 z26 (by omega)) dX5_turns_67 ?_
        refine lv_iconst (v := 1) S.1 S.2.1 dX5_turns_68 (by decide) ?_
        refine lv_icmp_ne (tgt := 92) S.1 S.2.1 dX5_turns_69 (by decide) (fun c29 => ?_) (fun c29 => ?_)
        · skip
          exact en_v ((z26, o) : St × St) hQ S hr hlk hw (by refine ⟨?_, (SC.rf o)⟩; show z26 = _; first | (rw [trn_help ez4 ez15 hy9 (by assumption) (by assumption)]; exact ez26) | (rw [trn_sus ez4 ez15 hy9 (by assumption) (by assumption), ← ez26]; have hi9 : toI z26 n y = z26 6 (8 * n + y) := (by rw [toI, if_neg (fun h9 => hny h9.symm)]); rw [hi9]; first | (rw [tk_sus (fun h9 => hny h9.symm) (by assumption)]; exact ez26) | (rw [tk_sus2 (fun h9 => hny h9.symm) (h59.resolve_left (by assumption))]; done))) dX5_turns_92
        · skip
          refine lv_aload_n S.1 S.2.1 dX5_turns_72 rfl (lv_at hl 2 rfl) ?_
          refine lv_iload_n S.1 S.2.1 dX5_turns_73 rfl (lv_at hl 3 rfl) ?_
          refine lv_iload_n S.1 S.2.1 dX5_turns_74 rfl (lv_at hl 0 rfl) ?_
          refine lv_iconst (v := 2) S.1 S.2.1 dX5_turns_75 (by decide) ?_
          refine lv_aload_n S.1 S.2.1 dX5_turns_76 rfl (lv_at hl 2 rfl) ?_
          refine gt_X5_1 (v := .ref (a 1)) S hK hw 0 rfl rfl LX5 k1 dX5_turns_77 ?_
          refine lv_bipush (v := 106) S.1 S.2.1 dX5_turns_80 (by decide) ?_
          refine lv_iload_n S.1 S.2.1 dX5_turns_82 rfl (lv_at hl 3 rfl) ?_
          refine lv_iload_n S.1 S.2.1 dX5_turns_83 rfl (lv_at hl 0 rfl) ?_
          refine pr_m (n := n) (b := y) S hl.1 gX5_turns_X5_pair ⟨by rw [hR]; exact Nat.le_of_ble_eq_true rfl, by rw [hR]; exact Nat.le_of_ble_eq_true rfl⟩ (Nat.zero_le _) (Nat.zero_le _) (Nat.le_of_ble_eq_true rfl) dX5_turns_84 ?_
          refine addN (a := 106) (b := 8 * n + y) S dX5_turns_87 ?_
          refine ald_i (v := z26 6 ((8 * n + y))) (k := 106 + (8 * n + y)) S hK hw 1 rfl (by omega) (by decide) (fl_6 z26 (by omega)) dX5_turns_88 ?_
          refine cl_v (va_runV (As := [.int (nI (n)), .int (nI (y)), .int 2, .int (z26 6 ((8 * n + y)))]) (rest := []) S (c_X5_becomes l G a z26 o H.size (n) (y) (2) (z26 6 ((8 * n + y))) (by omega) (by omega)) (cwV 4 S.2.2.2.2 gX5_turns_X5_becomes rfl rfl rfl hd_X5_becomes ⟨by rw [hR]; exact Nat.le_of_ble_eq_true rfl, by rw [hR]; exact Nat.le_of_ble_eq_true rfl⟩) ⟨PW.blind, va_recv hK.1 hw.1 (ci := 5) (q0 := 0) rfl rfl, fun U hU hW => ⟨rfl, PW.of hK hw hU hW⟩⟩ rfl rfl hl.1 rfl (lv_room (Nat.le_of_ble_eq_true rfl)) dX5_turns_89 ⟨Nat.zero_le _, Nat.zero_le _⟩) hw hA (fun _ => rfl) (fun z31 H locs h32 hw => ?_)
          obtain ⟨z33, o34⟩ := z31
          try dsimp only at h32 hw
          obtain ⟨ez33, qo34⟩ := h32
          rw [qo34] at hw
          have iz33 : Inv z33 := by rw [ez33]; exact inv_bec iz26 (n := (n)) (b := (y)) (by omega) (by omega) (by omega) (2) (z26 6 ((8 * n + y)))
          exact en_v ((z33, o) : St × St) hQ S hr hlk hw (by refine ⟨?_, (SC.rf o)⟩; show z33 = _; first | (rw [trn_help ez4 ez15 hy9 (by assumption) (by assumption)]; exact ez26) | (rw [trn_sus ez4 ez15 hy9 (by assumption) (by assumption), ← ez26]; have hi9 : toI z26 n y = z26 6 (8 * n + y) := (by rw [toI, if_neg (fun h9 => hny h9.symm)]); rw [hi9]; first | (rw [tk_sus (fun h9 => hny h9.symm) (by assumption)]; exact ez33) | (rw [tk_sus2 (fun h9 => hny h9.symm) (h59.resolve_left (by assumption))]; done))) dX5_turns_92
    · skip
      refine lv_aload_n S.1 S.2.1 dX5_turns_33 rfl (lv_at hl 2 rfl) ?_
      refine lv_iload_n S.1 S.2.1 dX5_turns_34 rfl (lv_at hl 3 rfl) ?_
      refine lv_iload_n S.1 S.2.1 dX5_turns_35 rfl (lv_at hl 0 rfl) ?_
      refine cl_v (va_runV (As := [.int (nI (n)), .int (nI (y))]) (rest := []) S (c_X5_sends l G a z15 o H.size (n) (y) (by omega) (by omega) (by first | assumption | omega)) (cwV 2 S.2.2.2.2 gX5_turns_X5_sends rfl rfl rfl hd_X5_sends ⟨by rw [hR]; exact Nat.le_of_ble_eq_true rfl, by rw [hR]; exact Nat.le_of_ble_eq_true rfl⟩) ⟨PW.blind, va_recv hK.1 hw.1 (ci := 5) (q0 := 0) rfl rfl, fun U hU hW => ⟨rfl, PW.of hK hw hU hW⟩⟩ rfl rfl hl.1 rfl (lv_room (Nat.le_of_ble_eq_true rfl)) dX5_turns_36 ⟨Nat.zero_le _, Nat.zero_le _⟩) hw hA (fun _ => rfl) (fun z36 H locs h37 hw => ?_)
      obtain ⟨z38, o39⟩ := z36
      try dsimp only at h37 hw
      obtain ⟨ez38, eo39⟩ := h37
      have iz38 : Inv z38 := by rw [ez38]; exact inv_snM iz15 (f := (n)) (t := (y)) (by omega)
      refine lv_aload_n S.1 S.2.1 dX5_turns_39 rfl (lv_at hl 2 rfl) ?_
      refine lv_iload_n S.1 S.2.1 dX5_turns_40 rfl (lv_at hl 0 rfl) ?_
      refine lv_iload_n S.1 S.2.1 dX5_turns_41 rfl (lv_at hl 3 rfl) ?_
      refine cl_v (va_runV (As := [.int (nI (y)), .int (nI (n))]) (rest := []) S (c_X5_sends l G a z38 o39 H.size (y) (n) (by omega) (by omega) (by first | assumption | omega)) (cwV 2 S.2.2.2.2 gX5_turns_X5_sends rfl rfl rfl hd_X5_sends ⟨by rw [hR]; exact Nat.le_of_ble_eq_true rfl, by rw [hR]; exact Nat.le_of_ble_eq_true rfl⟩) ⟨PW.blind, va_recv hK.1 hw.1 (ci := 5) (q0 := 0) rfl rfl, fun U hU hW => ⟨rfl, PW.of hK hw hU hW⟩⟩ rfl rfl hl.1 rfl (lv_room (Nat.le_of_ble_eq_true rfl)) dX5_turns_42 ⟨Nat.zero_le _, Nat.zero_le _⟩) hw hA (fun _ => rfl) (fun z41 H locs h42 hw => ?_)
      obtain ⟨z43, o44⟩ := z41
      try dsimp only at h42 hw
      obtain ⟨ez43, eo44⟩ := h42
      have iz43 : Inv z43 := by rw [ez43]; exact inv_snM iz38 (f := (y)) (t := (n)) (by omega)
      exact en_v ((z43, o44) : St × St) hQ S hr hlk hw (by refine ⟨?_, (SC.tr (SC.tr (SC.rf o) eo39) eo44)⟩; rw [trn_yes ez4 ez15 hy9 (by assumption)]; show z43 = _; rw [ez43, ez38]) dX5_turns_45
  · skip
    have hn9 : dv z4 (prt z4 n) = none := by rw [dv, if_pos (mk_cnt.mp c11)]
    exact en_v ((z4, o) : St × St) hQ S hr hlk hw (by exact ⟨by show z4 = _; rw [trn_none (by rw [← ez4]; exact hn9)]; exact ez4, SC.rf o⟩) dX5_turns_17

theorem hd_X5_round1 : yX5_round1.cls = RX5 ∧ yX5_round1.cls ≠ "java/lang/invoke/MethodHandle" ∧ yX5_round1.cls ≠ "java/lang/invoke/VarHandle" ∧ (parseMethodDescriptor yX5_round1.desc).map (fun d => d.parameters.length) = some 0 := by decide +kernel
set_option maxHeartbeats 4000000 in
set_option maxRecDepth 100000 in
theorem c_X5_round1 (l : Launch) (G : GA) (a : Nat → Nat) (z : St) (o : St) (sz : Nat) (iz : Inv z) : Met l yX5_round1 wsX5_round1 ({ frames := 6, cells := 0, slots := 0, locals := 144 }) (va_Pc [.ref (a 0)] (PW G (mp G a z o) sz)) (va_Qv (fun (u : St × St) => u.1 = rd z ∧ SC o u.2) (fun (u : St × St) t => va_P G.1 gcl (mp G a u.1 u.2) t.heap) (va_A (mp G a z o) sz)) 0 0 (va_A (mp G a z o) sz) := by
  refine met_st (cc := cX5_round1) (maxL := 2) (ret := none) (fun A => va_Qv (fun (u : St × St) => u.1 = rd z ∧ SC o u.2) (fun (u : St × St) t => va_P G.1 gcl (mp G a u.1 u.2) t.heap) A) (by decide) rfl (Nat.le_of_ble_eq_true rfl) ?_
  intro p e s m args below meth c R Q A H ls hR hQ S hr hlk _ hK hsz hH hAe hA hw hl
  have hl : lv_has ls 2 [(0, .ref (a 0))] := hl
  have LX5 : ∀ w ∈ u_ws RX5 TX5 12, w.before args s = true := fun w h => S.2.2.2.2 w ((by decide +kernel : ∀ w ∈ u_ws RX5 TX5 12, w ∈ wsX5_round1) w h)
  have k1 : (Cond.fieldLink RX5 7 "GossipMembershipModel" "s" "[I").before args s = true := S.2.2.2.2 _ (by decide +kernel : (Cond.fieldLink RX5 7 "GossipMembershipModel" "s" "[I") ∈ wsX5_round1)
  refine lv_aload_n S.1 S.2.1 dX5_round1_0 rfl (lv_at hl 0 rfl) ?_
  refine gt_X5_1 (v := .ref (a 1)) S hK hw 0 rfl rfl LX5 k1 dX5_round1_1 ?_
  refine lv_iconst (v := 0) S.1 S.2.1 dX5_round1_4 (by decide) ?_
  refine lv_dup2_11 S.1 S.2.1 dX5_round1_5 rfl rfl ?_
  refine ald_i (v := z 0 (0)) (k := 0) S hK hw 1 rfl (by omega) (by decide) (fl_0 z (by omega)) dX5_round1_6 ?_
  refine lv_iconst (v := 1) S.1 S.2.1 dX5_round1_7 (by decide) ?_
  refine lv_iadd S.1 S.2.1 dX5_round1_8 ?_
  refine ast_i (ws' := (mp G a (st z 0 (0) ((z 0 (0)) + (1))) o)) (k := 0) S hK hw 1 rfl (by omega) (by decide) (mp_set (fu_0 z (by omega) _)) dX5_round1_9 (fun H locs hw => ?_)
  obtain ⟨z1, ez1⟩ : ∃ zz, zz = st z 0 (0) ((z 0 (0)) + (1)) := ⟨_, rfl⟩
  have hw : WD G (mp G a z1 o) A s H locs := by rw [ez1]; exact hw
  have iz1 : Inv z1 := by rw [ez1]; exact inv_o iz (by decide) (by decide)
  refine lv_iconst (v := 0) S.1 S.2.1 dX5_round1_10 (by decide) ?_
  refine lv_istore_n (lv' := [(1, .int 0), (0, .ref (a 0))]) S.1 S.2.1 dX5_round1_11 rfl hl (by decide) rfl (fun ls hl => ?_)
  have K12 : ∀ (fu : Nat) (k : Nat) (t2 : St) (w : St) (H : Heap) (locs : List Loc) (ls : Array Slot), 8 - k < fu → k ≤ 8 → t2 = rdK z1 k → Inv t2 → SC o w → WD G (mp G a t2 w) A s H locs → lv_has ls 2 [(0, .ref (a 0)), (1, .int (nI (k)))] → W p l e R s m args below meth c H locs 0 0 Q (F0 m 12 ls []) := by
    intro fu
    induction fu with
    | zero => exact fun _ _ _ _ _ _ h => absurd h (Nat.not_lt_zero _)
    | succ fu ih12 =>
      intro k t2 w H locs ls hm12 hk ht2 it2 hsc hw hl
      refine lv_iload_n S.1 S.2.1 dX5_round1_12 rfl (lv_at hl 1 rfl) ?_
      refine lv_bipush (v := 8) S.1 S.2.1 dX5_round1_13 (by decide) ?_
      refine brN_ge (a := k) (b := 8) S (by omega) (by omega) (tgt := 42) dX5_round1_15 (by decide) (fun c2 => ?_) (fun c2 => ?_)
      · skip
        have hk9 : k = 8 := by omega
        subst hk9
        exact en_v ((t2, w) : St × St) hQ S hr hlk hw (by refine ⟨?_, hsc⟩; show t2 = _; rw [ht2, ez1]; rfl) dX5_round1_42
      · skip
        refine lv_aload_n S.1 S.2.1 dX5_round1_18 rfl (lv_at hl 0 rfl) ?_
        refine gt_X5_1 (v := .ref (a 1)) S hK hw 0 rfl rfl LX5 k1 dX5_round1_19 ?_
        refine lv_bipush (v := 10) S.1 S.2.1 dX5_round1_22 (by decide) ?_
        refine lv_iload_n S.1 S.2.1 dX5_round1_24 rfl (lv_at hl 1 rfl) ?_
        refine addN (a := 10) (b := k) S dX5_round1_25 ?_
        refine ald_i (v := t2 1 (k)) (k := 10 + k) S hK hw 1 rfl (by omega) (by decide) (fl_1 t2 (by omega)) dX5_round1_26 ?_
        refine lv_iconst (v := 1) S.1 S.2.1 dX5_round1_27 (by decide) ?_
        refine lv_icmp_ne (tgt := 36) S.1 S.2.1 dX5_round1_28 (by decide) (fun c3 => ?_) (fun c3 => ?_)
        · skip
          refine lv_iinc (v := (nI (k + 1))) (lv' := [(1, .int (nI (k + 1))), (0, .ref (a 0))]) S.1 S.2.1 dX5_round1_36 hl (k := 1) rfl (nI_add _ _) (by decide) rfl (fun ls hl => ?_)
          refine lv_goto (tgt := 12) S.1 S.2.1 dX5_round1_39 (by decide) ?_
          exact ih12 (k + 1) (t2) (w) _ _ _ (by omega) (by omega) (by rw [rdK, ← ht2]; first | (rw [if_pos (by assumption)]; exact et2; done) | (rw [if_neg (by assumption)]; done)) (by exact it2) (by first | exact hsc | exact hsc) hw (lv_sub hl [1, 0] rfl)
        · skip
          refine lv_aload_n S.1 S.2.1 dX5_round1_31 rfl (lv_at hl 0 rfl) ?_
          refine lv_iload_n S.1 S.2.1 dX5_round1_32 rfl (lv_at hl 1 rfl) ?_
          refine cl_v (va_runV (As := [.int (nI (k))]) (rest := []) S (c_X5_turns l G a t2 w H.size (k) (by omega) (by exact it2)) (cwV 1 S.2.2.2.2 gX5_round1_X5_turns rfl rfl rfl hd_X5_turns ⟨by rw [hR]; exact Nat.le_of_ble_eq_true rfl, by rw [hR]; exact Nat.le_of_ble_eq_true rfl⟩) ⟨PW.blind, va_recv hK.1 hw.1 (ci := 5) (q0 := 0) rfl rfl, fun U hU hW => ⟨rfl, PW.of hK hw hU hW⟩⟩ rfl rfl hl.1 rfl (lv_room (Nat.le_of_ble_eq_true rfl)) dX5_round1_33 ⟨Nat.zero_le _, Nat.zero_le _⟩) hw hA (fun _ => rfl) (fun z5 H locs h6 hw => ?_)
          obtain ⟨z7, o8⟩ := z5
          try dsimp only at h6 hw
          obtain ⟨ez7, eo8⟩ := h6
          have iz7 : Inv z7 := by rw [ez7]; exact inv_trn it2 (n := (k)) (by omega)
          refine lv_iinc (v := (nI (k + 1))) (lv' := [(1, .int (nI (k + 1))), (0, .ref (a 0))]) S.1 S.2.1 dX5_round1_36 hl (k := 1) rfl (nI_add _ _) (by decide) rfl (fun ls hl => ?_)
          refine lv_goto (tgt := 12) S.1 S.2.1 dX5_round1_39 (by decide) ?_
          exact ih12 (k + 1) (z7) (o8) _ _ _ (by omega) (by omega) (by rw [rdK, ← ht2]; first | (rw [if_pos (by assumption)]; exact ez7; done) | (rw [if_neg (by assumption)]; done)) (by exact iz7) (by first | exact hsc | exact (SC.tr hsc eo8)) hw (lv_sub hl [1, 0] rfl)
  exact K12 (9) (0) (z1) (o) _ _ _ (by omega) (by omega) (by rfl) (by exact iz1) (by exact SC.rf o) hw (lv_sub hl [1, 0] rfl)
