theorem lk_no {x : Int32} (h1 : ¬ x.toInt = (99 : Int32).toInt) (h2 : ¬ x.toInt = (106 : Int32).toInt) (h3 : ¬ x.toInt = (112 : Int32).toInt) (h4 : ¬ x.toInt = (114 : Int32).toInt) : Op.lookupswitch.offset (#[(99, 43), (106, 45), (112, 45), (114, 43)] : Array (Int × Int)).toList 47 x.toInt = 47 := by
  have e1 : (99 : Int32).toInt = 99 := rfl
  have e2 : (106 : Int32).toInt = 106 := rfl
  have e3 : (112 : Int32).toInt = 112 := rfl
  have e4 : (114 : Int32).toInt = 114 := rfl
  rw [e1] at h1
  rw [e2] at h2
  rw [e3] at h3
  rw [e4] at h4
  simp [Op.lookupswitch.offset, h1, h2, h3, h4, Ne.symm h1, Ne.symm h2, Ne.symm h3, Ne.symm h4]
theorem hd_X0_digitsOf : yX0_digitsOf.cls ≠ "java/lang/invoke/MethodHandle" ∧ yX0_digitsOf.cls ≠ "java/lang/invoke/VarHandle" ∧ (parseMethodDescriptor yX0_digitsOf.desc).map (fun d => d.parameters.length) = some 1 := by decide +kernel
set_option maxHeartbeats 4000000 in
set_option maxRecDepth 100000 in
theorem c_X0_digitsOf (l : Launch) (ch : Int32) : Met l yX0_digitsOf wsX0_digitsOf ({ frames := 0, cells := 0, slots := 0, locals := 0 }) (va_Pc [.int (ch)] (fun _ => True)) (vp_Si (fun (r : Int32) => r = nI (dgs ch))) 0 0 (fun _ => False) := by
  refine met_ps (cc := cX0_digitsOf) (maxL := 1) (ret := (some .int)) (vp_Si (fun (r : Int32) => r = nI (dgs ch))) (by decide) rfl (Nat.le_of_ble_eq_true rfl) ?_
  intro p e s m args below meth c R Q H ls hR hQ S hr hlk hH hl
  have hl : lv_has ls 1 [(0, .int (ch))] := hl
  refine lv_iload_n S.1 S.2.1 dX0_digitsOf_0 rfl (lv_at hl 0 rfl) ?_
  rcases dg_cases (ch) with h9 | h9 | h9 | h9 | h9
  · refine lv_lookup (off := 43) (tgt := 44) S.1 S.2.1 dX0_digitsOf_1 (by decide) (by rw [h9]; decide) (by decide) ?_
    refine lv_iconst (v := 1) S.1 S.2.1 dX0_digitsOf_44 (by decide) ?_
    exact en_p (v := (1)) hQ S hr hlk hH rfl (by first | (rw [h9]; decide) | (rw [dgs, if_neg (by simp [h9]), if_neg (by simp [h9])]; rfl)) dX0_digitsOf_45
  · refine lv_lookup (off := 45) (tgt := 46) S.1 S.2.1 dX0_digitsOf_1 (by decide) (by rw [h9]; decide) (by decide) ?_
    refine lv_iconst (v := 2) S.1 S.2.1 dX0_digitsOf_46 (by decide) ?_
    exact en_p (v := (2)) hQ S hr hlk hH rfl (by first | (rw [h9]; decide) | (rw [dgs, if_neg (by simp [h9]), if_neg (by simp [h9])]; rfl)) dX0_digitsOf_47
  · refine lv_lookup (off := 45) (tgt := 46) S.1 S.2.1 dX0_digitsOf_1 (by decide) (by rw [h9]; decide) (by decide) ?_
    refine lv_iconst (v := 2) S.1 S.2.1 dX0_digitsOf_46 (by decide) ?_
    exact en_p (v := (2)) hQ S hr hlk hH rfl (by first | (rw [h9]; decide) | (rw [dgs, if_neg (by simp [h9]), if_neg (by simp [h9])]; rfl)) dX0_digitsOf_47
  · refine lv_lookup (off := 43) (tgt := 44) S.1 S.2.1 dX0_digitsOf_1 (by decide) (by rw [h9]; decide) (by decide) ?_
    refine lv_iconst (v := 1) S.1 S.2.1 dX0_digitsOf_44 (by decide) ?_
    exact en_p (v := (1)) hQ S hr hlk hH rfl (by first | (rw [h9]; decide) | (rw [dgs, if_neg (by simp [h9]), if_neg (by simp [h9])]; rfl)) dX0_digitsOf_45
  · refine lv_lookup (off := 47) (tgt := 48) S.1 S.2.1 dX0_digitsOf_1 (by decide) (by have e1 := fun e => h9.1 ((i_eq _ _).mpr e); have e2 := fun e => h9.2.1 ((i_eq _ _).mpr e); have e3 := fun e => h9.2.2.1 ((i_eq _ _).mpr e); have e4 := fun e => h9.2.2.2 ((i_eq _ _).mpr e); exact lk_no e1 e2 e3 e4) (by decide) ?_
    refine lv_iconst (v := 0) S.1 S.2.1 dX0_digitsOf_48 (by decide) ?_
    exact en_p (v := (0)) hQ S hr hlk hH rfl (by first | (rw [h9]; decide) | (rw [dgs, if_neg (by simp [h9]), if_neg (by simp [h9])]; rfl)) dX0_digitsOf_49

theorem hd_X0_isDigitFor : yX0_isDigitFor.cls ≠ "java/lang/invoke/MethodHandle" ∧ yX0_isDigitFor.cls ≠ "java/lang/invoke/VarHandle" ∧ (parseMethodDescriptor yX0_isDigitFor.desc).map (fun d => d.parameters.length) = some 3 := by decide +kernel
set_option maxHeartbeats 4000000 in
set_option maxRecDepth 100000 in
theorem c_X0_isDigitFor (l : Launch) (lt : Int32) (pl : Nat) (ch : Int32) (hpl : pl < 100) : Met l yX0_isDigitFor wsX0_isDigitFor ({ frames := 0, cells := 0, slots := 0, locals := 0 }) (va_Pc [.int (lt), .int (nI (pl)), .int (ch)] (fun _ => True)) (vp_Si (fun (r : Int32) => r = b2 (isD lt pl ch))) 0 0 (fun _ => False) := by
  refine met_ps (cc := cX0_isDigitFor) (maxL := 4) (ret := (some .boolean)) (vp_Si (fun (r : Int32) => r = b2 (isD lt pl ch))) (by decide) rfl (Nat.le_of_ble_eq_true rfl) ?_
  intro p e s m args below meth c R Q H ls hR hQ S hr hlk hH hl
  have hl : lv_has ls 4 [(0, .int (lt)), (1, .int (nI (pl))), (2, .int (ch))] := hl
  refine lv_iload_n S.1 S.2.1 dX0_isDigitFor_0 rfl (lv_at hl 0 rfl) ?_
  refine lv_bipush (v := 114) S.1 S.2.1 dX0_isDigitFor_1 (by decide) ?_
  refine lv_icmp_ne (tgt := 24) S.1 S.2.1 dX0_isDigitFor_3 (by decide) (fun c1 => ?_) (fun c1 => ?_)
  · skip
    refine lv_iload_n S.1 S.2.1 dX0_isDigitFor_24 rfl (lv_at hl 0 rfl) ?_
    refine lv_bipush (v := 112) S.1 S.2.1 dX0_isDigitFor_25 (by decide) ?_
    refine lv_icmp_ne (tgt := 40) S.1 S.2.1 dX0_isDigitFor_27 (by decide) (fun c2 => ?_) (fun c2 => ?_)
    · skip
      refine lv_bipush (v := 55) S.1 S.2.1 dX0_isDigitFor_40 (by decide) ?_
      refine lv_istore_n (lv' := [(3, .int 55), (0, .int (lt)), (1, .int (nI (pl))), (2, .int (ch))]) S.1 S.2.1 dX0_isDigitFor_42 rfl hl (by decide) rfl (fun ls hl => ?_)
      refine lv_iload_n S.1 S.2.1 dX0_isDigitFor_43 rfl (lv_at hl 3 rfl) ?_
      refine lv_bipush (v := 48) S.1 S.2.1 dX0_isDigitFor_44 (by decide) ?_
      refine lv_icmp_lt (tgt := 58) S.1 S.2.1 dX0_isDigitFor_46 (by decide) (fun c3 => ?_) (fun c3 => ?_)
      · skip
        refine lv_iconst (v := 0) S.1 S.2.1 dX0_isDigitFor_58 (by decide) ?_
        exact en_p (v := (0)) hQ S hr hlk hH rfl (by simp [isD, inB, b2, c1, c2, c3]) dX0_isDigitFor_59
      · skip
        refine lv_iload_n S.1 S.2.1 dX0_isDigitFor_49 rfl (lv_at hl 3 rfl) ?_
        refine lv_iload_n S.1 S.2.1 dX0_isDigitFor_50 rfl (lv_at hl 0 rfl) ?_
        refine lv_icmp_gt (tgt := 58) S.1 S.2.1 dX0_isDigitFor_51 (by decide) (fun c4 => ?_) (fun c4 => ?_)
        · skip
          refine lv_iconst (v := 0) S.1 S.2.1 dX0_isDigitFor_58 (by decide) ?_
          exact en_p (v := (0)) hQ S hr hlk hH rfl (by simp [isD, inB, b2, c1, c2, c3, c4]) dX0_isDigitFor_59
        · skip
          refine lv_iconst (v := 1) S.1 S.2.1 dX0_isDigitFor_54 (by decide) ?_
          refine lv_goto (tgt := 59) S.1 S.2.1 dX0_isDigitFor_55 (by decide) ?_
          exact en_p (v := (1)) hQ S hr hlk hH rfl (by simp [isD, inB, b2, c1, c2, c3, c4]) dX0_isDigitFor_59
    · skip
      refine lv_iload_n S.1 S.2.1 dX0_isDigitFor_30 rfl (lv_at hl 1 rfl) ?_
      refine lv_iconst (v := 2) S.1 S.2.1 dX0_isDigitFor_31 (by decide) ?_
      refine brN_ne (a := pl) (b := 2) S (by omega) (by omega) (tgt := 40) dX0_isDigitFor_32 (by decide) (fun c5 => ?_) (fun c5 => ?_)
      · skip
        refine lv_bipush (v := 55) S.1 S.2.1 dX0_isDigitFor_40 (by decide) ?_
        refine lv_istore_n (lv' := [(3, .int 55), (0, .int (lt)), (1, .int (nI (pl))), (2, .int (ch))]) S.1 S.2.1 dX0_isDigitFor_42 rfl hl (by decide) rfl (fun ls hl => ?_)
        refine lv_iload_n S.1 S.2.1 dX0_isDigitFor_43 rfl (lv_at hl 3 rfl) ?_
        refine lv_bipush (v := 48) S.1 S.2.1 dX0_isDigitFor_44 (by decide) ?_
        refine lv_icmp_lt (tgt := 58) S.1 S.2.1 dX0_isDigitFor_46 (by decide) (fun c6 => ?_) (fun c6 => ?_)
        · skip
          refine lv_iconst (v := 0) S.1 S.2.1 dX0_isDigitFor_58 (by decide) ?_
          exact en_p (v := (0)) hQ S hr hlk hH rfl (by simp [isD, inB, b2, c1, c2, c5, c6]) dX0_isDigitFor_59
        · skip
          refine lv_iload_n S.1 S.2.1 dX0_isDigitFor_49 rfl (lv_at hl 3 rfl) ?_
          refine lv_iload_n S.1 S.2.1 dX0_isDigitFor_50 rfl (lv_at hl 0 rfl) ?_
          refine lv_icmp_gt (tgt := 58) S.1 S.2.1 dX0_isDigitFor_51 (by decide) (fun c7 => ?_) (fun c7 => ?_)
          · skip
            refine lv_iconst (v := 0) S.1 S.2.1 dX0_isDigitFor_58 (by decide) ?_
            exact en_p (v := (0)) hQ S hr hlk hH rfl (by simp [isD, inB, b2, c1, c2, c5, c6, c7]) dX0_isDigitFor_59
          · skip
            refine lv_iconst (v := 1) S.1 S.2.1 dX0_isDigitFor_54 (by decide) ?_
            refine lv_goto (tgt := 59) S.1 S.2.1 dX0_isDigitFor_55 (by decide) ?_
            exact en_p (v := (1)) hQ S hr hlk hH rfl (by simp [isD, inB, b2, c1, c2, c5, c6, c7]) dX0_isDigitFor_59
      · skip
        refine lv_bipush (v := 51) S.1 S.2.1 dX0_isDigitFor_35 (by decide) ?_
        refine lv_goto (tgt := 42) S.1 S.2.1 dX0_isDigitFor_37 (by decide) ?_
        refine lv_istore_n (lv' := [(3, .int 51), (0, .int (lt)), (1, .int (nI (pl))), (2, .int (ch))]) S.1 S.2.1 dX0_isDigitFor_42 rfl hl (by decide) rfl (fun ls hl => ?_)
        refine lv_iload_n S.1 S.2.1 dX0_isDigitFor_43 rfl (lv_at hl 3 rfl) ?_
        refine lv_bipush (v := 48) S.1 S.2.1 dX0_isDigitFor_44 (by decide) ?_
        refine lv_icmp_lt (tgt := 58) S.1 S.2.1 dX0_isDigitFor_46 (by decide) (fun c8 => ?_) (fun c8 => ?_)
        · skip
          refine lv_iconst (v := 0) S.1 S.2.1 dX0_isDigitFor_58 (by decide) ?_
          exact en_p (v := (0)) hQ S hr hlk hH rfl (by simp [isD, inB, b2, c1, c2, c5, c8]) dX0_isDigitFor_59
        · skip
          refine lv_iload_n S.1 S.2.1 dX0_isDigitFor_49 rfl (lv_at hl 3 rfl) ?_
          refine lv_iload_n S.1 S.2.1 dX0_isDigitFor_50 rfl (lv_at hl 0 rfl) ?_
          refine lv_icmp_gt (tgt := 58) S.1 S.2.1 dX0_isDigitFor_51 (by decide) (fun c9 => ?_) (fun c9 => ?_)
          · skip
            refine lv_iconst (v := 0) S.1 S.2.1 dX0_isDigitFor_58 (by decide) ?_
            exact en_p (v := (0)) hQ S hr hlk hH rfl (by simp [isD, inB, b2, c1, c2, c5, c8, c9]) dX0_isDigitFor_59
          · skip
            refine lv_iconst (v := 1) S.1 S.2.1 dX0_isDigitFor_54 (by decide) ?_
            refine lv_goto (tgt := 59) S.1 S.2.1 dX0_isDigitFor_55 (by decide) ?_
            exact en_p (v := (1)) hQ S hr hlk hH rfl (by simp [isD, inB, b2, c1, c2, c5, c8, c9]) dX0_isDigitFor_59
  · skip
    refine lv_iload_n S.1 S.2.1 dX0_isDigitFor_6 rfl (lv_at hl 2 rfl) ?_
    refine lv_bipush (v := 49) S.1 S.2.1 dX0_isDigitFor_7 (by decide) ?_
    refine lv_icmp_lt (tgt := 22) S.1 S.2.1 dX0_isDigitFor_9 (by decide) (fun c10 => ?_) (fun c10 => ?_)
    · skip
      refine lv_iconst (v := 0) S.1 S.2.1 dX0_isDigitFor_22 (by decide) ?_
      exact en_p (v := (0)) hQ S hr hlk hH rfl (by simp [isD, inB, b2, c1, c10]) dX0_isDigitFor_23
    · skip
      refine lv_iload_n S.1 S.2.1 dX0_isDigitFor_12 rfl (lv_at hl 2 rfl) ?_
      refine lv_bipush (v := 57) S.1 S.2.1 dX0_isDigitFor_13 (by decide) ?_
      refine lv_icmp_gt (tgt := 22) S.1 S.2.1 dX0_isDigitFor_15 (by decide) (fun c11 => ?_) (fun c11 => ?_)
      · skip
        refine lv_iconst (v := 0) S.1 S.2.1 dX0_isDigitFor_22 (by decide) ?_
        exact en_p (v := (0)) hQ S hr hlk hH rfl (by simp [isD, inB, b2, c1, c10, c11]) dX0_isDigitFor_23
      · skip
        refine lv_iconst (v := 1) S.1 S.2.1 dX0_isDigitFor_18 (by decide) ?_
        refine lv_goto (tgt := 23) S.1 S.2.1 dX0_isDigitFor_19 (by decide) ?_
        exact en_p (v := (1)) hQ S hr hlk hH rfl (by simp [isD, inB, b2, c1, c10, c11]) dX0_isDigitFor_23

theorem hd_X0_signAt : yX0_signAt.cls = RX0 ∧ yX0_signAt.cls ≠ "java/lang/invoke/MethodHandle" ∧ yX0_signAt.cls ≠ "java/lang/invoke/VarHandle" ∧ (parseMethodDescriptor yX0_signAt.desc).map (fun d => d.parameters.length) = some 1 := by decide +kernel
set_option maxHeartbeats 4000000 in
set_option maxRecDepth 100000 in
theorem c_X0_signAt (l : Launch) (G : GA) (a : Nat → Nat) (k : St) (sz : Nat) (q : Nat) {tl : Nat} (hq : q < 1000) (hL : k 0 3 = nI tl) (hm : tl ≤ 40) (hch : SG (k 2)) : Met l yX0_signAt wsX0_signAt ({ frames := 0, cells := 0, slots := 0, locals := 0 }) (va_Pc [.ref (a 0), .int (nI (q))] (PW G (txp G a k) sz)) (va_Qi (fun (r : Int32) (u : St) => r = sg (k 2) tl q ∧ u = k) (fun (u : St) t => va_P G.1 gcl (txp G a u) t.heap) (va_A (txp G a k) sz)) 0 0 (va_A (txp G a k) sz) := by
  refine met_st (cc := cX0_signAt) (maxL := 2) (ret := (some .char)) (fun A => va_Qi (fun (r : Int32) (u : St) => r = sg (k 2) tl q ∧ u = k) (fun (u : St) t => va_P G.1 gcl (txp G a u) t.heap) A) (by decide) rfl (Nat.le_of_ble_eq_true rfl) ?_
  intro p e s m args below meth c R Q A H ls hR hQ S hr hlk _ hK hsz hH hAe hA hw hl
  have hl : lv_has ls 2 [(0, .ref (a 0)), (1, .int (nI (q)))] := hl
  have LX0 : ∀ w ∈ u_ws RX0 TX0 2, w.before args s = true := fun w h => S.2.2.2.2 w ((by decide +kernel : ∀ w ∈ u_ws RX0 TX0 2, w ∈ wsX0_signAt) w h)
  have k1 : (Cond.fieldLink RX0 15 "GossipMembership$CommandText" "length" "I").before args s = true := S.2.2.2.2 _ (by decide +kernel : (Cond.fieldLink RX0 15 "GossipMembership$CommandText" "length" "I") ∈ wsX0_signAt)
  have k2 : (Cond.fieldLink RX0 9 "GossipMembership$CommandText" "signs" "[C").before args s = true := S.2.2.2.2 _ (by decide +kernel : (Cond.fieldLink RX0 9 "GossipMembership$CommandText" "signs" "[C") ∈ wsX0_signAt)
  refine lv_iload_n S.1 S.2.1 dX0_signAt_0 rfl (lv_at hl 1 rfl) ?_
  refine lv_if_lt (tgt := 21) S.1 S.2.1 dX0_signAt_1 (by decide) (fun c1 => ?_) (fun c1 => ?_)
  · skip
    exact absurd c1 (nI_pos (by omega))
  · skip
    refine lv_iload_n S.1 S.2.1 dX0_signAt_4 rfl (lv_at hl 1 rfl) ?_
    refine lv_aload_n S.1 S.2.1 dX0_signAt_5 rfl (lv_at hl 0 rfl) ?_
    refine gt_X0_1 (v := .int (k 0 3)) S hK hw 0 rfl rfl LX0 k1 dX0_signAt_6 ?_
    refine top_to (v := nI tl) S hL ?_
    refine brN_ge (a := q) (b := tl) S (by omega) (by omega) (tgt := 21) dX0_signAt_9 (by decide) (fun c2 => ?_) (fun c2 => ?_)
    · skip
      refine lv_iconst (v := 0) S.1 S.2.1 dX0_signAt_21 (by decide) ?_
      exact en_z (v := (0)) k hQ S hr hlk rfl hw (by refine ⟨?_, rfl⟩; first | (rw [sg, if_pos (by omega)]; done) | (rw [sg, if_neg (by omega)]; done)) dX0_signAt_22
    · skip
      refine lv_aload_n S.1 S.2.1 dX0_signAt_12 rfl (lv_at hl 0 rfl) ?_
      refine gt_X0_0 (v := .ref (a 1)) S hK hw 0 rfl rfl LX0 k2 dX0_signAt_13 ?_
      refine lv_iload_n S.1 S.2.1 dX0_signAt_16 rfl (lv_at hl 1 rfl) ?_
      refine ald_c (v := k 2 (q)) (k := q) S hK hw 1 rfl (by omega) (by decide) rfl dX0_signAt_17 ?_
      refine lv_goto (tgt := 22) S.1 S.2.1 dX0_signAt_18 (by decide) ?_
      exact en_z (v := (k 2 (q))) k hQ S hr hlk (hch _) hw (by refine ⟨?_, rfl⟩; first | (rw [sg, if_pos (by omega)]; done) | (rw [sg, if_neg (by omega)]; done)) dX0_signAt_22

theorem hd_X0_digitAt : yX0_digitAt.cls = RX0 ∧ yX0_digitAt.cls ≠ "java/lang/invoke/MethodHandle" ∧ yX0_digitAt.cls ≠ "java/lang/invoke/VarHandle" ∧ (parseMethodDescriptor yX0_digitAt.desc).map (fun d => d.parameters.length) = some 1 := by decide +kernel
set_option maxHeartbeats 4000000 in
set_option maxRecDepth 100000 in
theorem c_X0_digitAt (l : Launch) (G : GA) (a : Nat → Nat) (k : St) (sz : Nat) (q : Nat) {tl : Nat} (hq : q < 500) (hL : k 0 3 = nI tl) (hm : tl ≤ 40) (hch : SG (k 2)) : Met l yX0_digitAt wsX0_digitAt ({ frames := 1, cells := 0, slots := 0, locals := 21 }) (va_Pc [.ref (a 0), .int (nI (q))] (PW G (txp G a k) sz)) (va_Qi (fun (r : Int32) (u : St) => r = sg (k 2) tl q - 48 ∧ u = k) (fun (u : St) t => va_P G.1 gcl (txp G a u) t.heap) (va_A (txp G a k) sz)) 0 0 (va_A (txp G a k) sz) := by
  refine met_st (cc := cX0_digitAt) (maxL := 2) (ret := (some .int)) (fun A => va_Qi (fun (r : Int32) (u : St) => r = sg (k 2) tl q - 48 ∧ u = k) (fun (u : St) t => va_P G.1 gcl (txp G a u) t.heap) A) (by decide) rfl (Nat.le_of_ble_eq_true rfl) ?_
  intro p e s m args below meth c R Q A H ls hR hQ S hr hlk _ hK hsz hH hAe hA hw hl
  have hl : lv_has ls 2 [(0, .ref (a 0)), (1, .int (nI (q)))] := hl
  refine lv_aload_n S.1 S.2.1 dX0_digitAt_0 rfl (lv_at hl 0 rfl) ?_
  refine lv_iload_n S.1 S.2.1 dX0_digitAt_1 rfl (lv_at hl 1 rfl) ?_
  refine cl_i (va_runV (As := [.int (nI (q))]) (rest := []) S (c_X0_signAt l G a k H.size (q) (by omega) (by exact hL) (by omega) (by exact hch)) (cwV 1 S.2.2.2.2 gX0_digitAt_X0_signAt rfl rfl rfl hd_X0_signAt ⟨by rw [hR]; exact Nat.le_of_ble_eq_true rfl, by rw [hR]; exact Nat.le_of_ble_eq_true rfl⟩) ⟨PW.blind, va_recv hK.1 hw.1 (ci := 0) (q0 := 0) rfl rfl, fun U hU hW => ⟨rfl, PW.of hK hw hU hW⟩⟩ rfl rfl hl.1 rfl (lv_room (Nat.le_of_ble_eq_true rfl)) dX0_digitAt_2 ⟨Nat.zero_le _, Nat.zero_le _⟩) hw hA (fun _ => rfl) (fun r1 z2 H locs h3 hw => ?_)
  obtain ⟨rfl, qz2⟩ := h3
  rw [qz2] at hw
  refine lv_bipush (v := 48) S.1 S.2.1 dX0_digitAt_5 (by decide) ?_
  refine lv_isub S.1 S.2.1 dX0_digitAt_7 ?_
  exact en_i (v := ((sg (k 2) tl (q)) - (48))) k hQ S hr hlk hw (by exact ⟨rfl, rfl⟩) dX0_digitAt_8

theorem hd_X0_lengthOfCommand : yX0_lengthOfCommand.cls = RX0 ∧ yX0_lengthOfCommand.cls ≠ "java/lang/invoke/MethodHandle" ∧ yX0_lengthOfCommand.cls ≠ "java/lang/invoke/VarHandle" ∧ (parseMethodDescriptor yX0_lengthOfCommand.desc).map (fun d => d.parameters.length) = some 1 := by decide +kernel
set_option maxHeartbeats 4000000 in
set_option maxRecDepth 100000 in
theorem c_X0_lengthOfCommand (l : Launch) (G : GA) (a : Nat → Nat) (k : St) (sz : Nat) (q : Nat) {tl : Nat} (hq : q < 500) (hL : k 0 3 = nI tl) (hm : tl ≤ 40) (hch : SG (k 2)) : Met l yX0_lengthOfCommand wsX0_lengthOfCommand ({ frames := 1, cells := 0, slots := 0, locals := 21 }) (va_Pc [.ref (a 0), .int (nI (q))] (PW G (txp G a k) sz)) (va_Qi (fun (r : Int32) (u : St) => r = nI (1 + dgs (sg (k 2) tl q)) ∧ u = k) (fun (u : St) t => va_P G.1 gcl (txp G a u) t.heap) (va_A (txp G a k) sz)) 0 0 (va_A (txp G a k) sz) := by
  refine met_st (cc := cX0_lengthOfCommand) (maxL := 2) (ret := (some .int)) (fun A => va_Qi (fun (r : Int32) (u : St) => r = nI (1 + dgs (sg (k 2) tl q)) ∧ u = k) (fun (u : St) t => va_P G.1 gcl (txp G a u) t.heap) A) (by decide) rfl (Nat.le_of_ble_eq_true rfl) ?_
  intro p e s m args below meth c R Q A H ls hR hQ S hr hlk _ hK hsz hH hAe hA hw hl
  have hl : lv_has ls 2 [(0, .ref (a 0)), (1, .int (nI (q)))] := hl
  refine lv_iconst (v := 1) S.1 S.2.1 dX0_lengthOfCommand_0 (by decide) ?_
  refine lv_aload_n S.1 S.2.1 dX0_lengthOfCommand_1 rfl (lv_at hl 0 rfl) ?_
  refine lv_iload_n S.1 S.2.1 dX0_lengthOfCommand_2 rfl (lv_at hl 1 rfl) ?_
  refine cl_i (va_runV (As := [.int (nI (q))]) (rest := [.int 1]) S (c_X0_signAt l G a k H.size (q) (by omega) (by exact hL) (by omega) (by exact hch)) (cwV 1 S.2.2.2.2 gX0_lengthOfCommand_X0_signAt rfl rfl rfl hd_X0_signAt ⟨by rw [hR]; exact Nat.le_of_ble_eq_true rfl, by rw [hR]; exact Nat.le_of_ble_eq_true rfl⟩) ⟨PW.blind, va_recv hK.1 hw.1 (ci := 0) (q0 := 0) rfl rfl, fun U hU hW => ⟨rfl, PW.of hK hw hU hW⟩⟩ rfl rfl hl.1 rfl (lv_room (Nat.le_of_ble_eq_true rfl)) dX0_lengthOfCommand_3 ⟨Nat.zero_le _, Nat.zero_le _⟩) hw hA (fun _ => rfl) (fun r1 z2 H locs h3 hw => ?_)
  obtain ⟨rfl, qz2⟩ := h3
  rw [qz2] at hw
  refine vp_callSi (va_runS (As := [.int (sg (k 2) tl (q))]) (rest := [.int 1]) S (c_X0_digitsOf l (sg (k 2) tl (q)) ) (va_cwS 1 S.2.2.2.2 gX0_lengthOfCommand_X0_digitsOf rfl rfl rfl hd_X0_digitsOf ⟨by rw [hR]; exact Nat.le_of_ble_eq_true rfl, by rw [hR]; exact Nat.le_of_ble_eq_true rfl⟩) ⟨blind_T, fun U hU hW => ⟨rfl, trivial⟩⟩ rfl rfl hl.1 rfl (lv_room (Nat.le_of_ble_eq_true rfl)) dX0_lengthOfCommand_6 ⟨Nat.zero_le _, Nat.zero_le _⟩).run (fun r4 h5 => ?_)
  subst h5
  refine addN (a := 1) (b := dgs (sg (k 2) tl (q))) S dX0_lengthOfCommand_9 ?_
  exact en_i (v := (nI (1 + (dgs (sg (k 2) tl (q)))))) k hQ S hr hlk hw (by exact ⟨rfl, rfl⟩) dX0_lengthOfCommand_10

theorem hd_X0_findFaultOfCommand : yX0_findFaultOfCommand.cls = RX0 ∧ yX0_findFaultOfCommand.cls ≠ "java/lang/invoke/MethodHandle" ∧ yX0_findFaultOfCommand.cls ≠ "java/lang/invoke/VarHandle" ∧ (parseMethodDescriptor yX0_findFaultOfCommand.desc).map (fun d => d.parameters.length) = some 1 := by decide +kernel
set_option maxHeartbeats 4000000 in
set_option maxRecDepth 100000 in
theorem c_X0_findFaultOfCommand (l : Launch) (G : GA) (a : Nat → Nat) (k : St) (sz : Nat) (q : Nat) {tl : Nat} (hq : q < 100) (hL : k 0 3 = nI tl) (hm : tl ≤ 40) (hch : SG (k 2)) : Met l yX0_findFaultOfCommand wsX0_findFaultOfCommand ({ frames := 1, cells := 0, slots := 0, locals := 23 }) (va_Pc [.ref (a 0), .int (nI (q))] (PW G (txp G a k) sz)) (va_Qi (fun (r : Int32) (u : St) => r = ffc (k 2) tl q ∧ u = k) (fun (u : St) t => va_P G.1 gcl (txp G a u) t.heap) (va_A (txp G a k) sz)) 0 0 (va_A (txp G a k) sz) := by
  refine met_st (cc := cX0_findFaultOfCommand) (maxL := 5) (ret := (some .int)) (fun A => va_Qi (fun (r : Int32) (u : St) => r = ffc (k 2) tl q ∧ u = k) (fun (u : St) t => va_P G.1 gcl (txp G a u) t.heap) A) (by decide) rfl (Nat.le_of_ble_eq_true rfl) ?_
  intro p e s m args below meth c R Q A H ls hR hQ S hr hlk _ hK hsz hH hAe hA hw hl
  have hl : lv_has ls 5 [(0, .ref (a 0)), (1, .int (nI (q)))] := hl
  have hdl := dgs_le (sg (k 2) tl q)
  refine lv_aload_n S.1 S.2.1 dX0_findFaultOfCommand_0 rfl (lv_at hl 0 rfl) ?_
  refine lv_iload_n S.1 S.2.1 dX0_findFaultOfCommand_1 rfl (lv_at hl 1 rfl) ?_
  refine cl_i (va_runV (As := [.int (nI (q))]) (rest := []) S (c_X0_signAt l G a k H.size (q) (by omega) (by exact hL) (by omega) (by exact hch)) (cwV 1 S.2.2.2.2 gX0_findFaultOfCommand_X0_signAt rfl rfl rfl hd_X0_signAt ⟨by rw [hR]; exact Nat.le_of_ble_eq_true rfl, by rw [hR]; exact Nat.le_of_ble_eq_true rfl⟩) ⟨PW.blind, va_recv hK.1 hw.1 (ci := 0) (q0 := 0) rfl rfl, fun U hU hW => ⟨rfl, PW.of hK hw hU hW⟩⟩ rfl rfl hl.1 rfl (lv_room (Nat.le_of_ble_eq_true rfl)) dX0_findFaultOfCommand_2 ⟨Nat.zero_le _, Nat.zero_le _⟩) hw hA (fun _ => rfl) (fun r1 z2 H locs h3 hw => ?_)
  obtain ⟨rfl, qz2⟩ := h3
  rw [qz2] at hw
  refine lv_istore_n (lv' := [(2, .int (sg (k 2) tl (q))), (0, .ref (a 0)), (1, .int (nI (q)))]) S.1 S.2.1 dX0_findFaultOfCommand_5 rfl hl (by decide) rfl (fun ls hl => ?_)
  refine lv_iload_n S.1 S.2.1 dX0_findFaultOfCommand_6 rfl (lv_at hl 0 rfl) ?_
  refine vp_callSi (va_runS (As := [.int (sg (k 2) tl (q))]) (rest := []) S (c_X0_digitsOf l (sg (k 2) tl (q)) ) (va_cwS 1 S.2.2.2.2 gX0_findFaultOfCommand_X0_digitsOf rfl rfl rfl hd_X0_digitsOf ⟨by rw [hR]; exact Nat.le_of_ble_eq_true rfl, by rw [hR]; exact Nat.le_of_ble_eq_true rfl⟩) ⟨blind_T, fun U hU hW => ⟨rfl, trivial⟩⟩ rfl rfl hl.1 rfl (lv_room (Nat.le_of_ble_eq_true rfl)) dX0_findFaultOfCommand_7 ⟨Nat.zero_le _, Nat.zero_le _⟩).run (fun r4 h5 => ?_)
  subst h5
  refine lv_istore_n (lv' := [(3, .int (nI (dgs (sg (k 2) tl (q))))), (2, .int (sg (k 2) tl (q))), (0, .ref (a 0)), (1, .int (nI (q)))]) S.1 S.2.1 dX0_findFaultOfCommand_10 rfl hl (by decide) rfl (fun ls hl => ?_)
  refine lv_iload_n S.1 S.2.1 dX0_findFaultOfCommand_11 rfl (lv_at hl 0 rfl) ?_
  refine brN0_ne (a := dgs (sg (k 2) tl (q))) S (by omega) (tgt := 17) dX0_findFaultOfCommand_12 (by decide) (fun c6 => ?_) (fun c6 => ?_)
  · skip
    have hd9 := c6
    refine lv_iconst (v := 1) S.1 S.2.1 dX0_findFaultOfCommand_17 (by decide) ?_
    refine lv_istore (lv' := [(4, .int 1), (3, .int (nI (dgs (sg (k 2) tl (q))))), (2, .int (sg (k 2) tl (q))), (0, .ref (a 0)), (1, .int (nI (q)))]) S.1 S.2.1 dX0_findFaultOfCommand_18 hl (by decide) rfl (fun ls hl => ?_)
    have K20 : ∀ (fu : Nat) (j : Nat) (H : Heap) (locs : List Loc) (ls : Array Slot), 4 - j < fu → 1 ≤ j → j ≤ 3 → (∀ i, 1 ≤ i → i < j → isD (sg (k 2) tl q) i (sg (k 2) tl (q + i)) = true) → WD G (txp G a k) A s H locs → lv_has ls 5 [(0, .ref (a 0)), (1, .int (nI (q))), (2, .int (sg (k 2) tl q)), (3, .int (nI (dgs (sg (k 2) tl q)))), (4, .int (nI (j)))] → W p l e R s m args below meth c H locs 0 0 Q (F0 m 20 ls []) := by
      intro fu
      induction fu with
      | zero => exact fun _ _ _ _ h => absurd h (Nat.not_lt_zero _)
      | succ fu ih20 =>
        intro j H locs ls hm20 hj1 hj3 ho hw hl
        refine lv_iload S.1 S.2.1 dX0_findFaultOfCommand_20 (lv_at hl 4 rfl) ?_
        refine lv_iload_n S.1 S.2.1 dX0_findFaultOfCommand_22 rfl (lv_at hl 3 rfl) ?_
        refine lv_icmp_gt (tgt := 54) S.1 S.2.1 dX0_findFaultOfCommand_23 (by decide) (fun c7 => ?_) (fun c7 => ?_)
        · skip
          have hx9 := (nI_ltI (by omega) (by omega)).mp c7
          refine lv_iconst (v := (-1)) S.1 S.2.1 dX0_findFaultOfCommand_54 (by decide) ?_
          exact en_i (v := (-1)) k hQ S hr hlk hw (by have hf9 := cmd_ok hd9 (by omega) ho; exact ⟨by rw [ffc, if_pos hf9.1], rfl⟩) dX0_findFaultOfCommand_55
        · skip
          have hx9 : ¬ dgs (sg (k 2) tl q) < j := fun h => c7 ((nI_ltI (by omega) (by omega)).mpr h)
          refine lv_iload_n S.1 S.2.1 dX0_findFaultOfCommand_26 rfl (lv_at hl 2 rfl) ?_
          refine lv_iload S.1 S.2.1 dX0_findFaultOfCommand_27 (lv_at hl 4 rfl) ?_
          refine lv_aload_n S.1 S.2.1 dX0_findFaultOfCommand_29 rfl (lv_at hl 0 rfl) ?_
          refine lv_iload_n S.1 S.2.1 dX0_findFaultOfCommand_30 rfl (lv_at hl 1 rfl) ?_
          refine lv_iload S.1 S.2.1 dX0_findFaultOfCommand_31 (lv_at hl 4 rfl) ?_
          refine addN (a := q) (b := j) S dX0_findFaultOfCommand_33 ?_
          refine cl_i (va_runV (As := [.int (nI (q + j))]) (rest := [.int (nI (j)), .int (sg (k 2) tl q)]) S (c_X0_signAt l G a k H.size (q + j) (by omega) (by exact hL) (by omega) (by exact hch)) (cwV 1 S.2.2.2.2 gX0_findFaultOfCommand_X0_signAt rfl rfl rfl hd_X0_signAt ⟨by rw [hR]; exact Nat.le_of_ble_eq_true rfl, by rw [hR]; exact Nat.le_of_ble_eq_true rfl⟩) ⟨PW.blind, va_recv hK.1 hw.1 (ci := 0) (q0 := 0) rfl rfl, fun U hU hW => ⟨rfl, PW.of hK hw hU hW⟩⟩ rfl rfl hl.1 rfl (lv_room (Nat.le_of_ble_eq_true rfl)) dX0_findFaultOfCommand_34 ⟨Nat.zero_le _, Nat.zero_le _⟩) hw hA (fun _ => rfl) (fun r8 z9 H locs h10 hw => ?_)
          obtain ⟨rfl, qz9⟩ := h10
          rw [qz9] at hw
          refine vp_callSi (va_runS (As := [.int (sg (k 2) tl q), .int (nI (j)), .int (sg (k 2) tl (q + j))]) (rest := []) S (c_X0_isDigitFor l (sg (k 2) tl q) (j) (sg (k 2) tl (q + j)) (by omega)) (va_cwS 3 S.2.2.2.2 gX0_findFaultOfCommand_X0_isDigitFor rfl rfl rfl hd_X0_isDigitFor ⟨by rw [hR]; exact Nat.le_of_ble_eq_true rfl, by rw [hR]; exact Nat.le_of_ble_eq_true rfl⟩) ⟨blind_T, fun U hU hW => ⟨rfl, trivial⟩⟩ rfl rfl hl.1 rfl (lv_room (Nat.le_of_ble_eq_true rfl)) dX0_findFaultOfCommand_37 ⟨Nat.zero_le _, Nat.zero_le _⟩).run (fun r11 h12 => ?_)
          subst h12
          refine brB_ne (b := isD (sg (k 2) tl q) (j) (sg (k 2) tl (q + j))) S (tgt := 48) dX0_findFaultOfCommand_40 (by decide) (fun c13 => ?_) (fun c13 => ?_)
          · skip
            refine lv_iinc (v := (nI (j + 1))) (lv' := [(4, .int (nI (j + 1))), (0, .ref (a 0)), (1, .int (nI (q))), (2, .int (sg (k 2) tl q)), (3, .int (nI (dgs (sg (k 2) tl q))))]) S.1 S.2.1 dX0_findFaultOfCommand_48 hl (k := 4) rfl (nI_add _ _) (by decide) rfl (fun ls hl => ?_)
            refine lv_goto (tgt := 20) S.1 S.2.1 dX0_findFaultOfCommand_51 (by decide) ?_
            exact ih20 (j + 1) _ _ _ (by omega) (by omega) (by omega) (by exact fun i h1 h2 => if e : i = j then (by rw [e]; assumption) else ho i h1 (by omega)) hw (lv_sub hl [1, 2, 3, 4, 0] rfl)
          · skip
            refine lv_iload_n S.1 S.2.1 dX0_findFaultOfCommand_43 rfl (lv_at hl 1 rfl) ?_
            refine lv_iload S.1 S.2.1 dX0_findFaultOfCommand_44 (lv_at hl 4 rfl) ?_
            refine addN (a := q) (b := j) S dX0_findFaultOfCommand_46 ?_
            exact en_i (v := (nI (q + j))) k hQ S hr hlk hw (by have hf9 := cmd_fail hd9 hj1 (by omega) ho c13; refine ⟨?_, rfl⟩; rw [ffc, if_neg (by rw [hf9.1]; decide), hf9.2]) dX0_findFaultOfCommand_47
    exact K20 (5) (1) _ _ _ (by omega) (by omega) (by omega) (by exact fun i h1 h2 => absurd h1 (by omega)) hw (lv_sub hl [3, 4, 2, 1, 0] rfl)
  · skip
    refine lv_iload_n S.1 S.2.1 dX0_findFaultOfCommand_15 rfl (lv_at hl 3 rfl) ?_
    exact en_i (v := (nI (q))) k hQ S hr hlk hw (by refine ⟨?_, rfl⟩; rw [ffc, if_neg (by rw [(cmd_0 c6).2]; decide), (cmd_0 c6).1]) dX0_findFaultOfCommand_16

theorem hd_X0_findFault : yX0_findFault.cls = RX0 ∧ yX0_findFault.cls ≠ "java/lang/invoke/MethodHandle" ∧ yX0_findFault.cls ≠ "java/lang/invoke/VarHandle" ∧ (parseMethodDescriptor yX0_findFault.desc).map (fun d => d.parameters.length) = some 0 := by decide +kernel
set_option maxHeartbeats 4000000 in
set_option maxRecDepth 100000 in
theorem c_X0_findFault (l : Launch) (G : GA) (a : Nat → Nat) (k : St) (sz : Nat) {tl : Nat} (hL : k 0 3 = nI tl) (hm : tl ≤ 40) (hch : SG (k 2)) : Met l yX0_findFault wsX0_findFault ({ frames := 2, cells := 0, slots := 0, locals := 47 }) (va_Pc [.ref (a 0)] (PW G (txp G a k) sz)) (va_Qi (fun (r : Int32) (u : St) => r = flt (k 2) tl ∧ u = k) (fun (u : St) t => va_P G.1 gcl (txp G a u) t.heap) (va_A (txp G a k) sz)) 0 0 (va_A (txp G a k) sz) := by
  refine met_st (cc := cX0_findFault) (maxL := 3) (ret := (some .int)) (fun A => va_Qi (fun (r : Int32) (u : St) => r = flt (k 2) tl ∧ u = k) (fun (u : St) t => va_P G.1 gcl (txp G a u) t.heap) A) (by decide) rfl (Nat.le_of_ble_eq_true rfl) ?_
  intro p e s m args below meth c R Q A H ls hR hQ S hr hlk _ hK hsz hH hAe hA hw hl
  have hl : lv_has ls 3 [(0, .ref (a 0))] := hl
  have LX0 : ∀ w ∈ u_ws RX0 TX0 2, w.before args s = true := fun w h => S.2.2.2.2 w ((by decide +kernel : ∀ w ∈ u_ws RX0 TX0 2, w ∈ wsX0_findFault) w h)
  have k1 : (Cond.fieldLink RX0 15 "GossipMembership$CommandText" "length" "I").before args s = true := S.2.2.2.2 _ (by decide +kernel : (Cond.fieldLink RX0 15 "GossipMembership$CommandText" "length" "I") ∈ wsX0_findFault)
  refine lv_iconst (v := 0) S.1 S.2.1 dX0_findFault_0 (by decide) ?_
  refine lv_istore_n (lv' := [(1, .int 0), (0, .ref (a 0))]) S.1 S.2.1 dX0_findFault_1 rfl hl (by decide) rfl (fun ls hl => ?_)
  have K2 : ∀ (fu : Nat) (n : Nat) (q : Nat) (H : Heap) (locs : List Loc) (ls : Array Slot), 41 - q < fu → 2 * n ≤ q → q ≤ tl → scX (k 2) tl false 41 0 zz = adN n (scX (k 2) tl false (41 - n) q zz) → WD G (txp G a k) A s H locs → lv_has ls 3 [(0, .ref (a 0)), (1, .int (nI (q)))] → W p l e R s m args below meth c H locs 0 0 Q (F0 m 2 ls []) := by
    intro fu
    induction fu with
    | zero => exact fun _ _ _ _ _ h => absurd h (Nat.not_lt_zero _)
    | succ fu ih2 =>
      intro n q H locs ls hm2 hn2 hq hv hw hl
      refine lv_iload_n S.1 S.2.1 dX0_findFault_2 rfl (lv_at hl 1 rfl) ?_
      refine lv_aload_n S.1 S.2.1 dX0_findFault_3 rfl (lv_at hl 0 rfl) ?_
      refine gt_X0_1 (v := .int (k 0 3)) S hK hw 0 rfl rfl LX0 k1 dX0_findFault_4 ?_
      refine top_to (v := nI tl) S hL ?_
      refine brN_ge (a := q) (b := tl) S (by omega) (by omega) (tgt := 59) dX0_findFault_7 (by decide) (fun c1 => ?_) (fun c1 => ?_)
      · skip
        refine lv_aload_n S.1 S.2.1 dX0_findFault_59 rfl (lv_at hl 0 rfl) ?_
        refine gt_X0_1 (v := .int (k 0 3)) S hK hw 0 rfl rfl LX0 k1 dX0_findFault_60 ?_
        refine top_to (v := nI tl) S hL ?_
        exact en_i (v := (nI (tl))) k hQ S hr hlk hw (by refine ⟨?_, rfl⟩; have hq9 : q = tl := (by omega); subst hq9; have h7 := cmd_0 (x := k 2) (m := q) (p := q) (by rw [sg, if_neg (by omega)]; rfl); have h8 := scX_e1 (x := k 2) (m := q) (dn := false) (n := n) (p := q) (z := zz) (by omega) (fun h => absurd h.1 (by rw [h7.2]; decide)); rw [flt, hv, h8, if_neg (by rw [h7.2]; decide), h7.1]) dX0_findFault_63
      · skip
        refine lv_aload_n S.1 S.2.1 dX0_findFault_10 rfl (lv_at hl 0 rfl) ?_
        refine lv_iload_n S.1 S.2.1 dX0_findFault_11 rfl (lv_at hl 1 rfl) ?_
        refine cl_i (va_runV (As := [.int (nI (q))]) (rest := []) S (c_X0_findFaultOfCommand l G a k H.size (q) (by omega) (by exact hL) (by omega) (by exact hch)) (cwV 1 S.2.2.2.2 gX0_findFault_X0_findFaultOfCommand rfl rfl rfl hd_X0_findFaultOfCommand ⟨by rw [hR]; exact Nat.le_of_ble_eq_true rfl, by rw [hR]; exact Nat.le_of_ble_eq_true rfl⟩) ⟨PW.blind, va_recv hK.1 hw.1 (ci := 0) (q0 := 0) rfl rfl, fun U hU hW => ⟨rfl, PW.of hK hw hU hW⟩⟩ rfl rfl hl.1 rfl (lv_room (Nat.le_of_ble_eq_true rfl)) dX0_findFault_12 ⟨Nat.zero_le _, Nat.zero_le _⟩) hw hA (fun _ => rfl) (fun r2 z3 H locs h4 hw => ?_)
        obtain ⟨rfl, qz3⟩ := h4
        rw [qz3] at hw
        refine lv_istore_n (lv' := [(2, .int (ffc (k 2) tl (q))), (0, .ref (a 0)), (1, .int (nI (q)))]) S.1 S.2.1 dX0_findFault_15 rfl hl (by decide) rfl (fun ls hl => ?_)
        refine lv_iload_n S.1 S.2.1 dX0_findFault_16 rfl (lv_at hl 0 rfl) ?_
        refine lv_iconst (v := (-1)) S.1 S.2.1 dX0_findFault_17 (by decide) ?_
        refine lv_icmp_eq (tgt := 23) S.1 S.2.1 dX0_findFault_18 (by decide) (fun c5 => ?_) (fun c5 => ?_)
        · skip
          have hff := c5
          have hc9 := cmd_len (ffc_y hq hm hff)
          have hc8 := cmd_2 hq (ffc_y hq hm hff)
          have hc7 := (cmd_le (x := k 2) hq).2
          rw [hc9] at hc8 hc7
          refine lv_iload_n S.1 S.2.1 dX0_findFault_23 rfl (lv_at hl 2 rfl) ?_
          refine lv_aload_n S.1 S.2.1 dX0_findFault_24 rfl (lv_at hl 1 rfl) ?_
          refine lv_iload_n S.1 S.2.1 dX0_findFault_25 rfl (lv_at hl 2 rfl) ?_
          refine cl_i (va_runV (As := [.int (nI (q))]) (rest := [.int (nI (q))]) S (c_X0_lengthOfCommand l G a k H.size (q) (by omega) (by exact hL) (by omega) (by exact hch)) (cwV 1 S.2.2.2.2 gX0_findFault_X0_lengthOfCommand rfl rfl rfl hd_X0_lengthOfCommand ⟨by rw [hR]; exact Nat.le_of_ble_eq_true rfl, by rw [hR]; exact Nat.le_of_ble_eq_true rfl⟩) ⟨PW.blind, va_recv hK.1 hw.1 (ci := 0) (q0 := 0) rfl rfl, fun U hU hW => ⟨rfl, PW.of hK hw hU hW⟩⟩ rfl rfl hl.1 rfl (lv_room (Nat.le_of_ble_eq_true rfl)) dX0_findFault_26 ⟨Nat.zero_le _, Nat.zero_le _⟩) hw hA (fun _ => rfl) (fun r6 z7 H locs h8 hw => ?_)
          obtain ⟨rfl, qz7⟩ := h8
          rw [qz7] at hw
          refine addN (a := q) (b := 1 + dgs (sg (k 2) tl (q))) S dX0_findFault_29 ?_
          refine lv_istore_n (lv' := [(1, .int (nI (q + (1 + dgs (sg (k 2) tl (q)))))), (2, .int (ffc (k 2) tl (q))), (0, .ref (a 0))]) S.1 S.2.1 dX0_findFault_30 rfl hl (by decide) rfl (fun ls hl => ?_)
          refine lv_iload_n S.1 S.2.1 dX0_findFault_31 rfl (lv_at hl 0 rfl) ?_
          refine lv_aload_n S.1 S.2.1 dX0_findFault_32 rfl (lv_at hl 2 rfl) ?_
          refine gt_X0_1 (v := .int (k 0 3)) S hK hw 0 rfl rfl LX0 k1 dX0_findFault_33 ?_
          refine top_to (v := nI tl) S hL ?_
          refine brN_lt (a := q + (1 + dgs (sg (k 2) tl (q)))) (b := tl) S (by omega) (by omega) (tgt := 41) dX0_findFault_36 (by decide) (fun c9 => ?_) (fun c9 => ?_)
          · skip
            refine lv_aload_n S.1 S.2.1 dX0_findFault_41 rfl (lv_at hl 2 rfl) ?_
            refine lv_iload_n S.1 S.2.1 dX0_findFault_42 rfl (lv_at hl 0 rfl) ?_
            refine cl_i (va_runV (As := [.int (nI (q + (1 + dgs (sg (k 2) tl (q)))))]) (rest := []) S (c_X0_signAt l G a k H.size (q + (1 + dgs (sg (k 2) tl (q)))) (by omega) (by exact hL) (by omega) (by exact hch)) (cwV 1 S.2.2.2.2 gX0_findFault_X0_signAt rfl rfl rfl hd_X0_signAt ⟨by rw [hR]; exact Nat.le_of_ble_eq_true rfl, by rw [hR]; exact Nat.le_of_ble_eq_true rfl⟩) ⟨PW.blind, va_recv hK.1 hw.1 (ci := 0) (q0 := 0) rfl rfl, fun U hU hW => ⟨rfl, PW.of hK hw hU hW⟩⟩ rfl rfl hl.1 rfl (lv_room (Nat.le_of_ble_eq_true rfl)) dX0_findFault_43 ⟨Nat.zero_le _, Nat.zero_le _⟩) hw hA (fun _ => rfl) (fun r10 z11 H locs h12 hw => ?_)
            obtain ⟨rfl, qz11⟩ := h12
            rw [qz11] at hw
            refine lv_bipush (v := 59) S.1 S.2.1 dX0_findFault_46 (by decide) ?_
            refine lv_icmp_eq (tgt := 53) S.1 S.2.1 dX0_findFault_48 (by decide) (fun c13 => ?_) (fun c13 => ?_)
            · skip
              refine lv_iinc (v := (nI (q + (1 + dgs (sg (k 2) tl (q))) + 1))) (lv' := [(1, .int (nI (q + (1 + dgs (sg (k 2) tl (q))) + 1))), (2, .int (ffc (k 2) tl (q))), (0, .ref (a 0))]) S.1 S.2.1 dX0_findFault_53 hl (k := 0) rfl (nI_add _ _) (by decide) rfl (fun ls hl => ?_)
              refine lv_goto (tgt := 2) S.1 S.2.1 dX0_findFault_56 (by decide) ?_
              exact ih2 (n + 1) (q + (1 + dgs (sg (k 2) tl q)) + 1) _ _ _ (by omega) (by omega) (by omega) (by rw [hv, scX_go (by omega) (ffc_y hq hm hff) (by rw [DP_f]) (by rw [hc9]; omega) (by rw [hc9]; exact dgB59 c13), DP_f, hc9]) hw (lv_sub hl [2, 0] rfl)
            · skip
              refine lv_iload_n S.1 S.2.1 dX0_findFault_51 rfl (lv_at hl 0 rfl) ?_
              exact en_i (v := (nI (q + (1 + dgs (sg (k 2) tl (q)))))) k hQ S hr hlk hw (by refine ⟨?_, rfl⟩; have h8 := scX_e2 (x := k 2) (m := tl) (dn := false) (n := n) (p := q) (z := zz) (by omega) (ffc_y hq hm hff) (by rw [DP_f]) (by rw [hc9]; omega) (by rw [hc9]; exact dgB59n c13); rw [flt, hv, h8, if_neg (fun h => by cases h), hc9]) dX0_findFault_52
          · skip
            refine lv_iconst (v := (-1)) S.1 S.2.1 dX0_findFault_39 (by decide) ?_
            exact en_i (v := (-1)) k hQ S hr hlk hw (by refine ⟨?_, rfl⟩; have h8 := scX_e1 (x := k 2) (m := tl) (dn := false) (n := n) (p := q) (z := zz) (by omega) (fun h => absurd h.2.2 (by rw [hc9]; omega)); rw [flt, hv, h8, if_pos (ffc_y hq hm hff)]) dX0_findFault_40
        · skip
          refine lv_iload_n S.1 S.2.1 dX0_findFault_21 rfl (lv_at hl 0 rfl) ?_
          exact en_i (v := (ffc (k 2) tl (q))) k hQ S hr hlk hw (by have hf9 := ffc_n c5; refine ⟨?_, rfl⟩; have h8 := scX_e1 (x := k 2) (m := tl) (dn := false) (n := n) (p := q) (z := zz) (by omega) (fun h => absurd h.1 (by rw [hf9.1]; decide)); rw [flt, hv, h8, if_neg (by rw [hf9.1]; decide)]; exact hf9.2) dX0_findFault_22
  exact K2 (42) (0) (0) _ _ _ (by omega) (by omega) (by omega) (by exact (adN_0 _).symm) hw (lv_sub hl [1, 0] rfl)
