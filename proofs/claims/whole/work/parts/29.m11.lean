theorem hd_X4_appendCharacter : yX4_appendCharacter.cls = RX4 ∧ yX4_appendCharacter.cls ≠ "java/lang/invoke/MethodHandle" ∧ yX4_appendCharacter.cls ≠ "java/lang/invoke/VarHandle" ∧ (parseMethodDescriptor yX4_appendCharacter.desc).map (fun d => d.parameters.length) = some 1 := by decide +kernel
set_option maxHeartbeats 4000000 in
set_option maxRecDepth 100000 in
theorem c_X4_appendCharacter (l : Launch) (G : GA) (a : Nat → Nat) (z : St) (y : St) (k : St) (sz : Nat) (ch : Int32) {tl : Nat} (hL : k 0 3 = nI tl) (hm : tl ≤ 40) : vx_Met l yX4_appendCharacter wsX4_appendCharacter ({ frames := 6, cells := xc (pAp ch tl z : PO).1, slots := 6 * xc (pAp ch tl z : PO).1, locals := 90 }) (va_Pc [.ref (a 0), .int (ch)] (PX l G (gp G a z y k) sz)) (va_Qi (fun (r : Int32) (u : St × St × St) => (pAp ch tl z : PO).1 = 0 ∧ r = (pAp ch tl z : PO).2.1 ∧ u = ((pAp ch tl z : PO).2.2, y, (kAp ch tl k))) (fun (u : St × St × St) t => va_P G.1 gcl (gp G a u.1 u.2.1 u.2.2) t.heap) (va_A (gp G a z y k) sz)) (vx_X (fun (u : St × St × St) => ¬ (pAp ch tl z : PO).1 = 0 ∧ u = ((pAp ch tl z : PO).2.2, y, (kAp ch tl k))) (fun E u t => E = ex3 xIAE xISE xISE (pAp ch tl z : PO).1 ∧ va_P G.1 gcl (gp G a u.1 u.2.1 u.2.2) t.heap) (va_A (gp G a z y k) sz)) (xc (pAp ch tl z : PO).1) (6 * xc (pAp ch tl z : PO).1) (va_A (gp G a z y k) sz) := by
  refine met_x (cc := cX4_appendCharacter) (maxL := 2) (ret := (some .int)) (fun A => va_Qi (fun (r : Int32) (u : St × St × St) => (pAp ch tl z : PO).1 = 0 ∧ r = (pAp ch tl z : PO).2.1 ∧ u = ((pAp ch tl z : PO).2.2, y, (kAp ch tl k))) (fun (u : St × St × St) t => va_P G.1 gcl (gp G a u.1 u.2.1 u.2.2) t.heap) A) (fun A => vx_X (fun (u : St × St × St) => ¬ (pAp ch tl z : PO).1 = 0 ∧ u = ((pAp ch tl z : PO).2.2, y, (kAp ch tl k))) (fun E u t => E = ex3 xIAE xISE xISE (pAp ch tl z : PO).1 ∧ va_P G.1 gcl (gp G a u.1 u.2.1 u.2.2) t.heap) A) (by decide) rfl (Nat.le_of_ble_eq_true rfl) ?_
  intro p e s m args below meth c R Q A H ls hR hQ S hr hlk htab hK hX hsz hH hAe hA hw hl
  have hl : lv_has ls 2 [(0, .ref (a 0)), (1, .int (ch))] := hl
  have LX0 : ∀ w ∈ u_ws RX0 TX0 2, w.before args s = true := fun w h => S.2.2.2.2 w ((by decide +kernel : ∀ w ∈ u_ws RX0 TX0 2, w ∈ wsX4_appendCharacter) w h)
  have LX4 : ∀ w ∈ u_ws RX4 TX4 6, w.before args s = true := fun w h => S.2.2.2.2 w ((by decide +kernel : ∀ w ∈ u_ws RX4 TX4 6, w ∈ wsX4_appendCharacter) w h)
  have k1 : (Cond.fieldLink RX4 22 "GossipMembership" "text" "LGossipMembership$CommandText;").before args s = true := S.2.2.2.2 _ (by decide +kernel : (Cond.fieldLink RX4 22 "GossipMembership" "text" "LGossipMembership$CommandText;") ∈ wsX4_appendCharacter)
  have k2 : (Cond.fieldLink RX4 189 "GossipMembership$CommandText" "length" "I").before args s = true := S.2.2.2.2 _ (by decide +kernel : (Cond.fieldLink RX4 189 "GossipMembership$CommandText" "length" "I") ∈ wsX4_appendCharacter)
  have k3 : (Cond.fieldLink RX4 194 "GossipMembership$CommandText" "signs" "[C").before args s = true := S.2.2.2.2 _ (by decide +kernel : (Cond.fieldLink RX4 194 "GossipMembership$CommandText" "signs" "[C") ∈ wsX4_appendCharacter)
  have m1IAE : Cond.classLink RX4 30 xIAE ∈ wsX4_appendCharacter := by decide +kernel
  have m2IAE : Cond.initialized xIAE ∈ wsX4_appendCharacter := by decide +kernel
  have m3IAE : ∀ w ∈ (vx_atS RX4 34 xIAE ["java/lang/RuntimeException", "java/lang/Exception"]).filter goodWord, w ∈ wsX4_appendCharacter := by decide +kernel
  have m1ISE : Cond.classLink RX4 75 xISE ∈ wsX4_appendCharacter := by decide +kernel
  have m2ISE : Cond.initialized xISE ∈ wsX4_appendCharacter := by decide +kernel
  have m3ISE : ∀ w ∈ (vx_atS RX4 79 xISE ["java/lang/RuntimeException", "java/lang/Exception"]).filter goodWord, w ∈ wsX4_appendCharacter := by decide +kernel
  refine lv_iload_n S.1 S.2.1 dX4_appendCharacter_0 rfl (lv_at hl 1 rfl) ?_
  refine lv_bipush (v := 33) S.1 S.2.1 dX4_appendCharacter_1 (by decide) ?_
  refine lv_icmp_lt (tgt := 12) S.1 S.2.1 dX4_appendCharacter_3 (by decide) (fun c1 => ?_) (fun c1 => ?_)
  · skip
    have hp9 : pAp ch tl z = (1, 0, z) := (by first | (simp [pAp, inB, c1]; done) | (have h7 := i_nl c1; simp [pAp, inB, h7, c1]; done) | (have h40 : tl = 40 := (by omega); simp [pAp, hB, h40]; done))
    have hk9 : (kAp ch tl k) = k := (by first | (simp [kAp, inB, c1]; done) | (have h7 := i_nl c1; simp [kAp, inB, h7, c1]; done) | (have h40 : tl = 40 := (by omega); simp [kAp, hB, h40]; done) | (have h40 : ¬ tl = 40 := (by omega); skip; simp [kAp, hB, h40]; done))
    exact th_IAE (text := "character is out of range") S hX hw hl.1 hlk htab (by decide) m1IAE m2IAE m3IAE dX4_appendCharacter_12 dX4_appendCharacter_15 dX4_appendCharacter_16 dX4_appendCharacter_18 dX4_appendCharacter_21 hQ ((z, y, k) : St × St × St) (by rw [hp9, hk9]; exact ⟨show ¬ (1 : Int32) = 0 by decide, rfl⟩) (by rw [hp9]; rfl) rfl (by rw [hR]; exact Nat.le_of_ble_eq_true rfl) (by rw [hR]; exact Nat.le_of_ble_eq_true rfl) (by rw [hR]; show 0 + 1 ≤ xc (pAp ch tl z).1; rw [hp9]; exact (show 0 + 1 ≤ xc 1 by decide)) (by rw [hR]; show 0 + 6 ≤ 6 * xc (pAp ch tl z).1; rw [hp9]; exact (show 0 + 6 ≤ 6 * xc 1 by decide)) (by rw [hp9]; exact (show 0 + 1 ≤ xc 1 by decide)) (by rw [hp9]; exact (show 0 + 6 ≤ 6 * xc 1 by decide))
  · skip
    refine lv_iload_n S.1 S.2.1 dX4_appendCharacter_6 rfl (lv_at hl 1 rfl) ?_
    refine lv_bipush (v := 126) S.1 S.2.1 dX4_appendCharacter_7 (by decide) ?_
    refine lv_icmp_le (tgt := 22) S.1 S.2.1 dX4_appendCharacter_9 (by decide) (fun c2 => ?_) (fun c2 => ?_)
    · skip
      have hB : inB ch 33 126 = true := by have h7 := i_ln c2; simp [inB, h7, c1]
      obtain ⟨c9, hc9, ec9⟩ := inB_126 hB
      subst ec9
      refine lv_aload_n S.1 S.2.1 dX4_appendCharacter_22 rfl (lv_at hl 0 rfl) ?_
      refine gt_X4_3 (v := .ref (a 1)) S hK hw 0 rfl rfl LX4 k1 dX4_appendCharacter_23 ?_
      refine gt_X0_1 (v := .int (k 0 3)) S hK hw 1 rfl rfl LX0 k2 dX4_appendCharacter_26 ?_
      refine top_to (v := nI tl) S (by skip; exact hL) ?_
      refine lv_bipush (v := 40) S.1 S.2.1 dX4_appendCharacter_29 (by decide) ?_
      refine brN_lt (a := tl) (b := 40) S (by omega) (by omega) (tgt := 44) dX4_appendCharacter_31 (by decide) (fun c3 => ?_) (fun c3 => ?_)
      · skip
        refine lv_aload_n S.1 S.2.1 dX4_appendCharacter_44 rfl (lv_at hl 0 rfl) ?_
        refine gt_X4_3 (v := .ref (a 1)) S hK hw 0 rfl rfl LX4 k1 dX4_appendCharacter_45 ?_
        refine gt_X0_0 (v := .ref (a 2)) S hK hw 1 rfl rfl LX0 k3 dX4_appendCharacter_48 ?_
        refine lv_aload_n S.1 S.2.1 dX4_appendCharacter_51 rfl (lv_at hl 0 rfl) ?_
        refine gt_X4_3 (v := .ref (a 1)) S hK hw 0 rfl rfl LX4 k1 dX4_appendCharacter_52 ?_
        refine gt_X0_1 (v := .int (k 0 3)) S hK hw 1 rfl rfl LX0 k2 dX4_appendCharacter_55 ?_
        refine top_to (v := nI tl) S (by skip; exact hL) ?_
        refine lv_iload_n S.1 S.2.1 dX4_appendCharacter_58 rfl (lv_at hl 1 rfl) ?_
        refine lv_i2c (v := nI c9) S.1 S.2.1 dX4_appendCharacter_59 (chr_i2c _ hc9) ?_
        refine ast_c (ws' := (gp G a z y (st k 2 (tl) (nI (c9))))) (k := tl) S hK hw 2 rfl (by omega) (by decide) (chr_nar _ hc9) rfl dX4_appendCharacter_60 (fun H locs hw => ?_)
        obtain ⟨k4, ek4⟩ : ∃ zz, zz = st k 2 (tl) (nI (c9)) := ⟨_, rfl⟩
        have hw : WD G (gp G a z y k4) A s H locs := by rw [ek4]; exact hw
        refine lv_aload_n S.1 S.2.1 dX4_appendCharacter_61 rfl (lv_at hl 0 rfl) ?_
        refine gt_X4_3 (v := .ref (a 1)) S hK hw 0 rfl rfl LX4 k1 dX4_appendCharacter_62 ?_
        refine lv_dup S.1 S.2.1 dX4_appendCharacter_65 rfl ?_
        refine gt_X0_1 (v := .int (k4 0 3)) S hK hw 1 rfl rfl LX0 k2 dX4_appendCharacter_66 ?_
        refine top_to (v := nI tl) S (by subst ek4; rw [st_f _ _ _ _ _ _ (by decide)]; exact hL) ?_
        refine lv_iconst (v := 1) S.1 S.2.1 dX4_appendCharacter_69 (by decide) ?_
        refine addN (a := tl) (b := 1) S dX4_appendCharacter_70 ?_
        refine pt_X0_1 (ws' := (gp G a z y (st k4 0 3 (nI (tl + 1))))) S hK hw 1 rfl LX0 k2 rfl (Nat.le_of_ble_eq_true rfl) dX4_appendCharacter_71 (fun H locs hw => ?_)
        obtain ⟨k5, ek5⟩ : ∃ zz, zz = st k4 0 3 (nI (tl + 1)) := ⟨_, rfl⟩
        have hw : WD G (gp G a z y k5) A s H locs := by rw [ek5]; exact hw
        refine lv_aload_n S.1 S.2.1 dX4_appendCharacter_74 rfl (lv_at hl 0 rfl) ?_
        refine gt_X4_3 (v := .ref (a 1)) S hK hw 0 rfl rfl LX4 k1 dX4_appendCharacter_75 ?_
        refine gt_X0_1 (v := .int (k5 0 3)) S hK hw 1 rfl rfl LX0 k2 dX4_appendCharacter_78 ?_
        refine top_to (v := nI (tl + 1)) S (by subst ek5 ek4; rw [st_s]) ?_
        have hp9 : pAp (nI (c9)) tl z = (0, (nI (tl + 1)), z) := (by have h40 : ¬ tl = 40 := (by omega); simp [pAp, hB, h40])
        have hk9 : (kAp (nI (c9)) tl k) = k5 := (by first | (simp [kAp, inB, c1, c2, c3]; done) | (have h7 := i_nl c3; simp [kAp, inB, h7, c1, c2, c3]; done) | (have h40 : tl = 40 := (by omega); simp [kAp, hB, h40]; done) | (have h40 : ¬ tl = 40 := (by omega); subst ek5 ek4; simp [kAp, hB, h40]; done))
        exact ret_x hQ (Nat.zero_le _) (Nat.zero_le _) (en_i (v := (nI (tl + 1))) ((z, y, k5) : St × St × St) rfl S hr hlk hw (by exact ⟨by rw [hp9], by rw [hp9], by rw [hp9, hk9]⟩) dX4_appendCharacter_81)
      · skip
        have hp9 : pAp (nI (c9)) tl z = (2, 0, z) := (by first | (simp [pAp, inB, c1, c2, c3]; done) | (have h7 := i_nl c3; simp [pAp, inB, h7, c1, c2, c3]; done) | (have h40 : tl = 40 := (by omega); simp [pAp, hB, h40]; done))
        have hk9 : (kAp (nI (c9)) tl k) = k := (by first | (simp [kAp, inB, c1, c2, c3]; done) | (have h7 := i_nl c3; simp [kAp, inB, h7, c1, c2, c3]; done) | (have h40 : tl = 40 := (by omega); simp [kAp, hB, h40]; done) | (have h40 : ¬ tl = 40 := (by omega); skip; simp [kAp, hB, h40]; done))
        exact th_ISE (text := "the text is full") S hX hw hl.1 hlk htab (by decide) m1ISE m2ISE m3ISE dX4_appendCharacter_34 dX4_appendCharacter_37 dX4_appendCharacter_38 dX4_appendCharacter_40 dX4_appendCharacter_43 hQ ((z, y, k) : St × St × St) (by rw [hp9, hk9]; exact ⟨show ¬ (2 : Int32) = 0 by decide, rfl⟩) (by rw [hp9]; rfl) rfl (by rw [hR]; exact Nat.le_of_ble_eq_true rfl) (by rw [hR]; exact Nat.le_of_ble_eq_true rfl) (by rw [hR]; show 0 + 1 ≤ xc (pAp (nI (c9)) tl z).1; rw [hp9]; exact (show 0 + 1 ≤ xc 2 by decide)) (by rw [hR]; show 0 + 6 ≤ 6 * xc (pAp (nI (c9)) tl z).1; rw [hp9]; exact (show 0 + 6 ≤ 6 * xc 2 by decide)) (by rw [hp9]; exact (show 0 + 1 ≤ xc 2 by decide)) (by rw [hp9]; exact (show 0 + 6 ≤ 6 * xc 2 by decide))
    · skip
      have hp9 : pAp ch tl z = (1, 0, z) := (by first | (simp [pAp, inB, c1, c2]; done) | (have h7 := i_nl c2; simp [pAp, inB, h7, c1, c2]; done) | (have h40 : tl = 40 := (by omega); simp [pAp, hB, h40]; done))
      have hk9 : (kAp ch tl k) = k := (by first | (simp [kAp, inB, c1, c2]; done) | (have h7 := i_nl c2; simp [kAp, inB, h7, c1, c2]; done) | (have h40 : tl = 40 := (by omega); simp [kAp, hB, h40]; done) | (have h40 : ¬ tl = 40 := (by omega); skip; simp [kAp, hB, h40]; done))
      exact th_IAE (text := "character is out of range") S hX hw hl.1 hlk htab (by decide) m1IAE m2IAE m3IAE dX4_appendCharacter_12 dX4_appendCharacter_15 dX4_appendCharacter_16 dX4_appendCharacter_18 dX4_appendCharacter_21 hQ ((z, y, k) : St × St × St) (by rw [hp9, hk9]; exact ⟨show ¬ (1 : Int32) = 0 by decide, rfl⟩) (by rw [hp9]; rfl) rfl (by rw [hR]; exact Nat.le_of_ble_eq_true rfl) (by rw [hR]; exact Nat.le_of_ble_eq_true rfl) (by rw [hR]; show 0 + 1 ≤ xc (pAp ch tl z).1; rw [hp9]; exact (show 0 + 1 ≤ xc 1 by decide)) (by rw [hR]; show 0 + 6 ≤ 6 * xc (pAp ch tl z).1; rw [hp9]; exact (show 0 + 6 ≤ 6 * xc 1 by decide)) (by rw [hp9]; exact (show 0 + 1 ≤ xc 1 by decide)) (by rw [hp9]; exact (show 0 + 6 ≤ 6 * xc 1 by decide))

theorem hd_X4_failure : yX4_failure.cls = RX4 ∧ yX4_failure.cls ≠ "java/lang/invoke/MethodHandle" ∧ yX4_failure.cls ≠ "java/lang/invoke/VarHandle" ∧ (parseMethodDescriptor yX4_failure.desc).map (fun d => d.parameters.length) = some 1 := by decide +kernel
set_option maxHeartbeats 4000000 in
set_option maxRecDepth 100000 in
theorem c_X4_failure (l : Launch) (G : GA) (a : Nat → Nat) (z : St) (y : St) (k : St) (sz : Nat) (q : Int32) : vx_Met l yX4_failure wsX4_failure ({ frames := 6, cells := xc (pF q (k 0 1) (k 0 2) z : PO).1, slots := 6 * xc (pF q (k 0 1) (k 0 2) z : PO).1, locals := 90 }) (va_Pc [.ref (a 0), .int (q)] (PX l G (gp G a z y k) sz)) (va_Qi (fun (r : Int32) (u : St × St × St) => (pF q (k 0 1) (k 0 2) z : PO).1 = 0 ∧ r = (pF q (k 0 1) (k 0 2) z : PO).2.1 ∧ u = ((pF q (k 0 1) (k 0 2) z : PO).2.2, y, k)) (fun (u : St × St × St) t => va_P G.1 gcl (gp G a u.1 u.2.1 u.2.2) t.heap) (va_A (gp G a z y k) sz)) (vx_X (fun (u : St × St × St) => ¬ (pF q (k 0 1) (k 0 2) z : PO).1 = 0 ∧ u = ((pF q (k 0 1) (k 0 2) z : PO).2.2, y, k)) (fun E u t => E = ex3 xIAE xNSE xNSE (pF q (k 0 1) (k 0 2) z : PO).1 ∧ va_P G.1 gcl (gp G a u.1 u.2.1 u.2.2) t.heap) (va_A (gp G a z y k) sz)) (xc (pF q (k 0 1) (k 0 2) z : PO).1) (6 * xc (pF q (k 0 1) (k 0 2) z : PO).1) (va_A (gp G a z y k) sz) := by
  refine met_x (cc := cX4_failure) (maxL := 2) (ret := (some .int)) (fun A => va_Qi (fun (r : Int32) (u : St × St × St) => (pF q (k 0 1) (k 0 2) z : PO).1 = 0 ∧ r = (pF q (k 0 1) (k 0 2) z : PO).2.1 ∧ u = ((pF q (k 0 1) (k 0 2) z : PO).2.2, y, k)) (fun (u : St × St × St) t => va_P G.1 gcl (gp G a u.1 u.2.1 u.2.2) t.heap) A) (fun A => vx_X (fun (u : St × St × St) => ¬ (pF q (k 0 1) (k 0 2) z : PO).1 = 0 ∧ u = ((pF q (k 0 1) (k 0 2) z : PO).2.2, y, k)) (fun E u t => E = ex3 xIAE xNSE xNSE (pF q (k 0 1) (k 0 2) z : PO).1 ∧ va_P G.1 gcl (gp G a u.1 u.2.1 u.2.2) t.heap) A) (by decide) rfl (Nat.le_of_ble_eq_true rfl) ?_
  intro p e s m args below meth c R Q A H ls hR hQ S hr hlk htab hK hX hsz hH hAe hA hw hl
  have hl : lv_has ls 2 [(0, .ref (a 0)), (1, .int (q))] := hl
  have LX4 : ∀ w ∈ u_ws RX4 TX4 6, w.before args s = true := fun w h => S.2.2.2.2 w ((by decide +kernel : ∀ w ∈ u_ws RX4 TX4 6, w ∈ wsX4_failure) w h)
  have k1 : (Cond.fieldLink RX4 26 "GossipMembership" "failureKind" "I").before args s = true := S.2.2.2.2 _ (by decide +kernel : (Cond.fieldLink RX4 26 "GossipMembership" "failureKind" "I") ∈ wsX4_failure)
  have k2 : (Cond.fieldLink RX4 208 "GossipMembership" "failureNumber" "I").before args s = true := S.2.2.2.2 _ (by decide +kernel : (Cond.fieldLink RX4 208 "GossipMembership" "failureNumber" "I") ∈ wsX4_failure)
  have m1IAE : Cond.classLink RX4 30 xIAE ∈ wsX4_failure := by decide +kernel
  have m2IAE : Cond.initialized xIAE ∈ wsX4_failure := by decide +kernel
  have m3IAE : ∀ w ∈ (vx_atS RX4 34 xIAE ["java/lang/RuntimeException", "java/lang/Exception"]).filter goodWord, w ∈ wsX4_failure := by decide +kernel
  have m1NSE : Cond.classLink RX4 136 xNSE ∈ wsX4_failure := by decide +kernel
  have m2NSE : Cond.initialized xNSE ∈ wsX4_failure := by decide +kernel
  have m3NSE : ∀ w ∈ (nse_at RX4 140).filter goodWord, w ∈ wsX4_failure := by decide +kernel
  refine lv_iload_n S.1 S.2.1 dX4_failure_0 rfl (lv_at hl 1 rfl) ?_
  refine lv_if_lt (tgt := 9) S.1 S.2.1 dX4_failure_1 (by decide) (fun c1 => ?_) (fun c1 => ?_)
  · skip
    have hp9 : pF q (k 0 1) (k 0 2) z = (1, 0, z) := (by first | (simp [pF, inB, c1]; done) | (have h7 := i_nl c1; simp [pF, inB, h7, c1]; done) | (have h7 := i_ln hq1; simp [pF, inB, h7, c1]; done))
    exact th_IAE (text := "the part is out of range") S hX hw hl.1 hlk htab (by decide) m1IAE m2IAE m3IAE dX4_failure_9 dX4_failure_12 dX4_failure_13 dX4_failure_15 dX4_failure_18 hQ ((z, y, k) : St × St × St) (by rw [hp9]; exact ⟨show ¬ (1 : Int32) = 0 by decide, rfl⟩) (by rw [hp9]; rfl) rfl (by rw [hR]; exact Nat.le_of_ble_eq_true rfl) (by rw [hR]; exact Nat.le_of_ble_eq_true rfl) (by rw [hR]; show 0 + 1 ≤ xc (pF q (k 0 1) (k 0 2) z).1; rw [hp9]; exact (show 0 + 1 ≤ xc 1 by decide)) (by rw [hR]; show 0 + 6 ≤ 6 * xc (pF q (k 0 1) (k 0 2) z).1; rw [hp9]; exact (show 0 + 6 ≤ 6 * xc 1 by decide)) (by rw [hp9]; exact (show 0 + 1 ≤ xc 1 by decide)) (by rw [hp9]; exact (show 0 + 6 ≤ 6 * xc 1 by decide))
  · skip
    refine lv_iload_n S.1 S.2.1 dX4_failure_4 rfl (lv_at hl 1 rfl) ?_
    refine lv_iconst (v := 1) S.1 S.2.1 dX4_failure_5 (by decide) ?_
    refine lv_icmp_le (tgt := 19) S.1 S.2.1 dX4_failure_6 (by decide) (fun c2 => ?_) (fun c2 => ?_)
    · skip
      have hq1 := c2
      refine lv_aload_n S.1 S.2.1 dX4_failure_19 rfl (lv_at hl 0 rfl) ?_
      refine gt_X4_4 (v := .int (k 0 1)) S hK hw 0 rfl rfl LX4 k1 dX4_failure_20 ?_
      refine lv_if_ne (tgt := 36) S.1 S.2.1 dX4_failure_23 (by decide) (fun c3 => ?_) (fun c3 => ?_)
      · skip
        refine lv_iload_n S.1 S.2.1 dX4_failure_36 rfl (lv_at hl 1 rfl) ?_
        refine lv_if_ne (tgt := 47) S.1 S.2.1 dX4_failure_37 (by decide) (fun c4 => ?_) (fun c4 => ?_)
        · skip
          refine lv_aload_n S.1 S.2.1 dX4_failure_47 rfl (lv_at hl 0 rfl) ?_
          refine gt_X4_5 (v := .int (k 0 2)) S hK hw 0 rfl rfl LX4 k2 dX4_failure_48 ?_
          have hp9 : pF q (k 0 1) (k 0 2) z = (0, (k 0 2), z) := (by have h7 := i_ln hq1; first | (simp [pF, inB, h7, c1, c2, c3, c4]; done) | (rw [pF, if_pos (by simp [inB, h7, c1, c2, c3, c4]), if_neg (by assumption)]; first | (rw [if_pos (by assumption)]; done) | (rw [if_neg (by assumption)]; done)))
          exact ret_x hQ (Nat.zero_le _) (Nat.zero_le _) (en_i (v := (k 0 2)) ((z, y, k) : St × St × St) rfl S hr hlk hw (by exact ⟨by rw [hp9], by rw [hp9], by rw [hp9]⟩) dX4_failure_51)
        · skip
          refine lv_aload_n S.1 S.2.1 dX4_failure_40 rfl (lv_at hl 0 rfl) ?_
          refine gt_X4_4 (v := .int (k 0 1)) S hK hw 0 rfl rfl LX4 k1 dX4_failure_41 ?_
          refine lv_goto (tgt := 51) S.1 S.2.1 dX4_failure_44 (by decide) ?_
          have hp9 : pF q (k 0 1) (k 0 2) z = (0, (k 0 1), z) := (by have h7 := i_ln hq1; first | (simp [pF, inB, h7, c1, c2, c3, c4]; done) | (rw [pF, if_pos (by simp [inB, h7, c1, c2, c3, c4]), if_neg (by assumption)]; first | (rw [if_pos (by assumption)]; done) | (rw [if_neg (by assumption)]; done)))
          exact ret_x hQ (Nat.zero_le _) (Nat.zero_le _) (en_i (v := (k 0 1)) ((z, y, k) : St × St × St) rfl S hr hlk hw (by exact ⟨by rw [hp9], by rw [hp9], by rw [hp9]⟩) dX4_failure_51)
      · skip
        have hp9 : pF q (k 0 1) (k 0 2) z = (2, 0, z) := (by first | (simp [pF, inB, c1, c2, c3]; done) | (have h7 := i_nl c3; simp [pF, inB, h7, c1, c2, c3]; done) | (have h7 := i_ln hq1; simp [pF, inB, h7, c1, c2, c3]; done))
        exact th_NSE (text := "there was no failure") S hX hw hl.1 hlk htab (by decide) m1NSE m2NSE m3NSE dX4_failure_26 dX4_failure_29 dX4_failure_30 dX4_failure_32 dX4_failure_35 hQ ((z, y, k) : St × St × St) (by rw [hp9]; exact ⟨show ¬ (2 : Int32) = 0 by decide, rfl⟩) (by rw [hp9]; rfl) rfl (by rw [hR]; exact Nat.le_of_ble_eq_true rfl) (by rw [hR]; exact Nat.le_of_ble_eq_true rfl) (by rw [hR]; show 0 + 1 ≤ xc (pF q (k 0 1) (k 0 2) z).1; rw [hp9]; exact (show 0 + 1 ≤ xc 2 by decide)) (by rw [hR]; show 0 + 6 ≤ 6 * xc (pF q (k 0 1) (k 0 2) z).1; rw [hp9]; exact (show 0 + 6 ≤ 6 * xc 2 by decide)) (by rw [hp9]; exact (show 0 + 1 ≤ xc 2 by decide)) (by rw [hp9]; exact (show 0 + 6 ≤ 6 * xc 2 by decide))
    · skip
      have hp9 : pF q (k 0 1) (k 0 2) z = (1, 0, z) := (by first | (simp [pF, inB, c1, c2]; done) | (have h7 := i_nl c2; simp [pF, inB, h7, c1, c2]; done) | (have h7 := i_ln hq1; simp [pF, inB, h7, c1, c2]; done))
      exact th_IAE (text := "the part is out of range") S hX hw hl.1 hlk htab (by decide) m1IAE m2IAE m3IAE dX4_failure_9 dX4_failure_12 dX4_failure_13 dX4_failure_15 dX4_failure_18 hQ ((z, y, k) : St × St × St) (by rw [hp9]; exact ⟨show ¬ (1 : Int32) = 0 by decide, rfl⟩) (by rw [hp9]; rfl) rfl (by rw [hR]; exact Nat.le_of_ble_eq_true rfl) (by rw [hR]; exact Nat.le_of_ble_eq_true rfl) (by rw [hR]; show 0 + 1 ≤ xc (pF q (k 0 1) (k 0 2) z).1; rw [hp9]; exact (show 0 + 1 ≤ xc 1 by decide)) (by rw [hR]; show 0 + 6 ≤ 6 * xc (pF q (k 0 1) (k 0 2) z).1; rw [hp9]; exact (show 0 + 6 ≤ 6 * xc 1 by decide)) (by rw [hp9]; exact (show 0 + 1 ≤ xc 1 by decide)) (by rw [hp9]; exact (show 0 + 6 ≤ 6 * xc 1 by decide))

theorem hd_X4_averageCounter : yX4_averageCounter.cls = RX4 ∧ yX4_averageCounter.cls ≠ "java/lang/invoke/MethodHandle" ∧ yX4_averageCounter.cls ≠ "java/lang/invoke/VarHandle" ∧ (parseMethodDescriptor yX4_averageCounter.desc).map (fun d => d.parameters.length) = some 1 := by decide +kernel
set_option maxHeartbeats 4000000 in
set_option maxRecDepth 100000 in
theorem c_X4_averageCounter (l : Launch) (G : GA) (a : Nat → Nat) (z : St) (y : St) (k : St) (sz : Nat) (v : Int32) (iz : Inv z) : vx_Met l yX4_averageCounter wsX4_averageCounter ({ frames := 7, cells := xc (pAv v z : PO).1, slots := 6 * xc (pAv v z : PO).1, locals := 110 }) (va_Pc [.ref (a 0), .int (v)] (PX l G (gp G a z y k) sz)) (va_Qd (fun (r : UInt64) (u : St × St × St) => (pAv v z : PO).1 = 0 ∧ r = avg (smc z (tN v) 8) ∧ u = ((pAv v z : PO).2.2, y, k)) (fun (u : St × St × St) t => va_P G.1 gcl (gp G a u.1 u.2.1 u.2.2) t.heap) (va_A (gp G a z y k) sz)) (vx_X (fun (u : St × St × St) => ¬ (pAv v z : PO).1 = 0 ∧ u = ((pAv v z : PO).2.2, y, k)) (fun E u t => E = ex3 xIOE xIOE xIOE (pAv v z : PO).1 ∧ va_P G.1 gcl (gp G a u.1 u.2.1 u.2.2) t.heap) (va_A (gp G a z y k) sz)) (xc (pAv v z : PO).1) (6 * xc (pAv v z : PO).1) (va_A (gp G a z y k) sz) := by
  refine met_x (cc := cX4_averageCounter) (maxL := 2) (ret := (some .double)) (fun A => va_Qd (fun (r : UInt64) (u : St × St × St) => (pAv v z : PO).1 = 0 ∧ r = avg (smc z (tN v) 8) ∧ u = ((pAv v z : PO).2.2, y, k)) (fun (u : St × St × St) t => va_P G.1 gcl (gp G a u.1 u.2.1 u.2.2) t.heap) A) (fun A => vx_X (fun (u : St × St × St) => ¬ (pAv v z : PO).1 = 0 ∧ u = ((pAv v z : PO).2.2, y, k)) (fun E u t => E = ex3 xIOE xIOE xIOE (pAv v z : PO).1 ∧ va_P G.1 gcl (gp G a u.1 u.2.1 u.2.2) t.heap) A) (by decide) rfl (Nat.le_of_ble_eq_true rfl) ?_
  intro p e s m args below meth c R Q A H ls hR hQ S hr hlk htab hK hX hsz hH hAe hA hw hl
  have hl : lv_has ls 2 [(0, .ref (a 0)), (1, .int (v))] := hl
  have LX3 : ∀ w ∈ u_ws RX3 TX3 7, w.before args s = true := fun w h => S.2.2.2.2 w ((by decide +kernel : ∀ w ∈ u_ws RX3 TX3 7, w ∈ wsX4_averageCounter) w h)
  have LX4 : ∀ w ∈ u_ws RX4 TX4 6, w.before args s = true := fun w h => S.2.2.2.2 w ((by decide +kernel : ∀ w ∈ u_ws RX4 TX4 6, w ∈ wsX4_averageCounter) w h)
  have k1 : (Cond.fieldLink RX4 10 "GossipMembership" "world" "LGossipMembership$World;").before args s = true := S.2.2.2.2 _ (by decide +kernel : (Cond.fieldLink RX4 10 "GossipMembership" "world" "LGossipMembership$World;") ∈ wsX4_averageCounter)
  have k2 : (Cond.fieldLink RX4 37 "GossipMembership$World" "knowledge" "LGossipMembership$Knowledge;").before args s = true := S.2.2.2.2 _ (by decide +kernel : (Cond.fieldLink RX4 37 "GossipMembership$World" "knowledge" "LGossipMembership$Knowledge;") ∈ wsX4_averageCounter)
  have k3 : (Cond.constantDouble RX4 222 (4620693217682128896)).before args s = true := S.2.2.2.2 _ (by decide +kernel : (Cond.constantDouble RX4 222 (4620693217682128896)) ∈ wsX4_averageCounter)
  refine lv_iload_n S.1 S.2.1 dX4_averageCounter_0 rfl (lv_at hl 1 rfl) ?_
  refine cx_v (wc := []) (wr := (gp G a z y k)) (vx_runS (As := [.int (v)]) (rest := []) S (c_X4_requireNode l G H.size (v)) (va_cwS 1 S.2.2.2.2 gX4_averageCounter_X4_requireNode rfl rfl rfl hd_X4_requireNode ⟨by rw [hR]; exact Nat.le_of_ble_eq_true rfl, by rw [hR]; exact Nat.le_of_ble_eq_true rfl⟩) ⟨PX.blind, fun U hU hW => ⟨rfl, PX.of hK hX (hw.sub [] rfl rfl) (va_free hw.2.1 hw.2.2 hA [] rfl) hU hW⟩⟩ rfl rfl hl.1 rfl (lv_room (Nat.le_of_ble_eq_true rfl)) dX4_averageCounter_1 ⟨by rw [hR, Nat.zero_add]; exact xc_on1 _ _ _, by rw [hR, Nat.zero_add]; exact Nat.mul_le_mul_left 6 (xc_on1 _ _ _)⟩) hw hA [] [0, 1, 2, 3, 4, 5, 6, 7, 8, 9, 10, 11, 12, 13, 14, 15, 16, 17, 18, 19, 20, 21, 22, 23, 24, 25, 26] rfl rfl rfl rfl (by decide) (fun _ => rfl) (fun _ => rfl) (fun ce q9 u9 H locs hpx hw9 g1 g2 g3 => ?_) (fun u9 H locs hn1 hw9 => ?_)
  · skip
    have hpx : ¬ rn (v) = 0 := hpx
    have hp9 : pAv v z = (rn (v), 0, z) := (by rw [pAv, on1_no (rn_f hpx), rn_1 hpx])
    exact out_x hQ (u := ((z, y, k) : St × St × St)) (by rw [List.append_nil] at hw9; exact hw9) hlk htab g1 g2 g3 (by rw [hp9]; exact ⟨hpx, rfl⟩) (by first | (rw [hp9]; done) | (rw [hp9]; rw [rn_1 hpx]; rfl)) rfl (by rw [hp9, Nat.zero_add]; exact Nat.le_refl _) (by rw [hp9, Nat.zero_add]; exact Nat.le_refl _)
  · skip
    have hn1 : rn (v) = 0 := hn1
    have hw : WD G (gp G a z y k) A s H locs := by rw [List.append_nil] at hw9; exact hw9
    refine W.widen (k := 0) (n := 0) (by show 0 + xc (rn (v)) ≤ 0; rw [hn1]; decide) (by show 0 + 6 * xc (rn (v)) ≤ 0; rw [hn1]; decide) ?_
    have hn1b := rn_0.mp hn1
    obtain ⟨n, hn, en9⟩ := nd_of hn1b
    subst en9
    refine lv_aload_n S.1 S.2.1 dX4_averageCounter_4 rfl (lv_at hl 0 rfl) ?_
    refine gt_X4_0 (v := .ref (a 15)) S hK hw 0 rfl rfl LX4 k1 dX4_averageCounter_5 ?_
    refine gt_X3_1 (v := .ref (a 21)) S hK hw 15 rfl rfl LX3 k2 dX4_averageCounter_8 ?_
    refine lv_iload_n S.1 S.2.1 dX4_averageCounter_11 rfl (lv_at hl 1 rfl) ?_
    have hwc : WD G (wp G (fun i => a (15 + i)) z) A s H _ := hw.sub [15, 16, 17, 18, 19, 20, 21, 22, 23, 24, 25, 26] rfl rfl
    refine cj_i (wc := (wp G (fun i => a (15 + i)) z)) (wr := (gpr G a y k)) (va_runV (As := [.int (nI (n))]) (rest := []) S (c_X1_sumOfCounters l G (fun i => a (15 + i)) z H.size (n) (by omega)) (cwV 1 S.2.2.2.2 gX4_averageCounter_X1_sumOfCounters rfl rfl rfl hd_X1_sumOfCounters ⟨by rw [hR]; exact Nat.le_of_ble_eq_true rfl, by rw [hR]; exact Nat.le_of_ble_eq_true rfl⟩) ⟨PW.blind, va_recv hK.1 hwc.1 (ci := 1) (q0 := 6) rfl rfl, fun U hU hW => ⟨rfl, PW.of hK hwc hU hW⟩⟩ rfl rfl hl.1 rfl (lv_room (Nat.le_of_ble_eq_true rfl)) dX4_averageCounter_12 ⟨Nat.zero_le _, Nat.zero_le _⟩) hw hA [15, 16, 17, 18, 19, 20, 21, 22, 23, 24, 25, 26] [0, 1, 2, 3, 4, 5, 6, 7, 8, 9, 10, 11, 12, 13, 14] rfl rfl rfl rfl (by decide) (fun _ => rfl) (fun r2 z3 H locs h4 hw9 => ?_)
    obtain ⟨rfl, qz3⟩ := h4
    rw [qz3] at hw9
    have hw : WD G (gp G a z y k) A s H locs := hw9
    refine lv_i2d S.1 S.2.1 dX4_averageCounter_15 ?_
    refine lv_ldc2d (v := 4620693217682128896) S.1 S.2.1 S.2.2.2.1 k3 dX4_averageCounter_16 ?_
    refine lv_ddiv S.1 S.2.1 dX4_averageCounter_19 (avg_n ((smc z (n) 8))) ?_
    have hp9 : pAv (nI (n)) z = (0, 0, z) := (by simp [pAv, on1, hn, nd_n hn, tN_n hn])
    exact ret_x hQ (Nat.zero_le _) (Nat.zero_le _) (en_d (v := avg ((smc z (n) 8))) ((z, y, k) : St × St × St) rfl S hr hlk hw (by exact ⟨by rw [hp9], by rw [tN_n hn], by rw [hp9]⟩) dX4_averageCounter_20)

theorem hd_X4_falseShare : yX4_falseShare.cls = RX4 ∧ yX4_falseShare.cls ≠ "java/lang/invoke/MethodHandle" ∧ yX4_falseShare.cls ≠ "java/lang/invoke/VarHandle" ∧ (parseMethodDescriptor yX4_falseShare.desc).map (fun d => d.parameters.length) = some 0 := by decide +kernel
set_option maxHeartbeats 4000000 in
set_option maxRecDepth 100000 in
theorem c_X4_falseShare (l : Launch) (G : GA) (a : Nat → Nat) (z : St) (y : St) (k : St) (sz : Nat) : vx_Met l yX4_falseShare wsX4_falseShare ({ frames := 6, cells := xc (pFs z : PO).1, slots := 6 * xc (pFs z : PO).1, locals := 90 }) (va_Pc [.ref (a 0)] (PX l G (gp G a z y k) sz)) (va_Qf (fun (r : UInt32) (u : St × St × St) => (pFs z : PO).1 = 0 ∧ r = shr (z 0 6) (z 0 5) ∧ u = ((pFs z : PO).2.2, y, k)) (fun (u : St × St × St) t => va_P G.1 gcl (gp G a u.1 u.2.1 u.2.2) t.heap) (va_A (gp G a z y k) sz)) (vx_X (fun (u : St × St × St) => ¬ (pFs z : PO).1 = 0 ∧ u = ((pFs z : PO).2.2, y, k)) (fun E u t => E = ex3 xAE xAE xAE (pFs z : PO).1 ∧ va_P G.1 gcl (gp G a u.1 u.2.1 u.2.2) t.heap) (va_A (gp G a z y k) sz)) (xc (pFs z : PO).1) (6 * xc (pFs z : PO).1) (va_A (gp G a z y k) sz) := by
  refine met_x (cc := cX4_falseShare) (maxL := 1) (ret := (some .float)) (fun A => va_Qf (fun (r : UInt32) (u : St × St × St) => (pFs z : PO).1 = 0 ∧ r = shr (z 0 6) (z 0 5) ∧ u = ((pFs z : PO).2.2, y, k)) (fun (u : St × St × St) t => va_P G.1 gcl (gp G a u.1 u.2.1 u.2.2) t.heap) A) (fun A => vx_X (fun (u : St × St × St) => ¬ (pFs z : PO).1 = 0 ∧ u = ((pFs z : PO).2.2, y, k)) (fun E u t => E = ex3 xAE xAE xAE (pFs z : PO).1 ∧ va_P G.1 gcl (gp G a u.1 u.2.1 u.2.2) t.heap) A) (by decide) rfl (Nat.le_of_ble_eq_true rfl) ?_
  intro p e s m args below meth c R Q A H ls hR hQ S hr hlk htab hK hX hsz hH hAe hA hw hl
  have hl : lv_has ls 1 [(0, .ref (a 0))] := hl
  have LX3 : ∀ w ∈ u_ws RX3 TX3 7, w.before args s = true := fun w h => S.2.2.2.2 w ((by decide +kernel : ∀ w ∈ u_ws RX3 TX3 7, w ∈ wsX4_falseShare) w h)
  have LX4 : ∀ w ∈ u_ws RX4 TX4 6, w.before args s = true := fun w h => S.2.2.2.2 w ((by decide +kernel : ∀ w ∈ u_ws RX4 TX4 6, w ∈ wsX4_falseShare) w h)
  have k1 : (Cond.fieldLink RX4 10 "GossipMembership" "world" "LGossipMembership$World;").before args s = true := S.2.2.2.2 _ (by decide +kernel : (Cond.fieldLink RX4 10 "GossipMembership" "world" "LGossipMembership$World;") ∈ wsX4_falseShare)
  have k2 : (Cond.fieldLink RX4 172 "GossipMembership$World" "declared" "I").before args s = true := S.2.2.2.2 _ (by decide +kernel : (Cond.fieldLink RX4 172 "GossipMembership$World" "declared" "I") ∈ wsX4_falseShare)
  have k3 : (Cond.fieldLink RX4 175 "GossipMembership$World" "declaredFalsely" "I").before args s = true := S.2.2.2.2 _ (by decide +kernel : (Cond.fieldLink RX4 175 "GossipMembership$World" "declaredFalsely" "I") ∈ wsX4_falseShare)
  have m1AE : Cond.classLink RX4 224 xAE ∈ wsX4_falseShare := by decide +kernel
  have m2AE : Cond.initialized xAE ∈ wsX4_falseShare := by decide +kernel
  have m3AE : ∀ w ∈ (vx_atS RX4 228 xAE ["java/lang/RuntimeException", "java/lang/Exception"]).filter goodWord, w ∈ wsX4_falseShare := by decide +kernel
  refine lv_aload_n S.1 S.2.1 dX4_falseShare_0 rfl (lv_at hl 0 rfl) ?_
  refine gt_X4_0 (v := .ref (a 15)) S hK hw 0 rfl rfl LX4 k1 dX4_falseShare_1 ?_
  refine gt_X3_4 (v := .int (z 0 5)) S hK hw 15 rfl rfl LX3 k2 dX4_falseShare_4 ?_
  refine lv_if_ne (tgt := 20) S.1 S.2.1 dX4_falseShare_7 (by decide) (fun c1 => ?_) (fun c1 => ?_)
  · skip
    refine lv_aload_n S.1 S.2.1 dX4_falseShare_20 rfl (lv_at hl 0 rfl) ?_
    refine gt_X4_0 (v := .ref (a 15)) S hK hw 0 rfl rfl LX4 k1 dX4_falseShare_21 ?_
    refine gt_X3_5 (v := .int (z 0 6)) S hK hw 15 rfl rfl LX3 k3 dX4_falseShare_24 ?_
    refine lv_i2f S.1 S.2.1 dX4_falseShare_27 ?_
    refine lv_aload_n S.1 S.2.1 dX4_falseShare_28 rfl (lv_at hl 0 rfl) ?_
    refine gt_X4_0 (v := .ref (a 15)) S hK hw 0 rfl rfl LX4 k1 dX4_falseShare_29 ?_
    refine gt_X3_4 (v := .int (z 0 5)) S hK hw 15 rfl rfl LX3 k2 dX4_falseShare_32 ?_
    refine lv_i2f S.1 S.2.1 dX4_falseShare_35 ?_
    refine lv_fdiv S.1 S.2.1 dX4_falseShare_36 (shr_n (z 0 6) c1) ?_
    have hp9 : pFs z = (0, 0, z) := (by simp [pFs, c1])
    exact ret_x hQ (Nat.zero_le _) (Nat.zero_le _) (en_f (v := shr (z 0 6) (z 0 5)) ((z, y, k) : St × St × St) rfl S hr hlk hw (by exact ⟨by rw [hp9], rfl, by rw [hp9]⟩) dX4_falseShare_37)
  · skip
    have hp9 : pFs z = (1, 0, z) := (by simp [pFs, c1])
    exact th_AE (text := "there were no declarations") S hX hw hl.1 hlk htab (by decide) m1AE m2AE m3AE dX4_falseShare_10 dX4_falseShare_13 dX4_falseShare_14 dX4_falseShare_16 dX4_falseShare_19 hQ ((z, y, k) : St × St × St) (by rw [hp9]; exact ⟨show ¬ (1 : Int32) = 0 by decide, rfl⟩) (by rw [hp9]; rfl) rfl (by rw [hR]; exact Nat.le_of_ble_eq_true rfl) (by rw [hR]; exact Nat.le_of_ble_eq_true rfl) (by rw [hR]; show 0 + 1 ≤ xc (pFs z).1; rw [hp9]; exact (show 0 + 1 ≤ xc 1 by decide)) (by rw [hR]; show 0 + 6 ≤ 6 * xc (pFs z).1; rw [hp9]; exact (show 0 + 6 ≤ 6 * xc 1 by decide)) (by rw [hp9]; exact (show 0 + 1 ≤ xc 1 by decide)) (by rw [hp9]; exact (show 0 + 6 ≤ 6 * xc 1 by decide))

theorem hd_X4_save : yX4_save.cls = RX4 ∧ yX4_save.cls ≠ "java/lang/invoke/MethodHandle" ∧ yX4_save.cls ≠ "java/lang/invoke/VarHandle" ∧ (parseMethodDescriptor yX4_save.desc).map (fun d => d.parameters.length) = some 0 := by decide +kernel
set_option maxHeartbeats 4000000 in
set_option maxRecDepth 100000 in
theorem c_X4_save (l : Launch) (G : GA) (a : Nat → Nat) (z : St) (y : St) (k : St) (sz : Nat) (iz : Inv z) : vx_Met l yX4_save wsX4_save ({ frames := 6, cells := xc (((0, 0, z) : PO) : PO).1, slots := 6 * xc (((0, 0, z) : PO) : PO).1, locals := 102 }) (va_Pc [.ref (a 0)] (PX l G (gp G a z y k) sz)) (va_Qv (fun (u : St × St × St) => (((0, 0, z) : PO) : PO).1 = 0 ∧ u = ((((0, 0, z) : PO) : PO).2.2, z, (st k 0 0 1))) (fun (u : St × St × St) t => va_P G.1 gcl (gp G a u.1 u.2.1 u.2.2) t.heap) (va_A (gp G a z y k) sz)) (vx_X (fun (u : St × St × St) => ¬ (((0, 0, z) : PO) : PO).1 = 0 ∧ u = ((((0, 0, z) : PO) : PO).2.2, z, (st k 0 0 1))) (fun E u t => E = ex3 xIAE xIAE xIAE (((0, 0, z) : PO) : PO).1 ∧ va_P G.1 gcl (gp G a u.1 u.2.1 u.2.2) t.heap) (va_A (gp G a z y k) sz)) (xc (((0, 0, z) : PO) : PO).1) (6 * xc (((0, 0, z) : PO) : PO).1) (va_A (gp G a z y k) sz) := by
  refine met_x (cc := cX4_save) (maxL := 1) (ret := none) (fun A => va_Qv (fun (u : St × St × St) => (((0, 0, z) : PO) : PO).1 = 0 ∧ u = ((((0, 0, z) : PO) : PO).2.2, z, (st k 0 0 1))) (fun (u : St × St × St) t => va_P G.1 gcl (gp G a u.1 u.2.1 u.2.2) t.heap) A) (fun A => vx_X (fun (u : St × St × St) => ¬ (((0, 0, z) : PO) : PO).1 = 0 ∧ u = ((((0, 0, z) : PO) : PO).2.2, z, (st k 0 0 1))) (fun E u t => E = ex3 xIAE xIAE xIAE (((0, 0, z) : PO) : PO).1 ∧ va_P G.1 gcl (gp G a u.1 u.2.1 u.2.2) t.heap) A) (by decide) rfl (Nat.le_of_ble_eq_true rfl) ?_
  intro p e s m args below meth c R Q A H ls hR hQ S hr hlk htab hK hX hsz hH hAe hA hw hl
  have hl : lv_has ls 1 [(0, .ref (a 0))] := hl
  have LX4 : ∀ w ∈ u_ws RX4 TX4 6, w.before args s = true := fun w h => S.2.2.2.2 w ((by decide +kernel : ∀ w ∈ u_ws RX4 TX4 6, w ∈ wsX4_save) w h)
  have k1 : (Cond.fieldLink RX4 16 "GossipMembership" "savedWorld" "LGossipMembership$World;").before args s = true := S.2.2.2.2 _ (by decide +kernel : (Cond.fieldLink RX4 16 "GossipMembership" "savedWorld" "LGossipMembership$World;") ∈ wsX4_save)
  have k2 : (Cond.fieldLink RX4 10 "GossipMembership" "world" "LGossipMembership$World;").before args s = true := S.2.2.2.2 _ (by decide +kernel : (Cond.fieldLink RX4 10 "GossipMembership" "world" "LGossipMembership$World;") ∈ wsX4_save)
  have k3 : (Cond.fieldLink RX4 233 "GossipMembership" "somethingSaved" "Z").before args s = true := S.2.2.2.2 _ (by decide +kernel : (Cond.fieldLink RX4 233 "GossipMembership" "somethingSaved" "Z") ∈ wsX4_save)
  refine lv_aload_n S.1 S.2.1 dX4_save_0 rfl (lv_at hl 0 rfl) ?_
  refine gt_X4_1 (v := .ref (a 3)) S hK hw 0 rfl rfl LX4 k1 dX4_save_1 ?_
  refine lv_aload_n S.1 S.2.1 dX4_save_4 rfl (lv_at hl 0 rfl) ?_
  refine gt_X4_0 (v := .ref (a 15)) S hK hw 0 rfl rfl LX4 k2 dX4_save_5 ?_
  have hwc : WD G (w2 G (fun i => a (3 + i)) y z) A s H _ := hw.sub [3, 4, 5, 6, 7, 8, 9, 10, 11, 12, 13, 14, 15, 16, 17, 18, 19, 20, 21, 22, 23, 24, 25, 26] rfl rfl
  refine cj_v (wc := (w2 G (fun i => a (3 + i)) y z)) (wr := [(a 0, .inr (4, [.ref (a 15), .ref (a 3), .int (k 0 0), .ref (a 1), .int (k 0 1), .int (k 0 2)])), (a 1, .inr (0, [.ref (a 2), .int (k 0 3)])), (a 2, .inl (G.2.2.2, (40, .inl (k 2))))]) (va_runV (As := [.ref (a 15)]) (rest := []) S (c_X3_copyFrom l G (fun i => a (3 + i)) y z H.size iz) (cwV 1 S.2.2.2.2 gX4_save_X3_copyFrom rfl rfl rfl hd_X3_copyFrom ⟨by rw [hR]; exact Nat.le_of_ble_eq_true rfl, by rw [hR]; exact Nat.le_of_ble_eq_true rfl⟩) ⟨PW.blind, va_recv hK.1 hwc.1 (ci := 3) (q0 := 0) rfl rfl, fun U hU hW => ⟨rfl, PW.of hK hwc hU hW⟩⟩ rfl rfl hl.1 rfl (lv_room (Nat.le_of_ble_eq_true rfl)) dX4_save_8 ⟨Nat.zero_le _, Nat.zero_le _⟩) hw hA [3, 4, 5, 6, 7, 8, 9, 10, 11, 12, 13, 14, 15, 16, 17, 18, 19, 20, 21, 22, 23, 24, 25, 26] [0, 1, 2] rfl rfl rfl rfl (by decide) (fun _ => rfl) (fun u1 H locs h2 hw9 => ?_)
  obtain ⟨z9, y9⟩ := u1
  obtain ⟨e1, e2⟩ := h2
  dsimp only at e1 e2 hw9
  rw [e1, e2] at hw9
  have hw : WD G (gp G a z z k) A s H locs := hw9
  refine lv_aload_n S.1 S.2.1 dX4_save_11 rfl (lv_at hl 0 rfl) ?_
  refine lv_iconst (v := 1) S.1 S.2.1 dX4_save_12 (by decide) ?_
  refine pt_X4_2 (ws' := (gp G a z z (st k 0 0 (1)))) S hK hw 0 rfl LX4 k3 rfl rfl rfl (Nat.le_of_ble_eq_true rfl) dX4_save_13 (fun H locs hw => ?_)
  obtain ⟨k3, ek3⟩ : ∃ zz, zz = st k 0 0 (1) := ⟨_, rfl⟩
  have hw : WD G (gp G a z z k3) A s H locs := by rw [ek3]; exact hw
  have hp9 : ((0, 0, z) : PO) = (0, 0, z) := (by rfl)
  have hk9 : (st k 0 0 1) = k3 := (by subst ek3; rfl)
  exact ret_x hQ (Nat.zero_le _) (Nat.zero_le _) (en_v ((z, z, k3) : St × St × St) rfl S hr hlk hw (by exact ⟨by rw [hp9], by rw [hp9, hk9]⟩) dX4_save_16)

theorem hd_X4_restore : yX4_restore.cls = RX4 ∧ yX4_restore.cls ≠ "java/lang/invoke/MethodHandle" ∧ yX4_restore.cls ≠ "java/lang/invoke/VarHandle" ∧ (parseMethodDescriptor yX4_restore.desc).map (fun d => d.parameters.length) = some 0 := by decide +kernel
set_option maxHeartbeats 4000000 in
set_option maxRecDepth 100000 in
theorem c_X4_restore (l : Launch) (G : GA) (a : Nat → Nat) (z : St) (y : St) (k : St) (sz : Nat) {hs : Bool} (hO : k 0 0 = b2 hs) (iy : hs = true → Inv y) : vx_Met l yX4_restore wsX4_restore ({ frames := 6, cells := xc (pRs hs y z : PO).1, slots := 6 * xc (pRs hs y z : PO).1, locals := 102 }) (va_Pc [.ref (a 0)] (PX l G (gp G a z y k) sz)) (va_Qv (fun (u : St × St × St) => (pRs hs y z : PO).1 = 0 ∧ u = ((pRs hs y z : PO).2.2, y, k)) (fun (u : St × St × St) t => va_P G.1 gcl (gp G a u.1 u.2.1 u.2.2) t.heap) (va_A (gp G a z y k) sz)) (vx_X (fun (u : St × St × St) => ¬ (pRs hs y z : PO).1 = 0 ∧ u = ((pRs hs y z : PO).2.2, y, k)) (fun E u t => E = ex3 xISE xISE xISE (pRs hs y z : PO).1 ∧ va_P G.1 gcl (gp G a u.1 u.2.1 u.2.2) t.heap) (va_A (gp G a z y k) sz)) (xc (pRs hs y z : PO).1) (6 * xc (pRs hs y z : PO).1) (va_A (gp G a z y k) sz) := by
  refine met_x (cc := cX4_restore) (maxL := 1) (ret := none) (fun A => va_Qv (fun (u : St × St × St) => (pRs hs y z : PO).1 = 0 ∧ u = ((pRs hs y z : PO).2.2, y, k)) (fun (u : St × St × St) t => va_P G.1 gcl (gp G a u.1 u.2.1 u.2.2) t.heap) A) (fun A => vx_X (fun (u : St × St × St) => ¬ (pRs hs y z : PO).1 = 0 ∧ u = ((pRs hs y z : PO).2.2, y, k)) (fun E u t => E = ex3 xISE xISE xISE (pRs hs y z : PO).1 ∧ va_P G.1 gcl (gp G a u.1 u.2.1 u.2.2) t.heap) A) (by decide) rfl (Nat.le_of_ble_eq_true rfl) ?_
  intro p e s m args below meth c R Q A H ls hR hQ S hr hlk htab hK hX hsz hH hAe hA hw hl
  have hl : lv_has ls 1 [(0, .ref (a 0))] := hl
  have LX4 : ∀ w ∈ u_ws RX4 TX4 6, w.before args s = true := fun w h => S.2.2.2.2 w ((by decide +kernel : ∀ w ∈ u_ws RX4 TX4 6, w ∈ wsX4_restore) w h)
  have k1 : (Cond.fieldLink RX4 233 "GossipMembership" "somethingSaved" "Z").before args s = true := S.2.2.2.2 _ (by decide +kernel : (Cond.fieldLink RX4 233 "GossipMembership" "somethingSaved" "Z") ∈ wsX4_restore)
  have k2 : (Cond.fieldLink RX4 10 "GossipMembership" "world" "LGossipMembership$World;").before args s = true := S.2.2.2.2 _ (by decide +kernel : (Cond.fieldLink RX4 10 "GossipMembership" "world" "LGossipMembership$World;") ∈ wsX4_restore)
  have k3 : (Cond.fieldLink RX4 16 "GossipMembership" "savedWorld" "LGossipMembership$World;").before args s = true := S.2.2.2.2 _ (by decide +kernel : (Cond.fieldLink RX4 16 "GossipMembership" "savedWorld" "LGossipMembership$World;") ∈ wsX4_restore)
  have m1ISE : Cond.classLink RX4 75 xISE ∈ wsX4_restore := by decide +kernel
  have m2ISE : Cond.initialized xISE ∈ wsX4_restore := by decide +kernel
  have m3ISE : ∀ w ∈ (vx_atS RX4 79 xISE ["java/lang/RuntimeException", "java/lang/Exception"]).filter goodWord, w ∈ wsX4_restore := by decide +kernel
  refine lv_aload_n S.1 S.2.1 dX4_restore_0 rfl (lv_at hl 0 rfl) ?_
  refine gt_X4_2 (v := .int (k 0 0)) S hK hw 0 rfl rfl LX4 k1 dX4_restore_1 ?_
  refine top_to (v := b2 hs) S hO ?_
  refine brB_ne (b := hs) S (tgt := 17) dX4_restore_4 (by decide) (fun c1 => ?_) (fun c1 => ?_)
  · skip
    have iy9 := iy c1
    refine lv_aload_n S.1 S.2.1 dX4_restore_17 rfl (lv_at hl 0 rfl) ?_
    refine gt_X4_0 (v := .ref (a 15)) S hK hw 0 rfl rfl LX4 k2 dX4_restore_18 ?_
    refine lv_aload_n S.1 S.2.1 dX4_restore_21 rfl (lv_at hl 0 rfl) ?_
    refine gt_X4_1 (v := .ref (a 3)) S hK hw 0 rfl rfl LX4 k3 dX4_restore_22 ?_
    have hwc : WD G (w2 G (adr a) z y) A s H _ := hw.sub [15, 16, 17, 18, 19, 20, 21, 22, 23, 24, 25, 26, 3, 4, 5, 6, 7, 8, 9, 10, 11, 12, 13, 14] rfl rfl
    refine cj_v (wc := (w2 G (adr a) z y)) (wr := [(a 0, .inr (4, [.ref (a 15), .ref (a 3), .int (k 0 0), .ref (a 1), .int (k 0 1), .int (k 0 2)])), (a 1, .inr (0, [.ref (a 2), .int (k 0 3)])), (a 2, .inl (G.2.2.2, (40, .inl (k 2))))]) (va_runV (As := [.ref (a 3)]) (rest := []) S (c_X3_copyFrom l G (adr a) z y H.size iy9) (cwV 1 S.2.2.2.2 gX4_restore_X3_copyFrom rfl rfl rfl hd_X3_copyFrom ⟨by rw [hR]; exact Nat.le_of_ble_eq_true rfl, by rw [hR]; exact Nat.le_of_ble_eq_true rfl⟩) ⟨PW.blind, va_recv hK.1 hwc.1 (ci := 3) (q0 := 0) rfl rfl, fun U hU hW => ⟨rfl, PW.of hK hwc hU hW⟩⟩ rfl rfl hl.1 rfl (lv_room (Nat.le_of_ble_eq_true rfl)) dX4_restore_25 ⟨Nat.zero_le _, Nat.zero_le _⟩) hw hA [15, 16, 17, 18, 19, 20, 21, 22, 23, 24, 25, 26, 3, 4, 5, 6, 7, 8, 9, 10, 11, 12, 13, 14] [0, 1, 2] rfl rfl rfl rfl (by decide) (fun _ => rfl) (fun u2 H locs h3 hw9 => ?_)
    obtain ⟨z9, y9⟩ := u2
    obtain ⟨e1, e2⟩ := h3
    dsimp only at e1 e2 hw9
    rw [e1, e2] at hw9
    have hw : WD G (gp G a y y k) A s H locs := hw9.sub [0, 1, 2, 15, 16, 17, 18, 19, 20, 21, 22, 23, 24, 25, 26, 3, 4, 5, 6, 7, 8, 9, 10, 11, 12, 13, 14] rfl rfl
    have hp9 : pRs hs y z = (0, 0, y) := (by rw [pRs, if_pos c1])
    exact ret_x hQ (Nat.zero_le _) (Nat.zero_le _) (en_v ((y, y, k) : St × St × St) rfl S hr hlk hw (by exact ⟨by rw [hp9], by rw [hp9]⟩) dX4_restore_28)
  · skip
    have hp9 : pRs hs y z = (1, 0, z) := (by rw [pRs, if_neg (by rw [c1]; decide)])
    exact th_ISE (text := "nothing was saved") S hX hw hl.1 hlk htab (by decide) m1ISE m2ISE m3ISE dX4_restore_7 dX4_restore_10 dX4_restore_11 dX4_restore_13 dX4_restore_16 hQ ((z, y, k) : St × St × St) (by rw [hp9]; exact ⟨show ¬ (1 : Int32) = 0 by decide, rfl⟩) (by rw [hp9]; rfl) rfl (by rw [hR]; exact Nat.le_of_ble_eq_true rfl) (by rw [hR]; exact Nat.le_of_ble_eq_true rfl) (by rw [hR]; show 0 + 1 ≤ xc (pRs hs y z).1; rw [hp9]; exact (show 0 + 1 ≤ xc 1 by decide)) (by rw [hR]; show 0 + 6 ≤ 6 * xc (pRs hs y z).1; rw [hp9]; exact (show 0 + 6 ≤ 6 * xc 1 by decide)) (by rw [hp9]; exact (show 0 + 1 ≤ xc 1 by decide)) (by rw [hp9]; exact (show 0 + 6 ≤ 6 * xc 1 by decide))
