theorem hd_L_setPatience : yL_setPatience.cls ≠ "java/lang/invoke/MethodHandle" ∧ yL_setPatience.cls ≠ "java/lang/invoke/VarHandle" ∧ (parseMethodDescriptor yL_setPatience.desc).map (fun d => d.parameters.length) = some 3 := by decide +kernel
set_option maxHeartbeats 4000000 in
set_option maxRecDepth 100000 in
theorem c_L_setPatience (l : Launch) (G : GA) (k1 k2 : ClassId) (b : Nat) (v0 : Int64) (a : Nat → Nat) (z y k : St) (sz : Nat) (v : Int32) : vx_Met l yL_setPatience wsL_setPatience ({ frames := 7, cells := xc (pS 2 1 20 v z : PO).1, slots := 6 * xc (pS 2 1 20 v z : PO).1, locals := 120 }) (va_Pc [.ref (a 0), .int (v), .ref (b)] (PL l G k1 k2 (gL G k1 a z y k b (v0)) sz)) (va_Qi (fun (r : Int32) (u : (St × St × St) × Int64) => r = (pS 2 1 20 v z : PO).1 ∧ u.1 = ((pS 2 1 20 v z : PO).2.2, y, k) ∧ ((pS 2 1 20 v z : PO).1 = 0 → u.2 = (pS 2 1 20 v z : PO).2.1.toInt64)) (fun (u : (St × St × St) × Int64) t => va_P G.1 gcl (gL G k1 a u.1.1 u.1.2.1 u.1.2.2 b u.2) t.heap) (va_A (gL G k1 a z y k b (v0)) sz)) (vx_X (fun (u : (St × St × St) × Int64) => False) (fun E u t => E = xIAE ∧ va_P G.1 gcl (gL G k1 a u.1.1 u.1.2.1 u.1.2.2 b u.2) t.heap) (va_A (gL G k1 a z y k b (v0)) sz)) (xc (pS 2 1 20 v z : PO).1) (6 * xc (pS 2 1 20 v z : PO).1) (va_A (gL G k1 a z y k b (v0)) sz) := by
  refine met_l (hh := [(0, 9, 12, 13)]) (cc := cL_setPatience) (maxL := 4) (ret := (some .int)) (fun A => va_Qi (fun (r : Int32) (u : (St × St × St) × Int64) => r = (pS 2 1 20 v z : PO).1 ∧ u.1 = ((pS 2 1 20 v z : PO).2.2, y, k) ∧ ((pS 2 1 20 v z : PO).1 = 0 → u.2 = (pS 2 1 20 v z : PO).2.1.toInt64)) (fun (u : (St × St × St) × Int64) t => va_P G.1 gcl (gL G k1 a u.1.1 u.1.2.1 u.1.2.2 b u.2) t.heap) A) (fun A => vx_X (fun (u : (St × St × St) × Int64) => False) (fun E u t => E = xIAE ∧ va_P G.1 gcl (gL G k1 a u.1.1 u.1.2.1 u.1.2.2 b u.2) t.heap) A) (by decide) rfl (Nat.le_of_ble_eq_true rfl) ?_
  intro p e s m args below meth c R Q A H ls hR hQ S hr hlk htab hK hX hL hsz hH hAe hA hw hl
  have hl : lv_has ls 4 [(0, .ref (a 0)), (1, .int (v)), (2, .ref (b))] := hl
  have kE0 : (Cond.classLink RL 13 xIAE).before args s = true := S.2.2.2.2 _ (by decide +kernel : (Cond.classLink RL 13 xIAE) ∈ wsL_setPatience)
  refine lv_aload_n S.1 S.2.1 dL_setPatience_0 rfl (lv_at hl 2 rfl) ?_
  refine lv_iconst (v := 0) S.1 S.2.1 dL_setPatience_1 (by decide) ?_
  refine lv_aload_n S.1 S.2.1 dL_setPatience_2 rfl (lv_at hl 0 rfl) ?_
  refine lv_iload_n S.1 S.2.1 dL_setPatience_3 rfl (lv_at hl 1 rfl) ?_
  have hwc : WD G (gp G a z y k) A s H _ := hw.sub [0, 1, 2, 3, 4, 5, 6, 7, 8, 9, 10, 11, 12, 13, 14, 15, 16, 17, 18, 19, 20, 21, 22, 23, 24, 25, 26] rfl rfl
  refine cx_i (wc := gp G a z y k) (wr := [(b, .inl (k1, (1, .inr (.inl (fun _ => v0)))))]) (vx_runV (As := [.int (v)]) (rest := [.int 0, .ref (b)]) S (c_X4_setPatience l G a z y k H.size v ) (cwV 1 S.2.2.2.2 gL_setPatience_X4_setPatience rfl rfl rfl hd_X4_setPatience ⟨by rw [hR]; exact Nat.le_of_ble_eq_true rfl, by rw [hR]; exact Nat.le_of_ble_eq_true rfl⟩) ⟨PX.blind, va_recv hK.1 hwc.1 (ci := 4) (q0 := 0) rfl rfl, fun U hU hW => ⟨rfl, PX.of hK hX hwc (va_free hw.2.1 hw.2.2 hA [0, 1, 2, 3, 4, 5, 6, 7, 8, 9, 10, 11, 12, 13, 14, 15, 16, 17, 18, 19, 20, 21, 22, 23, 24, 25, 26] rfl) hU hW⟩⟩ rfl rfl hl.1 rfl (lv_room (Nat.le_of_ble_eq_true rfl)) dL_setPatience_4 ⟨by rw [hR]; exact Nat.le_of_eq (Nat.zero_add _), by rw [hR]; exact Nat.le_of_eq (Nat.zero_add _)⟩) hw hA [0, 1, 2, 3, 4, 5, 6, 7, 8, 9, 10, 11, 12, 13, 14, 15, 16, 17, 18, 19, 20, 21, 22, 23, 24, 25, 26] [27] rfl rfl rfl rfl (by decide) (fun _ => rfl) (fun _ => rfl) (fun ce q9 u9 H locs hpx hw9 g1 g2 g3 => ?_) (fun r9 u9 H locs hp9 hw9 => ?_)
  · skip
    obtain ⟨hne, rfl⟩ := hpx
    have hw : WD G (gL G k1 a (pS 2 1 20 v z : PO).2.2 y k b (v0)) A s H locs := hw9.sub [1, 2, 3, 4, 5, 6, 7, 8, 9, 10, 11, 12, 13, 14, 15, 16, 17, 18, 19, 20, 21, 22, 23, 24, 25, 26, 27, 0] rfl rfl
    rcases cS with hc9 | hc9
    · exact absurd hc9 hne
    · rw [hc9] at g3
      refine ct_1 S hX htab (by decide) (by decide) (by decide) kE0 g1 g2 g3 ?_
      refine lv_astore_n (lv' := [(3, .ref (q9)), (0, .ref (a 0)), (1, .int (v)), (2, .ref (b))]) S.1 S.2.1 dL_setPatience_12 rfl hl (by decide) rfl (fun ls hl => ?_)
      refine lv_iconst (v := 1) S.1 S.2.1 dL_setPatience_13 (by decide) ?_
      exact ret_x hQ (Nat.le_of_eq (Nat.zero_add _)) (Nat.le_of_eq (Nat.zero_add _)) (en_i (v := (1)) ((((pS 2 1 20 v z : PO).2.2, y, k), (v0)) : (St × St × St) × Int64) rfl S hr hlk hw ⟨hc9.symm, rfl, fun h => absurd (show (pS 2 1 20 v z : PO).1 = 0 from h) (by rw [hc9]; decide)⟩ dL_setPatience_14)
  · skip
    obtain ⟨hc9, rfl, rfl⟩ := hp9
    have hw : WD G (gL G k1 a (pS 2 1 20 v z : PO).2.2 y k b (v0)) A s H locs := hw9.sub [1, 2, 3, 4, 5, 6, 7, 8, 9, 10, 11, 12, 13, 14, 15, 16, 17, 18, 19, 20, 21, 22, 23, 24, 25, 26, 27, 0] rfl rfl
    refine lv_i2l S.1 S.2.1 dL_setPatience_7 rfl ?_
    refine la_s S hL hw 27 rfl rfl dL_setPatience_8 (fun H locs hw => ?_)
    have hw : WD G (gL G k1 a (pS 2 1 20 v z : PO).2.2 y k b (((pS 2 1 20 v z : PO).2.1).toInt64)) A s H locs := hw
    refine lv_goto (tgt := 15) S.1 S.2.1 dL_setPatience_9 (by decide) ?_
    refine lv_iconst (v := 0) S.1 S.2.1 dL_setPatience_15 (by decide) ?_
    exact ret_x hQ (Nat.le_of_eq (Nat.zero_add _)) (Nat.le_of_eq (Nat.zero_add _)) (en_i (v := (0)) ((((pS 2 1 20 v z : PO).2.2, y, k), (((pS 2 1 20 v z : PO).2.1).toInt64)) : (St × St × St) × Int64) rfl S hr hlk hw ⟨hc9.symm, rfl, fun _ => rfl⟩ dL_setPatience_16)

theorem hd_L_setFanOut : yL_setFanOut.cls ≠ "java/lang/invoke/MethodHandle" ∧ yL_setFanOut.cls ≠ "java/lang/invoke/VarHandle" ∧ (parseMethodDescriptor yL_setFanOut.desc).map (fun d => d.parameters.length) = some 3 := by decide +kernel
set_option maxHeartbeats 4000000 in
set_option maxRecDepth 100000 in
theorem c_L_setFanOut (l : Launch) (G : GA) (k1 k2 : ClassId) (b : Nat) (v0 : Int64) (a : Nat → Nat) (z y k : St) (sz : Nat) (v : Int32) : vx_Met l yL_setFanOut wsL_setFanOut ({ frames := 7, cells := xc (pS 3 1 9 v z : PO).1, slots := 6 * xc (pS 3 1 9 v z : PO).1, locals := 120 }) (va_Pc [.ref (a 0), .int (v), .ref (b)] (PL l G k1 k2 (gL G k1 a z y k b (v0)) sz)) (va_Qi (fun (r : Int32) (u : (St × St × St) × Int64) => r = (pS 3 1 9 v z : PO).1 ∧ u.1 = ((pS 3 1 9 v z : PO).2.2, y, k) ∧ ((pS 3 1 9 v z : PO).1 = 0 → u.2 = (pS 3 1 9 v z : PO).2.1.toInt64)) (fun (u : (St × St × St) × Int64) t => va_P G.1 gcl (gL G k1 a u.1.1 u.1.2.1 u.1.2.2 b u.2) t.heap) (va_A (gL G k1 a z y k b (v0)) sz)) (vx_X (fun (u : (St × St × St) × Int64) => False) (fun E u t => E = xIAE ∧ va_P G.1 gcl (gL G k1 a u.1.1 u.1.2.1 u.1.2.2 b u.2) t.heap) (va_A (gL G k1 a z y k b (v0)) sz)) (xc (pS 3 1 9 v z : PO).1) (6 * xc (pS 3 1 9 v z : PO).1) (va_A (gL G k1 a z y k b (v0)) sz) := by
  refine met_l (hh := [(0, 9, 12, 13)]) (cc := cL_setFanOut) (maxL := 4) (ret := (some .int)) (fun A => va_Qi (fun (r : Int32) (u : (St × St × St) × Int64) => r = (pS 3 1 9 v z : PO).1 ∧ u.1 = ((pS 3 1 9 v z : PO).2.2, y, k) ∧ ((pS 3 1 9 v z : PO).1 = 0 → u.2 = (pS 3 1 9 v z : PO).2.1.toInt64)) (fun (u : (St × St × St) × Int64) t => va_P G.1 gcl (gL G k1 a u.1.1 u.1.2.1 u.1.2.2 b u.2) t.heap) A) (fun A => vx_X (fun (u : (St × St × St) × Int64) => False) (fun E u t => E = xIAE ∧ va_P G.1 gcl (gL G k1 a u.1.1 u.1.2.1 u.1.2.2 b u.2) t.heap) A) (by decide) rfl (Nat.le_of_ble_eq_true rfl) ?_
  intro p e s m args below meth c R Q A H ls hR hQ S hr hlk htab hK hX hL hsz hH hAe hA hw hl
  have hl : lv_has ls 4 [(0, .ref (a 0)), (1, .int (v)), (2, .ref (b))] := hl
  have kE0 : (Cond.classLink RL 13 xIAE).before args s = true := S.2.2.2.2 _ (by decide +kernel : (Cond.classLink RL 13 xIAE) ∈ wsL_setFanOut)
  refine lv_aload_n S.1 S.2.1 dL_setFanOut_0 rfl (lv_at hl 2 rfl) ?_
  refine lv_iconst (v := 0) S.1 S.2.1 dL_setFanOut_1 (by decide) ?_
  refine lv_aload_n S.1 S.2.1 dL_setFanOut_2 rfl (lv_at hl 0 rfl) ?_
  refine lv_iload_n S.1 S.2.1 dL_setFanOut_3 rfl (lv_at hl 1 rfl) ?_
  have hwc : WD G (gp G a z y k) A s H _ := hw.sub [0, 1, 2, 3, 4, 5, 6, 7, 8, 9, 10, 11, 12, 13, 14, 15, 16, 17, 18, 19, 20, 21, 22, 23, 24, 25, 26] rfl rfl
  refine cx_i (wc := gp G a z y k) (wr := [(b, .inl (k1, (1, .inr (.inl (fun _ => v0)))))]) (vx_runV (As := [.int (v)]) (rest := [.int 0, .ref (b)]) S (c_X4_setFanOut l G a z y k H.size v ) (cwV 1 S.2.2.2.2 gL_setFanOut_X4_setFanOut rfl rfl rfl hd_X4_setFanOut ⟨by rw [hR]; exact Nat.le_of_ble_eq_true rfl, by rw [hR]; exact Nat.le_of_ble_eq_true rfl⟩) ⟨PX.blind, va_recv hK.1 hwc.1 (ci := 4) (q0 := 0) rfl rfl, fun U hU hW => ⟨rfl, PX.of hK hX hwc (va_free hw.2.1 hw.2.2 hA [0, 1, 2, 3, 4, 5, 6, 7, 8, 9, 10, 11, 12, 13, 14, 15, 16, 17, 18, 19, 20, 21, 22, 23, 24, 25, 26] rfl) hU hW⟩⟩ rfl rfl hl.1 rfl (lv_room (Nat.le_of_ble_eq_true rfl)) dL_setFanOut_4 ⟨by rw [hR]; exact Nat.le_of_eq (Nat.zero_add _), by rw [hR]; exact Nat.le_of_eq (Nat.zero_add _)⟩) hw hA [0, 1, 2, 3, 4, 5, 6, 7, 8, 9, 10, 11, 12, 13, 14, 15, 16, 17, 18, 19, 20, 21, 22, 23, 24, 25, 26] [27] rfl rfl rfl rfl (by decide) (fun _ => rfl) (fun _ => rfl) (fun ce q9 u9 H locs hpx hw9 g1 g2 g3 => ?_) (fun r9 u9 H locs hp9 hw9 => ?_)
  · skip
    obtain ⟨hne, rfl⟩ := hpx
    have hw : WD G (gL G k1 a (pS 3 1 9 v z : PO).2.2 y k b (v0)) A s H locs := hw9.sub [1, 2, 3, 4, 5, 6, 7, 8, 9, 10, 11, 12, 13, 14, 15, 16, 17, 18, 19, 20, 21, 22, 23, 24, 25, 26, 27, 0] rfl rfl
    rcases cS with hc9 | hc9
    · exact absurd hc9 hne
    · rw [hc9] at g3
      refine ct_1 S hX htab (by decide) (by decide) (by decide) kE0 g1 g2 g3 ?_
      refine lv_astore_n (lv' := [(3, .ref (q9)), (0, .ref (a 0)), (1, .int (v)), (2, .ref (b))]) S.1 S.2.1 dL_setFanOut_12 rfl hl (by decide) rfl (fun ls hl => ?_)
      refine lv_iconst (v := 1) S.1 S.2.1 dL_setFanOut_13 (by decide) ?_
      exact ret_x hQ (Nat.le_of_eq (Nat.zero_add _)) (Nat.le_of_eq (Nat.zero_add _)) (en_i (v := (1)) ((((pS 3 1 9 v z : PO).2.2, y, k), (v0)) : (St × St × St) × Int64) rfl S hr hlk hw ⟨hc9.symm, rfl, fun h => absurd (show (pS 3 1 9 v z : PO).1 = 0 from h) (by rw [hc9]; decide)⟩ dL_setFanOut_14)
  · skip
    obtain ⟨hc9, rfl, rfl⟩ := hp9
    have hw : WD G (gL G k1 a (pS 3 1 9 v z : PO).2.2 y k b (v0)) A s H locs := hw9.sub [1, 2, 3, 4, 5, 6, 7, 8, 9, 10, 11, 12, 13, 14, 15, 16, 17, 18, 19, 20, 21, 22, 23, 24, 25, 26, 27, 0] rfl rfl
    refine lv_i2l S.1 S.2.1 dL_setFanOut_7 rfl ?_
    refine la_s S hL hw 27 rfl rfl dL_setFanOut_8 (fun H locs hw => ?_)
    have hw : WD G (gL G k1 a (pS 3 1 9 v z : PO).2.2 y k b (((pS 3 1 9 v z : PO).2.1).toInt64)) A s H locs := hw
    refine lv_goto (tgt := 15) S.1 S.2.1 dL_setFanOut_9 (by decide) ?_
    refine lv_iconst (v := 0) S.1 S.2.1 dL_setFanOut_15 (by decide) ?_
    exact ret_x hQ (Nat.le_of_eq (Nat.zero_add _)) (Nat.le_of_eq (Nat.zero_add _)) (en_i (v := (0)) ((((pS 3 1 9 v z : PO).2.2, y, k), (((pS 3 1 9 v z : PO).2.1).toInt64)) : (St × St × St) × Int64) rfl S hr hlk hw ⟨hc9.symm, rfl, fun _ => rfl⟩ dL_setFanOut_16)

theorem hd_L_setHelpers : yL_setHelpers.cls ≠ "java/lang/invoke/MethodHandle" ∧ yL_setHelpers.cls ≠ "java/lang/invoke/VarHandle" ∧ (parseMethodDescriptor yL_setHelpers.desc).map (fun d => d.parameters.length) = some 3 := by decide +kernel
set_option maxHeartbeats 4000000 in
set_option maxRecDepth 100000 in
theorem c_L_setHelpers (l : Launch) (G : GA) (k1 k2 : ClassId) (b : Nat) (v0 : Int64) (a : Nat → Nat) (z y k : St) (sz : Nat) (v : Int32) : vx_Met l yL_setHelpers wsL_setHelpers ({ frames := 7, cells := xc (pS 4 0 3 v z : PO).1, slots := 6 * xc (pS 4 0 3 v z : PO).1, locals := 120 }) (va_Pc [.ref (a 0), .int (v), .ref (b)] (PL l G k1 k2 (gL G k1 a z y k b (v0)) sz)) (va_Qi (fun (r : Int32) (u : (St × St × St) × Int64) => r = (pS 4 0 3 v z : PO).1 ∧ u.1 = ((pS 4 0 3 v z : PO).2.2, y, k) ∧ ((pS 4 0 3 v z : PO).1 = 0 → u.2 = (pS 4 0 3 v z : PO).2.1.toInt64)) (fun (u : (St × St × St) × Int64) t => va_P G.1 gcl (gL G k1 a u.1.1 u.1.2.1 u.1.2.2 b u.2) t.heap) (va_A (gL G k1 a z y k b (v0)) sz)) (vx_X (fun (u : (St × St × St) × Int64) => False) (fun E u t => E = xIAE ∧ va_P G.1 gcl (gL G k1 a u.1.1 u.1.2.1 u.1.2.2 b u.2) t.heap) (va_A (gL G k1 a z y k b (v0)) sz)) (xc (pS 4 0 3 v z : PO).1) (6 * xc (pS 4 0 3 v z : PO).1) (va_A (gL G k1 a z y k b (v0)) sz) := by
  refine met_l (hh := [(0, 9, 12, 13)]) (cc := cL_setHelpers) (maxL := 4) (ret := (some .int)) (fun A => va_Qi (fun (r : Int32) (u : (St × St × St) × Int64) => r = (pS 4 0 3 v z : PO).1 ∧ u.1 = ((pS 4 0 3 v z : PO).2.2, y, k) ∧ ((pS 4 0 3 v z : PO).1 = 0 → u.2 = (pS 4 0 3 v z : PO).2.1.toInt64)) (fun (u : (St × St × St) × Int64) t => va_P G.1 gcl (gL G k1 a u.1.1 u.1.2.1 u.1.2.2 b u.2) t.heap) A) (fun A => vx_X (fun (u : (St × St × St) × Int64) => False) (fun E u t => E = xIAE ∧ va_P G.1 gcl (gL G k1 a u.1.1 u.1.2.1 u.1.2.2 b u.2) t.heap) A) (by decide) rfl (Nat.le_of_ble_eq_true rfl) ?_
  intro p e s m args below meth c R Q A H ls hR hQ S hr hlk htab hK hX hL hsz hH hAe hA hw hl
  have hl : lv_has ls 4 [(0, .ref (a 0)), (1, .int (v)), (2, .ref (b))] := hl
  have kE0 : (Cond.classLink RL 13 xIAE).before args s = true := S.2.2.2.2 _ (by decide +kernel : (Cond.classLink RL 13 xIAE) ∈ wsL_setHelpers)
  refine lv_aload_n S.1 S.2.1 dL_setHelpers_0 rfl (lv_at hl 2 rfl) ?_
  refine lv_iconst (v := 0) S.1 S.2.1 dL_setHelpers_1 (by decide) ?_
  refine lv_aload_n S.1 S.2.1 dL_setHelpers_2 rfl (lv_at hl 0 rfl) ?_
  refine lv_iload_n S.1 S.2.1 dL_setHelpers_3 rfl (lv_at hl 1 rfl) ?_
  have hwc : WD G (gp G a z y k) A s H _ := hw.sub [0, 1, 2, 3, 4, 5, 6, 7, 8, 9, 10, 11, 12, 13, 14, 15, 16, 17, 18, 19, 20, 21, 22, 23, 24, 25, 26] rfl rfl
  refine cx_i (wc := gp G a z y k) (wr := [(b, .inl (k1, (1, .inr (.inl (fun _ => v0)))))]) (vx_runV (As := [.int (v)]) (rest := [.int 0, .ref (b)]) S (c_X4_setHelpers l G a z y k H.size v ) (cwV 1 S.2.2.2.2 gL_setHelpers_X4_setHelpers rfl rfl rfl hd_X4_setHelpers ⟨by rw [hR]; exact Nat.le_of_ble_eq_true rfl, by rw [hR]; exact Nat.le_of_ble_eq_true rfl⟩) ⟨PX.blind, va_recv hK.1 hwc.1 (ci := 4) (q0 := 0) rfl rfl, fun U hU hW => ⟨rfl, PX.of hK hX hwc (va_free hw.2.1 hw.2.2 hA [0, 1, 2, 3, 4, 5, 6, 7, 8, 9, 10, 11, 12, 13, 14, 15, 16, 17, 18, 19, 20, 21, 22, 23, 24, 25, 26] rfl) hU hW⟩⟩ rfl rfl hl.1 rfl (lv_room (Nat.le_of_ble_eq_true rfl)) dL_setHelpers_4 ⟨by rw [hR]; exact Nat.le_of_eq (Nat.zero_add _), by rw [hR]; exact Nat.le_of_eq (Nat.zero_add _)⟩) hw hA [0, 1, 2, 3, 4, 5, 6, 7, 8, 9, 10, 11, 12, 13, 14, 15, 16, 17, 18, 19, 20, 21, 22, 23, 24, 25, 26] [27] rfl rfl rfl rfl (by decide) (fun _ => rfl) (fun _ => rfl) (fun ce q9 u9 H locs hpx hw9 g1 g2 g3 => ?_) (fun r9 u9 H locs hp9 hw9 => ?_)
  · skip
    obtain ⟨hne, rfl⟩ := hpx
    have hw : WD G (gL G k1 a (pS 4 0 3 v z : PO).2.2 y k b (v0)) A s H locs := hw9.sub [1, 2, 3, 4, 5, 6, 7, 8, 9, 10, 11, 12, 13, 14, 15, 16, 17, 18, 19, 20, 21, 22, 23, 24, 25, 26, 27, 0] rfl rfl
    rcases cS with hc9 | hc9
    · exact absurd hc9 hne
    · rw [hc9] at g3
      refine ct_1 S hX htab (by decide) (by decide) (by decide) kE0 g1 g2 g3 ?_
      refine lv_astore_n (lv' := [(3, .ref (q9)), (0, .ref (a 0)), (1, .int (v)), (2, .ref (b))]) S.1 S.2.1 dL_setHelpers_12 rfl hl (by decide) rfl (fun ls hl => ?_)
      refine lv_iconst (v := 1) S.1 S.2.1 dL_setHelpers_13 (by decide) ?_
      exact ret_x hQ (Nat.le_of_eq (Nat.zero_add _)) (Nat.le_of_eq (Nat.zero_add _)) (en_i (v := (1)) ((((pS 4 0 3 v z : PO).2.2, y, k), (v0)) : (St × St × St) × Int64) rfl S hr hlk hw ⟨hc9.symm, rfl, fun h => absurd (show (pS 4 0 3 v z : PO).1 = 0 from h) (by rw [hc9]; decide)⟩ dL_setHelpers_14)
  · skip
    obtain ⟨hc9, rfl, rfl⟩ := hp9
    have hw : WD G (gL G k1 a (pS 4 0 3 v z : PO).2.2 y k b (v0)) A s H locs := hw9.sub [1, 2, 3, 4, 5, 6, 7, 8, 9, 10, 11, 12, 13, 14, 15, 16, 17, 18, 19, 20, 21, 22, 23, 24, 25, 26, 27, 0] rfl rfl
    refine lv_i2l S.1 S.2.1 dL_setHelpers_7 rfl ?_
    refine la_s S hL hw 27 rfl rfl dL_setHelpers_8 (fun H locs hw => ?_)
    have hw : WD G (gL G k1 a (pS 4 0 3 v z : PO).2.2 y k b (((pS 4 0 3 v z : PO).2.1).toInt64)) A s H locs := hw
    refine lv_goto (tgt := 15) S.1 S.2.1 dL_setHelpers_9 (by decide) ?_
    refine lv_iconst (v := 0) S.1 S.2.1 dL_setHelpers_15 (by decide) ?_
    exact ret_x hQ (Nat.le_of_eq (Nat.zero_add _)) (Nat.le_of_eq (Nat.zero_add _)) (en_i (v := (0)) ((((pS 4 0 3 v z : PO).2.2, y, k), (((pS 4 0 3 v z : PO).2.1).toInt64)) : (St × St × St) × Int64) rfl S hr hlk hw ⟨hc9.symm, rfl, fun _ => rfl⟩ dL_setHelpers_16)

theorem hd_L_setSeed : yL_setSeed.cls ≠ "java/lang/invoke/MethodHandle" ∧ yL_setSeed.cls ≠ "java/lang/invoke/VarHandle" ∧ (parseMethodDescriptor yL_setSeed.desc).map (fun d => d.parameters.length) = some 3 := by decide +kernel
set_option maxHeartbeats 4000000 in
set_option maxRecDepth 100000 in
theorem c_L_setSeed (l : Launch) (G : GA) (k1 k2 : ClassId) (b : Nat) (v0 : Int64) (a : Nat → Nat) (z y k : St) (sz : Nat) (v : Int32) : vx_Met l yL_setSeed wsL_setSeed ({ frames := 7, cells := xc (pS 1 0 2147483647 v z : PO).1, slots := 6 * xc (pS 1 0 2147483647 v z : PO).1, locals := 120 }) (va_Pc [.ref (a 0), .int (v), .ref (b)] (PL l G k1 k2 (gL G k1 a z y k b (v0)) sz)) (va_Qi (fun (r : Int32) (u : (St × St × St) × Int64) => r = (pS 1 0 2147483647 v z : PO).1 ∧ u.1 = ((pS 1 0 2147483647 v z : PO).2.2, y, k) ∧ ((pS 1 0 2147483647 v z : PO).1 = 0 → u.2 = (pS 1 0 2147483647 v z : PO).2.1.toInt64)) (fun (u : (St × St × St) × Int64) t => va_P G.1 gcl (gL G k1 a u.1.1 u.1.2.1 u.1.2.2 b u.2) t.heap) (va_A (gL G k1 a z y k b (v0)) sz)) (vx_X (fun (u : (St × St × St) × Int64) => False) (fun E u t => E = xIAE ∧ va_P G.1 gcl (gL G k1 a u.1.1 u.1.2.1 u.1.2.2 b u.2) t.heap) (va_A (gL G k1 a z y k b (v0)) sz)) (xc (pS 1 0 2147483647 v z : PO).1) (6 * xc (pS 1 0 2147483647 v z : PO).1) (va_A (gL G k1 a z y k b (v0)) sz) := by
  refine met_l (hh := [(0, 9, 12, 13)]) (cc := cL_setSeed) (maxL := 4) (ret := (some .int)) (fun A => va_Qi (fun (r : Int32) (u : (St × St × St) × Int64) => r = (pS 1 0 2147483647 v z : PO).1 ∧ u.1 = ((pS 1 0 2147483647 v z : PO).2.2, y, k) ∧ ((pS 1 0 2147483647 v z : PO).1 = 0 → u.2 = (pS 1 0 2147483647 v z : PO).2.1.toInt64)) (fun (u : (St × St × St) × Int64) t => va_P G.1 gcl (gL G k1 a u.1.1 u.1.2.1 u.1.2.2 b u.2) t.heap) A) (fun A => vx_X (fun (u : (St × St × St) × Int64) => False) (fun E u t => E = xIAE ∧ va_P G.1 gcl (gL G k1 a u.1.1 u.1.2.1 u.1.2.2 b u.2) t.heap) A) (by decide) rfl (Nat.le_of_ble_eq_true rfl) ?_
  intro p e s m args below meth c R Q A H ls hR hQ S hr hlk htab hK hX hL hsz hH hAe hA hw hl
  have hl : lv_has ls 4 [(0, .ref (a 0)), (1, .int (v)), (2, .ref (b))] := hl
  have kE0 : (Cond.classLink RL 13 xIAE).before args s = true := S.2.2.2.2 _ (by decide +kernel : (Cond.classLink RL 13 xIAE) ∈ wsL_setSeed)
  refine lv_aload_n S.1 S.2.1 dL_setSeed_0 rfl (lv_at hl 2 rfl) ?_
  refine lv_iconst (v := 0) S.1 S.2.1 dL_setSeed_1 (by decide) ?_
  refine lv_aload_n S.1 S.2.1 dL_setSeed_2 rfl (lv_at hl 0 rfl) ?_
  refine lv_iload_n S.1 S.2.1 dL_setSeed_3 rfl (lv_at hl 1 rfl) ?_
  have hwc : WD G (gp G a z y k) A s H _ := hw.sub [0, 1, 2, 3, 4, 5, 6, 7, 8, 9, 10, 11, 12, 13, 14, 15, 16, 17, 18, 19, 20, 21, 22, 23, 24, 25, 26] rfl rfl
  refine cx_i (wc := gp G a z y k) (wr := [(b, .inl (k1, (1, .inr (.inl (fun _ => v0)))))]) (vx_runV (As := [.int (v)]) (rest := [.int 0, .ref (b)]) S (c_X4_setSeed l G a z y k H.size v ) (cwV 1 S.2.2.2.2 gL_setSeed_X4_setSeed rfl rfl rfl hd_X4_setSeed ⟨by rw [hR]; exact Nat.le_of_ble_eq_true rfl, by rw [hR]; exact Nat.le_of_ble_eq_true rfl⟩) ⟨PX.blind, va_recv hK.1 hwc.1 (ci := 4) (q0 := 0) rfl rfl, fun U hU hW => ⟨rfl, PX.of hK hX hwc (va_free hw.2.1 hw.2.2 hA [0, 1, 2, 3, 4, 5, 6, 7, 8, 9, 10, 11, 12, 13, 14, 15, 16, 17, 18, 19, 20, 21, 22, 23, 24, 25, 26] rfl) hU hW⟩⟩ rfl rfl hl.1 rfl (lv_room (Nat.le_of_ble_eq_true rfl)) dL_setSeed_4 ⟨by rw [hR]; exact Nat.le_of_eq (Nat.zero_add _), by rw [hR]; exact Nat.le_of_eq (Nat.zero_add _)⟩) hw hA [0, 1, 2, 3, 4, 5, 6, 7, 8, 9, 10, 11, 12, 13, 14, 15, 16, 17, 18, 19, 20, 21, 22, 23, 24, 25, 26] [27] rfl rfl rfl rfl (by decide) (fun _ => rfl) (fun _ => rfl) (fun ce q9 u9 H locs hpx hw9 g1 g2 g3 => ?_) (fun r9 u9 H locs hp9 hw9 => ?_)
  · skip
    obtain ⟨hne, rfl⟩ := hpx
    have hw : WD G (gL G k1 a (pS 1 0 2147483647 v z : PO).2.2 y k b (v0)) A s H locs := hw9.sub [1, 2, 3, 4, 5, 6, 7, 8, 9, 10, 11, 12, 13, 14, 15, 16, 17, 18, 19, 20, 21, 22, 23, 24, 25, 26, 27, 0] rfl rfl
    rcases cS with hc9 | hc9
    · exact absurd hc9 hne
    · rw [hc9] at g3
      refine ct_1 S hX htab (by decide) (by decide) (by decide) kE0 g1 g2 g3 ?_
      refine lv_astore_n (lv' := [(3, .ref (q9)), (0, .ref (a 0)), (1, .int (v)), (2, .ref (b))]) S.1 S.2.1 dL_setSeed_12 rfl hl (by decide) rfl (fun ls hl => ?_)
      refine lv_iconst (v := 1) S.1 S.2.1 dL_setSeed_13 (by decide) ?_
      exact ret_x hQ (Nat.le_of_eq (Nat.zero_add _)) (Nat.le_of_eq (Nat.zero_add _)) (en_i (v := (1)) ((((pS 1 0 2147483647 v z : PO).2.2, y, k), (v0)) : (St × St × St) × Int64) rfl S hr hlk hw ⟨hc9.symm, rfl, fun h => absurd (show (pS 1 0 2147483647 v z : PO).1 = 0 from h) (by rw [hc9]; decide)⟩ dL_setSeed_14)
  · skip
    obtain ⟨hc9, rfl, rfl⟩ := hp9
    have hw : WD G (gL G k1 a (pS 1 0 2147483647 v z : PO).2.2 y k b (v0)) A s H locs := hw9.sub [1, 2, 3, 4, 5, 6, 7, 8, 9, 10, 11, 12, 13, 14, 15, 16, 17, 18, 19, 20, 21, 22, 23, 24, 25, 26, 27, 0] rfl rfl
    refine lv_i2l S.1 S.2.1 dL_setSeed_7 rfl ?_
    refine la_s S hL hw 27 rfl rfl dL_setSeed_8 (fun H locs hw => ?_)
    have hw : WD G (gL G k1 a (pS 1 0 2147483647 v z : PO).2.2 y k b (((pS 1 0 2147483647 v z : PO).2.1).toInt64)) A s H locs := hw
    refine lv_goto (tgt := 15) S.1 S.2.1 dL_setSeed_9 (by decide) ?_
    refine lv_iconst (v := 0) S.1 S.2.1 dL_setSeed_15 (by decide) ?_
    exact ret_x hQ (Nat.le_of_eq (Nat.zero_add _)) (Nat.le_of_eq (Nat.zero_add _)) (en_i (v := (0)) ((((pS 1 0 2147483647 v z : PO).2.2, y, k), (((pS 1 0 2147483647 v z : PO).2.1).toInt64)) : (St × St × St) × Int64) rfl S hr hlk hw ⟨hc9.symm, rfl, fun _ => rfl⟩ dL_setSeed_16)

theorem hd_L_join : yL_join.cls ≠ "java/lang/invoke/MethodHandle" ∧ yL_join.cls ≠ "java/lang/invoke/VarHandle" ∧ (parseMethodDescriptor yL_join.desc).map (fun d => d.parameters.length) = some 4 := by decide +kernel
set_option maxHeartbeats 4000000 in
set_option maxRecDepth 100000 in
theorem c_L_join (l : Launch) (G : GA) (k1 k2 : ClassId) (b : Nat) (v0 : Int64) (a : Nat → Nat) (z y k : St) (sz : Nat) (v : Int32) (w : Int32) (iz : Inv z) : vx_Met l yL_join wsL_join ({ frames := 8, cells := xc (pJ v w z : PO).1, slots := 6 * xc (pJ v w z : PO).1, locals := 132 }) (va_Pc [.ref (a 0), .int (v), .int (w), .ref (b)] (PL l G k1 k2 (gL G k1 a z y k b (v0)) sz)) (va_Qi (fun (r : Int32) (u : (St × St × St) × Int64) => r = (pJ v w z : PO).1 ∧ u.1 = ((pJ v w z : PO).2.2, y, k) ∧ ((pJ v w z : PO).1 = 0 → u.2 = (pJ v w z : PO).2.1.toInt64)) (fun (u : (St × St × St) × Int64) t => va_P G.1 gcl (gL G k1 a u.1.1 u.1.2.1 u.1.2.2 b u.2) t.heap) (va_A (gL G k1 a z y k b (v0)) sz)) (vx_X (fun (u : (St × St × St) × Int64) => False) (fun E u t => E = xIAE ∧ va_P G.1 gcl (gL G k1 a u.1.1 u.1.2.1 u.1.2.2 b u.2) t.heap) (va_A (gL G k1 a z y k b (v0)) sz)) (xc (pJ v w z : PO).1) (6 * xc (pJ v w z : PO).1) (va_A (gL G k1 a z y k b (v0)) sz) := by
  refine met_l (hh := [(0, 10, 13, 28), (0, 10, 17, 30), (0, 10, 21, 13)]) (cc := cL_join) (maxL := 5) (ret := (some .int)) (fun A => va_Qi (fun (r : Int32) (u : (St × St × St) × Int64) => r = (pJ v w z : PO).1 ∧ u.1 = ((pJ v w z : PO).2.2, y, k) ∧ ((pJ v w z : PO).1 = 0 → u.2 = (pJ v w z : PO).2.1.toInt64)) (fun (u : (St × St × St) × Int64) t => va_P G.1 gcl (gL G k1 a u.1.1 u.1.2.1 u.1.2.2 b u.2) t.heap) A) (fun A => vx_X (fun (u : (St × St × St) × Int64) => False) (fun E u t => E = xIAE ∧ va_P G.1 gcl (gL G k1 a u.1.1 u.1.2.1 u.1.2.2 b u.2) t.heap) A) (by decide) rfl (Nat.le_of_ble_eq_true rfl) ?_
  intro p e s m args below meth c R Q A H ls hR hQ S hr hlk htab hK hX hL hsz hH hAe hA hw hl
  have hl : lv_has ls 5 [(0, .ref (a 0)), (1, .int (v)), (2, .int (w)), (3, .ref (b))] := hl
  have kE0 : (Cond.classLink RL 28 xIOE).before args s = true := S.2.2.2.2 _ (by decide +kernel : (Cond.classLink RL 28 xIOE) ∈ wsL_join)
  have kE1 : (Cond.classLink RL 30 xISE).before args s = true := S.2.2.2.2 _ (by decide +kernel : (Cond.classLink RL 30 xISE) ∈ wsL_join)
  have kE2 : (Cond.classLink RL 13 xIAE).before args s = true := S.2.2.2.2 _ (by decide +kernel : (Cond.classLink RL 13 xIAE) ∈ wsL_join)
  refine lv_aload_n S.1 S.2.1 dL_join_0 rfl (lv_at hl 3 rfl) ?_
  refine lv_iconst (v := 0) S.1 S.2.1 dL_join_1 (by decide) ?_
  refine lv_aload_n S.1 S.2.1 dL_join_2 rfl (lv_at hl 0 rfl) ?_
  refine lv_iload_n S.1 S.2.1 dL_join_3 rfl (lv_at hl 1 rfl) ?_
  refine lv_iload_n S.1 S.2.1 dL_join_4 rfl (lv_at hl 2 rfl) ?_
  have hwc : WD G (gp G a z y k) A s H _ := hw.sub [0, 1, 2, 3, 4, 5, 6, 7, 8, 9, 10, 11, 12, 13, 14, 15, 16, 17, 18, 19, 20, 21, 22, 23, 24, 25, 26] rfl rfl
  refine cx_i (wc := gp G a z y k) (wr := [(b, .inl (k1, (1, .inr (.inl (fun _ => v0)))))]) (vx_runV (As := [.int (v), .int (w)]) (rest := [.int 0, .ref (b)]) S (c_X4_join l G a z y k H.size v w iz) (cwV 2 S.2.2.2.2 gL_join_X4_join rfl rfl rfl hd_X4_join ⟨by rw [hR]; exact Nat.le_of_ble_eq_true rfl, by rw [hR]; exact Nat.le_of_ble_eq_true rfl⟩) ⟨PX.blind, va_recv hK.1 hwc.1 (ci := 4) (q0 := 0) rfl rfl, fun U hU hW => ⟨rfl, PX.of hK hX hwc (va_free hw.2.1 hw.2.2 hA [0, 1, 2, 3, 4, 5, 6, 7, 8, 9, 10, 11, 12, 13, 14, 15, 16, 17, 18, 19, 20, 21, 22, 23, 24, 25, 26] rfl) hU hW⟩⟩ rfl rfl hl.1 rfl (lv_room (Nat.le_of_ble_eq_true rfl)) dL_join_5 ⟨by rw [hR]; exact Nat.le_of_eq (Nat.zero_add _), by rw [hR]; exact Nat.le_of_eq (Nat.zero_add _)⟩) hw hA [0, 1, 2, 3, 4, 5, 6, 7, 8, 9, 10, 11, 12, 13, 14, 15, 16, 17, 18, 19, 20, 21, 22, 23, 24, 25, 26] [27] rfl rfl rfl rfl (by decide) (fun _ => rfl) (fun _ => rfl) (fun ce q9 u9 H locs hpx hw9 g1 g2 g3 => ?_) (fun r9 u9 H locs hp9 hw9 => ?_)
  · skip
    obtain ⟨hne, rfl⟩ := hpx
    have hw : WD G (gL G k1 a (pJ v w z : PO).2.2 y k b (v0)) A s H locs := hw9.sub [1, 2, 3, 4, 5, 6, 7, 8, 9, 10, 11, 12, 13, 14, 15, 16, 17, 18, 19, 20, 21, 22, 23, 24, 25, 26, 27, 0] rfl rfl
    rcases cJ with hc9 | hc9 | hc9 | hc9
    · exact absurd hc9 hne
    · rw [hc9] at g3
      refine ct_1 S hX htab (by decide) (by decide) (by decide) kE0 g1 g2 g3 ?_
      refine lv_astore (lv' := [(4, .ref (q9)), (0, .ref (a 0)), (1, .int (v)), (2, .int (w)), (3, .ref (b))]) S.1 S.2.1 dL_join_13 hl (by decide) rfl (fun ls hl => ?_)
      refine lv_iconst (v := 1) S.1 S.2.1 dL_join_15 (by decide) ?_
      exact ret_x hQ (Nat.le_of_eq (Nat.zero_add _)) (Nat.le_of_eq (Nat.zero_add _)) (en_i (v := (1)) ((((pJ v w z : PO).2.2, y, k), (v0)) : (St × St × St) × Int64) rfl S hr hlk hw ⟨hc9.symm, rfl, fun h => absurd (show (pJ v w z : PO).1 = 0 from h) (by rw [hc9]; decide)⟩ dL_join_16)
    · rw [hc9] at g3
      refine ct_2 S hX htab (by decide) (by decide) (by decide) kE0 (by decide) (by decide) kE1 g1 g2 g3 ?_
      refine lv_astore (lv' := [(4, .ref (q9)), (0, .ref (a 0)), (1, .int (v)), (2, .int (w)), (3, .ref (b))]) S.1 S.2.1 dL_join_17 hl (by decide) rfl (fun ls hl => ?_)
      refine lv_iconst (v := 2) S.1 S.2.1 dL_join_19 (by decide) ?_
      exact ret_x hQ (Nat.le_of_eq (Nat.zero_add _)) (Nat.le_of_eq (Nat.zero_add _)) (en_i (v := (2)) ((((pJ v w z : PO).2.2, y, k), (v0)) : (St × St × St) × Int64) rfl S hr hlk hw ⟨hc9.symm, rfl, fun h => absurd (show (pJ v w z : PO).1 = 0 from h) (by rw [hc9]; decide)⟩ dL_join_20)
    · rw [hc9] at g3
      refine ct_3 S hX htab (by decide) (by decide) (by decide) kE0 (by decide) (by decide) kE1 (by decide) (by decide) kE2 g1 g2 g3 ?_
      refine lv_astore (lv' := [(4, .ref (q9)), (0, .ref (a 0)), (1, .int (v)), (2, .int (w)), (3, .ref (b))]) S.1 S.2.1 dL_join_21 hl (by decide) rfl (fun ls hl => ?_)
      refine lv_iconst (v := 3) S.1 S.2.1 dL_join_23 (by decide) ?_
      exact ret_x hQ (Nat.le_of_eq (Nat.zero_add _)) (Nat.le_of_eq (Nat.zero_add _)) (en_i (v := (3)) ((((pJ v w z : PO).2.2, y, k), (v0)) : (St × St × St) × Int64) rfl S hr hlk hw ⟨hc9.symm, rfl, fun h => absurd (show (pJ v w z : PO).1 = 0 from h) (by rw [hc9]; decide)⟩ dL_join_24)
  · skip
    obtain ⟨hc9, rfl, rfl⟩ := hp9
    have hw : WD G (gL G k1 a (pJ v w z : PO).2.2 y k b (v0)) A s H locs := hw9.sub [1, 2, 3, 4, 5, 6, 7, 8, 9, 10, 11, 12, 13, 14, 15, 16, 17, 18, 19, 20, 21, 22, 23, 24, 25, 26, 27, 0] rfl rfl
    refine lv_i2l S.1 S.2.1 dL_join_8 rfl ?_
    refine la_s S hL hw 27 rfl rfl dL_join_9 (fun H locs hw => ?_)
    have hw : WD G (gL G k1 a (pJ v w z : PO).2.2 y k b (((pJ v w z : PO).2.1).toInt64)) A s H locs := hw
    refine lv_goto (tgt := 25) S.1 S.2.1 dL_join_10 (by decide) ?_
    refine lv_iconst (v := 0) S.1 S.2.1 dL_join_25 (by decide) ?_
    exact ret_x hQ (Nat.le_of_eq (Nat.zero_add _)) (Nat.le_of_eq (Nat.zero_add _)) (en_i (v := (0)) ((((pJ v w z : PO).2.2, y, k), (((pJ v w z : PO).2.1).toInt64)) : (St × St × St) × Int64) rfl S hr hlk hw ⟨hc9.symm, rfl, fun _ => rfl⟩ dL_join_26)

theorem hd_L_crash : yL_crash.cls ≠ "java/lang/invoke/MethodHandle" ∧ yL_crash.cls ≠ "java/lang/invoke/VarHandle" ∧ (parseMethodDescriptor yL_crash.desc).map (fun d => d.parameters.length) = some 3 := by decide +kernel
set_option maxHeartbeats 4000000 in
set_option maxRecDepth 100000 in
theorem c_L_crash (l : Launch) (G : GA) (k1 k2 : ClassId) (b : Nat) (v0 : Int64) (a : Nat → Nat) (z y k : St) (sz : Nat) (v : Int32) (iz : Inv z) : vx_Met l yL_crash wsL_crash ({ frames := 8, cells := xc (pC v z : PO).1, slots := 6 * xc (pC v z : PO).1, locals := 131 }) (va_Pc [.ref (a 0), .int (v), .ref (b)] (PL l G k1 k2 (gL G k1 a z y k b (v0)) sz)) (va_Qi (fun (r : Int32) (u : (St × St × St) × Int64) => r = (pC v z : PO).1 ∧ u.1 = ((pC v z : PO).2.2, y, k) ∧ ((pC v z : PO).1 = 0 → u.2 = (pC v z : PO).2.1.toInt64)) (fun (u : (St × St × St) × Int64) t => va_P G.1 gcl (gL G k1 a u.1.1 u.1.2.1 u.1.2.2 b u.2) t.heap) (va_A (gL G k1 a z y k b (v0)) sz)) (vx_X (fun (u : (St × St × St) × Int64) => False) (fun E u t => E = xIAE ∧ va_P G.1 gcl (gL G k1 a u.1.1 u.1.2.1 u.1.2.2 b u.2) t.heap) (va_A (gL G k1 a z y k b (v0)) sz)) (xc (pC v z : PO).1) (6 * xc (pC v z : PO).1) (va_A (gL G k1 a z y k b (v0)) sz) := by
  refine met_l (hh := [(0, 9, 12, 28), (0, 9, 15, 30)]) (cc := cL_crash) (maxL := 4) (ret := (some .int)) (fun A => va_Qi (fun (r : Int32) (u : (St × St × St) × Int64) => r = (pC v z : PO).1 ∧ u.1 = ((pC v z : PO).2.2, y, k) ∧ ((pC v z : PO).1 = 0 → u.2 = (pC v z : PO).2.1.toInt64)) (fun (u : (St × St × St) × Int64) t => va_P G.1 gcl (gL G k1 a u.1.1 u.1.2.1 u.1.2.2 b u.2) t.heap) A) (fun A => vx_X (fun (u : (St × St × St) × Int64) => False) (fun E u t => E = xIAE ∧ va_P G.1 gcl (gL G k1 a u.1.1 u.1.2.1 u.1.2.2 b u.2) t.heap) A) (by decide) rfl (Nat.le_of_ble_eq_true rfl) ?_
  intro p e s m args below meth c R Q A H ls hR hQ S hr hlk htab hK hX hL hsz hH hAe hA hw hl
  have hl : lv_has ls 4 [(0, .ref (a 0)), (1, .int (v)), (2, .ref (b))] := hl
  have kE0 : (Cond.classLink RL 28 xIOE).before args s = true := S.2.2.2.2 _ (by decide +kernel : (Cond.classLink RL 28 xIOE) ∈ wsL_crash)
  have kE1 : (Cond.classLink RL 30 xISE).before args s = true := S.2.2.2.2 _ (by decide +kernel : (Cond.classLink RL 30 xISE) ∈ wsL_crash)
  refine lv_aload_n S.1 S.2.1 dL_crash_0 rfl (lv_at hl 2 rfl) ?_
  refine lv_iconst (v := 0) S.1 S.2.1 dL_crash_1 (by decide) ?_
  refine lv_aload_n S.1 S.2.1 dL_crash_2 rfl (lv_at hl 0 rfl) ?_
  refine lv_iload_n S.1 S.2.1 dL_crash_3 rfl (lv_at hl 1 rfl) ?_
  have hwc : WD G (gp G a z y k) A s H _ := hw.sub [0, 1, 2, 3, 4, 5, 6, 7, 8, 9, 10, 11, 12, 13, 14, 15, 16, 17, 18, 19, 20, 21, 22, 23, 24, 25, 26] rfl rfl
  refine cx_i (wc := gp G a z y k) (wr := [(b, .inl (k1, (1, .inr (.inl (fun _ => v0)))))]) (vx_runV (As := [.int (v)]) (rest := [.int 0, .ref (b)]) S (c_X4_crash l G a z y k H.size v iz) (cwV 1 S.2.2.2.2 gL_crash_X4_crash rfl rfl rfl hd_X4_crash ⟨by rw [hR]; exact Nat.le_of_ble_eq_true rfl, by rw [hR]; exact Nat.le_of_ble_eq_true rfl⟩) ⟨PX.blind, va_recv hK.1 hwc.1 (ci := 4) (q0 := 0) rfl rfl, fun U hU hW => ⟨rfl, PX.of hK hX hwc (va_free hw.2.1 hw.2.2 hA [0, 1, 2, 3, 4, 5, 6, 7, 8, 9, 10, 11, 12, 13, 14, 15, 16, 17, 18, 19, 20, 21, 22, 23, 24, 25, 26] rfl) hU hW⟩⟩ rfl rfl hl.1 rfl (lv_room (Nat.le_of_ble_eq_true rfl)) dL_crash_4 ⟨by rw [hR]; exact Nat.le_of_eq (Nat.zero_add _), by rw [hR]; exact Nat.le_of_eq (Nat.zero_add _)⟩) hw hA [0, 1, 2, 3, 4, 5, 6, 7, 8, 9, 10, 11, 12, 13, 14, 15, 16, 17, 18, 19, 20, 21, 22, 23, 24, 25, 26] [27] rfl rfl rfl rfl (by decide) (fun _ => rfl) (fun _ => rfl) (fun ce q9 u9 H locs hpx hw9 g1 g2 g3 => ?_) (fun r9 u9 H locs hp9 hw9 => ?_)
  · skip
    obtain ⟨hne, rfl⟩ := hpx
    have hw : WD G (gL G k1 a (pC v z : PO).2.2 y k b (v0)) A s H locs := hw9.sub [1, 2, 3, 4, 5, 6, 7, 8, 9, 10, 11, 12, 13, 14, 15, 16, 17, 18, 19, 20, 21, 22, 23, 24, 25, 26, 27, 0] rfl rfl
    rcases cC with hc9 | hc9 | hc9
    · exact absurd hc9 hne
    · rw [hc9] at g3
      refine ct_1 S hX htab (by decide) (by decide) (by decide) kE0 g1 g2 g3 ?_
      refine lv_astore_n (lv' := [(3, .ref (q9)), (0, .ref (a 0)), (1, .int (v)), (2, .ref (b))]) S.1 S.2.1 dL_crash_12 rfl hl (by decide) rfl (fun ls hl => ?_)
      refine lv_iconst (v := 1) S.1 S.2.1 dL_crash_13 (by decide) ?_
      exact ret_x hQ (Nat.le_of_eq (Nat.zero_add _)) (Nat.le_of_eq (Nat.zero_add _)) (en_i (v := (1)) ((((pC v z : PO).2.2, y, k), (v0)) : (St × St × St) × Int64) rfl S hr hlk hw ⟨hc9.symm, rfl, fun h => absurd (show (pC v z : PO).1 = 0 from h) (by rw [hc9]; decide)⟩ dL_crash_14)
    · rw [hc9] at g3
      refine ct_2 S hX htab (by decide) (by decide) (by decide) kE0 (by decide) (by decide) kE1 g1 g2 g3 ?_
      refine lv_astore_n (lv' := [(3, .ref (q9)), (0, .ref (a 0)), (1, .int (v)), (2, .ref (b))]) S.1 S.2.1 dL_crash_15 rfl hl (by decide) rfl (fun ls hl => ?_)
      refine lv_iconst (v := 2) S.1 S.2.1 dL_crash_16 (by decide) ?_
      exact ret_x hQ (Nat.le_of_eq (Nat.zero_add _)) (Nat.le_of_eq (Nat.zero_add _)) (en_i (v := (2)) ((((pC v z : PO).2.2, y, k), (v0)) : (St × St × St) × Int64) rfl S hr hlk hw ⟨hc9.symm, rfl, fun h => absurd (show (pC v z : PO).1 = 0 from h) (by rw [hc9]; decide)⟩ dL_crash_17)
  · skip
    obtain ⟨hc9, rfl, rfl⟩ := hp9
    have hw : WD G (gL G k1 a (pC v z : PO).2.2 y k b (v0)) A s H locs := hw9.sub [1, 2, 3, 4, 5, 6, 7, 8, 9, 10, 11, 12, 13, 14, 15, 16, 17, 18, 19, 20, 21, 22, 23, 24, 25, 26, 27, 0] rfl rfl
    refine lv_i2l S.1 S.2.1 dL_crash_7 rfl ?_
    refine la_s S hL hw 27 rfl rfl dL_crash_8 (fun H locs hw => ?_)
    have hw : WD G (gL G k1 a (pC v z : PO).2.2 y k b (((pC v z : PO).2.1).toInt64)) A s H locs := hw
    refine lv_goto (tgt := 18) S.1 S.2.1 dL_crash_9 (by decide) ?_
    refine lv_iconst (v := 0) S.1 S.2.1 dL_crash_18 (by decide) ?_
    exact ret_x hQ (Nat.le_of_eq (Nat.zero_add _)) (Nat.le_of_eq (Nat.zero_add _)) (en_i (v := (0)) ((((pC v z : PO).2.2, y, k), (((pC v z : PO).2.1).toInt64)) : (St × St × St) × Int64) rfl S hr hlk hw ⟨hc9.symm, rfl, fun _ => rfl⟩ dL_crash_19)

theorem hd_L_move : yL_move.cls ≠ "java/lang/invoke/MethodHandle" ∧ yL_move.cls ≠ "java/lang/invoke/VarHandle" ∧ (parseMethodDescriptor yL_move.desc).map (fun d => d.parameters.length) = some 4 := by decide +kernel
set_option maxHeartbeats 4000000 in
set_option maxRecDepth 100000 in
theorem c_L_move (l : Launch) (G : GA) (k1 k2 : ClassId) (b : Nat) (v0 : Int64) (a : Nat → Nat) (z y k : St) (sz : Nat) (v : Int32) (q : Int32) (iz : Inv z) : vx_Met l yL_move wsL_move ({ frames := 8, cells := xc (pM v q z : PO).1, slots := 6 * xc (pM v q z : PO).1, locals := 133 }) (va_Pc [.ref (a 0), .int (v), .int (q), .ref (b)] (PL l G k1 k2 (gL G k1 a z y k b (v0)) sz)) (va_Qi (fun (r : Int32) (u : (St × St × St) × Int64) => r = (pM v q z : PO).1 ∧ u.1 = ((pM v q z : PO).2.2, y, k) ∧ ((pM v q z : PO).1 = 0 → u.2 = (pM v q z : PO).2.1.toInt64)) (fun (u : (St × St × St) × Int64) t => va_P G.1 gcl (gL G k1 a u.1.1 u.1.2.1 u.1.2.2 b u.2) t.heap) (va_A (gL G k1 a z y k b (v0)) sz)) (vx_X (fun (u : (St × St × St) × Int64) => False) (fun E u t => E = xIAE ∧ va_P G.1 gcl (gL G k1 a u.1.1 u.1.2.1 u.1.2.2 b u.2) t.heap) (va_A (gL G k1 a z y k b (v0)) sz)) (xc (pM v q z : PO).1) (6 * xc (pM v q z : PO).1) (va_A (gL G k1 a z y k b (v0)) sz) := by
  refine met_l (hh := [(0, 10, 13, 28), (0, 10, 17, 13)]) (cc := cL_move) (maxL := 5) (ret := (some .int)) (fun A => va_Qi (fun (r : Int32) (u : (St × St × St) × Int64) => r = (pM v q z : PO).1 ∧ u.1 = ((pM v q z : PO).2.2, y, k) ∧ ((pM v q z : PO).1 = 0 → u.2 = (pM v q z : PO).2.1.toInt64)) (fun (u : (St × St × St) × Int64) t => va_P G.1 gcl (gL G k1 a u.1.1 u.1.2.1 u.1.2.2 b u.2) t.heap) A) (fun A => vx_X (fun (u : (St × St × St) × Int64) => False) (fun E u t => E = xIAE ∧ va_P G.1 gcl (gL G k1 a u.1.1 u.1.2.1 u.1.2.2 b u.2) t.heap) A) (by decide) rfl (Nat.le_of_ble_eq_true rfl) ?_
  intro p e s m args below meth c R Q A H ls hR hQ S hr hlk htab hK hX hL hsz hH hAe hA hw hl
  have hl : lv_has ls 5 [(0, .ref (a 0)), (1, .int (v)), (2, .int (q)), (3, .ref (b))] := hl
  have kE0 : (Cond.classLink RL 28 xIOE).before args s = true := S.2.2.2.2 _ (by decide +kernel : (Cond.classLink RL 28 xIOE) ∈ wsL_move)
  have kE1 : (Cond.classLink RL 13 xIAE).before args s = true := S.2.2.2.2 _ (by decide +kernel : (Cond.classLink RL 13 xIAE) ∈ wsL_move)
  refine lv_aload_n S.1 S.2.1 dL_move_0 rfl (lv_at hl 3 rfl) ?_
  refine lv_iconst (v := 0) S.1 S.2.1 dL_move_1 (by decide) ?_
  refine lv_aload_n S.1 S.2.1 dL_move_2 rfl (lv_at hl 0 rfl) ?_
  refine lv_iload_n S.1 S.2.1 dL_move_3 rfl (lv_at hl 1 rfl) ?_
  refine lv_iload_n S.1 S.2.1 dL_move_4 rfl (lv_at hl 2 rfl) ?_
  have hwc : WD G (gp G a z y k) A s H _ := hw.sub [0, 1, 2, 3, 4, 5, 6, 7, 8, 9, 10, 11, 12, 13, 14, 15, 16, 17, 18, 19, 20, 21, 22, 23, 24, 25, 26] rfl rfl
  refine cx_i (wc := gp G a z y k) (wr := [(b, .inl (k1, (1, .inr (.inl (fun _ => v0)))))]) (vx_runV (As := [.int (v), .int (q)]) (rest := [.int 0, .ref (b)]) S (c_X4_move l G a z y k H.size v q iz) (cwV 2 S.2.2.2.2 gL_move_X4_move rfl rfl rfl hd_X4_move ⟨by rw [hR]; exact Nat.le_of_ble_eq_true rfl, by rw [hR]; exact Nat.le_of_ble_eq_true rfl⟩) ⟨PX.blind, va_recv hK.1 hwc.1 (ci := 4) (q0 := 0) rfl rfl, fun U hU hW => ⟨rfl, PX.of hK hX hwc (va_free hw.2.1 hw.2.2 hA [0, 1, 2, 3, 4, 5, 6, 7, 8, 9, 10, 11, 12, 13, 14, 15, 16, 17, 18, 19, 20, 21, 22, 23, 24, 25, 26] rfl) hU hW⟩⟩ rfl rfl hl.1 rfl (lv_room (Nat.le_of_ble_eq_true rfl)) dL_move_5 ⟨by rw [hR]; exact Nat.le_of_eq (Nat.zero_add _), by rw [hR]; exact Nat.le_of_eq (Nat.zero_add _)⟩) hw hA [0, 1, 2, 3, 4, 5, 6, 7, 8, 9, 10, 11, 12, 13, 14, 15, 16, 17, 18, 19, 20, 21, 22, 23, 24, 25, 26] [27] rfl rfl rfl rfl (by decide) (fun _ => rfl) (fun _ => rfl) (fun ce q9 u9 H locs hpx hw9 g1 g2 g3 => ?_) (fun r9 u9 H locs hp9 hw9 => ?_)
  · skip
    obtain ⟨hne, rfl⟩ := hpx
    have hw : WD G (gL G k1 a (pM v q z : PO).2.2 y k b (v0)) A s H locs := hw9.sub [1, 2, 3, 4, 5, 6, 7, 8, 9, 10, 11, 12, 13, 14, 15, 16, 17, 18, 19, 20, 21, 22, 23, 24, 25, 26, 27, 0] rfl rfl
    rcases cM with hc9 | hc9 | hc9
    · exact absurd hc9 hne
    · rw [hc9] at g3
      refine ct_1 S hX htab (by decide) (by decide) (by decide) kE0 g1 g2 g3 ?_
      refine lv_astore (lv' := [(4, .ref (q9)), (0, .ref (a 0)), (1, .int (v)), (2, .int (q)), (3, .ref (b))]) S.1 S.2.1 dL_move_13 hl (by decide) rfl (fun ls hl => ?_)
      refine lv_iconst (v := 1) S.1 S.2.1 dL_move_15 (by decide) ?_
      exact ret_x hQ (Nat.le_of_eq (Nat.zero_add _)) (Nat.le_of_eq (Nat.zero_add _)) (en_i (v := (1)) ((((pM v q z : PO).2.2, y, k), (v0)) : (St × St × St) × Int64) rfl S hr hlk hw ⟨hc9.symm, rfl, fun h => absurd (show (pM v q z : PO).1 = 0 from h) (by rw [hc9]; decide)⟩ dL_move_16)
    · rw [hc9] at g3
      refine ct_2 S hX htab (by decide) (by decide) (by decide) kE0 (by decide) (by decide) kE1 g1 g2 g3 ?_
      refine lv_astore (lv' := [(4, .ref (q9)), (0, .ref (a 0)), (1, .int (v)), (2, .int (q)), (3, .ref (b))]) S.1 S.2.1 dL_move_17 hl (by decide) rfl (fun ls hl => ?_)
      refine lv_iconst (v := 2) S.1 S.2.1 dL_move_19 (by decide) ?_
      exact ret_x hQ (Nat.le_of_eq (Nat.zero_add _)) (Nat.le_of_eq (Nat.zero_add _)) (en_i (v := (2)) ((((pM v q z : PO).2.2, y, k), (v0)) : (St × St × St) × Int64) rfl S hr hlk hw ⟨hc9.symm, rfl, fun h => absurd (show (pM v q z : PO).1 = 0 from h) (by rw [hc9]; decide)⟩ dL_move_20)
  · skip
    obtain ⟨hc9, rfl, rfl⟩ := hp9
    have hw : WD G (gL G k1 a (pM v q z : PO).2.2 y k b (v0)) A s H locs := hw9.sub [1, 2, 3, 4, 5, 6, 7, 8, 9, 10, 11, 12, 13, 14, 15, 16, 17, 18, 19, 20, 21, 22, 23, 24, 25, 26, 27, 0] rfl rfl
    refine lv_i2l S.1 S.2.1 dL_move_8 rfl ?_
    refine la_s S hL hw 27 rfl rfl dL_move_9 (fun H locs hw => ?_)
    have hw : WD G (gL G k1 a (pM v q z : PO).2.2 y k b (((pM v q z : PO).2.1).toInt64)) A s H locs := hw
    refine lv_goto (tgt := 21) S.1 S.2.1 dL_move_10 (by decide) ?_
    refine lv_iconst (v := 0) S.1 S.2.1 dL_move_21 (by decide) ?_
    exact ret_x hQ (Nat.le_of_eq (Nat.zero_add _)) (Nat.le_of_eq (Nat.zero_add _)) (en_i (v := (0)) ((((pM v q z : PO).2.2, y, k), (((pM v q z : PO).2.1).toInt64)) : (St × St × St) × Int64) rfl S hr hlk hw ⟨hc9.symm, rfl, fun _ => rfl⟩ dL_move_22)

theorem hd_L_rounds : yL_rounds.cls ≠ "java/lang/invoke/MethodHandle" ∧ yL_rounds.cls ≠ "java/lang/invoke/VarHandle" ∧ (parseMethodDescriptor yL_rounds.desc).map (fun d => d.parameters.length) = some 3 := by decide +kernel
set_option maxHeartbeats 4000000 in
set_option maxRecDepth 100000 in
theorem c_L_rounds (l : Launch) (G : GA) (k1 k2 : ClassId) (b : Nat) (v0 : Int64) (a : Nat → Nat) (z y k : St) (sz : Nat) (q : Int32) (iz : Inv z) : vx_Met l yL_rounds wsL_rounds ({ frames := 7, cells := xc (pR q z : PO).1, slots := 6 * xc (pR q z : PO).1, locals := 157 }) (va_Pc [.ref (a 0), .int (q), .ref (b)] (PL l G k1 k2 (gL G k1 a z y k b (v0)) sz)) (va_Qi (fun (r : Int32) (u : (St × St × St) × Int64) => r = (pR q z : PO).1 ∧ u.1 = ((pR q z : PO).2.2, y, k) ∧ ((pR q z : PO).1 = 0 → u.2 = (pR q z : PO).2.1.toInt64)) (fun (u : (St × St × St) × Int64) t => va_P G.1 gcl (gL G k1 a u.1.1 u.1.2.1 u.1.2.2 b u.2) t.heap) (va_A (gL G k1 a z y k b (v0)) sz)) (vx_X (fun (u : (St × St × St) × Int64) => False) (fun E u t => E = xIAE ∧ va_P G.1 gcl (gL G k1 a u.1.1 u.1.2.1 u.1.2.2 b u.2) t.heap) (va_A (gL G k1 a z y k b (v0)) sz)) (xc (pR q z : PO).1) (6 * xc (pR q z : PO).1) (va_A (gL G k1 a z y k b (v0)) sz) := by
  refine met_l (hh := [(0, 9, 12, 13)]) (cc := cL_rounds) (maxL := 4) (ret := (some .int)) (fun A => va_Qi (fun (r : Int32) (u : (St × St × St) × Int64) => r = (pR q z : PO).1 ∧ u.1 = ((pR q z : PO).2.2, y, k) ∧ ((pR q z : PO).1 = 0 → u.2 = (pR q z : PO).2.1.toInt64)) (fun (u : (St × St × St) × Int64) t => va_P G.1 gcl (gL G k1 a u.1.1 u.1.2.1 u.1.2.2 b u.2) t.heap) A) (fun A => vx_X (fun (u : (St × St × St) × Int64) => False) (fun E u t => E = xIAE ∧ va_P G.1 gcl (gL G k1 a u.1.1 u.1.2.1 u.1.2.2 b u.2) t.heap) A) (by decide) rfl (Nat.le_of_ble_eq_true rfl) ?_
  intro p e s m args below meth c R Q A H ls hR hQ S hr hlk htab hK hX hL hsz hH hAe hA hw hl
  have hl : lv_has ls 4 [(0, .ref (a 0)), (1, .int (q)), (2, .ref (b))] := hl
  have kE0 : (Cond.classLink RL 13 xIAE).before args s = true := S.2.2.2.2 _ (by decide +kernel : (Cond.classLink RL 13 xIAE) ∈ wsL_rounds)
  refine lv_aload_n S.1 S.2.1 dL_rounds_0 rfl (lv_at hl 2 rfl) ?_
  refine lv_iconst (v := 0) S.1 S.2.1 dL_rounds_1 (by decide) ?_
  refine lv_aload_n S.1 S.2.1 dL_rounds_2 rfl (lv_at hl 0 rfl) ?_
  refine lv_iload_n S.1 S.2.1 dL_rounds_3 rfl (lv_at hl 1 rfl) ?_
  have hwc : WD G (gp G a z y k) A s H _ := hw.sub [0, 1, 2, 3, 4, 5, 6, 7, 8, 9, 10, 11, 12, 13, 14, 15, 16, 17, 18, 19, 20, 21, 22, 23, 24, 25, 26] rfl rfl
  refine cx_i (wc := gp G a z y k) (wr := [(b, .inl (k1, (1, .inr (.inl (fun _ => v0)))))]) (vx_runV (As := [.int (q)]) (rest := [.int 0, .ref (b)]) S (c_X4_rounds l G a z y k H.size q iz) (cwV 1 S.2.2.2.2 gL_rounds_X4_rounds rfl rfl rfl hd_X4_rounds ⟨by rw [hR]; exact Nat.le_of_ble_eq_true rfl, by rw [hR]; exact Nat.le_of_ble_eq_true rfl⟩) ⟨PX.blind, va_recv hK.1 hwc.1 (ci := 4) (q0 := 0) rfl rfl, fun U hU hW => ⟨rfl, PX.of hK hX hwc (va_free hw.2.1 hw.2.2 hA [0, 1, 2, 3, 4, 5, 6, 7, 8, 9, 10, 11, 12, 13, 14, 15, 16, 17, 18, 19, 20, 21, 22, 23, 24, 25, 26] rfl) hU hW⟩⟩ rfl rfl hl.1 rfl (lv_room (Nat.le_of_ble_eq_true rfl)) dL_rounds_4 ⟨by rw [hR]; exact Nat.le_of_eq (Nat.zero_add _), by rw [hR]; exact Nat.le_of_eq (Nat.zero_add _)⟩) hw hA [0, 1, 2, 3, 4, 5, 6, 7, 8, 9, 10, 11, 12, 13, 14, 15, 16, 17, 18, 19, 20, 21, 22, 23, 24, 25, 26] [27] rfl rfl rfl rfl (by decide) (fun _ => rfl) (fun _ => rfl) (fun ce q9 u9 H locs hpx hw9 g1 g2 g3 => ?_) (fun r9 u9 H locs hp9 hw9 => ?_)
  · skip
    obtain ⟨hne, rfl⟩ := hpx
    have hw : WD G (gL G k1 a (pR q z : PO).2.2 y k b (v0)) A s H locs := hw9.sub [1, 2, 3, 4, 5, 6, 7, 8, 9, 10, 11, 12, 13, 14, 15, 16, 17, 18, 19, 20, 21, 22, 23, 24, 25, 26, 27, 0] rfl rfl
    rcases cR with hc9 | hc9
    · exact absurd hc9 hne
    · rw [hc9] at g3
      refine ct_1 S hX htab (by decide) (by decide) (by decide) kE0 g1 g2 g3 ?_
      refine lv_astore_n (lv' := [(3, .ref (q9)), (0, .ref (a 0)), (1, .int (q)), (2, .ref (b))]) S.1 S.2.1 dL_rounds_12 rfl hl (by decide) rfl (fun ls hl => ?_)
      refine lv_iconst (v := 1) S.1 S.2.1 dL_rounds_13 (by decide) ?_
      exact ret_x hQ (Nat.le_of_eq (Nat.zero_add _)) (Nat.le_of_eq (Nat.zero_add _)) (en_i (v := (1)) ((((pR q z : PO).2.2, y, k), (v0)) : (St × St × St) × Int64) rfl S hr hlk hw ⟨hc9.symm, rfl, fun h => absurd (show (pR q z : PO).1 = 0 from h) (by rw [hc9]; decide)⟩ dL_rounds_14)
  · skip
    obtain ⟨hc9, rfl, rfl⟩ := hp9
    have hw : WD G (gL G k1 a (pR q z : PO).2.2 y k b (v0)) A s H locs := hw9.sub [1, 2, 3, 4, 5, 6, 7, 8, 9, 10, 11, 12, 13, 14, 15, 16, 17, 18, 19, 20, 21, 22, 23, 24, 25, 26, 27, 0] rfl rfl
    refine lv_i2l S.1 S.2.1 dL_rounds_7 rfl ?_
    refine la_s S hL hw 27 rfl rfl dL_rounds_8 (fun H locs hw => ?_)
    have hw : WD G (gL G k1 a (pR q z : PO).2.2 y k b (((pR q z : PO).2.1).toInt64)) A s H locs := hw
    refine lv_goto (tgt := 15) S.1 S.2.1 dL_rounds_9 (by decide) ?_
    refine lv_iconst (v := 0) S.1 S.2.1 dL_rounds_15 (by decide) ?_
    exact ret_x hQ (Nat.le_of_eq (Nat.zero_add _)) (Nat.le_of_eq (Nat.zero_add _)) (en_i (v := (0)) ((((pR q z : PO).2.2, y, k), (((pR q z : PO).2.1).toInt64)) : (St × St × St) × Int64) rfl S hr hlk hw ⟨hc9.symm, rfl, fun _ => rfl⟩ dL_rounds_16)

theorem hd_L_roundsUntilAgreement : yL_roundsUntilAgreement.cls ≠ "java/lang/invoke/MethodHandle" ∧ yL_roundsUntilAgreement.cls ≠ "java/lang/invoke/VarHandle" ∧ (parseMethodDescriptor yL_roundsUntilAgreement.desc).map (fun d => d.parameters.length) = some 3 := by decide +kernel
set_option maxHeartbeats 4000000 in
set_option maxRecDepth 100000 in
theorem c_L_roundsUntilAgreement (l : Launch) (G : GA) (k1 k2 : ClassId) (b : Nat) (v0 : Int64) (a : Nat → Nat) (z y k : St) (sz : Nat) (q : Int32) (iz : Inv z) : vx_Met l yL_roundsUntilAgreement wsL_roundsUntilAgreement ({ frames := 7, cells := xc (pU q z : PO).1, slots := 6 * xc (pU q z : PO).1, locals := 159 }) (va_Pc [.ref (a 0), .int (q), .ref (b)] (PL l G k1 k2 (gL G k1 a z y k b (v0)) sz)) (va_Qi (fun (r : Int32) (u : (St × St × St) × Int64) => r = (pU q z : PO).1 ∧ u.1 = ((pU q z : PO).2.2, y, k) ∧ ((pU q z : PO).1 = 0 → u.2 = (pU q z : PO).2.1.toInt64)) (fun (u : (St × St × St) × Int64) t => va_P G.1 gcl (gL G k1 a u.1.1 u.1.2.1 u.1.2.2 b u.2) t.heap) (va_A (gL G k1 a z y k b (v0)) sz)) (vx_X (fun (u : (St × St × St) × Int64) => False) (fun E u t => E = xIAE ∧ va_P G.1 gcl (gL G k1 a u.1.1 u.1.2.1 u.1.2.2 b u.2) t.heap) (va_A (gL G k1 a z y k b (v0)) sz)) (xc (pU q z : PO).1) (6 * xc (pU q z : PO).1) (va_A (gL G k1 a z y k b (v0)) sz) := by
  refine met_l (hh := [(0, 9, 12, 13), (0, 9, 15, 48)]) (cc := cL_roundsUntilAgreement) (maxL := 4) (ret := (some .int)) (fun A => va_Qi (fun (r : Int32) (u : (St × St × St) × Int64) => r = (pU q z : PO).1 ∧ u.1 = ((pU q z : PO).2.2, y, k) ∧ ((pU q z : PO).1 = 0 → u.2 = (pU q z : PO).2.1.toInt64)) (fun (u : (St × St × St) × Int64) t => va_P G.1 gcl (gL G k1 a u.1.1 u.1.2.1 u.1.2.2 b u.2) t.heap) A) (fun A => vx_X (fun (u : (St × St × St) × Int64) => False) (fun E u t => E = xIAE ∧ va_P G.1 gcl (gL G k1 a u.1.1 u.1.2.1 u.1.2.2 b u.2) t.heap) A) (by decide) rfl (Nat.le_of_ble_eq_true rfl) ?_
  intro p e s m args below meth c R Q A H ls hR hQ S hr hlk htab hK hX hL hsz hH hAe hA hw hl
  have hl : lv_has ls 4 [(0, .ref (a 0)), (1, .int (q)), (2, .ref (b))] := hl
  have kE0 : (Cond.classLink RL 13 xIAE).before args s = true := S.2.2.2.2 _ (by decide +kernel : (Cond.classLink RL 13 xIAE) ∈ wsL_roundsUntilAgreement)
  have kE1 : (Cond.classLink RL 48 xNSE).before args s = true := S.2.2.2.2 _ (by decide +kernel : (Cond.classLink RL 48 xNSE) ∈ wsL_roundsUntilAgreement)
  refine lv_aload_n S.1 S.2.1 dL_roundsUntilAgreement_0 rfl (lv_at hl 2 rfl) ?_
  refine lv_iconst (v := 0) S.1 S.2.1 dL_roundsUntilAgreement_1 (by decide) ?_
  refine lv_aload_n S.1 S.2.1 dL_roundsUntilAgreement_2 rfl (lv_at hl 0 rfl) ?_
  refine lv_iload_n S.1 S.2.1 dL_roundsUntilAgreement_3 rfl (lv_at hl 1 rfl) ?_
  have hwc : WD G (gp G a z y k) A s H _ := hw.sub [0, 1, 2, 3, 4, 5, 6, 7, 8, 9, 10, 11, 12, 13, 14, 15, 16, 17, 18, 19, 20, 21, 22, 23, 24, 25, 26] rfl rfl
  refine cx_i (wc := gp G a z y k) (wr := [(b, .inl (k1, (1, .inr (.inl (fun _ => v0)))))]) (vx_runV (As := [.int (q)]) (rest := [.int 0, .ref (b)]) S (c_X4_roundsUntilAgreement l G a z y k H.size q iz) (cwV 1 S.2.2.2.2 gL_roundsUntilAgreement_X4_roundsUntilAgreement rfl rfl rfl hd_X4_roundsUntilAgreement ⟨by rw [hR]; exact Nat.le_of_ble_eq_true rfl, by rw [hR]; exact Nat.le_of_ble_eq_true rfl⟩) ⟨PX.blind, va_recv hK.1 hwc.1 (ci := 4) (q0 := 0) rfl rfl, fun U hU hW => ⟨rfl, PX.of hK hX hwc (va_free hw.2.1 hw.2.2 hA [0, 1, 2, 3, 4, 5, 6, 7, 8, 9, 10, 11, 12, 13, 14, 15, 16, 17, 18, 19, 20, 21, 22, 23, 24, 25, 26] rfl) hU hW⟩⟩ rfl rfl hl.1 rfl (lv_room (Nat.le_of_ble_eq_true rfl)) dL_roundsUntilAgreement_4 ⟨by rw [hR]; exact Nat.le_of_eq (Nat.zero_add _), by rw [hR]; exact Nat.le_of_eq (Nat.zero_add _)⟩) hw hA [0, 1, 2, 3, 4, 5, 6, 7, 8, 9, 10, 11, 12, 13, 14, 15, 16, 17, 18, 19, 20, 21, 22, 23, 24, 25, 26] [27] rfl rfl rfl rfl (by decide) (fun _ => rfl) (fun _ => rfl) (fun ce q9 u9 H locs hpx hw9 g1 g2 g3 => ?_) (fun r9 u9 H locs hp9 hw9 => ?_)
  · skip
    obtain ⟨hne, rfl⟩ := hpx
    have hw : WD G (gL G k1 a (pU q z : PO).2.2 y k b (v0)) A s H locs := hw9.sub [1, 2, 3, 4, 5, 6, 7, 8, 9, 10, 11, 12, 13, 14, 15, 16, 17, 18, 19, 20, 21, 22, 23, 24, 25, 26, 27, 0] rfl rfl
    rcases cU with hc9 | hc9 | hc9
    · exact absurd hc9 hne
    · rw [hc9] at g3
      refine ct_1 S hX htab (by decide) (by decide) (by decide) kE0 g1 g2 g3 ?_
      refine lv_astore_n (lv' := [(3, .ref (q9)), (0, .ref (a 0)), (1, .int (q)), (2, .ref (b))]) S.1 S.2.1 dL_roundsUntilAgreement_12 rfl hl (by decide) rfl (fun ls hl => ?_)
      refine lv_iconst (v := 1) S.1 S.2.1 dL_roundsUntilAgreement_13 (by decide) ?_
      exact ret_x hQ (Nat.le_of_eq (Nat.zero_add _)) (Nat.le_of_eq (Nat.zero_add _)) (en_i (v := (1)) ((((pU q z : PO).2.2, y, k), (v0)) : (St × St × St) × Int64) rfl S hr hlk hw ⟨hc9.symm, rfl, fun h => absurd (show (pU q z : PO).1 = 0 from h) (by rw [hc9]; decide)⟩ dL_roundsUntilAgreement_14)
    · rw [hc9] at g3
      refine ct_2 S hX htab (by decide) (by decide) (by decide) kE0 (by decide) (by decide) kE1 g1 g2 g3 ?_
      refine lv_astore_n (lv' := [(3, .ref (q9)), (0, .ref (a 0)), (1, .int (q)), (2, .ref (b))]) S.1 S.2.1 dL_roundsUntilAgreement_15 rfl hl (by decide) rfl (fun ls hl => ?_)
      refine lv_iconst (v := 2) S.1 S.2.1 dL_roundsUntilAgreement_16 (by decide) ?_
      exact ret_x hQ (Nat.le_of_eq (Nat.zero_add _)) (Nat.le_of_eq (Nat.zero_add _)) (en_i (v := (2)) ((((pU q z : PO).2.2, y, k), (v0)) : (St × St × St) × Int64) rfl S hr hlk hw ⟨hc9.symm, rfl, fun h => absurd (show (pU q z : PO).1 = 0 from h) (by rw [hc9]; decide)⟩ dL_roundsUntilAgreement_17)
  · skip
    obtain ⟨hc9, rfl, rfl⟩ := hp9
    have hw : WD G (gL G k1 a (pU q z : PO).2.2 y k b (v0)) A s H locs := hw9.sub [1, 2, 3, 4, 5, 6, 7, 8, 9, 10, 11, 12, 13, 14, 15, 16, 17, 18, 19, 20, 21, 22, 23, 24, 25, 26, 27, 0] rfl rfl
    refine lv_i2l S.1 S.2.1 dL_roundsUntilAgreement_7 rfl ?_
    refine la_s S hL hw 27 rfl rfl dL_roundsUntilAgreement_8 (fun H locs hw => ?_)
    have hw : WD G (gL G k1 a (pU q z : PO).2.2 y k b (((pU q z : PO).2.1).toInt64)) A s H locs := hw
    refine lv_goto (tgt := 18) S.1 S.2.1 dL_roundsUntilAgreement_9 (by decide) ?_
    refine lv_iconst (v := 0) S.1 S.2.1 dL_roundsUntilAgreement_18 (by decide) ?_
    exact ret_x hQ (Nat.le_of_eq (Nat.zero_add _)) (Nat.le_of_eq (Nat.zero_add _)) (en_i (v := (0)) ((((pU q z : PO).2.2, y, k), (((pU q z : PO).2.1).toInt64)) : (St × St × St) × Int64) rfl S hr hlk hw ⟨hc9.symm, rfl, fun _ => rfl⟩ dL_roundsUntilAgreement_19)

theorem hd_L_partition : yL_partition.cls ≠ "java/lang/invoke/MethodHandle" ∧ yL_partition.cls ≠ "java/lang/invoke/VarHandle" ∧ (parseMethodDescriptor yL_partition.desc).map (fun d => d.parameters.length) = some 3 := by decide +kernel
set_option maxHeartbeats 4000000 in
set_option maxRecDepth 100000 in
theorem c_L_partition (l : Launch) (G : GA) (k1 k2 : ClassId) (b : Nat) (v0 : Int64) (a : Nat → Nat) (z y k : St) (sz : Nat) (v : Int32) (iz : Inv z) : vx_Met l yL_partition wsL_partition ({ frames := 8, cells := xc (pA1 3 v z : PO).1, slots := 6 * xc (pA1 3 v z : PO).1, locals := 131 }) (va_Pc [.ref (a 0), .int (v), .ref (b)] (PL l G k1 k2 (gL G k1 a z y k b (v0)) sz)) (va_Qi (fun (r : Int32) (u : (St × St × St) × Int64) => r = (pA1 3 v z : PO).1 ∧ u.1 = ((pA1 3 v z : PO).2.2, y, k) ∧ ((pA1 3 v z : PO).1 = 0 → u.2 = (pA1 3 v z : PO).2.1.toInt64)) (fun (u : (St × St × St) × Int64) t => va_P G.1 gcl (gL G k1 a u.1.1 u.1.2.1 u.1.2.2 b u.2) t.heap) (va_A (gL G k1 a z y k b (v0)) sz)) (vx_X (fun (u : (St × St × St) × Int64) => False) (fun E u t => E = xIAE ∧ va_P G.1 gcl (gL G k1 a u.1.1 u.1.2.1 u.1.2.2 b u.2) t.heap) (va_A (gL G k1 a z y k b (v0)) sz)) (xc (pA1 3 v z : PO).1) (6 * xc (pA1 3 v z : PO).1) (va_A (gL G k1 a z y k b (v0)) sz) := by
  refine met_l (hh := [(0, 9, 12, 28)]) (cc := cL_partition) (maxL := 4) (ret := (some .int)) (fun A => va_Qi (fun (r : Int32) (u : (St × St × St) × Int64) => r = (pA1 3 v z : PO).1 ∧ u.1 = ((pA1 3 v z : PO).2.2, y, k) ∧ ((pA1 3 v z : PO).1 = 0 → u.2 = (pA1 3 v z : PO).2.1.toInt64)) (fun (u : (St × St × St) × Int64) t => va_P G.1 gcl (gL G k1 a u.1.1 u.1.2.1 u.1.2.2 b u.2) t.heap) A) (fun A => vx_X (fun (u : (St × St × St) × Int64) => False) (fun E u t => E = xIAE ∧ va_P G.1 gcl (gL G k1 a u.1.1 u.1.2.1 u.1.2.2 b u.2) t.heap) A) (by decide) rfl (Nat.le_of_ble_eq_true rfl) ?_
  intro p e s m args below meth c R Q A H ls hR hQ S hr hlk htab hK hX hL hsz hH hAe hA hw hl
  have hl : lv_has ls 4 [(0, .ref (a 0)), (1, .int (v)), (2, .ref (b))] := hl
  have kE0 : (Cond.classLink RL 28 xIOE).before args s = true := S.2.2.2.2 _ (by decide +kernel : (Cond.classLink RL 28 xIOE) ∈ wsL_partition)
  refine lv_aload_n S.1 S.2.1 dL_partition_0 rfl (lv_at hl 2 rfl) ?_
  refine lv_iconst (v := 0) S.1 S.2.1 dL_partition_1 (by decide) ?_
  refine lv_aload_n S.1 S.2.1 dL_partition_2 rfl (lv_at hl 0 rfl) ?_
  refine lv_iload_n S.1 S.2.1 dL_partition_3 rfl (lv_at hl 1 rfl) ?_
  have hwc : WD G (gp G a z y k) A s H _ := hw.sub [0, 1, 2, 3, 4, 5, 6, 7, 8, 9, 10, 11, 12, 13, 14, 15, 16, 17, 18, 19, 20, 21, 22, 23, 24, 25, 26] rfl rfl
  refine cx_i (wc := gp G a z y k) (wr := [(b, .inl (k1, (1, .inr (.inl (fun _ => v0)))))]) (vx_runV (As := [.int (v)]) (rest := [.int 0, .ref (b)]) S (c_X4_partition l G a z y k H.size v iz) (cwV 1 S.2.2.2.2 gL_partition_X4_partition rfl rfl rfl hd_X4_partition ⟨by rw [hR]; exact Nat.le_of_ble_eq_true rfl, by rw [hR]; exact Nat.le_of_ble_eq_true rfl⟩) ⟨PX.blind, va_recv hK.1 hwc.1 (ci := 4) (q0 := 0) rfl rfl, fun U hU hW => ⟨rfl, PX.of hK hX hwc (va_free hw.2.1 hw.2.2 hA [0, 1, 2, 3, 4, 5, 6, 7, 8, 9, 10, 11, 12, 13, 14, 15, 16, 17, 18, 19, 20, 21, 22, 23, 24, 25, 26] rfl) hU hW⟩⟩ rfl rfl hl.1 rfl (lv_room (Nat.le_of_ble_eq_true rfl)) dL_partition_4 ⟨by rw [hR]; exact Nat.le_of_eq (Nat.zero_add _), by rw [hR]; exact Nat.le_of_eq (Nat.zero_add _)⟩) hw hA [0, 1, 2, 3, 4, 5, 6, 7, 8, 9, 10, 11, 12, 13, 14, 15, 16, 17, 18, 19, 20, 21, 22, 23, 24, 25, 26] [27] rfl rfl rfl rfl (by decide) (fun _ => rfl) (fun _ => rfl) (fun ce q9 u9 H locs hpx hw9 g1 g2 g3 => ?_) (fun r9 u9 H locs hp9 hw9 => ?_)
  · skip
    obtain ⟨hne, rfl⟩ := hpx
    have hw : WD G (gL G k1 a (pA1 3 v z : PO).2.2 y k b (v0)) A s H locs := hw9.sub [1, 2, 3, 4, 5, 6, 7, 8, 9, 10, 11, 12, 13, 14, 15, 16, 17, 18, 19, 20, 21, 22, 23, 24, 25, 26, 27, 0] rfl rfl
    rcases cA1 with hc9 | hc9
    · exact absurd hc9 hne
    · rw [hc9] at g3
      refine ct_1 S hX htab (by decide) (by decide) (by decide) kE0 g1 g2 g3 ?_
      refine lv_astore_n (lv' := [(3, .ref (q9)), (0, .ref (a 0)), (1, .int (v)), (2, .ref (b))]) S.1 S.2.1 dL_partition_12 rfl hl (by decide) rfl (fun ls hl => ?_)
      refine lv_iconst (v := 1) S.1 S.2.1 dL_partition_13 (by decide) ?_
      exact ret_x hQ (Nat.le_of_eq (Nat.zero_add _)) (Nat.le_of_eq (Nat.zero_add _)) (en_i (v := (1)) ((((pA1 3 v z : PO).2.2, y, k), (v0)) : (St × St × St) × Int64) rfl S hr hlk hw ⟨hc9.symm, rfl, fun h => absurd (show (pA1 3 v z : PO).1 = 0 from h) (by rw [hc9]; decide)⟩ dL_partition_14)
  · skip
    obtain ⟨hc9, rfl, rfl⟩ := hp9
    have hw : WD G (gL G k1 a (pA1 3 v z : PO).2.2 y k b (v0)) A s H locs := hw9.sub [1, 2, 3, 4, 5, 6, 7, 8, 9, 10, 11, 12, 13, 14, 15, 16, 17, 18, 19, 20, 21, 22, 23, 24, 25, 26, 27, 0] rfl rfl
    refine lv_i2l S.1 S.2.1 dL_partition_7 rfl ?_
    refine la_s S hL hw 27 rfl rfl dL_partition_8 (fun H locs hw => ?_)
    have hw : WD G (gL G k1 a (pA1 3 v z : PO).2.2 y k b (((pA1 3 v z : PO).2.1).toInt64)) A s H locs := hw
    refine lv_goto (tgt := 15) S.1 S.2.1 dL_partition_9 (by decide) ?_
    refine lv_iconst (v := 0) S.1 S.2.1 dL_partition_15 (by decide) ?_
    exact ret_x hQ (Nat.le_of_eq (Nat.zero_add _)) (Nat.le_of_eq (Nat.zero_add _)) (en_i (v := (0)) ((((pA1 3 v z : PO).2.2, y, k), (((pA1 3 v z : PO).2.1).toInt64)) : (St × St × St) × Int64) rfl S hr hlk hw ⟨hc9.symm, rfl, fun _ => rfl⟩ dL_partition_16)

theorem hd_L_incarnation : yL_incarnation.cls ≠ "java/lang/invoke/MethodHandle" ∧ yL_incarnation.cls ≠ "java/lang/invoke/VarHandle" ∧ (parseMethodDescriptor yL_incarnation.desc).map (fun d => d.parameters.length) = some 3 := by decide +kernel
set_option maxHeartbeats 4000000 in
set_option maxRecDepth 100000 in
theorem c_L_incarnation (l : Launch) (G : GA) (k1 k2 : ClassId) (b : Nat) (v0 : Int64) (a : Nat → Nat) (z y k : St) (sz : Nat) (v : Int32) (iz : Inv z) : vx_Met l yL_incarnation wsL_incarnation ({ frames := 8, cells := xc (pA1 4 v z : PO).1, slots := 6 * xc (pA1 4 v z : PO).1, locals := 131 }) (va_Pc [.ref (a 0), .int (v), .ref (b)] (PL l G k1 k2 (gL G k1 a z y k b (v0)) sz)) (va_Qi (fun (r : Int32) (u : (St × St × St) × Int64) => r = (pA1 4 v z : PO).1 ∧ u.1 = ((pA1 4 v z : PO).2.2, y, k) ∧ ((pA1 4 v z : PO).1 = 0 → u.2 = (pA1 4 v z : PO).2.1.toInt64)) (fun (u : (St × St × St) × Int64) t => va_P G.1 gcl (gL G k1 a u.1.1 u.1.2.1 u.1.2.2 b u.2) t.heap) (va_A (gL G k1 a z y k b (v0)) sz)) (vx_X (fun (u : (St × St × St) × Int64) => False) (fun E u t => E = xIAE ∧ va_P G.1 gcl (gL G k1 a u.1.1 u.1.2.1 u.1.2.2 b u.2) t.heap) (va_A (gL G k1 a z y k b (v0)) sz)) (xc (pA1 4 v z : PO).1) (6 * xc (pA1 4 v z : PO).1) (va_A (gL G k1 a z y k b (v0)) sz) := by
  refine met_l (hh := [(0, 9, 12, 28)]) (cc := cL_incarnation) (maxL := 4) (ret := (some .int)) (fun A => va_Qi (fun (r : Int32) (u : (St × St × St) × Int64) => r = (pA1 4 v z : PO).1 ∧ u.1 = ((pA1 4 v z : PO).2.2, y, k) ∧ ((pA1 4 v z : PO).1 = 0 → u.2 = (pA1 4 v z : PO).2.1.toInt64)) (fun (u : (St × St × St) × Int64) t => va_P G.1 gcl (gL G k1 a u.1.1 u.1.2.1 u.1.2.2 b u.2) t.heap) A) (fun A => vx_X (fun (u : (St × St × St) × Int64) => False) (fun E u t => E = xIAE ∧ va_P G.1 gcl (gL G k1 a u.1.1 u.1.2.1 u.1.2.2 b u.2) t.heap) A) (by decide) rfl (Nat.le_of_ble_eq_true rfl) ?_
  intro p e s m args below meth c R Q A H ls hR hQ S hr hlk htab hK hX hL hsz hH hAe hA hw hl
  have hl : lv_has ls 4 [(0, .ref (a 0)), (1, .int (v)), (2, .ref (b))] := hl
  have kE0 : (Cond.classLink RL 28 xIOE).before args s = true := S.2.2.2.2 _ (by decide +kernel : (Cond.classLink RL 28 xIOE) ∈ wsL_incarnation)
  refine lv_aload_n S.1 S.2.1 dL_incarnation_0 rfl (lv_at hl 2 rfl) ?_
  refine lv_iconst (v := 0) S.1 S.2.1 dL_incarnation_1 (by decide) ?_
  refine lv_aload_n S.1 S.2.1 dL_incarnation_2 rfl (lv_at hl 0 rfl) ?_
  refine lv_iload_n S.1 S.2.1 dL_incarnation_3 rfl (lv_at hl 1 rfl) ?_
  have hwc : WD G (gp G a z y k) A s H _ := hw.sub [0, 1, 2, 3, 4, 5, 6, 7, 8, 9, 10, 11, 12, 13, 14, 15, 16, 17, 18, 19, 20, 21, 22, 23, 24, 25, 26] rfl rfl
  refine cx_i (wc := gp G a z y k) (wr := [(b, .inl (k1, (1, .inr (.inl (fun _ => v0)))))]) (vx_runV (As := [.int (v)]) (rest := [.int 0, .ref (b)]) S (c_X4_incarnation l G a z y k H.size v iz) (cwV 1 S.2.2.2.2 gL_incarnation_X4_incarnation rfl rfl rfl hd_X4_incarnation ⟨by rw [hR]; exact Nat.le_of_ble_eq_true rfl, by rw [hR]; exact Nat.le_of_ble_eq_true rfl⟩) ⟨PX.blind, va_recv hK.1 hwc.1 (ci := 4) (q0 := 0) rfl rfl, fun U hU hW => ⟨rfl, PX.of hK hX hwc (va_free hw.2.1 hw.2.2 hA [0, 1, 2, 3, 4, 5, 6, 7, 8, 9, 10, 11, 12, 13, 14, 15, 16, 17, 18, 19, 20, 21, 22, 23, 24, 25, 26] rfl) hU hW⟩⟩ rfl rfl hl.1 rfl (lv_room (Nat.le_of_ble_eq_true rfl)) dL_incarnation_4 ⟨by rw [hR]; exact Nat.le_of_eq (Nat.zero_add _), by rw [hR]; exact Nat.le_of_eq (Nat.zero_add _)⟩) hw hA [0, 1, 2, 3, 4, 5, 6, 7, 8, 9, 10, 11, 12, 13, 14, 15, 16, 17, 18, 19, 20, 21, 22, 23, 24, 25, 26] [27] rfl rfl rfl rfl (by decide) (fun _ => rfl) (fun _ => rfl) (fun ce q9 u9 H locs hpx hw9 g1 g2 g3 => ?_) (fun r9 u9 H locs hp9 hw9 => ?_)
  · skip
    obtain ⟨hne, rfl⟩ := hpx
    have hw : WD G (gL G k1 a (pA1 4 v z : PO).2.2 y k b (v0)) A s H locs := hw9.sub [1, 2, 3, 4, 5, 6, 7, 8, 9, 10, 11, 12, 13, 14, 15, 16, 17, 18, 19, 20, 21, 22, 23, 24, 25, 26, 27, 0] rfl rfl
    rcases cA1 with hc9 | hc9
    · exact absurd hc9 hne
    · rw [hc9] at g3
      refine ct_1 S hX htab (by decide) (by decide) (by decide) kE0 g1 g2 g3 ?_
      refine lv_astore_n (lv' := [(3, .ref (q9)), (0, .ref (a 0)), (1, .int (v)), (2, .ref (b))]) S.1 S.2.1 dL_incarnation_12 rfl hl (by decide) rfl (fun ls hl => ?_)
      refine lv_iconst (v := 1) S.1 S.2.1 dL_incarnation_13 (by decide) ?_
      exact ret_x hQ (Nat.le_of_eq (Nat.zero_add _)) (Nat.le_of_eq (Nat.zero_add _)) (en_i (v := (1)) ((((pA1 4 v z : PO).2.2, y, k), (v0)) : (St × St × St) × Int64) rfl S hr hlk hw ⟨hc9.symm, rfl, fun h => absurd (show (pA1 4 v z : PO).1 = 0 from h) (by rw [hc9]; decide)⟩ dL_incarnation_14)
  · skip
    obtain ⟨hc9, rfl, rfl⟩ := hp9
    have hw : WD G (gL G k1 a (pA1 4 v z : PO).2.2 y k b (v0)) A s H locs := hw9.sub [1, 2, 3, 4, 5, 6, 7, 8, 9, 10, 11, 12, 13, 14, 15, 16, 17, 18, 19, 20, 21, 22, 23, 24, 25, 26, 27, 0] rfl rfl
    refine lv_i2l S.1 S.2.1 dL_incarnation_7 rfl ?_
    refine la_s S hL hw 27 rfl rfl dL_incarnation_8 (fun H locs hw => ?_)
    have hw : WD G (gL G k1 a (pA1 4 v z : PO).2.2 y k b (((pA1 4 v z : PO).2.1).toInt64)) A s H locs := hw
    refine lv_goto (tgt := 15) S.1 S.2.1 dL_incarnation_9 (by decide) ?_
    refine lv_iconst (v := 0) S.1 S.2.1 dL_incarnation_15 (by decide) ?_
    exact ret_x hQ (Nat.le_of_eq (Nat.zero_add _)) (Nat.le_of_eq (Nat.zero_add _)) (en_i (v := (0)) ((((pA1 4 v z : PO).2.2, y, k), (((pA1 4 v z : PO).2.1).toInt64)) : (St × St × St) × Int64) rfl S hr hlk hw ⟨hc9.symm, rfl, fun _ => rfl⟩ dL_incarnation_16)

theorem hd_L_view : yL_view.cls ≠ "java/lang/invoke/MethodHandle" ∧ yL_view.cls ≠ "java/lang/invoke/VarHandle" ∧ (parseMethodDescriptor yL_view.desc).map (fun d => d.parameters.length) = some 4 := by decide +kernel
set_option maxHeartbeats 4000000 in
set_option maxRecDepth 100000 in
theorem c_L_view (l : Launch) (G : GA) (k1 k2 : ClassId) (b : Nat) (v0 : Int64) (a : Nat → Nat) (z y k : St) (sz : Nat) (v : Int32) (w : Int32) (iz : Inv z) : vx_Met l yL_view wsL_view ({ frames := 9, cells := xc (pV 5 v w z : PO).1, slots := 6 * xc (pV 5 v w z : PO).1, locals := 153 }) (va_Pc [.ref (a 0), .int (v), .int (w), .ref (b)] (PL l G k1 k2 (gL G k1 a z y k b (v0)) sz)) (va_Qi (fun (r : Int32) (u : (St × St × St) × Int64) => r = (pV 5 v w z : PO).1 ∧ u.1 = ((pV 5 v w z : PO).2.2, y, k) ∧ ((pV 5 v w z : PO).1 = 0 → u.2 = (pV 5 v w z : PO).2.1.toInt64)) (fun (u : (St × St × St) × Int64) t => va_P G.1 gcl (gL G k1 a u.1.1 u.1.2.1 u.1.2.2 b u.2) t.heap) (va_A (gL G k1 a z y k b (v0)) sz)) (vx_X (fun (u : (St × St × St) × Int64) => False) (fun E u t => E = xIAE ∧ va_P G.1 gcl (gL G k1 a u.1.1 u.1.2.1 u.1.2.2 b u.2) t.heap) (va_A (gL G k1 a z y k b (v0)) sz)) (xc (pV 5 v w z : PO).1) (6 * xc (pV 5 v w z : PO).1) (va_A (gL G k1 a z y k b (v0)) sz) := by
  refine met_l (hh := [(0, 10, 13, 28), (0, 10, 17, 13)]) (cc := cL_view) (maxL := 5) (ret := (some .int)) (fun A => va_Qi (fun (r : Int32) (u : (St × St × St) × Int64) => r = (pV 5 v w z : PO).1 ∧ u.1 = ((pV 5 v w z : PO).2.2, y, k) ∧ ((pV 5 v w z : PO).1 = 0 → u.2 = (pV 5 v w z : PO).2.1.toInt64)) (fun (u : (St × St × St) × Int64) t => va_P G.1 gcl (gL G k1 a u.1.1 u.1.2.1 u.1.2.2 b u.2) t.heap) A) (fun A => vx_X (fun (u : (St × St × St) × Int64) => False) (fun E u t => E = xIAE ∧ va_P G.1 gcl (gL G k1 a u.1.1 u.1.2.1 u.1.2.2 b u.2) t.heap) A) (by decide) rfl (Nat.le_of_ble_eq_true rfl) ?_
  intro p e s m args below meth c R Q A H ls hR hQ S hr hlk htab hK hX hL hsz hH hAe hA hw hl
  have hl : lv_has ls 5 [(0, .ref (a 0)), (1, .int (v)), (2, .int (w)), (3, .ref (b))] := hl
  have kE0 : (Cond.classLink RL 28 xIOE).before args s = true := S.2.2.2.2 _ (by decide +kernel : (Cond.classLink RL 28 xIOE) ∈ wsL_view)
  have kE1 : (Cond.classLink RL 13 xIAE).before args s = true := S.2.2.2.2 _ (by decide +kernel : (Cond.classLink RL 13 xIAE) ∈ wsL_view)
  refine lv_aload_n S.1 S.2.1 dL_view_0 rfl (lv_at hl 3 rfl) ?_
  refine lv_iconst (v := 0) S.1 S.2.1 dL_view_1 (by decide) ?_
  refine lv_aload_n S.1 S.2.1 dL_view_2 rfl (lv_at hl 0 rfl) ?_
  refine lv_iload_n S.1 S.2.1 dL_view_3 rfl (lv_at hl 1 rfl) ?_
  refine lv_iload_n S.1 S.2.1 dL_view_4 rfl (lv_at hl 2 rfl) ?_
  have hwc : WD G (gp G a z y k) A s H _ := hw.sub [0, 1, 2, 3, 4, 5, 6, 7, 8, 9, 10, 11, 12, 13, 14, 15, 16, 17, 18, 19, 20, 21, 22, 23, 24, 25, 26] rfl rfl
  refine cx_i (wc := gp G a z y k) (wr := [(b, .inl (k1, (1, .inr (.inl (fun _ => v0)))))]) (vx_runV (As := [.int (v), .int (w)]) (rest := [.int 0, .ref (b)]) S (c_X4_view l G a z y k H.size v w iz) (cwV 2 S.2.2.2.2 gL_view_X4_view rfl rfl rfl hd_X4_view ⟨by rw [hR]; exact Nat.le_of_ble_eq_true rfl, by rw [hR]; exact Nat.le_of_ble_eq_true rfl⟩) ⟨PX.blind, va_recv hK.1 hwc.1 (ci := 4) (q0 := 0) rfl rfl, fun U hU hW => ⟨rfl, PX.of hK hX hwc (va_free hw.2.1 hw.2.2 hA [0, 1, 2, 3, 4, 5, 6, 7, 8, 9, 10, 11, 12, 13, 14, 15, 16, 17, 18, 19, 20, 21, 22, 23, 24, 25, 26] rfl) hU hW⟩⟩ rfl rfl hl.1 rfl (lv_room (Nat.le_of_ble_eq_true rfl)) dL_view_5 ⟨by rw [hR]; exact Nat.le_of_eq (Nat.zero_add _), by rw [hR]; exact Nat.le_of_eq (Nat.zero_add _)⟩) hw hA [0, 1, 2, 3, 4, 5, 6, 7, 8, 9, 10, 11, 12, 13, 14, 15, 16, 17, 18, 19, 20, 21, 22, 23, 24, 25, 26] [27] rfl rfl rfl rfl (by decide) (fun _ => rfl) (fun _ => rfl) (fun ce q9 u9 H locs hpx hw9 g1 g2 g3 => ?_) (fun r9 u9 H locs hp9 hw9 => ?_)
  · skip
    obtain ⟨hne, rfl⟩ := hpx
    have hw : WD G (gL G k1 a (pV 5 v w z : PO).2.2 y k b (v0)) A s H locs := hw9.sub [1, 2, 3, 4, 5, 6, 7, 8, 9, 10, 11, 12, 13, 14, 15, 16, 17, 18, 19, 20, 21, 22, 23, 24, 25, 26, 27, 0] rfl rfl
    rcases cV with hc9 | hc9 | hc9
    · exact absurd hc9 hne
    · rw [hc9] at g3
      refine ct_1 S hX htab (by decide) (by decide) (by decide) kE0 g1 g2 g3 ?_
      refine lv_astore (lv' := [(4, .ref (q9)), (0, .ref (a 0)), (1, .int (v)), (2, .int (w)), (3, .ref (b))]) S.1 S.2.1 dL_view_13 hl (by decide) rfl (fun ls hl => ?_)
      refine lv_iconst (v := 1) S.1 S.2.1 dL_view_15 (by decide) ?_
      exact ret_x hQ (Nat.le_of_eq (Nat.zero_add _)) (Nat.le_of_eq (Nat.zero_add _)) (en_i (v := (1)) ((((pV 5 v w z : PO).2.2, y, k), (v0)) : (St × St × St) × Int64) rfl S hr hlk hw ⟨hc9.symm, rfl, fun h => absurd (show (pV 5 v w z : PO).1 = 0 from h) (by rw [hc9]; decide)⟩ dL_view_16)
    · rw [hc9] at g3
      refine ct_2 S hX htab (by decide) (by decide) (by decide) kE0 (by decide) (by decide) kE1 g1 g2 g3 ?_
      refine lv_astore (lv' := [(4, .ref (q9)), (0, .ref (a 0)), (1, .int (v)), (2, .int (w)), (3, .ref (b))]) S.1 S.2.1 dL_view_17 hl (by decide) rfl (fun ls hl => ?_)
      refine lv_iconst (v := 2) S.1 S.2.1 dL_view_19 (by decide) ?_
      exact ret_x hQ (Nat.le_of_eq (Nat.zero_add _)) (Nat.le_of_eq (Nat.zero_add _)) (en_i (v := (2)) ((((pV 5 v w z : PO).2.2, y, k), (v0)) : (St × St × St) × Int64) rfl S hr hlk hw ⟨hc9.symm, rfl, fun h => absurd (show (pV 5 v w z : PO).1 = 0 from h) (by rw [hc9]; decide)⟩ dL_view_20)
  · skip
    obtain ⟨hc9, rfl, rfl⟩ := hp9
    have hw : WD G (gL G k1 a (pV 5 v w z : PO).2.2 y k b (v0)) A s H locs := hw9.sub [1, 2, 3, 4, 5, 6, 7, 8, 9, 10, 11, 12, 13, 14, 15, 16, 17, 18, 19, 20, 21, 22, 23, 24, 25, 26, 27, 0] rfl rfl
    refine lv_i2l S.1 S.2.1 dL_view_8 rfl ?_
    refine la_s S hL hw 27 rfl rfl dL_view_9 (fun H locs hw => ?_)
    have hw : WD G (gL G k1 a (pV 5 v w z : PO).2.2 y k b (((pV 5 v w z : PO).2.1).toInt64)) A s H locs := hw
    refine lv_goto (tgt := 21) S.1 S.2.1 dL_view_10 (by decide) ?_
    refine lv_iconst (v := 0) S.1 S.2.1 dL_view_21 (by decide) ?_
    exact ret_x hQ (Nat.le_of_eq (Nat.zero_add _)) (Nat.le_of_eq (Nat.zero_add _)) (en_i (v := (0)) ((((pV 5 v w z : PO).2.2, y, k), (((pV 5 v w z : PO).2.1).toInt64)) : (St × St × St) × Int64) rfl S hr hlk hw ⟨hc9.symm, rfl, fun _ => rfl⟩ dL_view_22)

theorem hd_L_viewIncarnation : yL_viewIncarnation.cls ≠ "java/lang/invoke/MethodHandle" ∧ yL_viewIncarnation.cls ≠ "java/lang/invoke/VarHandle" ∧ (parseMethodDescriptor yL_viewIncarnation.desc).map (fun d => d.parameters.length) = some 4 := by decide +kernel
set_option maxHeartbeats 4000000 in
set_option maxRecDepth 100000 in
theorem c_L_viewIncarnation (l : Launch) (G : GA) (k1 k2 : ClassId) (b : Nat) (v0 : Int64) (a : Nat → Nat) (z y k : St) (sz : Nat) (v : Int32) (w : Int32) (iz : Inv z) : vx_Met l yL_viewIncarnation wsL_viewIncarnation ({ frames := 9, cells := xc (pV 6 v w z : PO).1, slots := 6 * xc (pV 6 v w z : PO).1, locals := 153 }) (va_Pc [.ref (a 0), .int (v), .int (w), .ref (b)] (PL l G k1 k2 (gL G k1 a z y k b (v0)) sz)) (va_Qi (fun (r : Int32) (u : (St × St × St) × Int64) => r = (pV 6 v w z : PO).1 ∧ u.1 = ((pV 6 v w z : PO).2.2, y, k) ∧ ((pV 6 v w z : PO).1 = 0 → u.2 = (pV 6 v w z : PO).2.1.toInt64)) (fun (u : (St × St × St) × Int64) t => va_P G.1 gcl (gL G k1 a u.1.1 u.1.2.1 u.1.2.2 b u.2) t.heap) (va_A (gL G k1 a z y k b (v0)) sz)) (vx_X (fun (u : (St × St × St) × Int64) => False) (fun E u t => E = xIAE ∧ va_P G.1 gcl (gL G k1 a u.1.1 u.1.2.1 u.1.2.2 b u.2) t.heap) (va_A (gL G k1 a z y k b (v0)) sz)) (xc (pV 6 v w z : PO).1) (6 * xc (pV 6 v w z : PO).1) (va_A (gL G k1 a z y k b (v0)) sz) := by
  refine met_l (hh := [(0, 10, 13, 28), (0, 10, 17, 13)]) (cc := cL_viewIncarnation) (maxL := 5) (ret := (some .int)) (fun A => va_Qi (fun (r : Int32) (u : (St × St × St) × Int64) => r = (pV 6 v w z : PO).1 ∧ u.1 = ((pV 6 v w z : PO).2.2, y, k) ∧ ((pV 6 v w z : PO).1 = 0 → u.2 = (pV 6 v w z : PO).2.1.toInt64)) (fun (u : (St × St × St) × Int64) t => va_P G.1 gcl (gL G k1 a u.1.1 u.1.2.1 u.1.2.2 b u.2) t.heap) A) (fun A => vx_X (fun (u : (St × St × St) × Int64) => False) (fun E u t => E = xIAE ∧ va_P G.1 gcl (gL G k1 a u.1.1 u.1.2.1 u.1.2.2 b u.2) t.heap) A) (by decide) rfl (Nat.le_of_ble_eq_true rfl) ?_
  intro p e s m args below meth c R Q A H ls hR hQ S hr hlk htab hK hX hL hsz hH hAe hA hw hl
  have hl : lv_has ls 5 [(0, .ref (a 0)), (1, .int (v)), (2, .int (w)), (3, .ref (b))] := hl
  have kE0 : (Cond.classLink RL 28 xIOE).before args s = true := S.2.2.2.2 _ (by decide +kernel : (Cond.classLink RL 28 xIOE) ∈ wsL_viewIncarnation)
  have kE1 : (Cond.classLink RL 13 xIAE).before args s = true := S.2.2.2.2 _ (by decide +kernel : (Cond.classLink RL 13 xIAE) ∈ wsL_viewIncarnation)
  refine lv_aload_n S.1 S.2.1 dL_viewIncarnation_0 rfl (lv_at hl 3 rfl) ?_
  refine lv_iconst (v := 0) S.1 S.2.1 dL_viewIncarnation_1 (by decide) ?_
  refine lv_aload_n S.1 S.2.1 dL_viewIncarnation_2 rfl (lv_at hl 0 rfl) ?_
  refine lv_iload_n S.1 S.2.1 dL_viewIncarnation_3 rfl (lv_at hl 1 rfl) ?_
  refine lv_iload_n S.1 S.2.1 dL_viewIncarnation_4 rfl (lv_at hl 2 rfl) ?_
  have hwc : WD G (gp G a z y k) A s H _ := hw.sub [0, 1, 2, 3, 4, 5, 6, 7, 8, 9, 10, 11, 12, 13, 14, 15, 16, 17, 18, 19, 20, 21, 22, 23, 24, 25, 26] rfl rfl
  refine cx_i (wc := gp G a z y k) (wr := [(b, .inl (k1, (1, .inr (.inl (fun _ => v0)))))]) (vx_runV (As := [.int (v), .int (w)]) (rest := [.int 0, .ref (b)]) S (c_X4_viewIncarnation l G a z y k H.size v w iz) (cwV 2 S.2.2.2.2 gL_viewIncarnation_X4_viewIncarnation rfl rfl rfl hd_X4_viewIncarnation ⟨by rw [hR]; exact Nat.le_of_ble_eq_true rfl, by rw [hR]; exact Nat.le_of_ble_eq_true rfl⟩) ⟨PX.blind, va_recv hK.1 hwc.1 (ci := 4) (q0 := 0) rfl rfl, fun U hU hW => ⟨rfl, PX.of hK hX hwc (va_free hw.2.1 hw.2.2 hA [0, 1, 2, 3, 4, 5, 6, 7, 8, 9, 10, 11, 12, 13, 14, 15, 16, 17, 18, 19, 20, 21, 22, 23, 24, 25, 26] rfl) hU hW⟩⟩ rfl rfl hl.1 rfl (lv_room (Nat.le_of_ble_eq_true rfl)) dL_viewIncarnation_5 ⟨by rw [hR]; exact Nat.le_of_eq (Nat.zero_add _), by rw [hR]; exact Nat.le_of_eq (Nat.zero_add _)⟩) hw hA [0, 1, 2, 3, 4, 5, 6, 7, 8, 9, 10, 11, 12, 13, 14, 15, 16, 17, 18, 19, 20, 21, 22, 23, 24, 25, 26] [27] rfl rfl rfl rfl (by decide) (fun _ => rfl) (fun _ => rfl) (fun ce q9 u9 H locs hpx hw9 g1 g2 g3 => ?_) (fun r9 u9 H locs hp9 hw9 => ?_)
  · skip
    obtain ⟨hne, rfl⟩ := hpx
    have hw : WD G (gL G k1 a (pV 6 v w z : PO).2.2 y k b (v0)) A s H locs := hw9.sub [1, 2, 3, 4, 5, 6, 7, 8, 9, 10, 11, 12, 13, 14, 15, 16, 17, 18, 19, 20, 21, 22, 23, 24, 25, 26, 27, 0] rfl rfl
    rcases cV with hc9 | hc9 | hc9
    · exact absurd hc9 hne
    · rw [hc9] at g3
      refine ct_1 S hX htab (by decide) (by decide) (by decide) kE0 g1 g2 g3 ?_
      refine lv_astore (lv' := [(4, .ref (q9)), (0, .ref (a 0)), (1, .int (v)), (2, .int (w)), (3, .ref (b))]) S.1 S.2.1 dL_viewIncarnation_13 hl (by decide) rfl (fun ls hl => ?_)
      refine lv_iconst (v := 1) S.1 S.2.1 dL_viewIncarnation_15 (by decide) ?_
      exact ret_x hQ (Nat.le_of_eq (Nat.zero_add _)) (Nat.le_of_eq (Nat.zero_add _)) (en_i (v := (1)) ((((pV 6 v w z : PO).2.2, y, k), (v0)) : (St × St × St) × Int64) rfl S hr hlk hw ⟨hc9.symm, rfl, fun h => absurd (show (pV 6 v w z : PO).1 = 0 from h) (by rw [hc9]; decide)⟩ dL_viewIncarnation_16)
    · rw [hc9] at g3
      refine ct_2 S hX htab (by decide) (by decide) (by decide) kE0 (by decide) (by decide) kE1 g1 g2 g3 ?_
      refine lv_astore (lv' := [(4, .ref (q9)), (0, .ref (a 0)), (1, .int (v)), (2, .int (w)), (3, .ref (b))]) S.1 S.2.1 dL_viewIncarnation_17 hl (by decide) rfl (fun ls hl => ?_)
      refine lv_iconst (v := 2) S.1 S.2.1 dL_viewIncarnation_19 (by decide) ?_
      exact ret_x hQ (Nat.le_of_eq (Nat.zero_add _)) (Nat.le_of_eq (Nat.zero_add _)) (en_i (v := (2)) ((((pV 6 v w z : PO).2.2, y, k), (v0)) : (St × St × St) × Int64) rfl S hr hlk hw ⟨hc9.symm, rfl, fun h => absurd (show (pV 6 v w z : PO).1 = 0 from h) (by rw [hc9]; decide)⟩ dL_viewIncarnation_20)
  · skip
    obtain ⟨hc9, rfl, rfl⟩ := hp9
    have hw : WD G (gL G k1 a (pV 6 v w z : PO).2.2 y k b (v0)) A s H locs := hw9.sub [1, 2, 3, 4, 5, 6, 7, 8, 9, 10, 11, 12, 13, 14, 15, 16, 17, 18, 19, 20, 21, 22, 23, 24, 25, 26, 27, 0] rfl rfl
    refine lv_i2l S.1 S.2.1 dL_viewIncarnation_8 rfl ?_
    refine la_s S hL hw 27 rfl rfl dL_viewIncarnation_9 (fun H locs hw => ?_)
    have hw : WD G (gL G k1 a (pV 6 v w z : PO).2.2 y k b (((pV 6 v w z : PO).2.1).toInt64)) A s H locs := hw
    refine lv_goto (tgt := 21) S.1 S.2.1 dL_viewIncarnation_10 (by decide) ?_
    refine lv_iconst (v := 0) S.1 S.2.1 dL_viewIncarnation_21 (by decide) ?_
    exact ret_x hQ (Nat.le_of_eq (Nat.zero_add _)) (Nat.le_of_eq (Nat.zero_add _)) (en_i (v := (0)) ((((pV 6 v w z : PO).2.2, y, k), (((pV 6 v w z : PO).2.1).toInt64)) : (St × St × St) × Int64) rfl S hr hlk hw ⟨hc9.symm, rfl, fun _ => rfl⟩ dL_viewIncarnation_22)

theorem hd_L_deadline : yL_deadline.cls ≠ "java/lang/invoke/MethodHandle" ∧ yL_deadline.cls ≠ "java/lang/invoke/VarHandle" ∧ (parseMethodDescriptor yL_deadline.desc).map (fun d => d.parameters.length) = some 4 := by decide +kernel
set_option maxHeartbeats 4000000 in
set_option maxRecDepth 100000 in
theorem c_L_deadline (l : Launch) (G : GA) (k1 k2 : ClassId) (b : Nat) (v0 : Int64) (a : Nat → Nat) (z y k : St) (sz : Nat) (v : Int32) (w : Int32) (iz : Inv z) : vx_Met l yL_deadline wsL_deadline ({ frames := 9, cells := xc (pD v w z : PO).1, slots := 6 * xc (pD v w z : PO).1, locals := 153 }) (va_Pc [.ref (a 0), .int (v), .int (w), .ref (b)] (PL l G k1 k2 (gL G k1 a z y k b (v0)) sz)) (va_Qi (fun (r : Int32) (u : (St × St × St) × Int64) => r = (pD v w z : PO).1 ∧ u.1 = ((pD v w z : PO).2.2, y, k) ∧ ((pD v w z : PO).1 = 0 → u.2 = (pD v w z : PO).2.1.toInt64)) (fun (u : (St × St × St) × Int64) t => va_P G.1 gcl (gL G k1 a u.1.1 u.1.2.1 u.1.2.2 b u.2) t.heap) (va_A (gL G k1 a z y k b (v0)) sz)) (vx_X (fun (u : (St × St × St) × Int64) => False) (fun E u t => E = xIAE ∧ va_P G.1 gcl (gL G k1 a u.1.1 u.1.2.1 u.1.2.2 b u.2) t.heap) (va_A (gL G k1 a z y k b (v0)) sz)) (xc (pD v w z : PO).1) (6 * xc (pD v w z : PO).1) (va_A (gL G k1 a z y k b (v0)) sz) := by
  refine met_l (hh := [(0, 10, 13, 28), (0, 10, 17, 13), (0, 10, 21, 48)]) (cc := cL_deadline) (maxL := 5) (ret := (some .int)) (fun A => va_Qi (fun (r : Int32) (u : (St × St × St) × Int64) => r = (pD v w z : PO).1 ∧ u.1 = ((pD v w z : PO).2.2, y, k) ∧ ((pD v w z : PO).1 = 0 → u.2 = (pD v w z : PO).2.1.toInt64)) (fun (u : (St × St × St) × Int64) t => va_P G.1 gcl (gL G k1 a u.1.1 u.1.2.1 u.1.2.2 b u.2) t.heap) A) (fun A => vx_X (fun (u : (St × St × St) × Int64) => False) (fun E u t => E = xIAE ∧ va_P G.1 gcl (gL G k1 a u.1.1 u.1.2.1 u.1.2.2 b u.2) t.heap) A) (by decide) rfl (Nat.le_of_ble_eq_true rfl) ?_
  intro p e s m args below meth c R Q A H ls hR hQ S hr hlk htab hK hX hL hsz hH hAe hA hw hl
  have hl : lv_has ls 5 [(0, .ref (a 0)), (1, .int (v)), (2, .int (w)), (3, .ref (b))] := hl
  have kE0 : (Cond.classLink RL 28 xIOE).before args s = true := S.2.2.2.2 _ (by decide +kernel : (Cond.classLink RL 28 xIOE) ∈ wsL_deadline)
  have kE1 : (Cond.classLink RL 13 xIAE).before args s = true := S.2.2.2.2 _ (by decide +kernel : (Cond.classLink RL 13 xIAE) ∈ wsL_deadline)
  have kE2 : (Cond.classLink RL 48 xNSE).before args s = true := S.2.2.2.2 _ (by decide +kernel : (Cond.classLink RL 48 xNSE) ∈ wsL_deadline)
  refine lv_aload_n S.1 S.2.1 dL_deadline_0 rfl (lv_at hl 3 rfl) ?_
  refine lv_iconst (v := 0) S.1 S.2.1 dL_deadline_1 (by decide) ?_
  refine lv_aload_n S.1 S.2.1 dL_deadline_2 rfl (lv_at hl 0 rfl) ?_
  refine lv_iload_n S.1 S.2.1 dL_deadline_3 rfl (lv_at hl 1 rfl) ?_
  refine lv_iload_n S.1 S.2.1 dL_deadline_4 rfl (lv_at hl 2 rfl) ?_
  have hwc : WD G (gp G a z y k) A s H _ := hw.sub [0, 1, 2, 3, 4, 5, 6, 7, 8, 9, 10, 11, 12, 13, 14, 15, 16, 17, 18, 19, 20, 21, 22, 23, 24, 25, 26] rfl rfl
  refine cx_i (wc := gp G a z y k) (wr := [(b, .inl (k1, (1, .inr (.inl (fun _ => v0)))))]) (vx_runV (As := [.int (v), .int (w)]) (rest := [.int 0, .ref (b)]) S (c_X4_deadline l G a z y k H.size v w iz) (cwV 2 S.2.2.2.2 gL_deadline_X4_deadline rfl rfl rfl hd_X4_deadline ⟨by rw [hR]; exact Nat.le_of_ble_eq_true rfl, by rw [hR]; exact Nat.le_of_ble_eq_true rfl⟩) ⟨PX.blind, va_recv hK.1 hwc.1 (ci := 4) (q0 := 0) rfl rfl, fun U hU hW => ⟨rfl, PX.of hK hX hwc (va_free hw.2.1 hw.2.2 hA [0, 1, 2, 3, 4, 5, 6, 7, 8, 9, 10, 11, 12, 13, 14, 15, 16, 17, 18, 19, 20, 21, 22, 23, 24, 25, 26] rfl) hU hW⟩⟩ rfl rfl hl.1 rfl (lv_room (Nat.le_of_ble_eq_true rfl)) dL_deadline_5 ⟨by rw [hR]; exact Nat.le_of_eq (Nat.zero_add _), by rw [hR]; exact Nat.le_of_eq (Nat.zero_add _)⟩) hw hA [0, 1, 2, 3, 4, 5, 6, 7, 8, 9, 10, 11, 12, 13, 14, 15, 16, 17, 18, 19, 20, 21, 22, 23, 24, 25, 26] [27] rfl rfl rfl rfl (by decide) (fun _ => rfl) (fun _ => rfl) (fun ce q9 u9 H locs hpx hw9 g1 g2 g3 => ?_) (fun r9 u9 H locs hp9 hw9 => ?_)
  · skip
    obtain ⟨hne, rfl⟩ := hpx
    have hw : WD G (gL G k1 a (pD v w z : PO).2.2 y k b (v0)) A s H locs := hw9.sub [1, 2, 3, 4, 5, 6, 7, 8, 9, 10, 11, 12, 13, 14, 15, 16, 17, 18, 19, 20, 21, 22, 23, 24, 25, 26, 27, 0] rfl rfl
    rcases cD with hc9 | hc9 | hc9 | hc9
    · exact absurd hc9 hne
    · rw [hc9] at g3
      refine ct_1 S hX htab (by decide) (by decide) (by decide) kE0 g1 g2 g3 ?_
      refine lv_astore (lv' := [(4, .ref (q9)), (0, .ref (a 0)), (1, .int (v)), (2, .int (w)), (3, .ref (b))]) S.1 S.2.1 dL_deadline_13 hl (by decide) rfl (fun ls hl => ?_)
      refine lv_iconst (v := 1) S.1 S.2.1 dL_deadline_15 (by decide) ?_
      exact ret_x hQ (Nat.le_of_eq (Nat.zero_add _)) (Nat.le_of_eq (Nat.zero_add _)) (en_i (v := (1)) ((((pD v w z : PO).2.2, y, k), (v0)) : (St × St × St) × Int64) rfl S hr hlk hw ⟨hc9.symm, rfl, fun h => absurd (show (pD v w z : PO).1 = 0 from h) (by rw [hc9]; decide)⟩ dL_deadline_16)
    · rw [hc9] at g3
      refine ct_2 S hX htab (by decide) (by decide) (by decide) kE0 (by decide) (by decide) kE1 g1 g2 g3 ?_
      refine lv_astore (lv' := [(4, .ref (q9)), (0, .ref (a 0)), (1, .int (v)), (2, .int (w)), (3, .ref (b))]) S.1 S.2.1 dL_deadline_17 hl (by decide) rfl (fun ls hl => ?_)
      refine lv_iconst (v := 2) S.1 S.2.1 dL_deadline_19 (by decide) ?_
      exact ret_x hQ (Nat.le_of_eq (Nat.zero_add _)) (Nat.le_of_eq (Nat.zero_add _)) (en_i (v := (2)) ((((pD v w z : PO).2.2, y, k), (v0)) : (St × St × St) × Int64) rfl S hr hlk hw ⟨hc9.symm, rfl, fun h => absurd (show (pD v w z : PO).1 = 0 from h) (by rw [hc9]; decide)⟩ dL_deadline_20)
    · rw [hc9] at g3
      refine ct_3 S hX htab (by decide) (by decide) (by decide) kE0 (by decide) (by decide) kE1 (by decide) (by decide) kE2 g1 g2 g3 ?_
      refine lv_astore (lv' := [(4, .ref (q9)), (0, .ref (a 0)), (1, .int (v)), (2, .int (w)), (3, .ref (b))]) S.1 S.2.1 dL_deadline_21 hl (by decide) rfl (fun ls hl => ?_)
      refine lv_iconst (v := 3) S.1 S.2.1 dL_deadline_23 (by decide) ?_
      exact ret_x hQ (Nat.le_of_eq (Nat.zero_add _)) (Nat.le_of_eq (Nat.zero_add _)) (en_i (v := (3)) ((((pD v w z : PO).2.2, y, k), (v0)) : (St × St × St) × Int64) rfl S hr hlk hw ⟨hc9.symm, rfl, fun h => absurd (show (pD v w z : PO).1 = 0 from h) (by rw [hc9]; decide)⟩ dL_deadline_24)
  · skip
    obtain ⟨hc9, rfl, rfl⟩ := hp9
    have hw : WD G (gL G k1 a (pD v w z : PO).2.2 y k b (v0)) A s H locs := hw9.sub [1, 2, 3, 4, 5, 6, 7, 8, 9, 10, 11, 12, 13, 14, 15, 16, 17, 18, 19, 20, 21, 22, 23, 24, 25, 26, 27, 0] rfl rfl
    refine lv_i2l S.1 S.2.1 dL_deadline_8 rfl ?_
    refine la_s S hL hw 27 rfl rfl dL_deadline_9 (fun H locs hw => ?_)
    have hw : WD G (gL G k1 a (pD v w z : PO).2.2 y k b (((pD v w z : PO).2.1).toInt64)) A s H locs := hw
    refine lv_goto (tgt := 25) S.1 S.2.1 dL_deadline_10 (by decide) ?_
    refine lv_iconst (v := 0) S.1 S.2.1 dL_deadline_25 (by decide) ?_
    exact ret_x hQ (Nat.le_of_eq (Nat.zero_add _)) (Nat.le_of_eq (Nat.zero_add _)) (en_i (v := (0)) ((((pD v w z : PO).2.2, y, k), (((pD v w z : PO).2.1).toInt64)) : (St × St × St) × Int64) rfl S hr hlk hw ⟨hc9.symm, rfl, fun _ => rfl⟩ dL_deadline_26)

theorem hd_L_counter : yL_counter.cls ≠ "java/lang/invoke/MethodHandle" ∧ yL_counter.cls ≠ "java/lang/invoke/VarHandle" ∧ (parseMethodDescriptor yL_counter.desc).map (fun d => d.parameters.length) = some 4 := by decide +kernel
set_option maxHeartbeats 4000000 in
set_option maxRecDepth 100000 in
theorem c_L_counter (l : Launch) (G : GA) (k1 k2 : ClassId) (b : Nat) (v0 : Int64) (a : Nat → Nat) (z y k : St) (sz : Nat) (v : Int32) (w : Int32) (iz : Inv z) : vx_Met l yL_counter wsL_counter ({ frames := 8, cells := xc (pCt v w z : PO).1, slots := 6 * xc (pCt v w z : PO).1, locals := 132 }) (va_Pc [.ref (a 0), .int (v), .int (w), .ref (b)] (PL l G k1 k2 (gL G k1 a z y k b (v0)) sz)) (va_Qi (fun (r : Int32) (u : (St × St × St) × Int64) => r = (pCt v w z : PO).1 ∧ u.1 = ((pCt v w z : PO).2.2, y, k) ∧ ((pCt v w z : PO).1 = 0 → u.2 = (pCt v w z : PO).2.1.toInt64)) (fun (u : (St × St × St) × Int64) t => va_P G.1 gcl (gL G k1 a u.1.1 u.1.2.1 u.1.2.2 b u.2) t.heap) (va_A (gL G k1 a z y k b (v0)) sz)) (vx_X (fun (u : (St × St × St) × Int64) => False) (fun E u t => E = xIAE ∧ va_P G.1 gcl (gL G k1 a u.1.1 u.1.2.1 u.1.2.2 b u.2) t.heap) (va_A (gL G k1 a z y k b (v0)) sz)) (xc (pCt v w z : PO).1) (6 * xc (pCt v w z : PO).1) (va_A (gL G k1 a z y k b (v0)) sz) := by
  refine met_l (hh := [(0, 10, 13, 28)]) (cc := cL_counter) (maxL := 5) (ret := (some .int)) (fun A => va_Qi (fun (r : Int32) (u : (St × St × St) × Int64) => r = (pCt v w z : PO).1 ∧ u.1 = ((pCt v w z : PO).2.2, y, k) ∧ ((pCt v w z : PO).1 = 0 → u.2 = (pCt v w z : PO).2.1.toInt64)) (fun (u : (St × St × St) × Int64) t => va_P G.1 gcl (gL G k1 a u.1.1 u.1.2.1 u.1.2.2 b u.2) t.heap) A) (fun A => vx_X (fun (u : (St × St × St) × Int64) => False) (fun E u t => E = xIAE ∧ va_P G.1 gcl (gL G k1 a u.1.1 u.1.2.1 u.1.2.2 b u.2) t.heap) A) (by decide) rfl (Nat.le_of_ble_eq_true rfl) ?_
  intro p e s m args below meth c R Q A H ls hR hQ S hr hlk htab hK hX hL hsz hH hAe hA hw hl
  have hl : lv_has ls 5 [(0, .ref (a 0)), (1, .int (v)), (2, .int (w)), (3, .ref (b))] := hl
  have kE0 : (Cond.classLink RL 28 xIOE).before args s = true := S.2.2.2.2 _ (by decide +kernel : (Cond.classLink RL 28 xIOE) ∈ wsL_counter)
  refine lv_aload_n S.1 S.2.1 dL_counter_0 rfl (lv_at hl 3 rfl) ?_
  refine lv_iconst (v := 0) S.1 S.2.1 dL_counter_1 (by decide) ?_
  refine lv_aload_n S.1 S.2.1 dL_counter_2 rfl (lv_at hl 0 rfl) ?_
  refine lv_iload_n S.1 S.2.1 dL_counter_3 rfl (lv_at hl 1 rfl) ?_
  refine lv_iload_n S.1 S.2.1 dL_counter_4 rfl (lv_at hl 2 rfl) ?_
  have hwc : WD G (gp G a z y k) A s H _ := hw.sub [0, 1, 2, 3, 4, 5, 6, 7, 8, 9, 10, 11, 12, 13, 14, 15, 16, 17, 18, 19, 20, 21, 22, 23, 24, 25, 26] rfl rfl
  refine cx_i (wc := gp G a z y k) (wr := [(b, .inl (k1, (1, .inr (.inl (fun _ => v0)))))]) (vx_runV (As := [.int (v), .int (w)]) (rest := [.int 0, .ref (b)]) S (c_X4_counter l G a z y k H.size v w iz) (cwV 2 S.2.2.2.2 gL_counter_X4_counter rfl rfl rfl hd_X4_counter ⟨by rw [hR]; exact Nat.le_of_ble_eq_true rfl, by rw [hR]; exact Nat.le_of_ble_eq_true rfl⟩) ⟨PX.blind, va_recv hK.1 hwc.1 (ci := 4) (q0 := 0) rfl rfl, fun U hU hW => ⟨rfl, PX.of hK hX hwc (va_free hw.2.1 hw.2.2 hA [0, 1, 2, 3, 4, 5, 6, 7, 8, 9, 10, 11, 12, 13, 14, 15, 16, 17, 18, 19, 20, 21, 22, 23, 24, 25, 26] rfl) hU hW⟩⟩ rfl rfl hl.1 rfl (lv_room (Nat.le_of_ble_eq_true rfl)) dL_counter_5 ⟨by rw [hR]; exact Nat.le_of_eq (Nat.zero_add _), by rw [hR]; exact Nat.le_of_eq (Nat.zero_add _)⟩) hw hA [0, 1, 2, 3, 4, 5, 6, 7, 8, 9, 10, 11, 12, 13, 14, 15, 16, 17, 18, 19, 20, 21, 22, 23, 24, 25, 26] [27] rfl rfl rfl rfl (by decide) (fun _ => rfl) (fun _ => rfl) (fun ce q9 u9 H locs hpx hw9 g1 g2 g3 => ?_) (fun r9 u9 H locs hp9 hw9 => ?_)
  · skip
    obtain ⟨hne, rfl⟩ := hpx
    have hw : WD G (gL G k1 a (pCt v w z : PO).2.2 y k b (v0)) A s H locs := hw9.sub [1, 2, 3, 4, 5, 6, 7, 8, 9, 10, 11, 12, 13, 14, 15, 16, 17, 18, 19, 20, 21, 22, 23, 24, 25, 26, 27, 0] rfl rfl
    rcases cCt with hc9 | hc9
    · exact absurd hc9 hne
    · rw [hc9] at g3
      refine ct_1 S hX htab (by decide) (by decide) (by decide) kE0 g1 g2 g3 ?_
      refine lv_astore (lv' := [(4, .ref (q9)), (0, .ref (a 0)), (1, .int (v)), (2, .int (w)), (3, .ref (b))]) S.1 S.2.1 dL_counter_13 hl (by decide) rfl (fun ls hl => ?_)
      refine lv_iconst (v := 1) S.1 S.2.1 dL_counter_15 (by decide) ?_
      exact ret_x hQ (Nat.le_of_eq (Nat.zero_add _)) (Nat.le_of_eq (Nat.zero_add _)) (en_i (v := (1)) ((((pCt v w z : PO).2.2, y, k), (v0)) : (St × St × St) × Int64) rfl S hr hlk hw ⟨hc9.symm, rfl, fun h => absurd (show (pCt v w z : PO).1 = 0 from h) (by rw [hc9]; decide)⟩ dL_counter_16)
  · skip
    obtain ⟨hc9, rfl, rfl⟩ := hp9
    have hw : WD G (gL G k1 a (pCt v w z : PO).2.2 y k b (v0)) A s H locs := hw9.sub [1, 2, 3, 4, 5, 6, 7, 8, 9, 10, 11, 12, 13, 14, 15, 16, 17, 18, 19, 20, 21, 22, 23, 24, 25, 26, 27, 0] rfl rfl
    refine lv_i2l S.1 S.2.1 dL_counter_8 rfl ?_
    refine la_s S hL hw 27 rfl rfl dL_counter_9 (fun H locs hw => ?_)
    have hw : WD G (gL G k1 a (pCt v w z : PO).2.2 y k b (((pCt v w z : PO).2.1).toInt64)) A s H locs := hw
    refine lv_goto (tgt := 17) S.1 S.2.1 dL_counter_10 (by decide) ?_
    refine lv_iconst (v := 0) S.1 S.2.1 dL_counter_17 (by decide) ?_
    exact ret_x hQ (Nat.le_of_eq (Nat.zero_add _)) (Nat.le_of_eq (Nat.zero_add _)) (en_i (v := (0)) ((((pCt v w z : PO).2.2, y, k), (((pCt v w z : PO).2.1).toInt64)) : (St × St × St) × Int64) rfl S hr hlk hw ⟨hc9.symm, rfl, fun _ => rfl⟩ dL_counter_18)

theorem hd_L_alive : yL_alive.cls ≠ "java/lang/invoke/MethodHandle" ∧ yL_alive.cls ≠ "java/lang/invoke/VarHandle" ∧ (parseMethodDescriptor yL_alive.desc).map (fun d => d.parameters.length) = some 3 := by decide +kernel
set_option maxHeartbeats 4000000 in
set_option maxRecDepth 100000 in
theorem c_L_alive (l : Launch) (G : GA) (k1 k2 : ClassId) (b : Nat) (v0 : Int64) (a : Nat → Nat) (z y k : St) (sz : Nat) (v : Int32) (iz : Inv z) : vx_Met l yL_alive wsL_alive ({ frames := 8, cells := xc (pAl v z : PO).1, slots := 6 * xc (pAl v z : PO).1, locals := 131 }) (va_Pc [.ref (a 0), .int (v), .ref (b)] (PL l G k1 k2 (gL G k1 a z y k b (v0)) sz)) (va_Qi (fun (r : Int32) (u : (St × St × St) × Int64) => r = (pAl v z : PO).1 ∧ u.1 = ((pAl v z : PO).2.2, y, k) ∧ ((pAl v z : PO).1 = 0 → u.2 = (pAl v z : PO).2.1.toInt64)) (fun (u : (St × St × St) × Int64) t => va_P G.1 gcl (gL G k1 a u.1.1 u.1.2.1 u.1.2.2 b u.2) t.heap) (va_A (gL G k1 a z y k b (v0)) sz)) (vx_X (fun (u : (St × St × St) × Int64) => False) (fun E u t => E = xIAE ∧ va_P G.1 gcl (gL G k1 a u.1.1 u.1.2.1 u.1.2.2 b u.2) t.heap) (va_A (gL G k1 a z y k b (v0)) sz)) (xc (pAl v z : PO).1) (6 * xc (pAl v z : PO).1) (va_A (gL G k1 a z y k b (v0)) sz) := by
  refine met_l (hh := [(0, 9, 12, 28)]) (cc := cL_alive) (maxL := 4) (ret := (some .int)) (fun A => va_Qi (fun (r : Int32) (u : (St × St × St) × Int64) => r = (pAl v z : PO).1 ∧ u.1 = ((pAl v z : PO).2.2, y, k) ∧ ((pAl v z : PO).1 = 0 → u.2 = (pAl v z : PO).2.1.toInt64)) (fun (u : (St × St × St) × Int64) t => va_P G.1 gcl (gL G k1 a u.1.1 u.1.2.1 u.1.2.2 b u.2) t.heap) A) (fun A => vx_X (fun (u : (St × St × St) × Int64) => False) (fun E u t => E = xIAE ∧ va_P G.1 gcl (gL G k1 a u.1.1 u.1.2.1 u.1.2.2 b u.2) t.heap) A) (by decide) rfl (Nat.le_of_ble_eq_true rfl) ?_
  intro p e s m args below meth c R Q A H ls hR hQ S hr hlk htab hK hX hL hsz hH hAe hA hw hl
  have hl : lv_has ls 4 [(0, .ref (a 0)), (1, .int (v)), (2, .ref (b))] := hl
  have kE0 : (Cond.classLink RL 28 xIOE).before args s = true := S.2.2.2.2 _ (by decide +kernel : (Cond.classLink RL 28 xIOE) ∈ wsL_alive)
  refine lv_aload_n S.1 S.2.1 dL_alive_0 rfl (lv_at hl 2 rfl) ?_
  refine lv_iconst (v := 0) S.1 S.2.1 dL_alive_1 (by decide) ?_
  refine lv_aload_n S.1 S.2.1 dL_alive_2 rfl (lv_at hl 0 rfl) ?_
  refine lv_iload_n S.1 S.2.1 dL_alive_3 rfl (lv_at hl 1 rfl) ?_
  have hwc : WD G (gp G a z y k) A s H _ := hw.sub [0, 1, 2, 3, 4, 5, 6, 7, 8, 9, 10, 11, 12, 13, 14, 15, 16, 17, 18, 19, 20, 21, 22, 23, 24, 25, 26] rfl rfl
  refine cx_i (wc := gp G a z y k) (wr := [(b, .inl (k1, (1, .inr (.inl (fun _ => v0)))))]) (vx_runV (As := [.int (v)]) (rest := [.int 0, .ref (b)]) S (c_X4_alive l G a z y k H.size v iz) (cwV 1 S.2.2.2.2 gL_alive_X4_alive rfl rfl rfl hd_X4_alive ⟨by rw [hR]; exact Nat.le_of_ble_eq_true rfl, by rw [hR]; exact Nat.le_of_ble_eq_true rfl⟩) ⟨PX.blind, va_recv hK.1 hwc.1 (ci := 4) (q0 := 0) rfl rfl, fun U hU hW => ⟨rfl, PX.of hK hX hwc (va_free hw.2.1 hw.2.2 hA [0, 1, 2, 3, 4, 5, 6, 7, 8, 9, 10, 11, 12, 13, 14, 15, 16, 17, 18, 19, 20, 21, 22, 23, 24, 25, 26] rfl) hU hW⟩⟩ rfl rfl hl.1 rfl (lv_room (Nat.le_of_ble_eq_true rfl)) dL_alive_4 ⟨by rw [hR]; exact Nat.le_of_eq (Nat.zero_add _), by rw [hR]; exact Nat.le_of_eq (Nat.zero_add _)⟩) hw hA [0, 1, 2, 3, 4, 5, 6, 7, 8, 9, 10, 11, 12, 13, 14, 15, 16, 17, 18, 19, 20, 21, 22, 23, 24, 25, 26] [27] rfl rfl rfl rfl (by decide) (fun _ => rfl) (fun _ => rfl) (fun ce q9 u9 H locs hpx hw9 g1 g2 g3 => ?_) (fun r9 u9 H locs hp9 hw9 => ?_)
  · skip
    obtain ⟨hne, rfl⟩ := hpx
    have hw : WD G (gL G k1 a (pAl v z : PO).2.2 y k b (v0)) A s H locs := hw9.sub [1, 2, 3, 4, 5, 6, 7, 8, 9, 10, 11, 12, 13, 14, 15, 16, 17, 18, 19, 20, 21, 22, 23, 24, 25, 26, 27, 0] rfl rfl
    rcases cAl with hc9 | hc9
    · exact absurd hc9 hne
    · rw [hc9] at g3
      refine ct_1 S hX htab (by decide) (by decide) (by decide) kE0 g1 g2 g3 ?_
      refine lv_astore_n (lv' := [(3, .ref (q9)), (0, .ref (a 0)), (1, .int (v)), (2, .ref (b))]) S.1 S.2.1 dL_alive_12 rfl hl (by decide) rfl (fun ls hl => ?_)
      refine lv_iconst (v := 1) S.1 S.2.1 dL_alive_13 (by decide) ?_
      exact ret_x hQ (Nat.le_of_eq (Nat.zero_add _)) (Nat.le_of_eq (Nat.zero_add _)) (en_i (v := (1)) ((((pAl v z : PO).2.2, y, k), (v0)) : (St × St × St) × Int64) rfl S hr hlk hw ⟨hc9.symm, rfl, fun h => absurd (show (pAl v z : PO).1 = 0 from h) (by rw [hc9]; decide)⟩ dL_alive_14)
  · skip
    obtain ⟨hc9, rfl, rfl⟩ := hp9
    have hw : WD G (gL G k1 a (pAl v z : PO).2.2 y k b (v0)) A s H locs := hw9.sub [1, 2, 3, 4, 5, 6, 7, 8, 9, 10, 11, 12, 13, 14, 15, 16, 17, 18, 19, 20, 21, 22, 23, 24, 25, 26, 27, 0] rfl rfl
    refine lv_i2l S.1 S.2.1 dL_alive_7 rfl ?_
    refine la_s S hL hw 27 rfl rfl dL_alive_8 (fun H locs hw => ?_)
    have hw : WD G (gL G k1 a (pAl v z : PO).2.2 y k b (((pAl v z : PO).2.1).toInt64)) A s H locs := hw
    refine lv_goto (tgt := 15) S.1 S.2.1 dL_alive_9 (by decide) ?_
    refine lv_iconst (v := 0) S.1 S.2.1 dL_alive_15 (by decide) ?_
    exact ret_x hQ (Nat.le_of_eq (Nat.zero_add _)) (Nat.le_of_eq (Nat.zero_add _)) (en_i (v := (0)) ((((pAl v z : PO).2.2, y, k), (((pAl v z : PO).2.1).toInt64)) : (St × St × St) × Int64) rfl S hr hlk hw ⟨hc9.symm, rfl, fun _ => rfl⟩ dL_alive_16)

theorem hd_L_appendCharacter : yL_appendCharacter.cls ≠ "java/lang/invoke/MethodHandle" ∧ yL_appendCharacter.cls ≠ "java/lang/invoke/VarHandle" ∧ (parseMethodDescriptor yL_appendCharacter.desc).map (fun d => d.parameters.length) = some 3 := by decide +kernel
set_option maxHeartbeats 4000000 in
set_option maxRecDepth 100000 in
theorem c_L_appendCharacter (l : Launch) (G : GA) (k1 k2 : ClassId) (b : Nat) (v0 : Int64) (a : Nat → Nat) (z y k : St) (sz : Nat) (ch : Int32) {tl : Nat} (hTL : k 0 3 = nI tl) (hm : tl ≤ 40) : vx_Met l yL_appendCharacter wsL_appendCharacter ({ frames := 7, cells := xc (pAp ch tl z : PO).1, slots := 6 * xc (pAp ch tl z : PO).1, locals := 120 }) (va_Pc [.ref (a 0), .int (ch), .ref (b)] (PL l G k1 k2 (gL G k1 a z y k b (v0)) sz)) (va_Qi (fun (r : Int32) (u : (St × St × St) × Int64) => r = (pAp ch tl z : PO).1 ∧ u.1 = ((pAp ch tl z : PO).2.2, y, (kAp ch tl k)) ∧ ((pAp ch tl z : PO).1 = 0 → u.2 = (pAp ch tl z : PO).2.1.toInt64)) (fun (u : (St × St × St) × Int64) t => va_P G.1 gcl (gL G k1 a u.1.1 u.1.2.1 u.1.2.2 b u.2) t.heap) (va_A (gL G k1 a z y k b (v0)) sz)) (vx_X (fun (u : (St × St × St) × Int64) => False) (fun E u t => E = xIAE ∧ va_P G.1 gcl (gL G k1 a u.1.1 u.1.2.1 u.1.2.2 b u.2) t.heap) (va_A (gL G k1 a z y k b (v0)) sz)) (xc (pAp ch tl z : PO).1) (6 * xc (pAp ch tl z : PO).1) (va_A (gL G k1 a z y k b (v0)) sz) := by
  refine met_l (hh := [(0, 9, 12, 13), (0, 9, 15, 30)]) (cc := cL_appendCharacter) (maxL := 4) (ret := (some .int)) (fun A => va_Qi (fun (r : Int32) (u : (St × St × St) × Int64) => r = (pAp ch tl z : PO).1 ∧ u.1 = ((pAp ch tl z : PO).2.2, y, (kAp ch tl k)) ∧ ((pAp ch tl z : PO).1 = 0 → u.2 = (pAp ch tl z : PO).2.1.toInt64)) (fun (u : (St × St × St) × Int64) t => va_P G.1 gcl (gL G k1 a u.1.1 u.1.2.1 u.1.2.2 b u.2) t.heap) A) (fun A => vx_X (fun (u : (St × St × St) × Int64) => False) (fun E u t => E = xIAE ∧ va_P G.1 gcl (gL G k1 a u.1.1 u.1.2.1 u.1.2.2 b u.2) t.heap) A) (by decide) rfl (Nat.le_of_ble_eq_true rfl) ?_
  intro p e s m args below meth c R Q A H ls hR hQ S hr hlk htab hK hX hL hsz hH hAe hA hw hl
  have hl : lv_has ls 4 [(0, .ref (a 0)), (1, .int (ch)), (2, .ref (b))] := hl
  have kE0 : (Cond.classLink RL 13 xIAE).before args s = true := S.2.2.2.2 _ (by decide +kernel : (Cond.classLink RL 13 xIAE) ∈ wsL_appendCharacter)
  have kE1 : (Cond.classLink RL 30 xISE).before args s = true := S.2.2.2.2 _ (by decide +kernel : (Cond.classLink RL 30 xISE) ∈ wsL_appendCharacter)
  refine lv_aload_n S.1 S.2.1 dL_appendCharacter_0 rfl (lv_at hl 2 rfl) ?_
  refine lv_iconst (v := 0) S.1 S.2.1 dL_appendCharacter_1 (by decide) ?_
  refine lv_aload_n S.1 S.2.1 dL_appendCharacter_2 rfl (lv_at hl 0 rfl) ?_
  refine lv_iload_n S.1 S.2.1 dL_appendCharacter_3 rfl (lv_at hl 1 rfl) ?_
  have hwc : WD G (gp G a z y k) A s H _ := hw.sub [0, 1, 2, 3, 4, 5, 6, 7, 8, 9, 10, 11, 12, 13, 14, 15, 16, 17, 18, 19, 20, 21, 22, 23, 24, 25, 26] rfl rfl
  refine cx_i (wc := gp G a z y k) (wr := [(b, .inl (k1, (1, .inr (.inl (fun _ => v0)))))]) (vx_runV (As := [.int (ch)]) (rest := [.int 0, .ref (b)]) S (c_X4_appendCharacter l G a z y k H.size ch hTL hm) (cwV 1 S.2.2.2.2 gL_appendCharacter_X4_appendCharacter rfl rfl rfl hd_X4_appendCharacter ⟨by rw [hR]; exact Nat.le_of_ble_eq_true rfl, by rw [hR]; exact Nat.le_of_ble_eq_true rfl⟩) ⟨PX.blind, va_recv hK.1 hwc.1 (ci := 4) (q0 := 0) rfl rfl, fun U hU hW => ⟨rfl, PX.of hK hX hwc (va_free hw.2.1 hw.2.2 hA [0, 1, 2, 3, 4, 5, 6, 7, 8, 9, 10, 11, 12, 13, 14, 15, 16, 17, 18, 19, 20, 21, 22, 23, 24, 25, 26] rfl) hU hW⟩⟩ rfl rfl hl.1 rfl (lv_room (Nat.le_of_ble_eq_true rfl)) dL_appendCharacter_4 ⟨by rw [hR]; exact Nat.le_of_eq (Nat.zero_add _), by rw [hR]; exact Nat.le_of_eq (Nat.zero_add _)⟩) hw hA [0, 1, 2, 3, 4, 5, 6, 7, 8, 9, 10, 11, 12, 13, 14, 15, 16, 17, 18, 19, 20, 21, 22, 23, 24, 25, 26] [27] rfl rfl rfl rfl (by decide) (fun _ => rfl) (fun _ => rfl) (fun ce q9 u9 H locs hpx hw9 g1 g2 g3 => ?_) (fun r9 u9 H locs hp9 hw9 => ?_)
  · skip
    obtain ⟨hne, rfl⟩ := hpx
    have hw : WD G (gL G k1 a (pAp ch tl z : PO).2.2 y (kAp ch tl k) b (v0)) A s H locs := hw9.sub [1, 2, 3, 4, 5, 6, 7, 8, 9, 10, 11, 12, 13, 14, 15, 16, 17, 18, 19, 20, 21, 22, 23, 24, 25, 26, 27, 0] rfl rfl
    rcases cAp with hc9 | hc9 | hc9
    · exact absurd hc9 hne
    · rw [hc9] at g3
      refine ct_1 S hX htab (by decide) (by decide) (by decide) kE0 g1 g2 g3 ?_
      refine lv_astore_n (lv' := [(3, .ref (q9)), (0, .ref (a 0)), (1, .int (ch)), (2, .ref (b))]) S.1 S.2.1 dL_appendCharacter_12 rfl hl (by decide) rfl (fun ls hl => ?_)
      refine lv_iconst (v := 1) S.1 S.2.1 dL_appendCharacter_13 (by decide) ?_
      exact ret_x hQ (Nat.le_of_eq (Nat.zero_add _)) (Nat.le_of_eq (Nat.zero_add _)) (en_i (v := (1)) ((((pAp ch tl z : PO).2.2, y, (kAp ch tl k)), (v0)) : (St × St × St) × Int64) rfl S hr hlk hw ⟨hc9.symm, rfl, fun h => absurd (show (pAp ch tl z : PO).1 = 0 from h) (by rw [hc9]; decide)⟩ dL_appendCharacter_14)
    · rw [hc9] at g3
      refine ct_2 S hX htab (by decide) (by decide) (by decide) kE0 (by decide) (by decide) kE1 g1 g2 g3 ?_
      refine lv_astore_n (lv' := [(3, .ref (q9)), (0, .ref (a 0)), (1, .int (ch)), (2, .ref (b))]) S.1 S.2.1 dL_appendCharacter_15 rfl hl (by decide) rfl (fun ls hl => ?_)
      refine lv_iconst (v := 2) S.1 S.2.1 dL_appendCharacter_16 (by decide) ?_
      exact ret_x hQ (Nat.le_of_eq (Nat.zero_add _)) (Nat.le_of_eq (Nat.zero_add _)) (en_i (v := (2)) ((((pAp ch tl z : PO).2.2, y, (kAp ch tl k)), (v0)) : (St × St × St) × Int64) rfl S hr hlk hw ⟨hc9.symm, rfl, fun h => absurd (show (pAp ch tl z : PO).1 = 0 from h) (by rw [hc9]; decide)⟩ dL_appendCharacter_17)
  · skip
    obtain ⟨hc9, rfl, rfl⟩ := hp9
    have hw : WD G (gL G k1 a (pAp ch tl z : PO).2.2 y (kAp ch tl k) b (v0)) A s H locs := hw9.sub [1, 2, 3, 4, 5, 6, 7, 8, 9, 10, 11, 12, 13, 14, 15, 16, 17, 18, 19, 20, 21, 22, 23, 24, 25, 26, 27, 0] rfl rfl
    refine lv_i2l S.1 S.2.1 dL_appendCharacter_7 rfl ?_
    refine la_s S hL hw 27 rfl rfl dL_appendCharacter_8 (fun H locs hw => ?_)
    have hw : WD G (gL G k1 a (pAp ch tl z : PO).2.2 y (kAp ch tl k) b (((pAp ch tl z : PO).2.1).toInt64)) A s H locs := hw
    refine lv_goto (tgt := 18) S.1 S.2.1 dL_appendCharacter_9 (by decide) ?_
    refine lv_iconst (v := 0) S.1 S.2.1 dL_appendCharacter_18 (by decide) ?_
    exact ret_x hQ (Nat.le_of_eq (Nat.zero_add _)) (Nat.le_of_eq (Nat.zero_add _)) (en_i (v := (0)) ((((pAp ch tl z : PO).2.2, y, (kAp ch tl k)), (((pAp ch tl z : PO).2.1).toInt64)) : (St × St × St) × Int64) rfl S hr hlk hw ⟨hc9.symm, rfl, fun _ => rfl⟩ dL_appendCharacter_19)

theorem hd_L_failure : yL_failure.cls ≠ "java/lang/invoke/MethodHandle" ∧ yL_failure.cls ≠ "java/lang/invoke/VarHandle" ∧ (parseMethodDescriptor yL_failure.desc).map (fun d => d.parameters.length) = some 3 := by decide +kernel
set_option maxHeartbeats 4000000 in
set_option maxRecDepth 100000 in
theorem c_L_failure (l : Launch) (G : GA) (k1 k2 : ClassId) (b : Nat) (v0 : Int64) (a : Nat → Nat) (z y k : St) (sz : Nat) (q : Int32) : vx_Met l yL_failure wsL_failure ({ frames := 7, cells := xc (pF q (k 0 1) (k 0 2) z : PO).1, slots := 6 * xc (pF q (k 0 1) (k 0 2) z : PO).1, locals := 120 }) (va_Pc [.ref (a 0), .int (q), .ref (b)] (PL l G k1 k2 (gL G k1 a z y k b (v0)) sz)) (va_Qi (fun (r : Int32) (u : (St × St × St) × Int64) => r = (pF q (k 0 1) (k 0 2) z : PO).1 ∧ u.1 = ((pF q (k 0 1) (k 0 2) z : PO).2.2, y, k) ∧ ((pF q (k 0 1) (k 0 2) z : PO).1 = 0 → u.2 = (pF q (k 0 1) (k 0 2) z : PO).2.1.toInt64)) (fun (u : (St × St × St) × Int64) t => va_P G.1 gcl (gL G k1 a u.1.1 u.1.2.1 u.1.2.2 b u.2) t.heap) (va_A (gL G k1 a z y k b (v0)) sz)) (vx_X (fun (u : (St × St × St) × Int64) => False) (fun E u t => E = xIAE ∧ va_P G.1 gcl (gL G k1 a u.1.1 u.1.2.1 u.1.2.2 b u.2) t.heap) (va_A (gL G k1 a z y k b (v0)) sz)) (xc (pF q (k 0 1) (k 0 2) z : PO).1) (6 * xc (pF q (k 0 1) (k 0 2) z : PO).1) (va_A (gL G k1 a z y k b (v0)) sz) := by
  refine met_l (hh := [(0, 9, 12, 13), (0, 9, 15, 48)]) (cc := cL_failure) (maxL := 4) (ret := (some .int)) (fun A => va_Qi (fun (r : Int32) (u : (St × St × St) × Int64) => r = (pF q (k 0 1) (k 0 2) z : PO).1 ∧ u.1 = ((pF q (k 0 1) (k 0 2) z : PO).2.2, y, k) ∧ ((pF q (k 0 1) (k 0 2) z : PO).1 = 0 → u.2 = (pF q (k 0 1) (k 0 2) z : PO).2.1.toInt64)) (fun (u : (St × St × St) × Int64) t => va_P G.1 gcl (gL G k1 a u.1.1 u.1.2.1 u.1.2.2 b u.2) t.heap) A) (fun A => vx_X (fun (u : (St × St × St) × Int64) => False) (fun E u t => E = xIAE ∧ va_P G.1 gcl (gL G k1 a u.1.1 u.1.2.1 u.1.2.2 b u.2) t.heap) A) (by decide) rfl (Nat.le_of_ble_eq_true rfl) ?_
  intro p e s m args below meth c R Q A H ls hR hQ S hr hlk htab hK hX hL hsz hH hAe hA hw hl
  have hl : lv_has ls 4 [(0, .ref (a 0)), (1, .int (q)), (2, .ref (b))] := hl
  have kE0 : (Cond.classLink RL 13 xIAE).before args s = true := S.2.2.2.2 _ (by decide +kernel : (Cond.classLink RL 13 xIAE) ∈ wsL_failure)
  have kE1 : (Cond.classLink RL 48 xNSE).before args s = true := S.2.2.2.2 _ (by decide +kernel : (Cond.classLink RL 48 xNSE) ∈ wsL_failure)
  refine lv_aload_n S.1 S.2.1 dL_failure_0 rfl (lv_at hl 2 rfl) ?_
  refine lv_iconst (v := 0) S.1 S.2.1 dL_failure_1 (by decide) ?_
  refine lv_aload_n S.1 S.2.1 dL_failure_2 rfl (lv_at hl 0 rfl) ?_
  refine lv_iload_n S.1 S.2.1 dL_failure_3 rfl (lv_at hl 1 rfl) ?_
  have hwc : WD G (gp G a z y k) A s H _ := hw.sub [0, 1, 2, 3, 4, 5, 6, 7, 8, 9, 10, 11, 12, 13, 14, 15, 16, 17, 18, 19, 20, 21, 22, 23, 24, 25, 26] rfl rfl
  refine cx_i (wc := gp G a z y k) (wr := [(b, .inl (k1, (1, .inr (.inl (fun _ => v0)))))]) (vx_runV (As := [.int (q)]) (rest := [.int 0, .ref (b)]) S (c_X4_failure l G a z y k H.size q ) (cwV 1 S.2.2.2.2 gL_failure_X4_failure rfl rfl rfl hd_X4_failure ⟨by rw [hR]; exact Nat.le_of_ble_eq_true rfl, by rw [hR]; exact Nat.le_of_ble_eq_true rfl⟩) ⟨PX.blind, va_recv hK.1 hwc.1 (ci := 4) (q0 := 0) rfl rfl, fun U hU hW => ⟨rfl, PX.of hK hX hwc (va_free hw.2.1 hw.2.2 hA [0, 1, 2, 3, 4, 5, 6, 7, 8, 9, 10, 11, 12, 13, 14, 15, 16, 17, 18, 19, 20, 21, 22, 23, 24, 25, 26] rfl) hU hW⟩⟩ rfl rfl hl.1 rfl (lv_room (Nat.le_of_ble_eq_true rfl)) dL_failure_4 ⟨by rw [hR]; exact Nat.le_of_eq (Nat.zero_add _), by rw [hR]; exact Nat.le_of_eq (Nat.zero_add _)⟩) hw hA [0, 1, 2, 3, 4, 5, 6, 7, 8, 9, 10, 11, 12, 13, 14, 15, 16, 17, 18, 19, 20, 21, 22, 23, 24, 25, 26] [27] rfl rfl rfl rfl (by decide) (fun _ => rfl) (fun _ => rfl) (fun ce q9 u9 H locs hpx hw9 g1 g2 g3 => ?_) (fun r9 u9 H locs hp9 hw9 => ?_)
  · skip
    obtain ⟨hne, rfl⟩ := hpx
    have hw : WD G (gL G k1 a (pF q (k 0 1) (k 0 2) z : PO).2.2 y k b (v0)) A s H locs := hw9.sub [1, 2, 3, 4, 5, 6, 7, 8, 9, 10, 11, 12, 13, 14, 15, 16, 17, 18, 19, 20, 21, 22, 23, 24, 25, 26, 27, 0] rfl rfl
    rcases cF with hc9 | hc9 | hc9
    · exact absurd hc9 hne
    · rw [hc9] at g3
      refine ct_1 S hX htab (by decide) (by decide) (by decide) kE0 g1 g2 g3 ?_
      refine lv_astore_n (lv' := [(3, .ref (q9)), (0, .ref (a 0)), (1, .int (q)), (2, .ref (b))]) S.1 S.2.1 dL_failure_12 rfl hl (by decide) rfl (fun ls hl => ?_)
      refine lv_iconst (v := 1) S.1 S.2.1 dL_failure_13 (by decide) ?_
      exact ret_x hQ (Nat.le_of_eq (Nat.zero_add _)) (Nat.le_of_eq (Nat.zero_add _)) (en_i (v := (1)) ((((pF q (k 0 1) (k 0 2) z : PO).2.2, y, k), (v0)) : (St × St × St) × Int64) rfl S hr hlk hw ⟨hc9.symm, rfl, fun h => absurd (show (pF q (k 0 1) (k 0 2) z : PO).1 = 0 from h) (by rw [hc9]; decide)⟩ dL_failure_14)
    · rw [hc9] at g3
      refine ct_2 S hX htab (by decide) (by decide) (by decide) kE0 (by decide) (by decide) kE1 g1 g2 g3 ?_
      refine lv_astore_n (lv' := [(3, .ref (q9)), (0, .ref (a 0)), (1, .int (q)), (2, .ref (b))]) S.1 S.2.1 dL_failure_15 rfl hl (by decide) rfl (fun ls hl => ?_)
      refine lv_iconst (v := 2) S.1 S.2.1 dL_failure_16 (by decide) ?_
      exact ret_x hQ (Nat.le_of_eq (Nat.zero_add _)) (Nat.le_of_eq (Nat.zero_add _)) (en_i (v := (2)) ((((pF q (k 0 1) (k 0 2) z : PO).2.2, y, k), (v0)) : (St × St × St) × Int64) rfl S hr hlk hw ⟨hc9.symm, rfl, fun h => absurd (show (pF q (k 0 1) (k 0 2) z : PO).1 = 0 from h) (by rw [hc9]; decide)⟩ dL_failure_17)
  · skip
    obtain ⟨hc9, rfl, rfl⟩ := hp9
    have hw : WD G (gL G k1 a (pF q (k 0 1) (k 0 2) z : PO).2.2 y k b (v0)) A s H locs := hw9.sub [1, 2, 3, 4, 5, 6, 7, 8, 9, 10, 11, 12, 13, 14, 15, 16, 17, 18, 19, 20, 21, 22, 23, 24, 25, 26, 27, 0] rfl rfl
    refine lv_i2l S.1 S.2.1 dL_failure_7 rfl ?_
    refine la_s S hL hw 27 rfl rfl dL_failure_8 (fun H locs hw => ?_)
    have hw : WD G (gL G k1 a (pF q (k 0 1) (k 0 2) z : PO).2.2 y k b (((pF q (k 0 1) (k 0 2) z : PO).2.1).toInt64)) A s H locs := hw
    refine lv_goto (tgt := 18) S.1 S.2.1 dL_failure_9 (by decide) ?_
    refine lv_iconst (v := 0) S.1 S.2.1 dL_failure_18 (by decide) ?_
    exact ret_x hQ (Nat.le_of_eq (Nat.zero_add _)) (Nat.le_of_eq (Nat.zero_add _)) (en_i (v := (0)) ((((pF q (k 0 1) (k 0 2) z : PO).2.2, y, k), (((pF q (k 0 1) (k 0 2) z : PO).2.1).toInt64)) : (St × St × St) × Int64) rfl S hr hlk hw ⟨hc9.symm, rfl, fun _ => rfl⟩ dL_failure_19)

theorem hd_L_cut : yL_cut.cls ≠ "java/lang/invoke/MethodHandle" ∧ yL_cut.cls ≠ "java/lang/invoke/VarHandle" ∧ (parseMethodDescriptor yL_cut.desc).map (fun d => d.parameters.length) = some 5 := by decide +kernel
set_option maxHeartbeats 4000000 in
set_option maxRecDepth 100000 in
theorem c_L_cut (l : Launch) (G : GA) (k1 k2 : ClassId) (b : Nat) (v0 : Int64) (a : Nat → Nat) (z y k : St) (sz : Nat) (v : Int32) (w : Int32) (on : Bool) (iz : Inv z) : vx_Met l yL_cut wsL_cut ({ frames := 9, cells := xc (pK v w on z : PO).1, slots := 6 * xc (pK v w on z : PO).1, locals := 155 }) (va_Pc [.ref (a 0), .int (v), .int (w), .int (b2 (on)), .ref (b)] (PL l G k1 k2 (gL G k1 a z y k b (v0)) sz)) (va_Qi (fun (r : Int32) (u : (St × St × St) × Int64) => r = (pK v w on z : PO).1 ∧ u.1 = ((pK v w on z : PO).2.2, y, k) ∧ ((pK v w on z : PO).1 = 0 → u.2 = bl (pK v w on z : PO).2.1)) (fun (u : (St × St × St) × Int64) t => va_P G.1 gcl (gL G k1 a u.1.1 u.1.2.1 u.1.2.2 b u.2) t.heap) (va_A (gL G k1 a z y k b (v0)) sz)) (vx_X (fun (u : (St × St × St) × Int64) => False) (fun E u t => E = xIAE ∧ va_P G.1 gcl (gL G k1 a u.1.1 u.1.2.1 u.1.2.2 b u.2) t.heap) (va_A (gL G k1 a z y k b (v0)) sz)) (xc (pK v w on z : PO).1) (6 * xc (pK v w on z : PO).1) (va_A (gL G k1 a z y k b (v0)) sz) := by
  refine met_l (hh := [(0, 19, 22, 28), (0, 19, 26, 13)]) (cc := cL_cut) (maxL := 6) (ret := (some .int)) (fun A => va_Qi (fun (r : Int32) (u : (St × St × St) × Int64) => r = (pK v w on z : PO).1 ∧ u.1 = ((pK v w on z : PO).2.2, y, k) ∧ ((pK v w on z : PO).1 = 0 → u.2 = bl (pK v w on z : PO).2.1)) (fun (u : (St × St × St) × Int64) t => va_P G.1 gcl (gL G k1 a u.1.1 u.1.2.1 u.1.2.2 b u.2) t.heap) A) (fun A => vx_X (fun (u : (St × St × St) × Int64) => False) (fun E u t => E = xIAE ∧ va_P G.1 gcl (gL G k1 a u.1.1 u.1.2.1 u.1.2.2 b u.2) t.heap) A) (by decide) rfl (Nat.le_of_ble_eq_true rfl) ?_
  intro p e s m args below meth c R Q A H ls hR hQ S hr hlk htab hK hX hL hsz hH hAe hA hw hl
  have hl : lv_has ls 6 [(0, .ref (a 0)), (1, .int (v)), (2, .int (w)), (3, .int (b2 (on))), (4, .ref (b))] := hl
  have kE0 : (Cond.classLink RL 28 xIOE).before args s = true := S.2.2.2.2 _ (by decide +kernel : (Cond.classLink RL 28 xIOE) ∈ wsL_cut)
  have kE1 : (Cond.classLink RL 13 xIAE).before args s = true := S.2.2.2.2 _ (by decide +kernel : (Cond.classLink RL 13 xIAE) ∈ wsL_cut)
  refine lv_aload S.1 S.2.1 dL_cut_0 (lv_at hl 4 rfl) ?_
  refine lv_iconst (v := 0) S.1 S.2.1 dL_cut_2 (by decide) ?_
  refine lv_aload_n S.1 S.2.1 dL_cut_3 rfl (lv_at hl 0 rfl) ?_
  refine lv_iload_n S.1 S.2.1 dL_cut_4 rfl (lv_at hl 1 rfl) ?_
  refine lv_iload_n S.1 S.2.1 dL_cut_5 rfl (lv_at hl 2 rfl) ?_
  refine lv_iload_n S.1 S.2.1 dL_cut_6 rfl (lv_at hl 3 rfl) ?_
  have hwc : WD G (gp G a z y k) A s H _ := hw.sub [0, 1, 2, 3, 4, 5, 6, 7, 8, 9, 10, 11, 12, 13, 14, 15, 16, 17, 18, 19, 20, 21, 22, 23, 24, 25, 26] rfl rfl
  refine cx_i (wc := gp G a z y k) (wr := [(b, .inl (k1, (1, .inr (.inl (fun _ => v0)))))]) (vx_runV (As := [.int (v), .int (w), .int (b2 (on))]) (rest := [.int 0, .ref (b)]) S (c_X4_cut l G a z y k H.size v w on iz) (cwV 3 S.2.2.2.2 gL_cut_X4_cut rfl rfl rfl hd_X4_cut ⟨by rw [hR]; exact Nat.le_of_ble_eq_true rfl, by rw [hR]; exact Nat.le_of_ble_eq_true rfl⟩) ⟨PX.blind, va_recv hK.1 hwc.1 (ci := 4) (q0 := 0) rfl rfl, fun U hU hW => ⟨rfl, PX.of hK hX hwc (va_free hw.2.1 hw.2.2 hA [0, 1, 2, 3, 4, 5, 6, 7, 8, 9, 10, 11, 12, 13, 14, 15, 16, 17, 18, 19, 20, 21, 22, 23, 24, 25, 26] rfl) hU hW⟩⟩ rfl rfl hl.1 rfl (lv_room (Nat.le_of_ble_eq_true rfl)) dL_cut_7 ⟨by rw [hR]; exact Nat.le_of_eq (Nat.zero_add _), by rw [hR]; exact Nat.le_of_eq (Nat.zero_add _)⟩) hw hA [0, 1, 2, 3, 4, 5, 6, 7, 8, 9, 10, 11, 12, 13, 14, 15, 16, 17, 18, 19, 20, 21, 22, 23, 24, 25, 26] [27] rfl rfl rfl rfl (by decide) (fun _ => rfl) (fun _ => rfl) (fun ce q9 u9 H locs hpx hw9 g1 g2 g3 => ?_) (fun r9 u9 H locs hp9 hw9 => ?_)
  · skip
    obtain ⟨hne, rfl⟩ := hpx
    have hw : WD G (gL G k1 a (pK v w on z : PO).2.2 y k b (v0)) A s H locs := hw9.sub [1, 2, 3, 4, 5, 6, 7, 8, 9, 10, 11, 12, 13, 14, 15, 16, 17, 18, 19, 20, 21, 22, 23, 24, 25, 26, 27, 0] rfl rfl
    rcases cK with hc9 | hc9 | hc9
    · exact absurd hc9 hne
    · rw [hc9] at g3
      refine ct_1 S hX htab (by decide) (by decide) (by decide) kE0 g1 g2 g3 ?_
      refine lv_astore (lv' := [(5, .ref (q9)), (0, .ref (a 0)), (1, .int (v)), (2, .int (w)), (3, .int (b2 (on))), (4, .ref (b))]) S.1 S.2.1 dL_cut_22 hl (by decide) rfl (fun ls hl => ?_)
      refine lv_iconst (v := 1) S.1 S.2.1 dL_cut_24 (by decide) ?_
      exact ret_x hQ (Nat.le_of_eq (Nat.zero_add _)) (Nat.le_of_eq (Nat.zero_add _)) (en_i (v := (1)) ((((pK v w on z : PO).2.2, y, k), (v0)) : (St × St × St) × Int64) rfl S hr hlk hw ⟨hc9.symm, rfl, fun h => absurd (show (pK v w on z : PO).1 = 0 from h) (by rw [hc9]; decide)⟩ dL_cut_25)
    · rw [hc9] at g3
      refine ct_2 S hX htab (by decide) (by decide) (by decide) kE0 (by decide) (by decide) kE1 g1 g2 g3 ?_
      refine lv_astore (lv' := [(5, .ref (q9)), (0, .ref (a 0)), (1, .int (v)), (2, .int (w)), (3, .int (b2 (on))), (4, .ref (b))]) S.1 S.2.1 dL_cut_26 hl (by decide) rfl (fun ls hl => ?_)
      refine lv_iconst (v := 2) S.1 S.2.1 dL_cut_28 (by decide) ?_
      exact ret_x hQ (Nat.le_of_eq (Nat.zero_add _)) (Nat.le_of_eq (Nat.zero_add _)) (en_i (v := (2)) ((((pK v w on z : PO).2.2, y, k), (v0)) : (St × St × St) × Int64) rfl S hr hlk hw ⟨hc9.symm, rfl, fun h => absurd (show (pK v w on z : PO).1 = 0 from h) (by rw [hc9]; decide)⟩ dL_cut_29)
  · skip
    obtain ⟨hc9, rfl, rfl⟩ := hp9
    have hw : WD G (gL G k1 a (pK v w on z : PO).2.2 y k b (v0)) A s H locs := hw9.sub [1, 2, 3, 4, 5, 6, 7, 8, 9, 10, 11, 12, 13, 14, 15, 16, 17, 18, 19, 20, 21, 22, 23, 24, 25, 26, 27, 0] rfl rfl
    refine lv_if_eq (tgt := 17) S.1 S.2.1 dL_cut_10 (by decide) (fun c1 => ?_) (fun c1 => ?_)
    · skip
      refine lv_lconst S.1 S.2.1 dL_cut_17 rfl ?_
      refine la_s S hL hw 27 rfl rfl dL_cut_18 (fun H locs hw => ?_)
      have hw : WD G (gL G k1 a (pK v w on z : PO).2.2 y k b (0)) A s H locs := hw
      refine lv_goto (tgt := 30) S.1 S.2.1 dL_cut_19 (by decide) ?_
      refine lv_iconst (v := 0) S.1 S.2.1 dL_cut_30 (by decide) ?_
      exact ret_x hQ (Nat.le_of_eq (Nat.zero_add _)) (Nat.le_of_eq (Nat.zero_add _)) (en_i (v := (0)) ((((pK v w on z : PO).2.2, y, k), (0)) : (St × St × St) × Int64) rfl S hr hlk hw ⟨hc9.symm, rfl, fun _ => by unfold bl; first | rw [if_pos c1] | rw [if_neg c1]⟩ dL_cut_31)
    · skip
      refine lv_lconst S.1 S.2.1 dL_cut_13 rfl ?_
      refine lv_goto (tgt := 18) S.1 S.2.1 dL_cut_14 (by decide) ?_
      refine la_s S hL hw 27 rfl rfl dL_cut_18 (fun H locs hw => ?_)
      have hw : WD G (gL G k1 a (pK v w on z : PO).2.2 y k b (1)) A s H locs := hw
      refine lv_goto (tgt := 30) S.1 S.2.1 dL_cut_19 (by decide) ?_
      refine lv_iconst (v := 0) S.1 S.2.1 dL_cut_30 (by decide) ?_
      exact ret_x hQ (Nat.le_of_eq (Nat.zero_add _)) (Nat.le_of_eq (Nat.zero_add _)) (en_i (v := (0)) ((((pK v w on z : PO).2.2, y, k), (1)) : (St × St × St) × Int64) rfl S hr hlk hw ⟨hc9.symm, rfl, fun _ => by unfold bl; first | rw [if_pos c1] | rw [if_neg c1]⟩ dL_cut_31)

theorem hd_L_isUp : yL_isUp.cls ≠ "java/lang/invoke/MethodHandle" ∧ yL_isUp.cls ≠ "java/lang/invoke/VarHandle" ∧ (parseMethodDescriptor yL_isUp.desc).map (fun d => d.parameters.length) = some 3 := by decide +kernel
set_option maxHeartbeats 4000000 in
set_option maxRecDepth 100000 in
theorem c_L_isUp (l : Launch) (G : GA) (k1 k2 : ClassId) (b : Nat) (v0 : Int64) (a : Nat → Nat) (z y k : St) (sz : Nat) (v : Int32) (iz : Inv z) : vx_Met l yL_isUp wsL_isUp ({ frames := 8, cells := xc (pUp v z : PO).1, slots := 6 * xc (pUp v z : PO).1, locals := 131 }) (va_Pc [.ref (a 0), .int (v), .ref (b)] (PL l G k1 k2 (gL G k1 a z y k b (v0)) sz)) (va_Qi (fun (r : Int32) (u : (St × St × St) × Int64) => r = (pUp v z : PO).1 ∧ u.1 = ((pUp v z : PO).2.2, y, k) ∧ ((pUp v z : PO).1 = 0 → u.2 = bl (pUp v z : PO).2.1)) (fun (u : (St × St × St) × Int64) t => va_P G.1 gcl (gL G k1 a u.1.1 u.1.2.1 u.1.2.2 b u.2) t.heap) (va_A (gL G k1 a z y k b (v0)) sz)) (vx_X (fun (u : (St × St × St) × Int64) => False) (fun E u t => E = xIAE ∧ va_P G.1 gcl (gL G k1 a u.1.1 u.1.2.1 u.1.2.2 b u.2) t.heap) (va_A (gL G k1 a z y k b (v0)) sz)) (xc (pUp v z : PO).1) (6 * xc (pUp v z : PO).1) (va_A (gL G k1 a z y k b (v0)) sz) := by
  refine met_l (hh := [(0, 16, 19, 28)]) (cc := cL_isUp) (maxL := 4) (ret := (some .int)) (fun A => va_Qi (fun (r : Int32) (u : (St × St × St) × Int64) => r = (pUp v z : PO).1 ∧ u.1 = ((pUp v z : PO).2.2, y, k) ∧ ((pUp v z : PO).1 = 0 → u.2 = bl (pUp v z : PO).2.1)) (fun (u : (St × St × St) × Int64) t => va_P G.1 gcl (gL G k1 a u.1.1 u.1.2.1 u.1.2.2 b u.2) t.heap) A) (fun A => vx_X (fun (u : (St × St × St) × Int64) => False) (fun E u t => E = xIAE ∧ va_P G.1 gcl (gL G k1 a u.1.1 u.1.2.1 u.1.2.2 b u.2) t.heap) A) (by decide) rfl (Nat.le_of_ble_eq_true rfl) ?_
  intro p e s m args below meth c R Q A H ls hR hQ S hr hlk htab hK hX hL hsz hH hAe hA hw hl
  have hl : lv_has ls 4 [(0, .ref (a 0)), (1, .int (v)), (2, .ref (b))] := hl
  have kE0 : (Cond.classLink RL 28 xIOE).before args s = true := S.2.2.2.2 _ (by decide +kernel : (Cond.classLink RL 28 xIOE) ∈ wsL_isUp)
  refine lv_aload_n S.1 S.2.1 dL_isUp_0 rfl (lv_at hl 2 rfl) ?_
  refine lv_iconst (v := 0) S.1 S.2.1 dL_isUp_1 (by decide) ?_
  refine lv_aload_n S.1 S.2.1 dL_isUp_2 rfl (lv_at hl 0 rfl) ?_
  refine lv_iload_n S.1 S.2.1 dL_isUp_3 rfl (lv_at hl 1 rfl) ?_
  have hwc : WD G (gp G a z y k) A s H _ := hw.sub [0, 1, 2, 3, 4, 5, 6, 7, 8, 9, 10, 11, 12, 13, 14, 15, 16, 17, 18, 19, 20, 21, 22, 23, 24, 25, 26] rfl rfl
  refine cx_i (wc := gp G a z y k) (wr := [(b, .inl (k1, (1, .inr (.inl (fun _ => v0)))))]) (vx_runV (As := [.int (v)]) (rest := [.int 0, .ref (b)]) S (c_X4_isUp l G a z y k H.size v iz) (cwV 1 S.2.2.2.2 gL_isUp_X4_isUp rfl rfl rfl hd_X4_isUp ⟨by rw [hR]; exact Nat.le_of_ble_eq_true rfl, by rw [hR]; exact Nat.le_of_ble_eq_true rfl⟩) ⟨PX.blind, va_recv hK.1 hwc.1 (ci := 4) (q0 := 0) rfl rfl, fun U hU hW => ⟨rfl, PX.of hK hX hwc (va_free hw.2.1 hw.2.2 hA [0, 1, 2, 3, 4, 5, 6, 7, 8, 9, 10, 11, 12, 13, 14, 15, 16, 17, 18, 19, 20, 21, 22, 23, 24, 25, 26] rfl) hU hW⟩⟩ rfl rfl hl.1 rfl (lv_room (Nat.le_of_ble_eq_true rfl)) dL_isUp_4 ⟨by rw [hR]; exact Nat.le_of_eq (Nat.zero_add _), by rw [hR]; exact Nat.le_of_eq (Nat.zero_add _)⟩) hw hA [0, 1, 2, 3, 4, 5, 6, 7, 8, 9, 10, 11, 12, 13, 14, 15, 16, 17, 18, 19, 20, 21, 22, 23, 24, 25, 26] [27] rfl rfl rfl rfl (by decide) (fun _ => rfl) (fun _ => rfl) (fun ce q9 u9 H locs hpx hw9 g1 g2 g3 => ?_) (fun r9 u9 H locs hp9 hw9 => ?_)
  · skip
    obtain ⟨hne, rfl⟩ := hpx
    have hw : WD G (gL G k1 a (pUp v z : PO).2.2 y k b (v0)) A s H locs := hw9.sub [1, 2, 3, 4, 5, 6, 7, 8, 9, 10, 11, 12, 13, 14, 15, 16, 17, 18, 19, 20, 21, 22, 23, 24, 25, 26, 27, 0] rfl rfl
    rcases cUp with hc9 | hc9
    · exact absurd hc9 hne
    · rw [hc9] at g3
      refine ct_1 S hX htab (by decide) (by decide) (by decide) kE0 g1 g2 g3 ?_
      refine lv_astore_n (lv' := [(3, .ref (q9)), (0, .ref (a 0)), (1, .int (v)), (2, .ref (b))]) S.1 S.2.1 dL_isUp_19 rfl hl (by decide) rfl (fun ls hl => ?_)
      refine lv_iconst (v := 1) S.1 S.2.1 dL_isUp_20 (by decide) ?_
      exact ret_x hQ (Nat.le_of_eq (Nat.zero_add _)) (Nat.le_of_eq (Nat.zero_add _)) (en_i (v := (1)) ((((pUp v z : PO).2.2, y, k), (v0)) : (St × St × St) × Int64) rfl S hr hlk hw ⟨hc9.symm, rfl, fun h => absurd (show (pUp v z : PO).1 = 0 from h) (by rw [hc9]; decide)⟩ dL_isUp_21)
  · skip
    obtain ⟨hc9, rfl, rfl⟩ := hp9
    have hw : WD G (gL G k1 a (pUp v z : PO).2.2 y k b (v0)) A s H locs := hw9.sub [1, 2, 3, 4, 5, 6, 7, 8, 9, 10, 11, 12, 13, 14, 15, 16, 17, 18, 19, 20, 21, 22, 23, 24, 25, 26, 27, 0] rfl rfl
    refine lv_if_eq (tgt := 14) S.1 S.2.1 dL_isUp_7 (by decide) (fun c1 => ?_) (fun c1 => ?_)
    · skip
      refine lv_lconst S.1 S.2.1 dL_isUp_14 rfl ?_
      refine la_s S hL hw 27 rfl rfl dL_isUp_15 (fun H locs hw => ?_)
      have hw : WD G (gL G k1 a (pUp v z : PO).2.2 y k b (0)) A s H locs := hw
      refine lv_goto (tgt := 22) S.1 S.2.1 dL_isUp_16 (by decide) ?_
      refine lv_iconst (v := 0) S.1 S.2.1 dL_isUp_22 (by decide) ?_
      exact ret_x hQ (Nat.le_of_eq (Nat.zero_add _)) (Nat.le_of_eq (Nat.zero_add _)) (en_i (v := (0)) ((((pUp v z : PO).2.2, y, k), (0)) : (St × St × St) × Int64) rfl S hr hlk hw ⟨hc9.symm, rfl, fun _ => by unfold bl; first | rw [if_pos c1] | rw [if_neg c1]⟩ dL_isUp_23)
    · skip
      refine lv_lconst S.1 S.2.1 dL_isUp_10 rfl ?_
      refine lv_goto (tgt := 15) S.1 S.2.1 dL_isUp_11 (by decide) ?_
      refine la_s S hL hw 27 rfl rfl dL_isUp_15 (fun H locs hw => ?_)
      have hw : WD G (gL G k1 a (pUp v z : PO).2.2 y k b (1)) A s H locs := hw
      refine lv_goto (tgt := 22) S.1 S.2.1 dL_isUp_16 (by decide) ?_
      refine lv_iconst (v := 0) S.1 S.2.1 dL_isUp_22 (by decide) ?_
      exact ret_x hQ (Nat.le_of_eq (Nat.zero_add _)) (Nat.le_of_eq (Nat.zero_add _)) (en_i (v := (0)) ((((pUp v z : PO).2.2, y, k), (1)) : (St × St × St) × Int64) rfl S hr hlk hw ⟨hc9.symm, rfl, fun _ => by unfold bl; first | rw [if_pos c1] | rw [if_neg c1]⟩ dL_isUp_23)

theorem hd_L_reaches : yL_reaches.cls ≠ "java/lang/invoke/MethodHandle" ∧ yL_reaches.cls ≠ "java/lang/invoke/VarHandle" ∧ (parseMethodDescriptor yL_reaches.desc).map (fun d => d.parameters.length) = some 4 := by decide +kernel
set_option maxHeartbeats 4000000 in
set_option maxRecDepth 100000 in
theorem c_L_reaches (l : Launch) (G : GA) (k1 k2 : ClassId) (b : Nat) (v0 : Int64) (a : Nat → Nat) (z y k : St) (sz : Nat) (v : Int32) (w : Int32) (iz : Inv z) : vx_Met l yL_reaches wsL_reaches ({ frames := 8, cells := xc (pRe v w z : PO).1, slots := 6 * xc (pRe v w z : PO).1, locals := 132 }) (va_Pc [.ref (a 0), .int (v), .int (w), .ref (b)] (PL l G k1 k2 (gL G k1 a z y k b (v0)) sz)) (va_Qi (fun (r : Int32) (u : (St × St × St) × Int64) => r = (pRe v w z : PO).1 ∧ u.1 = ((pRe v w z : PO).2.2, y, k) ∧ ((pRe v w z : PO).1 = 0 → u.2 = bl (pRe v w z : PO).2.1)) (fun (u : (St × St × St) × Int64) t => va_P G.1 gcl (gL G k1 a u.1.1 u.1.2.1 u.1.2.2 b u.2) t.heap) (va_A (gL G k1 a z y k b (v0)) sz)) (vx_X (fun (u : (St × St × St) × Int64) => False) (fun E u t => E = xIAE ∧ va_P G.1 gcl (gL G k1 a u.1.1 u.1.2.1 u.1.2.2 b u.2) t.heap) (va_A (gL G k1 a z y k b (v0)) sz)) (xc (pRe v w z : PO).1) (6 * xc (pRe v w z : PO).1) (va_A (gL G k1 a z y k b (v0)) sz) := by
  refine met_l (hh := [(0, 17, 20, 28)]) (cc := cL_reaches) (maxL := 5) (ret := (some .int)) (fun A => va_Qi (fun (r : Int32) (u : (St × St × St) × Int64) => r = (pRe v w z : PO).1 ∧ u.1 = ((pRe v w z : PO).2.2, y, k) ∧ ((pRe v w z : PO).1 = 0 → u.2 = bl (pRe v w z : PO).2.1)) (fun (u : (St × St × St) × Int64) t => va_P G.1 gcl (gL G k1 a u.1.1 u.1.2.1 u.1.2.2 b u.2) t.heap) A) (fun A => vx_X (fun (u : (St × St × St) × Int64) => False) (fun E u t => E = xIAE ∧ va_P G.1 gcl (gL G k1 a u.1.1 u.1.2.1 u.1.2.2 b u.2) t.heap) A) (by decide) rfl (Nat.le_of_ble_eq_true rfl) ?_
  intro p e s m args below meth c R Q A H ls hR hQ S hr hlk htab hK hX hL hsz hH hAe hA hw hl
  have hl : lv_has ls 5 [(0, .ref (a 0)), (1, .int (v)), (2, .int (w)), (3, .ref (b))] := hl
  have kE0 : (Cond.classLink RL 28 xIOE).before args s = true := S.2.2.2.2 _ (by decide +kernel : (Cond.classLink RL 28 xIOE) ∈ wsL_reaches)
  refine lv_aload_n S.1 S.2.1 dL_reaches_0 rfl (lv_at hl 3 rfl) ?_
  refine lv_iconst (v := 0) S.1 S.2.1 dL_reaches_1 (by decide) ?_
  refine lv_aload_n S.1 S.2.1 dL_reaches_2 rfl (lv_at hl 0 rfl) ?_
  refine lv_iload_n S.1 S.2.1 dL_reaches_3 rfl (lv_at hl 1 rfl) ?_
  refine lv_iload_n S.1 S.2.1 dL_reaches_4 rfl (lv_at hl 2 rfl) ?_
  have hwc : WD G (gp G a z y k) A s H _ := hw.sub [0, 1, 2, 3, 4, 5, 6, 7, 8, 9, 10, 11, 12, 13, 14, 15, 16, 17, 18, 19, 20, 21, 22, 23, 24, 25, 26] rfl rfl
  refine cx_i (wc := gp G a z y k) (wr := [(b, .inl (k1, (1, .inr (.inl (fun _ => v0)))))]) (vx_runV (As := [.int (v), .int (w)]) (rest := [.int 0, .ref (b)]) S (c_X4_reaches l G a z y k H.size v w iz) (cwV 2 S.2.2.2.2 gL_reaches_X4_reaches rfl rfl rfl hd_X4_reaches ⟨by rw [hR]; exact Nat.le_of_ble_eq_true rfl, by rw [hR]; exact Nat.le_of_ble_eq_true rfl⟩) ⟨PX.blind, va_recv hK.1 hwc.1 (ci := 4) (q0 := 0) rfl rfl, fun U hU hW => ⟨rfl, PX.of hK hX hwc (va_free hw.2.1 hw.2.2 hA [0, 1, 2, 3, 4, 5, 6, 7, 8, 9, 10, 11, 12, 13, 14, 15, 16, 17, 18, 19, 20, 21, 22, 23, 24, 25, 26] rfl) hU hW⟩⟩ rfl rfl hl.1 rfl (lv_room (Nat.le_of_ble_eq_true rfl)) dL_reaches_5 ⟨by rw [hR]; exact Nat.le_of_eq (Nat.zero_add _), by rw [hR]; exact Nat.le_of_eq (Nat.zero_add _)⟩) hw hA [0, 1, 2, 3, 4, 5, 6, 7, 8, 9, 10, 11, 12, 13, 14, 15, 16, 17, 18, 19, 20, 21, 22, 23, 24, 25, 26] [27] rfl rfl rfl rfl (by decide) (fun _ => rfl) (fun _ => rfl) (fun ce q9 u9 H locs hpx hw9 g1 g2 g3 => ?_) (fun r9 u9 H locs hp9 hw9 => ?_)
  · skip
    obtain ⟨hne, rfl⟩ := hpx
    have hw : WD G (gL G k1 a (pRe v w z : PO).2.2 y k b (v0)) A s H locs := hw9.sub [1, 2, 3, 4, 5, 6, 7, 8, 9, 10, 11, 12, 13, 14, 15, 16, 17, 18, 19, 20, 21, 22, 23, 24, 25, 26, 27, 0] rfl rfl
    rcases cRe with hc9 | hc9
    · exact absurd hc9 hne
    · rw [hc9] at g3
      refine ct_1 S hX htab (by decide) (by decide) (by decide) kE0 g1 g2 g3 ?_
      refine lv_astore (lv' := [(4, .ref (q9)), (0, .ref (a 0)), (1, .int (v)), (2, .int (w)), (3, .ref (b))]) S.1 S.2.1 dL_reaches_20 hl (by decide) rfl (fun ls hl => ?_)
      refine lv_iconst (v := 1) S.1 S.2.1 dL_reaches_22 (by decide) ?_
      exact ret_x hQ (Nat.le_of_eq (Nat.zero_add _)) (Nat.le_of_eq (Nat.zero_add _)) (en_i (v := (1)) ((((pRe v w z : PO).2.2, y, k), (v0)) : (St × St × St) × Int64) rfl S hr hlk hw ⟨hc9.symm, rfl, fun h => absurd (show (pRe v w z : PO).1 = 0 from h) (by rw [hc9]; decide)⟩ dL_reaches_23)
  · skip
    obtain ⟨hc9, rfl, rfl⟩ := hp9
    have hw : WD G (gL G k1 a (pRe v w z : PO).2.2 y k b (v0)) A s H locs := hw9.sub [1, 2, 3, 4, 5, 6, 7, 8, 9, 10, 11, 12, 13, 14, 15, 16, 17, 18, 19, 20, 21, 22, 23, 24, 25, 26, 27, 0] rfl rfl
    refine lv_if_eq (tgt := 15) S.1 S.2.1 dL_reaches_8 (by decide) (fun c1 => ?_) (fun c1 => ?_)
    · skip
      refine lv_lconst S.1 S.2.1 dL_reaches_15 rfl ?_
      refine la_s S hL hw 27 rfl rfl dL_reaches_16 (fun H locs hw => ?_)
      have hw : WD G (gL G k1 a (pRe v w z : PO).2.2 y k b (0)) A s H locs := hw
      refine lv_goto (tgt := 24) S.1 S.2.1 dL_reaches_17 (by decide) ?_
      refine lv_iconst (v := 0) S.1 S.2.1 dL_reaches_24 (by decide) ?_
      exact ret_x hQ (Nat.le_of_eq (Nat.zero_add _)) (Nat.le_of_eq (Nat.zero_add _)) (en_i (v := (0)) ((((pRe v w z : PO).2.2, y, k), (0)) : (St × St × St) × Int64) rfl S hr hlk hw ⟨hc9.symm, rfl, fun _ => by unfold bl; first | rw [if_pos c1] | rw [if_neg c1]⟩ dL_reaches_25)
    · skip
      refine lv_lconst S.1 S.2.1 dL_reaches_11 rfl ?_
      refine lv_goto (tgt := 16) S.1 S.2.1 dL_reaches_12 (by decide) ?_
      refine la_s S hL hw 27 rfl rfl dL_reaches_16 (fun H locs hw => ?_)
      have hw : WD G (gL G k1 a (pRe v w z : PO).2.2 y k b (1)) A s H locs := hw
      refine lv_goto (tgt := 24) S.1 S.2.1 dL_reaches_17 (by decide) ?_
      refine lv_iconst (v := 0) S.1 S.2.1 dL_reaches_24 (by decide) ?_
      exact ret_x hQ (Nat.le_of_eq (Nat.zero_add _)) (Nat.le_of_eq (Nat.zero_add _)) (en_i (v := (0)) ((((pRe v w z : PO).2.2, y, k), (1)) : (St × St × St) × Int64) rfl S hr hlk hw ⟨hc9.symm, rfl, fun _ => by unfold bl; first | rw [if_pos c1] | rw [if_neg c1]⟩ dL_reaches_25)

theorem hd_L_tell : yL_tell.cls ≠ "java/lang/invoke/MethodHandle" ∧ yL_tell.cls ≠ "java/lang/invoke/VarHandle" ∧ (parseMethodDescriptor yL_tell.desc).map (fun d => d.parameters.length) = some 6 := by decide +kernel
set_option maxHeartbeats 4000000 in
set_option maxRecDepth 100000 in
theorem c_L_tell (l : Launch) (G : GA) (k1 k2 : ClassId) (b : Nat) (v0 : Int64) (a : Nat → Nat) (z y k : St) (sz : Nat) (v : Int32) (w : Int32) (x : Int32) (i : Int32) (iz : Inv z) : vx_Met l yL_tell wsL_tell ({ frames := 8, cells := xc (pT v w x i z : PO).1, slots := 6 * xc (pT v w x i z : PO).1, locals := 135 }) (va_Pc [.ref (a 0), .int (v), .int (w), .int (x), .int (i), .ref (b)] (PL l G k1 k2 (gL G k1 a z y k b (v0)) sz)) (va_Qi (fun (r : Int32) (u : (St × St × St) × Int64) => r = (pT v w x i z : PO).1 ∧ u.1 = ((pT v w x i z : PO).2.2, y, k) ∧ ((pT v w x i z : PO).1 = 0 → u.2 = bl (pT v w x i z : PO).2.1)) (fun (u : (St × St × St) × Int64) t => va_P G.1 gcl (gL G k1 a u.1.1 u.1.2.1 u.1.2.2 b u.2) t.heap) (va_A (gL G k1 a z y k b (v0)) sz)) (vx_X (fun (u : (St × St × St) × Int64) => False) (fun E u t => E = xIAE ∧ va_P G.1 gcl (gL G k1 a u.1.1 u.1.2.1 u.1.2.2 b u.2) t.heap) (va_A (gL G k1 a z y k b (v0)) sz)) (xc (pT v w x i z : PO).1) (6 * xc (pT v w x i z : PO).1) (va_A (gL G k1 a z y k b (v0)) sz) := by
  refine met_l (hh := [(0, 21, 24, 28), (0, 21, 28, 30), (0, 21, 32, 13)]) (cc := cL_tell) (maxL := 7) (ret := (some .int)) (fun A => va_Qi (fun (r : Int32) (u : (St × St × St) × Int64) => r = (pT v w x i z : PO).1 ∧ u.1 = ((pT v w x i z : PO).2.2, y, k) ∧ ((pT v w x i z : PO).1 = 0 → u.2 = bl (pT v w x i z : PO).2.1)) (fun (u : (St × St × St) × Int64) t => va_P G.1 gcl (gL G k1 a u.1.1 u.1.2.1 u.1.2.2 b u.2) t.heap) A) (fun A => vx_X (fun (u : (St × St × St) × Int64) => False) (fun E u t => E = xIAE ∧ va_P G.1 gcl (gL G k1 a u.1.1 u.1.2.1 u.1.2.2 b u.2) t.heap) A) (by decide) rfl (Nat.le_of_ble_eq_true rfl) ?_
  intro p e s m args below meth c R Q A H ls hR hQ S hr hlk htab hK hX hL hsz hH hAe hA hw hl
  have hl : lv_has ls 7 [(0, .ref (a 0)), (1, .int (v)), (2, .int (w)), (3, .int (x)), (4, .int (i)), (5, .ref (b))] := hl
  have kE0 : (Cond.classLink RL 28 xIOE).before args s = true := S.2.2.2.2 _ (by decide +kernel : (Cond.classLink RL 28 xIOE) ∈ wsL_tell)
  have kE1 : (Cond.classLink RL 30 xISE).before args s = true := S.2.2.2.2 _ (by decide +kernel : (Cond.classLink RL 30 xISE) ∈ wsL_tell)
  have kE2 : (Cond.classLink RL 13 xIAE).before args s = true := S.2.2.2.2 _ (by decide +kernel : (Cond.classLink RL 13 xIAE) ∈ wsL_tell)
  refine lv_aload S.1 S.2.1 dL_tell_0 (lv_at hl 5 rfl) ?_
  refine lv_iconst (v := 0) S.1 S.2.1 dL_tell_2 (by decide) ?_
  refine lv_aload_n S.1 S.2.1 dL_tell_3 rfl (lv_at hl 0 rfl) ?_
  refine lv_iload_n S.1 S.2.1 dL_tell_4 rfl (lv_at hl 1 rfl) ?_
  refine lv_iload_n S.1 S.2.1 dL_tell_5 rfl (lv_at hl 2 rfl) ?_
  refine lv_iload_n S.1 S.2.1 dL_tell_6 rfl (lv_at hl 3 rfl) ?_
  refine lv_iload S.1 S.2.1 dL_tell_7 (lv_at hl 4 rfl) ?_
  have hwc : WD G (gp G a z y k) A s H _ := hw.sub [0, 1, 2, 3, 4, 5, 6, 7, 8, 9, 10, 11, 12, 13, 14, 15, 16, 17, 18, 19, 20, 21, 22, 23, 24, 25, 26] rfl rfl
  refine cx_i (wc := gp G a z y k) (wr := [(b, .inl (k1, (1, .inr (.inl (fun _ => v0)))))]) (vx_runV (As := [.int (v), .int (w), .int (x), .int (i)]) (rest := [.int 0, .ref (b)]) S (c_X4_tell l G a z y k H.size v w x i iz) (cwV 4 S.2.2.2.2 gL_tell_X4_tell rfl rfl rfl hd_X4_tell ⟨by rw [hR]; exact Nat.le_of_ble_eq_true rfl, by rw [hR]; exact Nat.le_of_ble_eq_true rfl⟩) ⟨PX.blind, va_recv hK.1 hwc.1 (ci := 4) (q0 := 0) rfl rfl, fun U hU hW => ⟨rfl, PX.of hK hX hwc (va_free hw.2.1 hw.2.2 hA [0, 1, 2, 3, 4, 5, 6, 7, 8, 9, 10, 11, 12, 13, 14, 15, 16, 17, 18, 19, 20, 21, 22, 23, 24, 25, 26] rfl) hU hW⟩⟩ rfl rfl hl.1 rfl (lv_room (Nat.le_of_ble_eq_true rfl)) dL_tell_9 ⟨by rw [hR]; exact Nat.le_of_eq (Nat.zero_add _), by rw [hR]; exact Nat.le_of_eq (Nat.zero_add _)⟩) hw hA [0, 1, 2, 3, 4, 5, 6, 7, 8, 9, 10, 11, 12, 13, 14, 15, 16, 17, 18, 19, 20, 21, 22, 23, 24, 25, 26] [27] rfl rfl rfl rfl (by decide) (fun _ => rfl) (fun _ => rfl) (fun ce q9 u9 H locs hpx hw9 g1 g2 g3 => ?_) (fun r9 u9 H locs hp9 hw9 => ?_)
  · skip
    obtain ⟨hne, rfl⟩ := hpx
    have hw : WD G (gL G k1 a (pT v w x i z : PO).2.2 y k b (v0)) A s H locs := hw9.sub [1, 2, 3, 4, 5, 6, 7, 8, 9, 10, 11, 12, 13, 14, 15, 16, 17, 18, 19, 20, 21, 22, 23, 24, 25, 26, 27, 0] rfl rfl
    rcases cT with hc9 | hc9 | hc9 | hc9
    · exact absurd hc9 hne
    · rw [hc9] at g3
      refine ct_1 S hX htab (by decide) (by decide) (by decide) kE0 g1 g2 g3 ?_
      refine lv_astore (lv' := [(6, .ref (q9)), (0, .ref (a 0)), (1, .int (v)), (2, .int (w)), (3, .int (x)), (4, .int (i)), (5, .ref (b))]) S.1 S.2.1 dL_tell_24 hl (by decide) rfl (fun ls hl => ?_)
      refine lv_iconst (v := 1) S.1 S.2.1 dL_tell_26 (by decide) ?_
      exact ret_x hQ (Nat.le_of_eq (Nat.zero_add _)) (Nat.le_of_eq (Nat.zero_add _)) (en_i (v := (1)) ((((pT v w x i z : PO).2.2, y, k), (v0)) : (St × St × St) × Int64) rfl S hr hlk hw ⟨hc9.symm, rfl, fun h => absurd (show (pT v w x i z : PO).1 = 0 from h) (by rw [hc9]; decide)⟩ dL_tell_27)
    · rw [hc9] at g3
      refine ct_2 S hX htab (by decide) (by decide) (by decide) kE0 (by decide) (by decide) kE1 g1 g2 g3 ?_
      refine lv_astore (lv' := [(6, .ref (q9)), (0, .ref (a 0)), (1, .int (v)), (2, .int (w)), (3, .int (x)), (4, .int (i)), (5, .ref (b))]) S.1 S.2.1 dL_tell_28 hl (by decide) rfl (fun ls hl => ?_)
      refine lv_iconst (v := 2) S.1 S.2.1 dL_tell_30 (by decide) ?_
      exact ret_x hQ (Nat.le_of_eq (Nat.zero_add _)) (Nat.le_of_eq (Nat.zero_add _)) (en_i (v := (2)) ((((pT v w x i z : PO).2.2, y, k), (v0)) : (St × St × St) × Int64) rfl S hr hlk hw ⟨hc9.symm, rfl, fun h => absurd (show (pT v w x i z : PO).1 = 0 from h) (by rw [hc9]; decide)⟩ dL_tell_31)
    · rw [hc9] at g3
      refine ct_3 S hX htab (by decide) (by decide) (by decide) kE0 (by decide) (by decide) kE1 (by decide) (by decide) kE2 g1 g2 g3 ?_
      refine lv_astore (lv' := [(6, .ref (q9)), (0, .ref (a 0)), (1, .int (v)), (2, .int (w)), (3, .int (x)), (4, .int (i)), (5, .ref (b))]) S.1 S.2.1 dL_tell_32 hl (by decide) rfl (fun ls hl => ?_)
      refine lv_iconst (v := 3) S.1 S.2.1 dL_tell_34 (by decide) ?_
      exact ret_x hQ (Nat.le_of_eq (Nat.zero_add _)) (Nat.le_of_eq (Nat.zero_add _)) (en_i (v := (3)) ((((pT v w x i z : PO).2.2, y, k), (v0)) : (St × St × St) × Int64) rfl S hr hlk hw ⟨hc9.symm, rfl, fun h => absurd (show (pT v w x i z : PO).1 = 0 from h) (by rw [hc9]; decide)⟩ dL_tell_35)
  · skip
    obtain ⟨hc9, rfl, rfl⟩ := hp9
    have hw : WD G (gL G k1 a (pT v w x i z : PO).2.2 y k b (v0)) A s H locs := hw9.sub [1, 2, 3, 4, 5, 6, 7, 8, 9, 10, 11, 12, 13, 14, 15, 16, 17, 18, 19, 20, 21, 22, 23, 24, 25, 26, 27, 0] rfl rfl
    refine lv_if_eq (tgt := 19) S.1 S.2.1 dL_tell_12 (by decide) (fun c1 => ?_) (fun c1 => ?_)
    · skip
      refine lv_lconst S.1 S.2.1 dL_tell_19 rfl ?_
      refine la_s S hL hw 27 rfl rfl dL_tell_20 (fun H locs hw => ?_)
      have hw : WD G (gL G k1 a (pT v w x i z : PO).2.2 y k b (0)) A s H locs := hw
      refine lv_goto (tgt := 36) S.1 S.2.1 dL_tell_21 (by decide) ?_
      refine lv_iconst (v := 0) S.1 S.2.1 dL_tell_36 (by decide) ?_
      exact ret_x hQ (Nat.le_of_eq (Nat.zero_add _)) (Nat.le_of_eq (Nat.zero_add _)) (en_i (v := (0)) ((((pT v w x i z : PO).2.2, y, k), (0)) : (St × St × St) × Int64) rfl S hr hlk hw ⟨hc9.symm, rfl, fun _ => by unfold bl; first | rw [if_pos c1] | rw [if_neg c1]⟩ dL_tell_37)
    · skip
      refine lv_lconst S.1 S.2.1 dL_tell_15 rfl ?_
      refine lv_goto (tgt := 20) S.1 S.2.1 dL_tell_16 (by decide) ?_
      refine la_s S hL hw 27 rfl rfl dL_tell_20 (fun H locs hw => ?_)
      have hw : WD G (gL G k1 a (pT v w x i z : PO).2.2 y k b (1)) A s H locs := hw
      refine lv_goto (tgt := 36) S.1 S.2.1 dL_tell_21 (by decide) ?_
      refine lv_iconst (v := 0) S.1 S.2.1 dL_tell_36 (by decide) ?_
      exact ret_x hQ (Nat.le_of_eq (Nat.zero_add _)) (Nat.le_of_eq (Nat.zero_add _)) (en_i (v := (0)) ((((pT v w x i z : PO).2.2, y, k), (1)) : (St × St × St) × Int64) rfl S hr hlk hw ⟨hc9.symm, rfl, fun _ => by unfold bl; first | rw [if_pos c1] | rw [if_neg c1]⟩ dL_tell_37)

theorem hd_L_runText : yL_runText.cls ≠ "java/lang/invoke/MethodHandle" ∧ yL_runText.cls ≠ "java/lang/invoke/VarHandle" ∧ (parseMethodDescriptor yL_runText.desc).map (fun d => d.parameters.length) = some 2 := by decide +kernel
set_option maxHeartbeats 4000000 in
set_option maxRecDepth 100000 in
theorem c_L_runText (l : Launch) (G : GA) (k1 k2 : ClassId) (b : Nat) (v0 : Int64) (a : Nat → Nat) (z y k : St) (sz : Nat) {tl : Nat} (iz : Inv z) (hTL : k 0 3 = nI tl) (hm : tl ≤ 40) (hch : SG (k 2)) : vx_Met l yL_runText wsL_runText ({ frames := 10, cells := xr (rT (k 2) tl z).1, slots := 6 * xr (rT (k 2) tl z).1, locals := 183 }) (va_Pc [.ref (a 0), .ref (b)] (PL l G k1 k2 (gL G k1 a z y k b (v0)) sz)) (va_Qi (fun (r : Int32) (u : (St × St × St) × Int64) => r = (rT (k 2) tl z).1 ∧ (∃ N, u.1 = ((rT (k 2) tl z).2.2.1, y, kR k (rT (k 2) tl z).2.2.2.1 N) ∧ (¬ (rT (k 2) tl z).2.2.2.1 = 0 → N = (rT (k 2) tl z).2.2.2.2)) ∧ ((rT (k 2) tl z).1 = 0 → u.2 = (rT (k 2) tl z).2.1.toInt64)) (fun (u : (St × St × St) × Int64) t => va_P G.1 gcl (gL G k1 a u.1.1 u.1.2.1 u.1.2.2 b u.2) t.heap) (va_A (gL G k1 a z y k b (v0)) sz)) (vx_X (fun (u : (St × St × St) × Int64) => False) (fun E u t => E = xIAE ∧ va_P G.1 gcl (gL G k1 a u.1.1 u.1.2.1 u.1.2.2 b u.2) t.heap) (va_A (gL G k1 a z y k b (v0)) sz)) (xr (rT (k 2) tl z).1) (6 * xr (rT (k 2) tl z).1) (va_A (gL G k1 a z y k b (v0)) sz) := by
  refine met_l (hh := [(0, 8, 11, 13), (0, 8, 14, 30)]) (cc := cL_runText) (maxL := 3) (ret := (some .int)) (fun A => va_Qi (fun (r : Int32) (u : (St × St × St) × Int64) => r = (rT (k 2) tl z).1 ∧ (∃ N, u.1 = ((rT (k 2) tl z).2.2.1, y, kR k (rT (k 2) tl z).2.2.2.1 N) ∧ (¬ (rT (k 2) tl z).2.2.2.1 = 0 → N = (rT (k 2) tl z).2.2.2.2)) ∧ ((rT (k 2) tl z).1 = 0 → u.2 = (rT (k 2) tl z).2.1.toInt64)) (fun (u : (St × St × St) × Int64) t => va_P G.1 gcl (gL G k1 a u.1.1 u.1.2.1 u.1.2.2 b u.2) t.heap) A) (fun A => vx_X (fun (u : (St × St × St) × Int64) => False) (fun E u t => E = xIAE ∧ va_P G.1 gcl (gL G k1 a u.1.1 u.1.2.1 u.1.2.2 b u.2) t.heap) A) (by decide) rfl (Nat.le_of_ble_eq_true rfl) ?_
  intro p e s m args below meth c R Q A H ls hR hQ S hr hlk htab hK hX hL hsz hH hAe hA hw hl
  have hl : lv_has ls 3 [(0, .ref (a 0)), (1, .ref (b))] := hl
  have kE0 : (Cond.classLink RL 13 xIAE).before args s = true := S.2.2.2.2 _ (by decide +kernel : (Cond.classLink RL 13 xIAE) ∈ wsL_runText)
  have kE1 : (Cond.classLink RL 30 xISE).before args s = true := S.2.2.2.2 _ (by decide +kernel : (Cond.classLink RL 30 xISE) ∈ wsL_runText)
  refine lv_aload_n S.1 S.2.1 dL_runText_0 rfl (lv_at hl 1 rfl) ?_
  refine lv_iconst (v := 0) S.1 S.2.1 dL_runText_1 (by decide) ?_
  refine lv_aload_n S.1 S.2.1 dL_runText_2 rfl (lv_at hl 0 rfl) ?_
  have hwc : WD G (gp G a z y k) A s H _ := hw.sub [0, 1, 2, 3, 4, 5, 6, 7, 8, 9, 10, 11, 12, 13, 14, 15, 16, 17, 18, 19, 20, 21, 22, 23, 24, 25, 26] rfl rfl
  refine cx_i (wc := gp G a z y k) (wr := [(b, .inl (k1, (1, .inr (.inl (fun _ => v0)))))]) (vx_runV (As := []) (rest := [.int 0, .ref (b)]) S (c_X4_runText l G a z y k H.size  iz hTL hm hch) (cwV 0 S.2.2.2.2 gL_runText_X4_runText rfl rfl rfl hd_X4_runText ⟨by rw [hR]; exact Nat.le_of_ble_eq_true rfl, by rw [hR]; exact Nat.le_of_ble_eq_true rfl⟩) ⟨PX.blind, va_recv hK.1 hwc.1 (ci := 4) (q0 := 0) rfl rfl, fun U hU hW => ⟨rfl, PX.of hK hX hwc (va_free hw.2.1 hw.2.2 hA [0, 1, 2, 3, 4, 5, 6, 7, 8, 9, 10, 11, 12, 13, 14, 15, 16, 17, 18, 19, 20, 21, 22, 23, 24, 25, 26] rfl) hU hW⟩⟩ rfl rfl hl.1 rfl (lv_room (Nat.le_of_ble_eq_true rfl)) dL_runText_3 ⟨by rw [hR]; exact Nat.le_of_eq (Nat.zero_add _), by rw [hR]; exact Nat.le_of_eq (Nat.zero_add _)⟩) hw hA [0, 1, 2, 3, 4, 5, 6, 7, 8, 9, 10, 11, 12, 13, 14, 15, 16, 17, 18, 19, 20, 21, 22, 23, 24, 25, 26] [27] rfl rfl rfl rfl (by decide) (fun _ => rfl) (fun _ => rfl) (fun ce q9 u9 H locs hpx hw9 g1 g2 g3 => ?_) (fun r9 u9 H locs hp9 hw9 => ?_)
  · skip
    obtain ⟨hne, N9, rfl, hN9⟩ := hpx
    have hw : WD G (gL G k1 a (rT (k 2) tl z).2.2.1 y (kR k (rT (k 2) tl z).2.2.2.1 N9) b (v0)) A s H locs := hw9.sub [1, 2, 3, 4, 5, 6, 7, 8, 9, 10, 11, 12, 13, 14, 15, 16, 17, 18, 19, 20, 21, 22, 23, 24, 25, 26, 27, 0] rfl rfl
    rcases cT9 with hc9 | hc9 | hc9
    · exact absurd hc9 hne
    · rw [hc9] at g3
      refine ct_1 S hX htab (by decide) (by decide) (by decide) kE0 g1 g2 g3 ?_
      refine lv_astore_n (lv' := [(2, .ref (q9)), (0, .ref (a 0)), (1, .ref (b))]) S.1 S.2.1 dL_runText_11 rfl hl (by decide) rfl (fun ls hl => ?_)
      refine lv_iconst (v := 1) S.1 S.2.1 dL_runText_12 (by decide) ?_
      exact ret_x hQ (Nat.le_of_eq (Nat.zero_add _)) (Nat.le_of_eq (Nat.zero_add _)) (en_i (v := (1)) ((((rT (k 2) tl z).2.2.1, y, (kR k (rT (k 2) tl z).2.2.2.1 N9)), (v0)) : (St × St × St) × Int64) rfl S hr hlk hw ⟨hc9.symm, ⟨N9, rfl, hN9⟩, fun h => absurd (show (rT (k 2) tl z).1 = 0 from h) (by rw [hc9]; decide)⟩ dL_runText_13)
    · rw [hc9] at g3
      refine ct_2 S hX htab (by decide) (by decide) (by decide) kE0 (by decide) (by decide) kE1 g1 g2 g3 ?_
      refine lv_astore_n (lv' := [(2, .ref (q9)), (0, .ref (a 0)), (1, .ref (b))]) S.1 S.2.1 dL_runText_14 rfl hl (by decide) rfl (fun ls hl => ?_)
      refine lv_iconst (v := 2) S.1 S.2.1 dL_runText_15 (by decide) ?_
      exact ret_x hQ (Nat.le_of_eq (Nat.zero_add _)) (Nat.le_of_eq (Nat.zero_add _)) (en_i (v := (2)) ((((rT (k 2) tl z).2.2.1, y, (kR k (rT (k 2) tl z).2.2.2.1 N9)), (v0)) : (St × St × St) × Int64) rfl S hr hlk hw ⟨hc9.symm, ⟨N9, rfl, hN9⟩, fun h => absurd (show (rT (k 2) tl z).1 = 0 from h) (by rw [hc9]; decide)⟩ dL_runText_16)
  · skip
    obtain ⟨hc9, rfl, N9, rfl, hN9⟩ := hp9
    have hw : WD G (gL G k1 a (rT (k 2) tl z).2.2.1 y (kR k (rT (k 2) tl z).2.2.2.1 N9) b (v0)) A s H locs := hw9.sub [1, 2, 3, 4, 5, 6, 7, 8, 9, 10, 11, 12, 13, 14, 15, 16, 17, 18, 19, 20, 21, 22, 23, 24, 25, 26, 27, 0] rfl rfl
    refine lv_i2l S.1 S.2.1 dL_runText_6 rfl ?_
    refine la_s S hL hw 27 rfl rfl dL_runText_7 (fun H locs hw => ?_)
    have hw : WD G (gL G k1 a (rT (k 2) tl z).2.2.1 y (kR k (rT (k 2) tl z).2.2.2.1 N9) b (((rT (k 2) tl z).2.1).toInt64)) A s H locs := hw
    refine lv_goto (tgt := 17) S.1 S.2.1 dL_runText_8 (by decide) ?_
    refine lv_iconst (v := 0) S.1 S.2.1 dL_runText_17 (by decide) ?_
    exact ret_x hQ (Nat.le_of_eq (Nat.zero_add _)) (Nat.le_of_eq (Nat.zero_add _)) (en_i (v := (0)) ((((rT (k 2) tl z).2.2.1, y, (kR k (rT (k 2) tl z).2.2.2.1 N9)), (((rT (k 2) tl z).2.1).toInt64)) : (St × St × St) × Int64) rfl S hr hlk hw ⟨hc9.symm, ⟨N9, rfl, hN9⟩, fun _ => rfl⟩ dL_runText_18)

theorem hd_L_averageCounter : yL_averageCounter.cls ≠ "java/lang/invoke/MethodHandle" ∧ yL_averageCounter.cls ≠ "java/lang/invoke/VarHandle" ∧ (parseMethodDescriptor yL_averageCounter.desc).map (fun d => d.parameters.length) = some 3 := by decide +kernel
set_option maxHeartbeats 4000000 in
set_option maxRecDepth 100000 in
theorem c_L_averageCounter (l : Launch) (G : GA) (k1 k2 : ClassId) (b : Nat) (v0 : UInt64) (a : Nat → Nat) (z y k : St) (sz : Nat) (v : Int32) (iz : Inv z) : vx_Met l yL_averageCounter wsL_averageCounter ({ frames := 8, cells := xc (pAv v z : PO).1, slots := 6 * xc (pAv v z : PO).1, locals := 131 }) (va_Pc [.ref (a 0), .int (v), .ref (b)] (PL l G k1 k2 (gD G k2 a z y k b (v0)) sz)) (va_Qi (fun (r : Int32) (u : (St × St × St) × UInt64) => r = (pAv v z : PO).1 ∧ u.1 = ((pAv v z : PO).2.2, y, k) ∧ ((pAv v z : PO).1 = 0 → u.2 = avg (smc z (tN v) 8))) (fun (u : (St × St × St) × UInt64) t => va_P G.1 gcl (gD G k2 a u.1.1 u.1.2.1 u.1.2.2 b u.2) t.heap) (va_A (gD G k2 a z y k b (v0)) sz)) (vx_X (fun (u : (St × St × St) × UInt64) => False) (fun E u t => E = xIAE ∧ va_P G.1 gcl (gD G k2 a u.1.1 u.1.2.1 u.1.2.2 b u.2) t.heap) (va_A (gD G k2 a z y k b (v0)) sz)) (xc (pAv v z : PO).1) (6 * xc (pAv v z : PO).1) (va_A (gD G k2 a z y k b (v0)) sz) := by
  refine met_l (hh := [(0, 8, 11, 28)]) (cc := cL_averageCounter) (maxL := 4) (ret := (some .int)) (fun A => va_Qi (fun (r : Int32) (u : (St × St × St) × UInt64) => r = (pAv v z : PO).1 ∧ u.1 = ((pAv v z : PO).2.2, y, k) ∧ ((pAv v z : PO).1 = 0 → u.2 = avg (smc z (tN v) 8))) (fun (u : (St × St × St) × UInt64) t => va_P G.1 gcl (gD G k2 a u.1.1 u.1.2.1 u.1.2.2 b u.2) t.heap) A) (fun A => vx_X (fun (u : (St × St × St) × UInt64) => False) (fun E u t => E = xIAE ∧ va_P G.1 gcl (gD G k2 a u.1.1 u.1.2.1 u.1.2.2 b u.2) t.heap) A) (by decide) rfl (Nat.le_of_ble_eq_true rfl) ?_
  intro p e s m args below meth c R Q A H ls hR hQ S hr hlk htab hK hX hL hsz hH hAe hA hw hl
  have hl : lv_has ls 4 [(0, .ref (a 0)), (1, .int (v)), (2, .ref (b))] := hl
  have kE0 : (Cond.classLink RL 28 xIOE).before args s = true := S.2.2.2.2 _ (by decide +kernel : (Cond.classLink RL 28 xIOE) ∈ wsL_averageCounter)
  refine lv_aload_n S.1 S.2.1 dL_averageCounter_0 rfl (lv_at hl 2 rfl) ?_
  refine lv_iconst (v := 0) S.1 S.2.1 dL_averageCounter_1 (by decide) ?_
  refine lv_aload_n S.1 S.2.1 dL_averageCounter_2 rfl (lv_at hl 0 rfl) ?_
  refine lv_iload_n S.1 S.2.1 dL_averageCounter_3 rfl (lv_at hl 1 rfl) ?_
  have hwc : WD G (gp G a z y k) A s H _ := hw.sub [0, 1, 2, 3, 4, 5, 6, 7, 8, 9, 10, 11, 12, 13, 14, 15, 16, 17, 18, 19, 20, 21, 22, 23, 24, 25, 26] rfl rfl
  refine cx_d (wc := gp G a z y k) (wr := [(b, .inl (k2, (1, .inr (.inr (.inr (.inl (fun _ => v0)))))))]) (vx_runV (As := [.int (v)]) (rest := [.int 0, .ref (b)]) S (c_X4_averageCounter l G a z y k H.size v iz) (cwV 1 S.2.2.2.2 gL_averageCounter_X4_averageCounter rfl rfl rfl hd_X4_averageCounter ⟨by rw [hR]; exact Nat.le_of_ble_eq_true rfl, by rw [hR]; exact Nat.le_of_ble_eq_true rfl⟩) ⟨PX.blind, va_recv hK.1 hwc.1 (ci := 4) (q0 := 0) rfl rfl, fun U hU hW => ⟨rfl, PX.of hK hX hwc (va_free hw.2.1 hw.2.2 hA [0, 1, 2, 3, 4, 5, 6, 7, 8, 9, 10, 11, 12, 13, 14, 15, 16, 17, 18, 19, 20, 21, 22, 23, 24, 25, 26] rfl) hU hW⟩⟩ rfl rfl hl.1 rfl (lv_room (Nat.le_of_ble_eq_true rfl)) dL_averageCounter_4 ⟨by rw [hR]; exact Nat.le_of_eq (Nat.zero_add _), by rw [hR]; exact Nat.le_of_eq (Nat.zero_add _)⟩) hw hA [0, 1, 2, 3, 4, 5, 6, 7, 8, 9, 10, 11, 12, 13, 14, 15, 16, 17, 18, 19, 20, 21, 22, 23, 24, 25, 26] [27] rfl rfl rfl rfl (by decide) (fun _ => rfl) (fun _ => rfl) (fun ce q9 u9 H locs hpx hw9 g1 g2 g3 => ?_) (fun r9 u9 H locs hp9 hw9 => ?_)
  · skip
    obtain ⟨hne, rfl⟩ := hpx
    have hw : WD G (gD G k2 a (pAv v z : PO).2.2 y k b (v0)) A s H locs := hw9.sub [1, 2, 3, 4, 5, 6, 7, 8, 9, 10, 11, 12, 13, 14, 15, 16, 17, 18, 19, 20, 21, 22, 23, 24, 25, 26, 27, 0] rfl rfl
    rcases cAv with hc9 | hc9
    · exact absurd hc9 hne
    · rw [hc9] at g3
      refine ct_1 S hX htab (by decide) (by decide) (by decide) kE0 g1 g2 g3 ?_
      refine lv_astore_n (lv' := [(3, .ref (q9)), (0, .ref (a 0)), (1, .int (v)), (2, .ref (b))]) S.1 S.2.1 dL_averageCounter_11 rfl hl (by decide) rfl (fun ls hl => ?_)
      refine lv_iconst (v := 1) S.1 S.2.1 dL_averageCounter_12 (by decide) ?_
      exact ret_x hQ (Nat.le_of_eq (Nat.zero_add _)) (Nat.le_of_eq (Nat.zero_add _)) (en_i (v := (1)) ((((pAv v z : PO).2.2, y, k), (v0)) : (St × St × St) × UInt64) rfl S hr hlk hw ⟨hc9.symm, rfl, fun h => absurd (show (pAv v z : PO).1 = 0 from h) (by rw [hc9]; decide)⟩ dL_averageCounter_13)
  · skip
    obtain ⟨hc9, rfl, rfl⟩ := hp9
    have hw : WD G (gD G k2 a (pAv v z : PO).2.2 y k b (v0)) A s H locs := hw9.sub [1, 2, 3, 4, 5, 6, 7, 8, 9, 10, 11, 12, 13, 14, 15, 16, 17, 18, 19, 20, 21, 22, 23, 24, 25, 26, 27, 0] rfl rfl
    refine da_s S hL hw 27 rfl rfl dL_averageCounter_7 (fun H locs hw => ?_)
    have hw : WD G (gD G k2 a (pAv v z : PO).2.2 y k b (avg (smc z (tN v) 8))) A s H locs := hw
    refine lv_goto (tgt := 14) S.1 S.2.1 dL_averageCounter_8 (by decide) ?_
    refine lv_iconst (v := 0) S.1 S.2.1 dL_averageCounter_14 (by decide) ?_
    exact ret_x hQ (Nat.le_of_eq (Nat.zero_add _)) (Nat.le_of_eq (Nat.zero_add _)) (en_i (v := (0)) ((((pAv v z : PO).2.2, y, k), (avg (smc z (tN v) 8))) : (St × St × St) × UInt64) rfl S hr hlk hw ⟨hc9.symm, rfl, fun _ => rfl⟩ dL_averageCounter_15)

theorem hd_L_falseShare : yL_falseShare.cls ≠ "java/lang/invoke/MethodHandle" ∧ yL_falseShare.cls ≠ "java/lang/invoke/VarHandle" ∧ (parseMethodDescriptor yL_falseShare.desc).map (fun d => d.parameters.length) = some 2 := by decide +kernel
set_option maxHeartbeats 4000000 in
set_option maxRecDepth 100000 in
theorem c_L_falseShare (l : Launch) (G : GA) (k1 k2 : ClassId) (b : Nat) (v0 : UInt64) (a : Nat → Nat) (z y k : St) (sz : Nat) : vx_Met l yL_falseShare wsL_falseShare ({ frames := 7, cells := xc (pFs z : PO).1, slots := 6 * xc (pFs z : PO).1, locals := 120 }) (va_Pc [.ref (a 0), .ref (b)] (PL l G k1 k2 (gD G k2 a z y k b (v0)) sz)) (va_Qi (fun (r : Int32) (u : (St × St × St) × UInt64) => r = (pFs z : PO).1 ∧ u.1 = ((pFs z : PO).2.2, y, k) ∧ ((pFs z : PO).1 = 0 → u.2 = FP.f2d (shr (z 0 6) (z 0 5)))) (fun (u : (St × St × St) × UInt64) t => va_P G.1 gcl (gD G k2 a u.1.1 u.1.2.1 u.1.2.2 b u.2) t.heap) (va_A (gD G k2 a z y k b (v0)) sz)) (vx_X (fun (u : (St × St × St) × UInt64) => False) (fun E u t => E = xIAE ∧ va_P G.1 gcl (gD G k2 a u.1.1 u.1.2.1 u.1.2.2 b u.2) t.heap) (va_A (gD G k2 a z y k b (v0)) sz)) (xc (pFs z : PO).1) (6 * xc (pFs z : PO).1) (va_A (gD G k2 a z y k b (v0)) sz) := by
  refine met_l (hh := [(0, 8, 11, 101)]) (cc := cL_falseShare) (maxL := 3) (ret := (some .int)) (fun A => va_Qi (fun (r : Int32) (u : (St × St × St) × UInt64) => r = (pFs z : PO).1 ∧ u.1 = ((pFs z : PO).2.2, y, k) ∧ ((pFs z : PO).1 = 0 → u.2 = FP.f2d (shr (z 0 6) (z 0 5)))) (fun (u : (St × St × St) × UInt64) t => va_P G.1 gcl (gD G k2 a u.1.1 u.1.2.1 u.1.2.2 b u.2) t.heap) A) (fun A => vx_X (fun (u : (St × St × St) × UInt64) => False) (fun E u t => E = xIAE ∧ va_P G.1 gcl (gD G k2 a u.1.1 u.1.2.1 u.1.2.2 b u.2) t.heap) A) (by decide) rfl (Nat.le_of_ble_eq_true rfl) ?_
  intro p e s m args below meth c R Q A H ls hR hQ S hr hlk htab hK hX hL hsz hH hAe hA hw hl
  have hl : lv_has ls 3 [(0, .ref (a 0)), (1, .ref (b))] := hl
  have kE0 : (Cond.classLink RL 101 xAE).before args s = true := S.2.2.2.2 _ (by decide +kernel : (Cond.classLink RL 101 xAE) ∈ wsL_falseShare)
  refine lv_aload_n S.1 S.2.1 dL_falseShare_0 rfl (lv_at hl 1 rfl) ?_
  refine lv_iconst (v := 0) S.1 S.2.1 dL_falseShare_1 (by decide) ?_
  refine lv_aload_n S.1 S.2.1 dL_falseShare_2 rfl (lv_at hl 0 rfl) ?_
  have hwc : WD G (gp G a z y k) A s H _ := hw.sub [0, 1, 2, 3, 4, 5, 6, 7, 8, 9, 10, 11, 12, 13, 14, 15, 16, 17, 18, 19, 20, 21, 22, 23, 24, 25, 26] rfl rfl
  refine cx_f (wc := gp G a z y k) (wr := [(b, .inl (k2, (1, .inr (.inr (.inr (.inl (fun _ => v0)))))))]) (vx_runV (As := []) (rest := [.int 0, .ref (b)]) S (c_X4_falseShare l G a z y k H.size  ) (cwV 0 S.2.2.2.2 gL_falseShare_X4_falseShare rfl rfl rfl hd_X4_falseShare ⟨by rw [hR]; exact Nat.le_of_ble_eq_true rfl, by rw [hR]; exact Nat.le_of_ble_eq_true rfl⟩) ⟨PX.blind, va_recv hK.1 hwc.1 (ci := 4) (q0 := 0) rfl rfl, fun U hU hW => ⟨rfl, PX.of hK hX hwc (va_free hw.2.1 hw.2.2 hA [0, 1, 2, 3, 4, 5, 6, 7, 8, 9, 10, 11, 12, 13, 14, 15, 16, 17, 18, 19, 20, 21, 22, 23, 24, 25, 26] rfl) hU hW⟩⟩ rfl rfl hl.1 rfl (lv_room (Nat.le_of_ble_eq_true rfl)) dL_falseShare_3 ⟨by rw [hR]; exact Nat.le_of_eq (Nat.zero_add _), by rw [hR]; exact Nat.le_of_eq (Nat.zero_add _)⟩) hw hA [0, 1, 2, 3, 4, 5, 6, 7, 8, 9, 10, 11, 12, 13, 14, 15, 16, 17, 18, 19, 20, 21, 22, 23, 24, 25, 26] [27] rfl rfl rfl rfl (by decide) (fun _ => rfl) (fun _ => rfl) (fun ce q9 u9 H locs hpx hw9 g1 g2 g3 => ?_) (fun r9 u9 H locs hp9 hw9 => ?_)
  · skip
    obtain ⟨hne, rfl⟩ := hpx
    have hw : WD G (gD G k2 a (pFs z : PO).2.2 y k b (v0)) A s H locs := hw9.sub [1, 2, 3, 4, 5, 6, 7, 8, 9, 10, 11, 12, 13, 14, 15, 16, 17, 18, 19, 20, 21, 22, 23, 24, 25, 26, 27, 0] rfl rfl
    rcases cFs with hc9 | hc9
    · exact absurd hc9 hne
    · rw [hc9] at g3
      refine ct_1 S hX htab (by decide) (by decide) (by decide) kE0 g1 g2 g3 ?_
      refine lv_astore_n (lv' := [(2, .ref (q9)), (0, .ref (a 0)), (1, .ref (b))]) S.1 S.2.1 dL_falseShare_11 rfl hl (by decide) rfl (fun ls hl => ?_)
      refine lv_iconst (v := 1) S.1 S.2.1 dL_falseShare_12 (by decide) ?_
      exact ret_x hQ (Nat.le_of_eq (Nat.zero_add _)) (Nat.le_of_eq (Nat.zero_add _)) (en_i (v := (1)) ((((pFs z : PO).2.2, y, k), (v0)) : (St × St × St) × UInt64) rfl S hr hlk hw ⟨hc9.symm, rfl, fun h => absurd (show (pFs z : PO).1 = 0 from h) (by rw [hc9]; decide)⟩ dL_falseShare_13)
  · skip
    obtain ⟨hc9, rfl, rfl⟩ := hp9
    have hw : WD G (gD G k2 a (pFs z : PO).2.2 y k b (v0)) A s H locs := hw9.sub [1, 2, 3, 4, 5, 6, 7, 8, 9, 10, 11, 12, 13, 14, 15, 16, 17, 18, 19, 20, 21, 22, 23, 24, 25, 26, 27, 0] rfl rfl
    refine lv_f2d S.1 S.2.1 dL_falseShare_6 (shd_n (shr_v _ (fs_n hc9))) ?_
    refine da_s S hL hw 27 rfl rfl dL_falseShare_7 (fun H locs hw => ?_)
    have hw : WD G (gD G k2 a (pFs z : PO).2.2 y k b (FP.f2d (shr (z 0 6) (z 0 5)))) A s H locs := hw
    refine lv_goto (tgt := 14) S.1 S.2.1 dL_falseShare_8 (by decide) ?_
    refine lv_iconst (v := 0) S.1 S.2.1 dL_falseShare_14 (by decide) ?_
    exact ret_x hQ (Nat.le_of_eq (Nat.zero_add _)) (Nat.le_of_eq (Nat.zero_add _)) (en_i (v := (0)) ((((pFs z : PO).2.2, y, k), (FP.f2d (shr (z 0 6) (z 0 5)))) : (St × St × St) × UInt64) rfl S hr hlk hw ⟨hc9.symm, rfl, fun _ => rfl⟩ dL_falseShare_15)

theorem hd_L_restore : yL_restore.cls ≠ "java/lang/invoke/MethodHandle" ∧ yL_restore.cls ≠ "java/lang/invoke/VarHandle" ∧ (parseMethodDescriptor yL_restore.desc).map (fun d => d.parameters.length) = some 1 := by decide +kernel
set_option maxHeartbeats 4000000 in
set_option maxRecDepth 100000 in
theorem c_L_restore (l : Launch) (G : GA) (a : Nat → Nat) (z y k : St) (sz : Nat) {hs : Bool} (hO : k 0 0 = b2 hs) (iy : hs = true → Inv y) : vx_Met l yL_restore wsL_restore ({ frames := 7, cells := xc (pRs hs y z : PO).1, slots := 6 * xc (pRs hs y z : PO).1, locals := 122 }) (va_Pc [.ref (a 0)] (PX l G (gp G a z y k) sz)) (va_Qi (fun (r : Int32) (u : St × St × St) => r = (pRs hs y z : PO).1 ∧ u = ((pRs hs y z : PO).2.2, y, k)) (fun (u : St × St × St) t => va_P G.1 gcl (gp G a u.1 u.2.1 u.2.2) t.heap) (va_A (gp G a z y k) sz)) (vx_X (fun (u : St × St × St) => False) (fun E u t => E = xIAE ∧ va_P G.1 gcl (gp G a u.1 u.2.1 u.2.2) t.heap) (va_A (gp G a z y k) sz)) (xc (pRs hs y z : PO).1) (6 * xc (pRs hs y z : PO).1) (va_A (gp G a z y k) sz) := by
  refine met_xh (hh := [(0, 4, 7, 30)]) (cc := cL_restore) (maxL := 2) (ret := (some .int)) (fun A => va_Qi (fun (r : Int32) (u : St × St × St) => r = (pRs hs y z : PO).1 ∧ u = ((pRs hs y z : PO).2.2, y, k)) (fun (u : St × St × St) t => va_P G.1 gcl (gp G a u.1 u.2.1 u.2.2) t.heap) A) (fun A => vx_X (fun (u : St × St × St) => False) (fun E u t => E = xIAE ∧ va_P G.1 gcl (gp G a u.1 u.2.1 u.2.2) t.heap) A) (by decide) rfl (Nat.le_of_ble_eq_true rfl) ?_
  intro p e s m args below meth c R Q A H ls hR hQ S hr hlk htab hK hX hsz hH hAe hA hw hl
  have hl : lv_has ls 2 [(0, .ref (a 0))] := hl
  have kE0 : (Cond.classLink RL 30 xISE).before args s = true := S.2.2.2.2 _ (by decide +kernel : (Cond.classLink RL 30 xISE) ∈ wsL_restore)
  refine lv_aload_n S.1 S.2.1 dL_restore_0 rfl (lv_at hl 0 rfl) ?_
  have hwc : WD G (gp G a z y k) A s H _ := hw.sub [0, 1, 2, 3, 4, 5, 6, 7, 8, 9, 10, 11, 12, 13, 14, 15, 16, 17, 18, 19, 20, 21, 22, 23, 24, 25, 26] rfl rfl
  refine cx_v (wc := gp G a z y k) (wr := []) (vx_runV (As := []) (rest := []) S (c_X4_restore l G a z y k H.size  hO iy) (cwV 0 S.2.2.2.2 gL_restore_X4_restore rfl rfl rfl hd_X4_restore ⟨by rw [hR]; exact Nat.le_of_ble_eq_true rfl, by rw [hR]; exact Nat.le_of_ble_eq_true rfl⟩) ⟨PX.blind, va_recv hK.1 hwc.1 (ci := 4) (q0 := 0) rfl rfl, fun U hU hW => ⟨rfl, PX.of hK hX hwc (va_free hw.2.1 hw.2.2 hA [0, 1, 2, 3, 4, 5, 6, 7, 8, 9, 10, 11, 12, 13, 14, 15, 16, 17, 18, 19, 20, 21, 22, 23, 24, 25, 26] rfl) hU hW⟩⟩ rfl rfl hl.1 rfl (lv_room (Nat.le_of_ble_eq_true rfl)) dL_restore_1 ⟨by rw [hR]; exact Nat.le_of_eq (Nat.zero_add _), by rw [hR]; exact Nat.le_of_eq (Nat.zero_add _)⟩) hw hA [0, 1, 2, 3, 4, 5, 6, 7, 8, 9, 10, 11, 12, 13, 14, 15, 16, 17, 18, 19, 20, 21, 22, 23, 24, 25, 26] [] rfl rfl rfl rfl (by decide) (fun _ => rfl) (fun _ => rfl) (fun ce q9 u9 H locs hpx hw9 g1 g2 g3 => ?_) (fun u9 H locs hp9 hw9 => ?_)
  · skip
    obtain ⟨hne, rfl⟩ := hpx
    have hw : WD G (gp G a (pRs hs y z : PO).2.2 y k) A s H locs := hw9
    rcases cRs with hc9 | hc9
    · exact absurd hc9 hne
    · rw [hc9] at g3
      refine ct_1 S hX htab (by decide) (by decide) (by decide) kE0 g1 g2 g3 ?_
      refine lv_astore_n (lv' := [(1, .ref (q9)), (0, .ref (a 0))]) S.1 S.2.1 dL_restore_7 rfl hl (by decide) rfl (fun ls hl => ?_)
      refine lv_iconst (v := 1) S.1 S.2.1 dL_restore_8 (by decide) ?_
      exact ret_x hQ (Nat.le_of_eq (Nat.zero_add _)) (Nat.le_of_eq (Nat.zero_add _)) (en_i (v := (1)) (((pRs hs y z : PO).2.2, y, k) : St × St × St) rfl S hr hlk hw ⟨hc9.symm, rfl⟩ dL_restore_9)
  · skip
    obtain ⟨hc9, rfl⟩ := hp9
    have hw : WD G (gp G a (pRs hs y z : PO).2.2 y k) A s H locs := hw9
    refine lv_goto (tgt := 10) S.1 S.2.1 dL_restore_4 (by decide) ?_
    refine lv_iconst (v := 0) S.1 S.2.1 dL_restore_10 (by decide) ?_
    exact ret_x hQ (Nat.le_of_eq (Nat.zero_add _)) (Nat.le_of_eq (Nat.zero_add _)) (en_i (v := (0)) (((pRs hs y z : PO).2.2, y, k) : St × St × St) rfl S hr hlk hw ⟨hc9.symm, rfl⟩ dL_restore_11)
