theorem hd_X4_carryOut : yX4_carryOut.cls = RX4 ∧ yX4_carryOut.cls ≠ "java/lang/invoke/MethodHandle" ∧ yX4_carryOut.cls ≠ "java/lang/invoke/VarHandle" ∧ (parseMethodDescriptor yX4_carryOut.desc).map (fun d => d.parameters.length) = some 1 := by decide +kernel
set_option maxHeartbeats 4000000 in
set_option maxRecDepth 100000 in
theorem c_X4_carryOut (l : Launch) (G : GA) (a : Nat → Nat) (z : St) (y : St) (k : St) (sz : Nat) (q : Nat) {tl : Nat} (iz : Inv z) (hL : k 0 3 = nI tl) (hm : tl ≤ 40) (hch : SG (k 2)) (hq : q < 100) (hV : (cmd (k 2) tl q).2.1 = true) : vx_Met l yX4_carryOut wsX4_carryOut ({ frames := 8, cells := xc (DP (k 2) tl true q z : PO).1, slots := 6 * xc (DP (k 2) tl true q z : PO).1, locals := 136 }) (va_Pc [.ref (a 0), .int (nI (q))] (PX l G (gp G a z y k) sz)) (va_Qi (fun (r : Int32) (u : St × St × St) => r = (DP (k 2) tl true q z).1 ∧ u = ((DP (k 2) tl true q z).2.2, y, k)) (fun (u : St × St × St) t => va_P G.1 gcl (gp G a u.1 u.2.1 u.2.2) t.heap) (va_A (gp G a z y k) sz)) (vx_X (fun (u : St × St × St) => False) (fun E u t => E = xIAE ∧ va_P G.1 gcl (gp G a u.1 u.2.1 u.2.2) t.heap) (va_A (gp G a z y k) sz)) (xc (DP (k 2) tl true q z : PO).1) (6 * xc (DP (k 2) tl true q z : PO).1) (va_A (gp G a z y k) sz) := by
  refine met_xh (hh := [(11, 118, 121, 75), (11, 118, 124, 30)]) (cc := cX4_carryOut) (maxL := 4) (ret := (some .int)) (fun A => va_Qi (fun (r : Int32) (u : St × St × St) => r = (DP (k 2) tl true q z).1 ∧ u = ((DP (k 2) tl true q z).2.2, y, k)) (fun (u : St × St × St) t => va_P G.1 gcl (gp G a u.1 u.2.1 u.2.2) t.heap) A) (fun A => vx_X (fun (u : St × St × St) => False) (fun E u t => E = xIAE ∧ va_P G.1 gcl (gp G a u.1 u.2.1 u.2.2) t.heap) A) (by decide) rfl (Nat.le_of_ble_eq_true rfl) ?_
  intro p e s m args below meth c R Q A H ls hR hQ S hr hlk htab hK hX hsz hH hAe hA hw hl
  have hl : lv_has ls 4 [(0, .ref (a 0)), (1, .int (nI (q)))] := hl
  have LX4 : ∀ w ∈ u_ws RX4 TX4 6, w.before args s = true := fun w h => S.2.2.2.2 w ((by decide +kernel : ∀ w ∈ u_ws RX4 TX4 6, w ∈ wsX4_carryOut) w h)
  have k1 : (Cond.fieldLink RX4 22 "GossipMembership" "text" "LGossipMembership$CommandText;").before args s = true := S.2.2.2.2 _ (by decide +kernel : (Cond.fieldLink RX4 22 "GossipMembership" "text" "LGossipMembership$CommandText;") ∈ wsX4_carryOut)
  have k2 : (Cond.fieldLink RX4 10 "GossipMembership" "world" "LGossipMembership$World;").before args s = true := S.2.2.2.2 _ (by decide +kernel : (Cond.fieldLink RX4 10 "GossipMembership" "world" "LGossipMembership$World;") ∈ wsX4_carryOut)
  have kISE : (Cond.classLink RX4 75 xISE).before args s = true := S.2.2.2.2 _ (by decide +kernel : (Cond.classLink RX4 75 xISE) ∈ wsX4_carryOut)
  have kIAE : (Cond.classLink RX4 30 xIAE).before args s = true := S.2.2.2.2 _ (by decide +kernel : (Cond.classLink RX4 30 xIAE) ∈ wsX4_carryOut)
  refine lv_aload_n S.1 S.2.1 dX4_carryOut_0 rfl (lv_at hl 0 rfl) ?_
  refine gt_X4_3 (v := .ref (a 1)) S hK hw 0 rfl rfl LX4 k1 dX4_carryOut_1 ?_
  refine lv_iload_n S.1 S.2.1 dX4_carryOut_4 rfl (lv_at hl 1 rfl) ?_
  refine lv_iconst (v := 1) S.1 S.2.1 dX4_carryOut_5 (by decide) ?_
  refine addN (a := q) (b := 1) S dX4_carryOut_6 ?_
  have hwc : WD G (txp G (fun i => a (1 + i)) k) A s H _ := hw.sub [1, 2] rfl rfl
  refine cj_i (wc := (txp G (fun i => a (1 + i)) k)) (wr := (gpt G a z y k)) (va_runV (As := [.int (nI (q + 1))]) (rest := []) S (c_X0_digitAt l G (fun i => a (1 + i)) k H.size (q + 1) (by omega) (by exact hL) (by omega) (by exact hch)) (cwV 1 S.2.2.2.2 gX4_carryOut_X0_digitAt rfl rfl rfl hd_X0_digitAt ⟨by rw [hR]; exact Nat.le_of_ble_eq_true rfl, by rw [hR]; exact Nat.le_of_ble_eq_true rfl⟩) ⟨PW.blind, va_recv hK.1 hwc.1 (ci := 0) (q0 := 0) rfl rfl, fun U hU hW => ⟨rfl, PW.of hK hwc hU hW⟩⟩ rfl rfl hl.1 rfl (lv_room (Nat.le_of_ble_eq_true rfl)) dX4_carryOut_7 ⟨Nat.zero_le _, Nat.zero_le _⟩) hw hA [1, 2] [0, 3, 4, 5, 6, 7, 8, 9, 10, 11, 12, 13, 14, 15, 16, 17, 18, 19, 20, 21, 22, 23, 24, 25, 26] rfl rfl rfl rfl (by decide) (fun _ => rfl) (fun r1 z2 H locs h3 hw9 => ?_)
  obtain ⟨rfl, qz2⟩ := h3
  rw [qz2] at hw9
  have hw : WD G (gp G a z y k) A s H locs := hw9.sub [0, 25, 26, 1, 2, 3, 4, 5, 6, 7, 8, 9, 10, 11, 12, 13, 14, 15, 16, 17, 18, 19, 20, 21, 22, 23, 24] rfl rfl
  refine lv_istore_n (lv' := [(2, .int (sg (k 2) tl (q + 1) - 48)), (0, .ref (a 0)), (1, .int (nI (q)))]) S.1 S.2.1 dX4_carryOut_10 rfl hl (by decide) rfl (fun ls hl => ?_)
  refine lv_aload_n S.1 S.2.1 dX4_carryOut_11 rfl (lv_at hl 1 rfl) ?_
  refine gt_X4_3 (v := .ref (a 1)) S hK hw 0 rfl rfl LX4 k1 dX4_carryOut_12 ?_
  refine lv_iload_n S.1 S.2.1 dX4_carryOut_15 rfl (lv_at hl 2 rfl) ?_
  have hwc : WD G (txp G (fun i => a (1 + i)) k) A s H _ := hw.sub [1, 2] rfl rfl
  refine cj_i (wc := (txp G (fun i => a (1 + i)) k)) (wr := (gpt G a z y k)) (va_runV (As := [.int (nI (q))]) (rest := []) S (c_X0_signAt l G (fun i => a (1 + i)) k H.size (q) (by omega) (by exact hL) (by omega) (by exact hch)) (cwV 1 S.2.2.2.2 gX4_carryOut_X0_signAt rfl rfl rfl hd_X0_signAt ⟨by rw [hR]; exact Nat.le_of_ble_eq_true rfl, by rw [hR]; exact Nat.le_of_ble_eq_true rfl⟩) ⟨PW.blind, va_recv hK.1 hwc.1 (ci := 0) (q0 := 0) rfl rfl, fun U hU hW => ⟨rfl, PW.of hK hwc hU hW⟩⟩ rfl rfl hl.1 rfl (lv_room (Nat.le_of_ble_eq_true rfl)) dX4_carryOut_16 ⟨Nat.zero_le _, Nat.zero_le _⟩) hw hA [1, 2] [0, 3, 4, 5, 6, 7, 8, 9, 10, 11, 12, 13, 14, 15, 16, 17, 18, 19, 20, 21, 22, 23, 24, 25, 26] rfl rfl rfl rfl (by decide) (fun _ => rfl) (fun r4 z5 H locs h6 hw9 => ?_)
  obtain ⟨rfl, qz5⟩ := h6
  rw [qz5] at hw9
  have hw : WD G (gp G a z y k) A s H locs := hw9.sub [0, 25, 26, 1, 2, 3, 4, 5, 6, 7, 8, 9, 10, 11, 12, 13, 14, 15, 16, 17, 18, 19, 20, 21, 22, 23, 24] rfl rfl
  rcases cmd_l hV with h9 | h9 | h9 | h9
  · skip
    obtain ⟨n, hn, en, eD⟩ := DP_c (z := z) hV h9
    have hl : lv_has ls 4 [(2, .int (nI (n))), (0, .ref (a 0)), (1, .int (nI (q)))] := by rw [en] at hl; exact hl
    refine lv_lookup (off := 41) (tgt := 60) S.1 S.2.1 dX4_carryOut_19 (by decide) (by rw [h9]; decide) (by decide) ?_
    refine lv_aload_n S.1 S.2.1 dX4_carryOut_60 rfl (lv_at hl 1 rfl) ?_
    refine lv_iload_n S.1 S.2.1 dX4_carryOut_61 rfl (lv_at hl 0 rfl) ?_
    refine cx_i (wc := gp G a z y k) (wr := []) (vx_runV (As := [.int (nI (n))]) (rest := []) S (c_X4_crash l G a z y k H.size (nI (n)) iz) (cwV 1 S.2.2.2.2 gX4_carryOut_X4_crash rfl rfl rfl hd_X4_crash ⟨by rw [hR]; exact Nat.le_of_ble_eq_true rfl, by rw [hR]; exact Nat.le_of_ble_eq_true rfl⟩) ⟨PX.blind, va_recv hK.1 hw.1 (ci := 4) (q0 := 0) rfl rfl, fun U hU hW => ⟨rfl, PX.of hK hX hw (va_free hw.2.1 hw.2.2 hA [0, 1, 2, 3, 4, 5, 6, 7, 8, 9, 10, 11, 12, 13, 14, 15, 16, 17, 18, 19, 20, 21, 22, 23, 24, 25, 26] rfl) hU hW⟩⟩ rfl rfl hl.1 rfl (lv_room (Nat.le_of_ble_eq_true rfl)) dX4_carryOut_62 ⟨by rw [hR]; show _ ≤ xc _; rw [eD]; simp, by rw [hR]; show _ ≤ 6 * xc _; rw [eD]; simp⟩) hw hA [0, 1, 2, 3, 4, 5, 6, 7, 8, 9, 10, 11, 12, 13, 14, 15, 16, 17, 18, 19, 20, 21, 22, 23, 24, 25, 26] [] rfl rfl rfl rfl (by decide) (fun _ => rfl) (fun _ => rfl) (fun ce q9 u9 H locs hpx hw9 g1 g2 g3 => ?_) (fun r9 u9 H locs hp9 hw9 => ?_)
    · skip
      obtain ⟨hne, rfl⟩ := hpx
      have hw : WD G (gp G a (pC (nI (n)) z).2.2 y k) A s H locs := hw9
      rcases pC_n hn z with hc9 | hc9
      · exact absurd hc9 hne
      · rw [hc9] at g3
        refine ct_1 S hX htab (by decide) (by decide) (by decide) kISE g1 g2 g3 ?_
        refine lv_astore_n (lv' := [(3, .ref (q9)), (2, .int (nI (n))), (0, .ref (a 0)), (1, .int (nI (q)))]) S.1 S.2.1 dX4_carryOut_121 rfl hl (by decide) rfl (fun ls hl => ?_)
        refine lv_iconst (v := 2) S.1 S.2.1 dX4_carryOut_122 (by decide) ?_
        exact ret_x hQ (by first | exact Nat.zero_le _ | (rw [eD]; simp)) (by first | exact Nat.zero_le _ | (rw [eD]; simp)) (en_i (v := (2)) (((pC (nI (n)) z).2.2, y, k) : St × St × St) rfl S hr hlk hw (by rw [eD]; exact ⟨hc9.symm, rfl⟩) dX4_carryOut_123)
    · skip
      obtain ⟨hc9, rfl, rfl⟩ := hp9
      have hw : WD G (gp G a (pC (nI (n)) z).2.2 y k) A s H locs := hw9
      refine W.widen (k := 0) (n := 0) (by show 0 + xc (pC (nI (n)) z).1 ≤ 0; rw [hc9]; decide) (by show 0 + 6 * xc (pC (nI (n)) z).1 ≤ 0; rw [hc9]; decide) ?_
      refine lv_pop S.1 S.2.1 dX4_carryOut_65 rfl ?_
      refine lv_goto (tgt := 118) S.1 S.2.1 dX4_carryOut_66 (by decide) ?_
      refine lv_goto (tgt := 127) S.1 S.2.1 dX4_carryOut_118 (by decide) ?_
      refine lv_iconst (v := 0) S.1 S.2.1 dX4_carryOut_127 (by decide) ?_
      exact ret_x hQ (by first | exact Nat.zero_le _ | (rw [eD]; simp)) (by first | exact Nat.zero_le _ | (rw [eD]; simp)) (en_i (v := (0)) (((pC (nI (n)) z).2.2, y, k) : St × St × St) rfl S hr hlk hw (by rw [eD]; exact ⟨hc9.symm, rfl⟩) dX4_carryOut_128)
  · skip
    obtain ⟨n, b, hn, hb, en, eb, eD⟩ := DP_j (z := z) hV h9
    have hl : lv_has ls 4 [(2, .int (nI (n))), (0, .ref (a 0)), (1, .int (nI (q)))] := by rw [en] at hl; exact hl
    refine lv_lookup (off := 50) (tgt := 69) S.1 S.2.1 dX4_carryOut_19 (by decide) (by rw [h9]; decide) (by decide) ?_
    refine lv_aload_n S.1 S.2.1 dX4_carryOut_69 rfl (lv_at hl 1 rfl) ?_
    refine lv_iload_n S.1 S.2.1 dX4_carryOut_70 rfl (lv_at hl 0 rfl) ?_
    refine lv_aload_n S.1 S.2.1 dX4_carryOut_71 rfl (lv_at hl 1 rfl) ?_
    refine gt_X4_3 (v := .ref (a 1)) S hK hw 0 rfl rfl LX4 k1 dX4_carryOut_72 ?_
    refine lv_iload_n S.1 S.2.1 dX4_carryOut_75 rfl (lv_at hl 2 rfl) ?_
    refine lv_iconst (v := 2) S.1 S.2.1 dX4_carryOut_76 (by decide) ?_
    refine addN (a := q) (b := 2) S dX4_carryOut_77 ?_
    have hwc : WD G (txp G (fun i => a (1 + i)) k) A s H _ := hw.sub [1, 2] rfl rfl
    refine cj_i (wc := (txp G (fun i => a (1 + i)) k)) (wr := (gpt G a z y k)) (va_runV (As := [.int (nI (q + 2))]) (rest := [.int (nI (n)), .ref (a 0)]) S (c_X0_digitAt l G (fun i => a (1 + i)) k H.size (q + 2) (by omega) (by exact hL) (by omega) (by exact hch)) (cwV 1 S.2.2.2.2 gX4_carryOut_X0_digitAt rfl rfl rfl hd_X0_digitAt ⟨by rw [hR]; exact Nat.le_of_ble_eq_true rfl, by rw [hR]; exact Nat.le_of_ble_eq_true rfl⟩) ⟨PW.blind, va_recv hK.1 hwc.1 (ci := 0) (q0 := 0) rfl rfl, fun U hU hW => ⟨rfl, PW.of hK hwc hU hW⟩⟩ rfl rfl hl.1 rfl (lv_room (Nat.le_of_ble_eq_true rfl)) dX4_carryOut_78 ⟨Nat.zero_le _, Nat.zero_le _⟩) hw hA [1, 2] [0, 3, 4, 5, 6, 7, 8, 9, 10, 11, 12, 13, 14, 15, 16, 17, 18, 19, 20, 21, 22, 23, 24, 25, 26] rfl rfl rfl rfl (by decide) (fun _ => rfl) (fun r7 z8 H locs h9 hw9 => ?_)
    obtain ⟨rfl, qz8⟩ := h9
    rw [qz8] at hw9
    have hw : WD G (gp G a z y k) A s H locs := hw9.sub [0, 25, 26, 1, 2, 3, 4, 5, 6, 7, 8, 9, 10, 11, 12, 13, 14, 15, 16, 17, 18, 19, 20, 21, 22, 23, 24] rfl rfl
    refine top_to (v := (nI (b))) S (eb) ?_
    refine cx_i (wc := gp G a z y k) (wr := []) (vx_runV (As := [.int (nI (n)), .int (nI (b))]) (rest := []) S (c_X4_join l G a z y k H.size (nI (n)) (nI (b)) iz) (cwV 2 S.2.2.2.2 gX4_carryOut_X4_join rfl rfl rfl hd_X4_join ⟨by rw [hR]; exact Nat.le_of_ble_eq_true rfl, by rw [hR]; exact Nat.le_of_ble_eq_true rfl⟩) ⟨PX.blind, va_recv hK.1 hw.1 (ci := 4) (q0 := 0) rfl rfl, fun U hU hW => ⟨rfl, PX.of hK hX hw (va_free hw.2.1 hw.2.2 hA [0, 1, 2, 3, 4, 5, 6, 7, 8, 9, 10, 11, 12, 13, 14, 15, 16, 17, 18, 19, 20, 21, 22, 23, 24, 25, 26] rfl) hU hW⟩⟩ rfl rfl hl.1 rfl (lv_room (Nat.le_of_ble_eq_true rfl)) dX4_carryOut_81 ⟨by rw [hR]; show _ ≤ xc _; rw [eD]; simp, by rw [hR]; show _ ≤ 6 * xc _; rw [eD]; simp⟩) hw hA [0, 1, 2, 3, 4, 5, 6, 7, 8, 9, 10, 11, 12, 13, 14, 15, 16, 17, 18, 19, 20, 21, 22, 23, 24, 25, 26] [] rfl rfl rfl rfl (by decide) (fun _ => rfl) (fun _ => rfl) (fun ce q9 u9 H locs hpx hw9 g1 g2 g3 => ?_) (fun r9 u9 H locs hp9 hw9 => ?_)
    · skip
      obtain ⟨hne, rfl⟩ := hpx
      have hw : WD G (gp G a (pJ (nI (n)) (nI (b)) z).2.2 y k) A s H locs := hw9
      rcases pJ_n hn hb z with hc9 | hc9 | hc9
      · exact absurd hc9 hne
      · rw [hc9] at g3
        refine ct_1 S hX htab (by decide) (by decide) (by decide) kISE g1 g2 g3 ?_
        refine lv_astore_n (lv' := [(3, .ref (q9)), (2, .int (nI (n))), (0, .ref (a 0)), (1, .int (nI (q)))]) S.1 S.2.1 dX4_carryOut_121 rfl hl (by decide) rfl (fun ls hl => ?_)
        refine lv_iconst (v := 2) S.1 S.2.1 dX4_carryOut_122 (by decide) ?_
        exact ret_x hQ (by first | exact Nat.zero_le _ | (rw [eD]; simp)) (by first | exact Nat.zero_le _ | (rw [eD]; simp)) (en_i (v := (2)) (((pJ (nI (n)) (nI (b)) z).2.2, y, k) : St × St × St) rfl S hr hlk hw (by rw [eD]; exact ⟨hc9.symm, rfl⟩) dX4_carryOut_123)
      · rw [hc9] at g3
        refine ct_2 S hX htab (by decide) (by decide) (by decide) kISE (by decide) (by decide) kIAE g1 g2 g3 ?_
        refine lv_astore_n (lv' := [(3, .ref (q9)), (2, .int (nI (n))), (0, .ref (a 0)), (1, .int (nI (q)))]) S.1 S.2.1 dX4_carryOut_124 rfl hl (by decide) rfl (fun ls hl => ?_)
        refine lv_iconst (v := 3) S.1 S.2.1 dX4_carryOut_125 (by decide) ?_
        exact ret_x hQ (by first | exact Nat.zero_le _ | (rw [eD]; simp)) (by first | exact Nat.zero_le _ | (rw [eD]; simp)) (en_i (v := (3)) (((pJ (nI (n)) (nI (b)) z).2.2, y, k) : St × St × St) rfl S hr hlk hw (by rw [eD]; exact ⟨hc9.symm, rfl⟩) dX4_carryOut_126)
    · skip
      obtain ⟨hc9, rfl, rfl⟩ := hp9
      have hw : WD G (gp G a (pJ (nI (n)) (nI (b)) z).2.2 y k) A s H locs := hw9
      refine W.widen (k := 0) (n := 0) (by show 0 + xc (pJ (nI (n)) (nI (b)) z).1 ≤ 0; rw [hc9]; decide) (by show 0 + 6 * xc (pJ (nI (n)) (nI (b)) z).1 ≤ 0; rw [hc9]; decide) ?_
      refine lv_pop S.1 S.2.1 dX4_carryOut_84 rfl ?_
      refine lv_goto (tgt := 118) S.1 S.2.1 dX4_carryOut_85 (by decide) ?_
      refine lv_goto (tgt := 127) S.1 S.2.1 dX4_carryOut_118 (by decide) ?_
      refine lv_iconst (v := 0) S.1 S.2.1 dX4_carryOut_127 (by decide) ?_
      exact ret_x hQ (by first | exact Nat.zero_le _ | (rw [eD]; simp)) (by first | exact Nat.zero_le _ | (rw [eD]; simp)) (en_i (v := (0)) (((pJ (nI (n)) (nI (b)) z).2.2, y, k) : St × St × St) rfl S hr hlk hw (by rw [eD]; exact ⟨hc9.symm, rfl⟩) dX4_carryOut_128)
  · skip
    obtain ⟨n, b, hn, hb4, en, eb, eD⟩ := DP_p (z := z) hV h9
    have hl : lv_has ls 4 [(2, .int (nI (n))), (0, .ref (a 0)), (1, .int (nI (q)))] := by rw [en] at hl; exact hl
    refine lv_lookup (off := 69) (tgt := 88) S.1 S.2.1 dX4_carryOut_19 (by decide) (by rw [h9]; decide) (by decide) ?_
    refine lv_aload_n S.1 S.2.1 dX4_carryOut_88 rfl (lv_at hl 1 rfl) ?_
    refine lv_iload_n S.1 S.2.1 dX4_carryOut_89 rfl (lv_at hl 0 rfl) ?_
    refine lv_aload_n S.1 S.2.1 dX4_carryOut_90 rfl (lv_at hl 1 rfl) ?_
    refine gt_X4_3 (v := .ref (a 1)) S hK hw 0 rfl rfl LX4 k1 dX4_carryOut_91 ?_
    refine lv_iload_n S.1 S.2.1 dX4_carryOut_94 rfl (lv_at hl 2 rfl) ?_
    refine lv_iconst (v := 2) S.1 S.2.1 dX4_carryOut_95 (by decide) ?_
    refine addN (a := q) (b := 2) S dX4_carryOut_96 ?_
    have hwc : WD G (txp G (fun i => a (1 + i)) k) A s H _ := hw.sub [1, 2] rfl rfl
    refine cj_i (wc := (txp G (fun i => a (1 + i)) k)) (wr := (gpt G a z y k)) (va_runV (As := [.int (nI (q + 2))]) (rest := [.int (nI (n)), .ref (a 0)]) S (c_X0_digitAt l G (fun i => a (1 + i)) k H.size (q + 2) (by omega) (by exact hL) (by omega) (by exact hch)) (cwV 1 S.2.2.2.2 gX4_carryOut_X0_digitAt rfl rfl rfl hd_X0_digitAt ⟨by rw [hR]; exact Nat.le_of_ble_eq_true rfl, by rw [hR]; exact Nat.le_of_ble_eq_true rfl⟩) ⟨PW.blind, va_recv hK.1 hwc.1 (ci := 0) (q0 := 0) rfl rfl, fun U hU hW => ⟨rfl, PW.of hK hwc hU hW⟩⟩ rfl rfl hl.1 rfl (lv_room (Nat.le_of_ble_eq_true rfl)) dX4_carryOut_97 ⟨Nat.zero_le _, Nat.zero_le _⟩) hw hA [1, 2] [0, 3, 4, 5, 6, 7, 8, 9, 10, 11, 12, 13, 14, 15, 16, 17, 18, 19, 20, 21, 22, 23, 24, 25, 26] rfl rfl rfl rfl (by decide) (fun _ => rfl) (fun r10 z11 H locs h12 hw9 => ?_)
    obtain ⟨rfl, qz11⟩ := h12
    rw [qz11] at hw9
    have hw : WD G (gp G a z y k) A s H locs := hw9.sub [0, 25, 26, 1, 2, 3, 4, 5, 6, 7, 8, 9, 10, 11, 12, 13, 14, 15, 16, 17, 18, 19, 20, 21, 22, 23, 24] rfl rfl
    refine top_to (v := (nI (b))) S (eb) ?_
    refine cx_i (wc := gp G a z y k) (wr := []) (vx_runV (As := [.int (nI (n)), .int (nI (b))]) (rest := []) S (c_X4_move l G a z y k H.size (nI (n)) (nI (b)) iz) (cwV 2 S.2.2.2.2 gX4_carryOut_X4_move rfl rfl rfl hd_X4_move ⟨by rw [hR]; exact Nat.le_of_ble_eq_true rfl, by rw [hR]; exact Nat.le_of_ble_eq_true rfl⟩) ⟨PX.blind, va_recv hK.1 hw.1 (ci := 4) (q0 := 0) rfl rfl, fun U hU hW => ⟨rfl, PX.of hK hX hw (va_free hw.2.1 hw.2.2 hA [0, 1, 2, 3, 4, 5, 6, 7, 8, 9, 10, 11, 12, 13, 14, 15, 16, 17, 18, 19, 20, 21, 22, 23, 24, 25, 26] rfl) hU hW⟩⟩ rfl rfl hl.1 rfl (lv_room (Nat.le_of_ble_eq_true rfl)) dX4_carryOut_100 ⟨by rw [hR]; show _ ≤ xc _; rw [eD]; simp, by rw [hR]; show _ ≤ 6 * xc _; rw [eD]; simp⟩) hw hA [0, 1, 2, 3, 4, 5, 6, 7, 8, 9, 10, 11, 12, 13, 14, 15, 16, 17, 18, 19, 20, 21, 22, 23, 24, 25, 26] [] rfl rfl rfl rfl (by decide) (fun _ => rfl) (fun _ => rfl) (fun ce q9 u9 H locs hpx hw9 g1 g2 g3 => ?_) (fun r9 u9 H locs hp9 hw9 => ?_)
    · skip
      obtain ⟨hne, rfl⟩ := hpx
      have hw : WD G (gp G a (pM (nI (n)) (nI (b)) z).2.2 y k) A s H locs := hw9
      exact absurd (pM_n hn hb4 z) hne
    · skip
      obtain ⟨hc9, rfl, rfl⟩ := hp9
      have hw : WD G (gp G a (pM (nI (n)) (nI (b)) z).2.2 y k) A s H locs := hw9
      refine W.widen (k := 0) (n := 0) (by show 0 + xc (pM (nI (n)) (nI (b)) z).1 ≤ 0; rw [hc9]; decide) (by show 0 + 6 * xc (pM (nI (n)) (nI (b)) z).1 ≤ 0; rw [hc9]; decide) ?_
      refine lv_pop S.1 S.2.1 dX4_carryOut_103 rfl ?_
      refine lv_goto (tgt := 118) S.1 S.2.1 dX4_carryOut_104 (by decide) ?_
      refine lv_goto (tgt := 127) S.1 S.2.1 dX4_carryOut_118 (by decide) ?_
      refine lv_iconst (v := 0) S.1 S.2.1 dX4_carryOut_127 (by decide) ?_
      exact ret_x hQ (by first | exact Nat.zero_le _ | (rw [eD]; simp)) (by first | exact Nat.zero_le _ | (rw [eD]; simp)) (en_i (v := (0)) (((pM (nI (n)) (nI (b)) z).2.2, y, k) : St × St × St) rfl S hr hlk hw (by rw [eD]; exact ⟨hc9.symm, rfl⟩) dX4_carryOut_128)
  · skip
    obtain ⟨n, hn1, hn9, en, eD⟩ := DP_r (z := z) hV h9
    have hl : lv_has ls 4 [(2, .int (nI (n))), (0, .ref (a 0)), (1, .int (nI (q)))] := by rw [en] at hl; exact hl
    refine lv_lookup (off := 88) (tgt := 107) S.1 S.2.1 dX4_carryOut_19 (by decide) (by rw [h9]; decide) (by decide) ?_
    refine lv_aload_n S.1 S.2.1 dX4_carryOut_107 rfl (lv_at hl 1 rfl) ?_
    refine gt_X4_0 (v := .ref (a 15)) S hK hw 0 rfl rfl LX4 k2 dX4_carryOut_108 ?_
    refine lv_iload_n S.1 S.2.1 dX4_carryOut_111 rfl (lv_at hl 0 rfl) ?_
    have hwc : WD G (wp G (fun i => a (15 + i)) z) A s H _ := hw.sub [15, 16, 17, 18, 19, 20, 21, 22, 23, 24, 25, 26] rfl rfl
    refine cj_v (wc := (wp G (fun i => a (15 + i)) z)) (wr := (gpr G a y k)) (va_runV (As := [.int (nI (n))]) (rest := []) S (c_X3_play l G (fun i => a (15 + i)) z H.size (n) (by omega) (by exact iz)) (cwV 1 S.2.2.2.2 gX4_carryOut_X3_play rfl rfl rfl hd_X3_play ⟨by rw [hR]; exact Nat.le_of_ble_eq_true rfl, by rw [hR]; exact Nat.le_of_ble_eq_true rfl⟩) ⟨PW.blind, va_recv hK.1 hwc.1 (ci := 3) (q0 := 0) rfl rfl, fun U hU hW => ⟨rfl, PW.of hK hwc hU hW⟩⟩ rfl rfl hl.1 rfl (lv_room (Nat.le_of_ble_eq_true rfl)) dX4_carryOut_112 ⟨Nat.zero_le _, Nat.zero_le _⟩) hw hA [15, 16, 17, 18, 19, 20, 21, 22, 23, 24, 25, 26] [0, 1, 2, 3, 4, 5, 6, 7, 8, 9, 10, 11, 12, 13, 14] rfl rfl rfl rfl (by decide) (fun _ => rfl) (fun z14 H locs h15 hw9 => ?_)
    have ez14 := h15
    have hw : WD G (gp G a z14 y k) A s H locs := hw9
    have iz14 : Inv z14 := by rw [ez14]; exact inv_rds iz (n)
    refine lv_goto (tgt := 118) S.1 S.2.1 dX4_carryOut_115 (by decide) ?_
    refine lv_goto (tgt := 127) S.1 S.2.1 dX4_carryOut_118 (by decide) ?_
    refine lv_iconst (v := 0) S.1 S.2.1 dX4_carryOut_127 (by decide) ?_
    exact ret_x hQ (by first | exact Nat.zero_le _ | (rw [eD]; simp)) (by first | exact Nat.zero_le _ | (rw [eD]; simp)) (en_i (v := (0)) ((z14, y, k) : St × St × St) rfl S hr hlk hw (by rw [eD, pR_n hn1 hn9]; exact ⟨rfl, by rw [ez14]⟩) dX4_carryOut_128)
