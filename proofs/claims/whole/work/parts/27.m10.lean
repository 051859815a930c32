theorem i8 {v : Int32} (h : ¬ v < 8) : 7 < v := by
  rw [i_lt] at h ⊢
  have e8 : (8 : Int32).toInt = 8 := rfl
  have e7 : (7 : Int32).toInt = 7 := rfl
  omega
theorem i8b {v : Int32} (h : v < 8) : ¬ 7 < v := by
  rw [i_lt] at h ⊢
  have e8 : (8 : Int32).toInt = 8 := rfl
  have e7 : (7 : Int32).toInt = 7 := rfl
  omega
theorem hd_X4_requireNode : yX4_requireNode.cls ≠ "java/lang/invoke/MethodHandle" ∧ yX4_requireNode.cls ≠ "java/lang/invoke/VarHandle" ∧ (parseMethodDescriptor yX4_requireNode.desc).map (fun d => d.parameters.length) = some 1 := by decide +kernel
set_option maxHeartbeats 4000000 in
set_option maxRecDepth 100000 in
theorem c_X4_requireNode (l : Launch) (G : GA)  (sz : Nat) (v : Int32) : vx_Met l yX4_requireNode wsX4_requireNode ({ frames := 6, cells := xc (((rn v, 0, zz) : PO) : PO).1, slots := 6 * xc (((rn v, 0, zz) : PO) : PO).1, locals := 90 }) (va_Pc [.int (v)] (PX l G ([] : va_W) sz)) (va_Qv (fun (u : Unit) => (((rn v, 0, zz) : PO) : PO).1 = 0) (fun (u : Unit) t => va_P G.1 gcl ([] : va_W) t.heap) (va_A ([] : va_W) sz)) (vx_X (fun (u : Unit) => ¬ (((rn v, 0, zz) : PO) : PO).1 = 0) (fun E u t => E = ex3 xIOE xIOE xIOE (((rn v, 0, zz) : PO) : PO).1 ∧ va_P G.1 gcl ([] : va_W) t.heap) (va_A ([] : va_W) sz)) (xc (((rn v, 0, zz) : PO) : PO).1) (6 * xc (((rn v, 0, zz) : PO) : PO).1) (va_A ([] : va_W) sz) := by
  refine met_x (cc := cX4_requireNode) (maxL := 1) (ret := none) (fun A => va_Qv (fun (u : Unit) => (((rn v, 0, zz) : PO) : PO).1 = 0) (fun (u : Unit) t => va_P G.1 gcl ([] : va_W) t.heap) A) (fun A => vx_X (fun (u : Unit) => ¬ (((rn v, 0, zz) : PO) : PO).1 = 0) (fun E u t => E = ex3 xIOE xIOE xIOE (((rn v, 0, zz) : PO) : PO).1 ∧ va_P G.1 gcl ([] : va_W) t.heap) A) (by decide) rfl (Nat.le_of_ble_eq_true rfl) ?_
  intro p e s m args below meth c R Q A H ls hR hQ S hr hlk htab hK hX hsz hH hAe hA hw hl
  have hl : lv_has ls 1 [(0, .int (v))] := hl
  have m1IOE : Cond.classLink RX4 239 xIOE ∈ wsX4_requireNode := by decide +kernel
  have m2IOE : Cond.initialized xIOE ∈ wsX4_requireNode := by decide +kernel
  have m3IOE : ∀ w ∈ (vx_atS RX4 243 xIOE ["java/lang/RuntimeException", "java/lang/Exception"]).filter goodWord, w ∈ wsX4_requireNode := by decide +kernel
  refine lv_iload_n S.1 S.2.1 dX4_requireNode_0 rfl (lv_at hl 0 rfl) ?_
  refine lv_if_lt (tgt := 10) S.1 S.2.1 dX4_requireNode_1 (by decide) (fun c1 => ?_) (fun c1 => ?_)
  · skip
    have hp9 : ((rn v, 0, zz) : PO) = (1, 0, zz) := (by first | (simp [rn, nd, c1]; done) | (have h7 := i8 c1; simp [rn, nd, h7, c1]; done))
    exact th_IOE (text := "there is no such node") S hX hw hl.1 hlk htab (by decide) m1IOE m2IOE m3IOE dX4_requireNode_10 dX4_requireNode_13 dX4_requireNode_14 dX4_requireNode_16 dX4_requireNode_19 hQ () (by rw [hp9]; exact show ¬ (1 : Int32) = 0 by decide) (by rw [hp9]; rfl) rfl (by rw [hR]; exact Nat.le_of_ble_eq_true rfl) (by rw [hR]; exact Nat.le_of_ble_eq_true rfl) (by rw [hR]; show 0 + 1 ≤ xc (((rn v, 0, zz) : PO)).1; rw [hp9]; exact (show 0 + 1 ≤ xc 1 by decide)) (by rw [hR]; show 0 + 6 ≤ 6 * xc (((rn v, 0, zz) : PO)).1; rw [hp9]; exact (show 0 + 6 ≤ 6 * xc 1 by decide)) (by rw [hp9]; exact (show 0 + 1 ≤ xc 1 by decide)) (by rw [hp9]; exact (show 0 + 6 ≤ 6 * xc 1 by decide))
  · skip
    refine lv_iload_n S.1 S.2.1 dX4_requireNode_4 rfl (lv_at hl 0 rfl) ?_
    refine lv_bipush (v := 8) S.1 S.2.1 dX4_requireNode_5 (by decide) ?_
    refine lv_icmp_lt (tgt := 20) S.1 S.2.1 dX4_requireNode_7 (by decide) (fun c2 => ?_) (fun c2 => ?_)
    · skip
      have hp9 : ((rn v, 0, zz) : PO) = (0, 0, zz) := (by have h7 := i8b c2; simp [rn, nd, h7, c1, c2])
      exact ret_x hQ (Nat.zero_le _) (Nat.zero_le _) (en_v () rfl S hr hlk hw (by rw [hp9]) dX4_requireNode_20)
    · skip
      have hp9 : ((rn v, 0, zz) : PO) = (1, 0, zz) := (by first | (simp [rn, nd, c1, c2]; done) | (have h7 := i8 c2; simp [rn, nd, h7, c1, c2]; done))
      exact th_IOE (text := "there is no such node") S hX hw hl.1 hlk htab (by decide) m1IOE m2IOE m3IOE dX4_requireNode_10 dX4_requireNode_13 dX4_requireNode_14 dX4_requireNode_16 dX4_requireNode_19 hQ () (by rw [hp9]; exact show ¬ (1 : Int32) = 0 by decide) (by rw [hp9]; rfl) rfl (by rw [hR]; exact Nat.le_of_ble_eq_true rfl) (by rw [hR]; exact Nat.le_of_ble_eq_true rfl) (by rw [hR]; show 0 + 1 ≤ xc (((rn v, 0, zz) : PO)).1; rw [hp9]; exact (show 0 + 1 ≤ xc 1 by decide)) (by rw [hR]; show 0 + 6 ≤ 6 * xc (((rn v, 0, zz) : PO)).1; rw [hp9]; exact (show 0 + 6 ≤ 6 * xc 1 by decide)) (by rw [hp9]; exact (show 0 + 1 ≤ xc 1 by decide)) (by rw [hp9]; exact (show 0 + 6 ≤ 6 * xc 1 by decide))

theorem hd_X4_requireTwoNodes : yX4_requireTwoNodes.cls ≠ "java/lang/invoke/MethodHandle" ∧ yX4_requireTwoNodes.cls ≠ "java/lang/invoke/VarHandle" ∧ (parseMethodDescriptor yX4_requireTwoNodes.desc).map (fun d => d.parameters.length) = some 2 := by decide +kernel
set_option maxHeartbeats 4000000 in
set_option maxRecDepth 100000 in
theorem c_X4_requireTwoNodes (l : Launch) (G : GA)  (sz : Nat) (v : Int32) (w : Int32) : vx_Met l yX4_requireTwoNodes wsX4_requireTwoNodes ({ frames := 7, cells := xc (((vr v w, 0, zz) : PO) : PO).1, slots := 6 * xc (((vr v w, 0, zz) : PO) : PO).1, locals := 110 }) (va_Pc [.int (v), .int (w)] (PX l G ([] : va_W) sz)) (va_Qv (fun (u : Unit) => (((vr v w, 0, zz) : PO) : PO).1 = 0) (fun (u : Unit) t => va_P G.1 gcl ([] : va_W) t.heap) (va_A ([] : va_W) sz)) (vx_X (fun (u : Unit) => ¬ (((vr v w, 0, zz) : PO) : PO).1 = 0) (fun E u t => E = ex3 xIOE xIAE xIAE (((vr v w, 0, zz) : PO) : PO).1 ∧ va_P G.1 gcl ([] : va_W) t.heap) (va_A ([] : va_W) sz)) (xc (((vr v w, 0, zz) : PO) : PO).1) (6 * xc (((vr v w, 0, zz) : PO) : PO).1) (va_A ([] : va_W) sz) := by
  refine met_x (cc := cX4_requireTwoNodes) (maxL := 2) (ret := none) (fun A => va_Qv (fun (u : Unit) => (((vr v w, 0, zz) : PO) : PO).1 = 0) (fun (u : Unit) t => va_P G.1 gcl ([] : va_W) t.heap) A) (fun A => vx_X (fun (u : Unit) => ¬ (((vr v w, 0, zz) : PO) : PO).1 = 0) (fun E u t => E = ex3 xIOE xIAE xIAE (((vr v w, 0, zz) : PO) : PO).1 ∧ va_P G.1 gcl ([] : va_W) t.heap) A) (by decide) rfl (Nat.le_of_ble_eq_true rfl) ?_
  intro p e s m args below meth c R Q A H ls hR hQ S hr hlk htab hK hX hsz hH hAe hA hw hl
  have hl : lv_has ls 2 [(0, .int (v)), (1, .int (w))] := hl
  have m1IAE : Cond.classLink RX4 30 xIAE ∈ wsX4_requireTwoNodes := by decide +kernel
  have m2IAE : Cond.initialized xIAE ∈ wsX4_requireTwoNodes := by decide +kernel
  have m3IAE : ∀ w ∈ (vx_atS RX4 34 xIAE ["java/lang/RuntimeException", "java/lang/Exception"]).filter goodWord, w ∈ wsX4_requireTwoNodes := by decide +kernel
  refine lv_iload_n S.1 S.2.1 dX4_requireTwoNodes_0 rfl (lv_at hl 0 rfl) ?_
  refine cx_v (wc := []) (wr := ([] : va_W)) (vx_runS (As := [.int (v)]) (rest := []) S (c_X4_requireNode l G H.size (v)) (va_cwS 1 S.2.2.2.2 gX4_requireTwoNodes_X4_requireNode rfl rfl rfl hd_X4_requireNode ⟨by rw [hR]; exact Nat.le_of_ble_eq_true rfl, by rw [hR]; exact Nat.le_of_ble_eq_true rfl⟩) ⟨PX.blind, fun U hU hW => ⟨rfl, PX.of hK hX (hw.sub [] rfl rfl) (va_free hw.2.1 hw.2.2 hA [] rfl) hU hW⟩⟩ rfl rfl hl.1 rfl (lv_room (Nat.le_of_ble_eq_true rfl)) dX4_requireTwoNodes_1 ⟨by rw [hR, Nat.zero_add]; exact xc_vr1 _ _, by rw [hR, Nat.zero_add]; exact Nat.mul_le_mul_left 6 (xc_vr1 _ _)⟩) hw hA [] [] rfl rfl rfl rfl (by decide) (fun _ => rfl) (fun _ => rfl) (fun ce q9 u9 H locs hpx hw9 g1 g2 g3 => ?_) (fun u9 H locs hn1 hw9 => ?_)
  · skip
    have hpx : ¬ rn (v) = 0 := hpx
    have hp9 : ((vr v w, 0, zz) : PO) = (rn (v), 0, zz) := (by rw [vr_f1 hpx])
    exact out_x hQ (u := ()) (by rw [List.append_nil] at hw9; exact hw9) hlk htab g1 g2 g3 (by rw [hp9]; exact hpx) (by first | (rw [hp9]; done) | (rw [hp9]; rw [rn_1 hpx]; rfl)) rfl (by rw [hp9, Nat.zero_add]; exact Nat.le_refl _) (by rw [hp9, Nat.zero_add]; exact Nat.le_refl _)
  · skip
    have hn1 : rn (v) = 0 := hn1
    have hw : WD G ([] : va_W) A s H locs := by rw [List.append_nil] at hw9; exact hw9
    refine W.widen (k := 0) (n := 0) (by show 0 + xc (rn (v)) ≤ 0; rw [hn1]; decide) (by show 0 + 6 * xc (rn (v)) ≤ 0; rw [hn1]; decide) ?_
    have hn1 := hn1
    refine lv_iload_n S.1 S.2.1 dX4_requireTwoNodes_4 rfl (lv_at hl 1 rfl) ?_
    refine cx_v (wc := []) (wr := ([] : va_W)) (vx_runS (As := [.int (w)]) (rest := []) S (c_X4_requireNode l G H.size (w)) (va_cwS 1 S.2.2.2.2 gX4_requireTwoNodes_X4_requireNode rfl rfl rfl hd_X4_requireNode ⟨by rw [hR]; exact Nat.le_of_ble_eq_true rfl, by rw [hR]; exact Nat.le_of_ble_eq_true rfl⟩) ⟨PX.blind, fun U hU hW => ⟨rfl, PX.of hK hX (hw.sub [] rfl rfl) (va_free hw.2.1 hw.2.2 hA [] rfl) hU hW⟩⟩ rfl rfl hl.1 rfl (lv_room (Nat.le_of_ble_eq_true rfl)) dX4_requireTwoNodes_5 ⟨by rw [hR, Nat.zero_add]; exact xc_vr2 _ _, by rw [hR, Nat.zero_add]; exact Nat.mul_le_mul_left 6 (xc_vr2 _ _)⟩) hw hA [] [] rfl rfl rfl rfl (by decide) (fun _ => rfl) (fun _ => rfl) (fun ce q9 u9 H locs hpx hw9 g1 g2 g3 => ?_) (fun u9 H locs hn2 hw9 => ?_)
    · skip
      have hpx : ¬ rn (w) = 0 := hpx
      have hp9 : ((vr v w, 0, zz) : PO) = (rn (w), 0, zz) := (by rw [vr_f2 hpx])
      exact out_x hQ (u := ()) (by rw [List.append_nil] at hw9; exact hw9) hlk htab g1 g2 g3 (by rw [hp9]; exact hpx) (by first | (rw [hp9]; done) | (rw [hp9]; rw [rn_1 hpx]; rfl)) rfl (by rw [hp9, Nat.zero_add]; exact Nat.le_refl _) (by rw [hp9, Nat.zero_add]; exact Nat.le_refl _)
    · skip
      have hn2 : rn (w) = 0 := hn2
      have hw : WD G ([] : va_W) A s H locs := by rw [List.append_nil] at hw9; exact hw9
      refine W.widen (k := 0) (n := 0) (by show 0 + xc (rn (w)) ≤ 0; rw [hn2]; decide) (by show 0 + 6 * xc (rn (w)) ≤ 0; rw [hn2]; decide) ?_
      have hn2 := hn2
      refine lv_iload_n S.1 S.2.1 dX4_requireTwoNodes_8 rfl (lv_at hl 0 rfl) ?_
      refine lv_iload_n S.1 S.2.1 dX4_requireTwoNodes_9 rfl (lv_at hl 1 rfl) ?_
      refine lv_icmp_ne (tgt := 23) S.1 S.2.1 dX4_requireTwoNodes_10 (by decide) (fun c3 => ?_) (fun c3 => ?_)
      · skip
        have hp9 : ((vr v w, 0, zz) : PO) = (0, 0, zz) := (by rw [vr_d hn1 hn2 c3])
        exact ret_x hQ (Nat.zero_le _) (Nat.zero_le _) (en_v () rfl S hr hlk hw (by rw [hp9]) dX4_requireTwoNodes_23)
      · skip
        have hp9 : ((vr v w, 0, zz) : PO) = (2, 0, zz) := (by rw [vr_s hn1 hn2 c3])
        exact th_IAE (text := "both nodes are the same") S hX hw hl.1 hlk htab (by decide) m1IAE m2IAE m3IAE dX4_requireTwoNodes_13 dX4_requireTwoNodes_16 dX4_requireTwoNodes_17 dX4_requireTwoNodes_19 dX4_requireTwoNodes_22 hQ () (by rw [hp9]; exact show ¬ (2 : Int32) = 0 by decide) (by rw [hp9]; rfl) rfl (by rw [hR]; exact Nat.le_of_ble_eq_true rfl) (by rw [hR]; exact Nat.le_of_ble_eq_true rfl) (by rw [hR]; show 0 + 1 ≤ xc (((vr v w, 0, zz) : PO)).1; rw [hp9]; exact (show 0 + 1 ≤ xc 2 by decide)) (by rw [hR]; show 0 + 6 ≤ 6 * xc (((vr v w, 0, zz) : PO)).1; rw [hp9]; exact (show 0 + 6 ≤ 6 * xc 2 by decide)) (by rw [hp9]; exact (show 0 + 1 ≤ xc 2 by decide)) (by rw [hp9]; exact (show 0 + 6 ≤ 6 * xc 2 by decide))

theorem hd_X4_setPatience : yX4_setPatience.cls = RX4 ∧ yX4_setPatience.cls ≠ "java/lang/invoke/MethodHandle" ∧ yX4_setPatience.cls ≠ "java/lang/invoke/VarHandle" ∧ (parseMethodDescriptor yX4_setPatience.desc).map (fun d => d.parameters.length) = some 1 := by decide +kernel
set_option maxHeartbeats 4000000 in
set_option maxRecDepth 100000 in
theorem c_X4_setPatience (l : Launch) (G : GA) (a : Nat → Nat) (z : St) (y : St) (k : St) (sz : Nat) (v : Int32) : vx_Met l yX4_setPatience wsX4_setPatience ({ frames := 6, cells := xc (pS 2 1 20 v z : PO).1, slots := 6 * xc (pS 2 1 20 v z : PO).1, locals := 90 }) (va_Pc [.ref (a 0), .int (v)] (PX l G (gp G a z y k) sz)) (va_Qi (fun (r : Int32) (u : St × St × St) => (pS 2 1 20 v z : PO).1 = 0 ∧ r = (pS 2 1 20 v z : PO).2.1 ∧ u = ((pS 2 1 20 v z : PO).2.2, y, k)) (fun (u : St × St × St) t => va_P G.1 gcl (gp G a u.1 u.2.1 u.2.2) t.heap) (va_A (gp G a z y k) sz)) (vx_X (fun (u : St × St × St) => ¬ (pS 2 1 20 v z : PO).1 = 0 ∧ u = ((pS 2 1 20 v z : PO).2.2, y, k)) (fun E u t => E = ex3 xIAE xIAE xIAE (pS 2 1 20 v z : PO).1 ∧ va_P G.1 gcl (gp G a u.1 u.2.1 u.2.2) t.heap) (va_A (gp G a z y k) sz)) (xc (pS 2 1 20 v z : PO).1) (6 * xc (pS 2 1 20 v z : PO).1) (va_A (gp G a z y k) sz) := by
  refine met_x (cc := cX4_setPatience) (maxL := 3) (ret := (some .int)) (fun A => va_Qi (fun (r : Int32) (u : St × St × St) => (pS 2 1 20 v z : PO).1 = 0 ∧ r = (pS 2 1 20 v z : PO).2.1 ∧ u = ((pS 2 1 20 v z : PO).2.2, y, k)) (fun (u : St × St × St) t => va_P G.1 gcl (gp G a u.1 u.2.1 u.2.2) t.heap) A) (fun A => vx_X (fun (u : St × St × St) => ¬ (pS 2 1 20 v z : PO).1 = 0 ∧ u = ((pS 2 1 20 v z : PO).2.2, y, k)) (fun E u t => E = ex3 xIAE xIAE xIAE (pS 2 1 20 v z : PO).1 ∧ va_P G.1 gcl (gp G a u.1 u.2.1 u.2.2) t.heap) A) (by decide) rfl (Nat.le_of_ble_eq_true rfl) ?_
  intro p e s m args below meth c R Q A H ls hR hQ S hr hlk htab hK hX hsz hH hAe hA hw hl
  have hl : lv_has ls 3 [(0, .ref (a 0)), (1, .int (v))] := hl
  have LX1 : ∀ w ∈ u_ws RX1 TX1 10, w.before args s = true := fun w h => S.2.2.2.2 w ((by decide +kernel : ∀ w ∈ u_ws RX1 TX1 10, w ∈ wsX4_setPatience) w h)
  have LX3 : ∀ w ∈ u_ws RX3 TX3 7, w.before args s = true := fun w h => S.2.2.2.2 w ((by decide +kernel : ∀ w ∈ u_ws RX3 TX3 7, w ∈ wsX4_setPatience) w h)
  have LX4 : ∀ w ∈ u_ws RX4 TX4 6, w.before args s = true := fun w h => S.2.2.2.2 w ((by decide +kernel : ∀ w ∈ u_ws RX4 TX4 6, w ∈ wsX4_setPatience) w h)
  have k1 : (Cond.fieldLink RX4 10 "GossipMembership" "world" "LGossipMembership$World;").before args s = true := S.2.2.2.2 _ (by decide +kernel : (Cond.fieldLink RX4 10 "GossipMembership" "world" "LGossipMembership$World;") ∈ wsX4_setPatience)
  have k2 : (Cond.fieldLink RX4 37 "GossipMembership$World" "knowledge" "LGossipMembership$Knowledge;").before args s = true := S.2.2.2.2 _ (by decide +kernel : (Cond.fieldLink RX4 37 "GossipMembership$World" "knowledge" "LGossipMembership$Knowledge;") ∈ wsX4_setPatience)
  have k3 : (Cond.fieldLink RX4 41 "GossipMembership$Knowledge" "patience" "I").before args s = true := S.2.2.2.2 _ (by decide +kernel : (Cond.fieldLink RX4 41 "GossipMembership$Knowledge" "patience" "I") ∈ wsX4_setPatience)
  have m1IAE : Cond.classLink RX4 30 xIAE ∈ wsX4_setPatience := by decide +kernel
  have m2IAE : Cond.initialized xIAE ∈ wsX4_setPatience := by decide +kernel
  have m3IAE : ∀ w ∈ (vx_atS RX4 34 xIAE ["java/lang/RuntimeException", "java/lang/Exception"]).filter goodWord, w ∈ wsX4_setPatience := by decide +kernel
  refine lv_iload_n S.1 S.2.1 dX4_setPatience_0 rfl (lv_at hl 1 rfl) ?_
  refine lv_iconst (v := 1) S.1 S.2.1 dX4_setPatience_1 (by decide) ?_
  refine lv_icmp_lt (tgt := 11) S.1 S.2.1 dX4_setPatience_2 (by decide) (fun c1 => ?_) (fun c1 => ?_)
  · skip
    have hp9 : pS 2 1 20 v z = (1, 0, z) := (by first | (simp [pS, inB, c1]; done) | (have h7 := i_nl c1; simp [pS, inB, h7, c1]; done))
    exact th_IAE (text := "the patience is out of range") S hX hw hl.1 hlk htab (by decide) m1IAE m2IAE m3IAE dX4_setPatience_11 dX4_setPatience_14 dX4_setPatience_15 dX4_setPatience_17 dX4_setPatience_20 hQ ((z, y, k) : St × St × St) (by rw [hp9]; exact ⟨show ¬ (1 : Int32) = 0 by decide, rfl⟩) (by rw [hp9]; rfl) rfl (by rw [hR]; exact Nat.le_of_ble_eq_true rfl) (by rw [hR]; exact Nat.le_of_ble_eq_true rfl) (by rw [hR]; show 0 + 1 ≤ xc (pS 2 1 20 v z).1; rw [hp9]; exact (show 0 + 1 ≤ xc 1 by decide)) (by rw [hR]; show 0 + 6 ≤ 6 * xc (pS 2 1 20 v z).1; rw [hp9]; exact (show 0 + 6 ≤ 6 * xc 1 by decide)) (by rw [hp9]; exact (show 0 + 1 ≤ xc 1 by decide)) (by rw [hp9]; exact (show 0 + 6 ≤ 6 * xc 1 by decide))
  · skip
    refine lv_iload_n S.1 S.2.1 dX4_setPatience_5 rfl (lv_at hl 1 rfl) ?_
    refine lv_bipush (v := 20) S.1 S.2.1 dX4_setPatience_6 (by decide) ?_
    refine lv_icmp_le (tgt := 21) S.1 S.2.1 dX4_setPatience_8 (by decide) (fun c2 => ?_) (fun c2 => ?_)
    · skip
      refine lv_aload_n S.1 S.2.1 dX4_setPatience_21 rfl (lv_at hl 0 rfl) ?_
      refine gt_X4_0 (v := .ref (a 15)) S hK hw 0 rfl rfl LX4 k1 dX4_setPatience_22 ?_
      refine gt_X3_1 (v := .ref (a 21)) S hK hw 15 rfl rfl LX3 k2 dX4_setPatience_25 ?_
      refine gt_X1_5 (v := .int (z 0 2)) S hK hw 21 rfl rfl LX1 k3 dX4_setPatience_28 ?_
      refine lv_istore_n (lv' := [(2, .int (z 0 2)), (0, .ref (a 0)), (1, .int (v))]) S.1 S.2.1 dX4_setPatience_31 rfl hl (by decide) rfl (fun ls hl => ?_)
      refine lv_aload_n S.1 S.2.1 dX4_setPatience_32 rfl (lv_at hl 1 rfl) ?_
      refine gt_X4_0 (v := .ref (a 15)) S hK hw 0 rfl rfl LX4 k1 dX4_setPatience_33 ?_
      refine gt_X3_1 (v := .ref (a 21)) S hK hw 15 rfl rfl LX3 k2 dX4_setPatience_36 ?_
      refine lv_iload_n S.1 S.2.1 dX4_setPatience_39 rfl (lv_at hl 2 rfl) ?_
      refine pt_X1_5 (ws' := (gp G a (st z 0 2 (v)) y k)) S hK hw 21 rfl LX1 k3 rfl (Nat.le_of_ble_eq_true rfl) dX4_setPatience_40 (fun H locs hw => ?_)
      obtain ⟨z3, ez3⟩ : ∃ zz, zz = st z 0 2 (v) := ⟨_, rfl⟩
      have hw : WD G (gp G a z3 y k) A s H locs := by rw [ez3]; exact hw
      refine lv_iload_n S.1 S.2.1 dX4_setPatience_43 rfl (lv_at hl 0 rfl) ?_
      have hp9 : pS 2 1 20 v z = (0, (z 0 2), z3) := (by subst ez3; first | (have h7 := i_ln c2; simp [pS, inB, h7, c1, c2]; done) | (have h7 := i_max v; simp [pS, inB, h7, c1, c2]; done))
      exact ret_x hQ (Nat.zero_le _) (Nat.zero_le _) (en_i (v := (z 0 2)) ((z3, y, k) : St × St × St) rfl S hr hlk hw (by exact ⟨by rw [hp9], by rw [hp9], by rw [hp9]⟩) dX4_setPatience_44)
    · skip
      have hp9 : pS 2 1 20 v z = (1, 0, z) := (by first | (simp [pS, inB, c1, c2]; done) | (have h7 := i_nl c2; simp [pS, inB, h7, c1, c2]; done))
      exact th_IAE (text := "the patience is out of range") S hX hw hl.1 hlk htab (by decide) m1IAE m2IAE m3IAE dX4_setPatience_11 dX4_setPatience_14 dX4_setPatience_15 dX4_setPatience_17 dX4_setPatience_20 hQ ((z, y, k) : St × St × St) (by rw [hp9]; exact ⟨show ¬ (1 : Int32) = 0 by decide, rfl⟩) (by rw [hp9]; rfl) rfl (by rw [hR]; exact Nat.le_of_ble_eq_true rfl) (by rw [hR]; exact Nat.le_of_ble_eq_true rfl) (by rw [hR]; show 0 + 1 ≤ xc (pS 2 1 20 v z).1; rw [hp9]; exact (show 0 + 1 ≤ xc 1 by decide)) (by rw [hR]; show 0 + 6 ≤ 6 * xc (pS 2 1 20 v z).1; rw [hp9]; exact (show 0 + 6 ≤ 6 * xc 1 by decide)) (by rw [hp9]; exact (show 0 + 1 ≤ xc 1 by decide)) (by rw [hp9]; exact (show 0 + 6 ≤ 6 * xc 1 by decide))

theorem hd_X4_setFanOut : yX4_setFanOut.cls = RX4 ∧ yX4_setFanOut.cls ≠ "java/lang/invoke/MethodHandle" ∧ yX4_setFanOut.cls ≠ "java/lang/invoke/VarHandle" ∧ (parseMethodDescriptor yX4_setFanOut.desc).map (fun d => d.parameters.length) = some 1 := by decide +kernel
set_option maxHeartbeats 4000000 in
set_option maxRecDepth 100000 in
theorem c_X4_setFanOut (l : Launch) (G : GA) (a : Nat → Nat) (z : St) (y : St) (k : St) (sz : Nat) (v : Int32) : vx_Met l yX4_setFanOut wsX4_setFanOut ({ frames := 6, cells := xc (pS 3 1 9 v z : PO).1, slots := 6 * xc (pS 3 1 9 v z : PO).1, locals := 90 }) (va_Pc [.ref (a 0), .int (v)] (PX l G (gp G a z y k) sz)) (va_Qi (fun (r : Int32) (u : St × St × St) => (pS 3 1 9 v z : PO).1 = 0 ∧ r = (pS 3 1 9 v z : PO).2.1 ∧ u = ((pS 3 1 9 v z : PO).2.2, y, k)) (fun (u : St × St × St) t => va_P G.1 gcl (gp G a u.1 u.2.1 u.2.2) t.heap) (va_A (gp G a z y k) sz)) (vx_X (fun (u : St × St × St) => ¬ (pS 3 1 9 v z : PO).1 = 0 ∧ u = ((pS 3 1 9 v z : PO).2.2, y, k)) (fun E u t => E = ex3 xIAE xIAE xIAE (pS 3 1 9 v z : PO).1 ∧ va_P G.1 gcl (gp G a u.1 u.2.1 u.2.2) t.heap) (va_A (gp G a z y k) sz)) (xc (pS 3 1 9 v z : PO).1) (6 * xc (pS 3 1 9 v z : PO).1) (va_A (gp G a z y k) sz) := by
  refine met_x (cc := cX4_setFanOut) (maxL := 3) (ret := (some .int)) (fun A => va_Qi (fun (r : Int32) (u : St × St × St) => (pS 3 1 9 v z : PO).1 = 0 ∧ r = (pS 3 1 9 v z : PO).2.1 ∧ u = ((pS 3 1 9 v z : PO).2.2, y, k)) (fun (u : St × St × St) t => va_P G.1 gcl (gp G a u.1 u.2.1 u.2.2) t.heap) A) (fun A => vx_X (fun (u : St × St × St) => ¬ (pS 3 1 9 v z : PO).1 = 0 ∧ u = ((pS 3 1 9 v z : PO).2.2, y, k)) (fun E u t => E = ex3 xIAE xIAE xIAE (pS 3 1 9 v z : PO).1 ∧ va_P G.1 gcl (gp G a u.1 u.2.1 u.2.2) t.heap) A) (by decide) rfl (Nat.le_of_ble_eq_true rfl) ?_
  intro p e s m args below meth c R Q A H ls hR hQ S hr hlk htab hK hX hsz hH hAe hA hw hl
  have hl : lv_has ls 3 [(0, .ref (a 0)), (1, .int (v))] := hl
  have LX1 : ∀ w ∈ u_ws RX1 TX1 10, w.before args s = true := fun w h => S.2.2.2.2 w ((by decide +kernel : ∀ w ∈ u_ws RX1 TX1 10, w ∈ wsX4_setFanOut) w h)
  have LX3 : ∀ w ∈ u_ws RX3 TX3 7, w.before args s = true := fun w h => S.2.2.2.2 w ((by decide +kernel : ∀ w ∈ u_ws RX3 TX3 7, w ∈ wsX4_setFanOut) w h)
  have LX4 : ∀ w ∈ u_ws RX4 TX4 6, w.before args s = true := fun w h => S.2.2.2.2 w ((by decide +kernel : ∀ w ∈ u_ws RX4 TX4 6, w ∈ wsX4_setFanOut) w h)
  have k1 : (Cond.fieldLink RX4 10 "GossipMembership" "world" "LGossipMembership$World;").before args s = true := S.2.2.2.2 _ (by decide +kernel : (Cond.fieldLink RX4 10 "GossipMembership" "world" "LGossipMembership$World;") ∈ wsX4_setFanOut)
  have k2 : (Cond.fieldLink RX4 37 "GossipMembership$World" "knowledge" "LGossipMembership$Knowledge;").before args s = true := S.2.2.2.2 _ (by decide +kernel : (Cond.fieldLink RX4 37 "GossipMembership$World" "knowledge" "LGossipMembership$Knowledge;") ∈ wsX4_setFanOut)
  have k3 : (Cond.fieldLink RX4 48 "GossipMembership$Knowledge" "fanOut" "I").before args s = true := S.2.2.2.2 _ (by decide +kernel : (Cond.fieldLink RX4 48 "GossipMembership$Knowledge" "fanOut" "I") ∈ wsX4_setFanOut)
  have m1IAE : Cond.classLink RX4 30 xIAE ∈ wsX4_setFanOut := by decide +kernel
  have m2IAE : Cond.initialized xIAE ∈ wsX4_setFanOut := by decide +kernel
  have m3IAE : ∀ w ∈ (vx_atS RX4 34 xIAE ["java/lang/RuntimeException", "java/lang/Exception"]).filter goodWord, w ∈ wsX4_setFanOut := by decide +kernel
  refine lv_iload_n S.1 S.2.1 dX4_setFanOut_0 rfl (lv_at hl 1 rfl) ?_
  refine lv_iconst (v := 1) S.1 S.2.1 dX4_setFanOut_1 (by decide) ?_
  refine lv_icmp_lt (tgt := 11) S.1 S.2.1 dX4_setFanOut_2 (by decide) (fun c1 => ?_) (fun c1 => ?_)
  · skip
    have hp9 : pS 3 1 9 v z = (1, 0, z) := (by first | (simp [pS, inB, c1]; done) | (have h7 := i_nl c1; simp [pS, inB, h7, c1]; done))
    exact th_IAE (text := "the fan-out is out of range") S hX hw hl.1 hlk htab (by decide) m1IAE m2IAE m3IAE dX4_setFanOut_11 dX4_setFanOut_14 dX4_setFanOut_15 dX4_setFanOut_17 dX4_setFanOut_20 hQ ((z, y, k) : St × St × St) (by rw [hp9]; exact ⟨show ¬ (1 : Int32) = 0 by decide, rfl⟩) (by rw [hp9]; rfl) rfl (by rw [hR]; exact Nat.le_of_ble_eq_true rfl) (by rw [hR]; exact Nat.le_of_ble_eq_true rfl) (by rw [hR]; show 0 + 1 ≤ xc (pS 3 1 9 v z).1; rw [hp9]; exact (show 0 + 1 ≤ xc 1 by decide)) (by rw [hR]; show 0 + 6 ≤ 6 * xc (pS 3 1 9 v z).1; rw [hp9]; exact (show 0 + 6 ≤ 6 * xc 1 by decide)) (by rw [hp9]; exact (show 0 + 1 ≤ xc 1 by decide)) (by rw [hp9]; exact (show 0 + 6 ≤ 6 * xc 1 by decide))
  · skip
    refine lv_iload_n S.1 S.2.1 dX4_setFanOut_5 rfl (lv_at hl 1 rfl) ?_
    refine lv_bipush (v := 9) S.1 S.2.1 dX4_setFanOut_6 (by decide) ?_
    refine lv_icmp_le (tgt := 21) S.1 S.2.1 dX4_setFanOut_8 (by decide) (fun c2 => ?_) (fun c2 => ?_)
    · skip
      refine lv_aload_n S.1 S.2.1 dX4_setFanOut_21 rfl (lv_at hl 0 rfl) ?_
      refine gt_X4_0 (v := .ref (a 15)) S hK hw 0 rfl rfl LX4 k1 dX4_setFanOut_22 ?_
      refine gt_X3_1 (v := .ref (a 21)) S hK hw 15 rfl rfl LX3 k2 dX4_setFanOut_25 ?_
      refine gt_X1_6 (v := .int (z 0 3)) S hK hw 21 rfl rfl LX1 k3 dX4_setFanOut_28 ?_
      refine lv_istore_n (lv' := [(2, .int (z 0 3)), (0, .ref (a 0)), (1, .int (v))]) S.1 S.2.1 dX4_setFanOut_31 rfl hl (by decide) rfl (fun ls hl => ?_)
      refine lv_aload_n S.1 S.2.1 dX4_setFanOut_32 rfl (lv_at hl 1 rfl) ?_
      refine gt_X4_0 (v := .ref (a 15)) S hK hw 0 rfl rfl LX4 k1 dX4_setFanOut_33 ?_
      refine gt_X3_1 (v := .ref (a 21)) S hK hw 15 rfl rfl LX3 k2 dX4_setFanOut_36 ?_
      refine lv_iload_n S.1 S.2.1 dX4_setFanOut_39 rfl (lv_at hl 2 rfl) ?_
      refine pt_X1_6 (ws' := (gp G a (st z 0 3 (v)) y k)) S hK hw 21 rfl LX1 k3 rfl (Nat.le_of_ble_eq_true rfl) dX4_setFanOut_40 (fun H locs hw => ?_)
      obtain ⟨z3, ez3⟩ : ∃ zz, zz = st z 0 3 (v) := ⟨_, rfl⟩
      have hw : WD G (gp G a z3 y k) A s H locs := by rw [ez3]; exact hw
      refine lv_iload_n S.1 S.2.1 dX4_setFanOut_43 rfl (lv_at hl 0 rfl) ?_
      have hp9 : pS 3 1 9 v z = (0, (z 0 3), z3) := (by subst ez3; first | (have h7 := i_ln c2; simp [pS, inB, h7, c1, c2]; done) | (have h7 := i_max v; simp [pS, inB, h7, c1, c2]; done))
      exact ret_x hQ (Nat.zero_le _) (Nat.zero_le _) (en_i (v := (z 0 3)) ((z3, y, k) : St × St × St) rfl S hr hlk hw (by exact ⟨by rw [hp9], by rw [hp9], by rw [hp9]⟩) dX4_setFanOut_44)
    · skip
      have hp9 : pS 3 1 9 v z = (1, 0, z) := (by first | (simp [pS, inB, c1, c2]; done) | (have h7 := i_nl c2; simp [pS, inB, h7, c1, c2]; done))
      exact th_IAE (text := "the fan-out is out of range") S hX hw hl.1 hlk htab (by decide) m1IAE m2IAE m3IAE dX4_setFanOut_11 dX4_setFanOut_14 dX4_setFanOut_15 dX4_setFanOut_17 dX4_setFanOut_20 hQ ((z, y, k) : St × St × St) (by rw [hp9]; exact ⟨show ¬ (1 : Int32) = 0 by decide, rfl⟩) (by rw [hp9]; rfl) rfl (by rw [hR]; exact Nat.le_of_ble_eq_true rfl) (by rw [hR]; exact Nat.le_of_ble_eq_true rfl) (by rw [hR]; show 0 + 1 ≤ xc (pS 3 1 9 v z).1; rw [hp9]; exact (show 0 + 1 ≤ xc 1 by decide)) (by rw [hR]; show 0 + 6 ≤ 6 * xc (pS 3 1 9 v z).1; rw [hp9]; exact (show 0 + 6 ≤ 6 * xc 1 by decide)) (by rw [hp9]; exact (show 0 + 1 ≤ xc 1 by decide)) (by rw [hp9]; exact (show 0 + 6 ≤ 6 * xc 1 by decide))

theorem hd_X4_setHelpers : yX4_setHelpers.cls = RX4 ∧ yX4_setHelpers.cls ≠ "java/lang/invoke/MethodHandle" ∧ yX4_setHelpers.cls ≠ "java/lang/invoke/VarHandle" ∧ (parseMethodDescriptor yX4_setHelpers.desc).map (fun d => d.parameters.length) = some 1 := by decide +kernel
set_option maxHeartbeats 4000000 in
set_option maxRecDepth 100000 in
theorem c_X4_setHelpers (l : Launch) (G : GA) (a : Nat → Nat) (z : St) (y : St) (k : St) (sz : Nat) (v : Int32) : vx_Met l yX4_setHelpers wsX4_setHelpers ({ frames := 6, cells := xc (pS 4 0 3 v z : PO).1, slots := 6 * xc (pS 4 0 3 v z : PO).1, locals := 90 }) (va_Pc [.ref (a 0), .int (v)] (PX l G (gp G a z y k) sz)) (va_Qi (fun (r : Int32) (u : St × St × St) => (pS 4 0 3 v z : PO).1 = 0 ∧ r = (pS 4 0 3 v z : PO).2.1 ∧ u = ((pS 4 0 3 v z : PO).2.2, y, k)) (fun (u : St × St × St) t => va_P G.1 gcl (gp G a u.1 u.2.1 u.2.2) t.heap) (va_A (gp G a z y k) sz)) (vx_X (fun (u : St × St × St) => ¬ (pS 4 0 3 v z : PO).1 = 0 ∧ u = ((pS 4 0 3 v z : PO).2.2, y, k)) (fun E u t => E = ex3 xIAE xIAE xIAE (pS 4 0 3 v z : PO).1 ∧ va_P G.1 gcl (gp G a u.1 u.2.1 u.2.2) t.heap) (va_A (gp G a z y k) sz)) (xc (pS 4 0 3 v z : PO).1) (6 * xc (pS 4 0 3 v z : PO).1) (va_A (gp G a z y k) sz) := by
  refine met_x (cc := cX4_setHelpers) (maxL := 3) (ret := (some .int)) (fun A => va_Qi (fun (r : Int32) (u : St × St × St) => (pS 4 0 3 v z : PO).1 = 0 ∧ r = (pS 4 0 3 v z : PO).2.1 ∧ u = ((pS 4 0 3 v z : PO).2.2, y, k)) (fun (u : St × St × St) t => va_P G.1 gcl (gp G a u.1 u.2.1 u.2.2) t.heap) A) (fun A => vx_X (fun (u : St × St × St) => ¬ (pS 4 0 3 v z : PO).1 = 0 ∧ u = ((pS 4 0 3 v z : PO).2.2, y, k)) (fun E u t => E = ex3 xIAE xIAE xIAE (pS 4 0 3 v z : PO).1 ∧ va_P G.1 gcl (gp G a u.1 u.2.1 u.2.2) t.heap) A) (by decide) rfl (Nat.le_of_ble_eq_true rfl) ?_
  intro p e s m args below meth c R Q A H ls hR hQ S hr hlk htab hK hX hsz hH hAe hA hw hl
  have hl : lv_has ls 3 [(0, .ref (a 0)), (1, .int (v))] := hl
  have LX3 : ∀ w ∈ u_ws RX3 TX3 7, w.before args s = true := fun w h => S.2.2.2.2 w ((by decide +kernel : ∀ w ∈ u_ws RX3 TX3 7, w ∈ wsX4_setHelpers) w h)
  have LX4 : ∀ w ∈ u_ws RX4 TX4 6, w.before args s = true := fun w h => S.2.2.2.2 w ((by decide +kernel : ∀ w ∈ u_ws RX4 TX4 6, w ∈ wsX4_setHelpers) w h)
  have k1 : (Cond.fieldLink RX4 10 "GossipMembership" "world" "LGossipMembership$World;").before args s = true := S.2.2.2.2 _ (by decide +kernel : (Cond.fieldLink RX4 10 "GossipMembership" "world" "LGossipMembership$World;") ∈ wsX4_setHelpers)
  have k2 : (Cond.fieldLink RX4 53 "GossipMembership$World" "helpers" "I").before args s = true := S.2.2.2.2 _ (by decide +kernel : (Cond.fieldLink RX4 53 "GossipMembership$World" "helpers" "I") ∈ wsX4_setHelpers)
  have m1IAE : Cond.classLink RX4 30 xIAE ∈ wsX4_setHelpers := by decide +kernel
  have m2IAE : Cond.initialized xIAE ∈ wsX4_setHelpers := by decide +kernel
  have m3IAE : ∀ w ∈ (vx_atS RX4 34 xIAE ["java/lang/RuntimeException", "java/lang/Exception"]).filter goodWord, w ∈ wsX4_setHelpers := by decide +kernel
  refine lv_iload_n S.1 S.2.1 dX4_setHelpers_0 rfl (lv_at hl 1 rfl) ?_
  refine lv_if_lt (tgt := 9) S.1 S.2.1 dX4_setHelpers_1 (by decide) (fun c1 => ?_) (fun c1 => ?_)
  · skip
    have hp9 : pS 4 0 3 v z = (1, 0, z) := (by first | (simp [pS, inB, c1]; done) | (have h7 := i_nl c1; simp [pS, inB, h7, c1]; done))
    exact th_IAE (text := "the number of helpers is out of range") S hX hw hl.1 hlk htab (by decide) m1IAE m2IAE m3IAE dX4_setHelpers_9 dX4_setHelpers_12 dX4_setHelpers_13 dX4_setHelpers_15 dX4_setHelpers_18 hQ ((z, y, k) : St × St × St) (by rw [hp9]; exact ⟨show ¬ (1 : Int32) = 0 by decide, rfl⟩) (by rw [hp9]; rfl) rfl (by rw [hR]; exact Nat.le_of_ble_eq_true rfl) (by rw [hR]; exact Nat.le_of_ble_eq_true rfl) (by rw [hR]; show 0 + 1 ≤ xc (pS 4 0 3 v z).1; rw [hp9]; exact (show 0 + 1 ≤ xc 1 by decide)) (by rw [hR]; show 0 + 6 ≤ 6 * xc (pS 4 0 3 v z).1; rw [hp9]; exact (show 0 + 6 ≤ 6 * xc 1 by decide)) (by rw [hp9]; exact (show 0 + 1 ≤ xc 1 by decide)) (by rw [hp9]; exact (show 0 + 6 ≤ 6 * xc 1 by decide))
  · skip
    refine lv_iload_n S.1 S.2.1 dX4_setHelpers_4 rfl (lv_at hl 1 rfl) ?_
    refine lv_iconst (v := 3) S.1 S.2.1 dX4_setHelpers_5 (by decide) ?_
    refine lv_icmp_le (tgt := 19) S.1 S.2.1 dX4_setHelpers_6 (by decide) (fun c2 => ?_) (fun c2 => ?_)
    · skip
      refine lv_aload_n S.1 S.2.1 dX4_setHelpers_19 rfl (lv_at hl 0 rfl) ?_
      refine gt_X4_0 (v := .ref (a 15)) S hK hw 0 rfl rfl LX4 k1 dX4_setHelpers_20 ?_
      refine gt_X3_2 (v := .int (z 0 4)) S hK hw 15 rfl rfl LX3 k2 dX4_setHelpers_23 ?_
      refine lv_istore_n (lv' := [(2, .int (z 0 4)), (0, .ref (a 0)), (1, .int (v))]) S.1 S.2.1 dX4_setHelpers_26 rfl hl (by decide) rfl (fun ls hl => ?_)
      refine lv_aload_n S.1 S.2.1 dX4_setHelpers_27 rfl (lv_at hl 1 rfl) ?_
      refine gt_X4_0 (v := .ref (a 15)) S hK hw 0 rfl rfl LX4 k1 dX4_setHelpers_28 ?_
      refine lv_iload_n S.1 S.2.1 dX4_setHelpers_31 rfl (lv_at hl 2 rfl) ?_
      refine pt_X3_2 (ws' := (gp G a (st z 0 4 (v)) y k)) S hK hw 15 rfl LX3 k2 rfl (Nat.le_of_ble_eq_true rfl) dX4_setHelpers_32 (fun H locs hw => ?_)
      obtain ⟨z3, ez3⟩ : ∃ zz, zz = st z 0 4 (v) := ⟨_, rfl⟩
      have hw : WD G (gp G a z3 y k) A s H locs := by rw [ez3]; exact hw
      refine lv_iload_n S.1 S.2.1 dX4_setHelpers_35 rfl (lv_at hl 0 rfl) ?_
      have hp9 : pS 4 0 3 v z = (0, (z 0 4), z3) := (by subst ez3; first | (have h7 := i_ln c2; simp [pS, inB, h7, c1, c2]; done) | (have h7 := i_max v; simp [pS, inB, h7, c1, c2]; done))
      exact ret_x hQ (Nat.zero_le _) (Nat.zero_le _) (en_i (v := (z 0 4)) ((z3, y, k) : St × St × St) rfl S hr hlk hw (by exact ⟨by rw [hp9], by rw [hp9], by rw [hp9]⟩) dX4_setHelpers_36)
    · skip
      have hp9 : pS 4 0 3 v z = (1, 0, z) := (by first | (simp [pS, inB, c1, c2]; done) | (have h7 := i_nl c2; simp [pS, inB, h7, c1, c2]; done))
      exact th_IAE (text := "the number of helpers is out of range") S hX hw hl.1 hlk htab (by decide) m1IAE m2IAE m3IAE dX4_setHelpers_9 dX4_setHelpers_12 dX4_setHelpers_13 dX4_setHelpers_15 dX4_setHelpers_18 hQ ((z, y, k) : St × St × St) (by rw [hp9]; exact ⟨show ¬ (1 : Int32) = 0 by decide, rfl⟩) (by rw [hp9]; rfl) rfl (by rw [hR]; exact Nat.le_of_ble_eq_true rfl) (by rw [hR]; exact Nat.le_of_ble_eq_true rfl) (by rw [hR]; show 0 + 1 ≤ xc (pS 4 0 3 v z).1; rw [hp9]; exact (show 0 + 1 ≤ xc 1 by decide)) (by rw [hR]; show 0 + 6 ≤ 6 * xc (pS 4 0 3 v z).1; rw [hp9]; exact (show 0 + 6 ≤ 6 * xc 1 by decide)) (by rw [hp9]; exact (show 0 + 1 ≤ xc 1 by decide)) (by rw [hp9]; exact (show 0 + 6 ≤ 6 * xc 1 by decide))

theorem hd_X4_setSeed : yX4_setSeed.cls = RX4 ∧ yX4_setSeed.cls ≠ "java/lang/invoke/MethodHandle" ∧ yX4_setSeed.cls ≠ "java/lang/invoke/VarHandle" ∧ (parseMethodDescriptor yX4_setSeed.desc).map (fun d => d.parameters.length) = some 1 := by decide +kernel
set_option maxHeartbeats 4000000 in
set_option maxRecDepth 100000 in
theorem c_X4_setSeed (l : Launch) (G : GA) (a : Nat → Nat) (z : St) (y : St) (k : St) (sz : Nat) (v : Int32) : vx_Met l yX4_setSeed wsX4_setSeed ({ frames := 6, cells := xc (pS 1 0 2147483647 v z : PO).1, slots := 6 * xc (pS 1 0 2147483647 v z : PO).1, locals := 90 }) (va_Pc [.ref (a 0), .int (v)] (PX l G (gp G a z y k) sz)) (va_Qi (fun (r : Int32) (u : St × St × St) => (pS 1 0 2147483647 v z : PO).1 = 0 ∧ r = (pS 1 0 2147483647 v z : PO).2.1 ∧ u = ((pS 1 0 2147483647 v z : PO).2.2, y, k)) (fun (u : St × St × St) t => va_P G.1 gcl (gp G a u.1 u.2.1 u.2.2) t.heap) (va_A (gp G a z y k) sz)) (vx_X (fun (u : St × St × St) => ¬ (pS 1 0 2147483647 v z : PO).1 = 0 ∧ u = ((pS 1 0 2147483647 v z : PO).2.2, y, k)) (fun E u t => E = ex3 xIAE xIAE xIAE (pS 1 0 2147483647 v z : PO).1 ∧ va_P G.1 gcl (gp G a u.1 u.2.1 u.2.2) t.heap) (va_A (gp G a z y k) sz)) (xc (pS 1 0 2147483647 v z : PO).1) (6 * xc (pS 1 0 2147483647 v z : PO).1) (va_A (gp G a z y k) sz) := by
  refine met_x (cc := cX4_setSeed) (maxL := 3) (ret := (some .int)) (fun A => va_Qi (fun (r : Int32) (u : St × St × St) => (pS 1 0 2147483647 v z : PO).1 = 0 ∧ r = (pS 1 0 2147483647 v z : PO).2.1 ∧ u = ((pS 1 0 2147483647 v z : PO).2.2, y, k)) (fun (u : St × St × St) t => va_P G.1 gcl (gp G a u.1 u.2.1 u.2.2) t.heap) A) (fun A => vx_X (fun (u : St × St × St) => ¬ (pS 1 0 2147483647 v z : PO).1 = 0 ∧ u = ((pS 1 0 2147483647 v z : PO).2.2, y, k)) (fun E u t => E = ex3 xIAE xIAE xIAE (pS 1 0 2147483647 v z : PO).1 ∧ va_P G.1 gcl (gp G a u.1 u.2.1 u.2.2) t.heap) A) (by decide) rfl (Nat.le_of_ble_eq_true rfl) ?_
  intro p e s m args below meth c R Q A H ls hR hQ S hr hlk htab hK hX hsz hH hAe hA hw hl
  have hl : lv_has ls 3 [(0, .ref (a 0)), (1, .int (v))] := hl
  have LX3 : ∀ w ∈ u_ws RX3 TX3 7, w.before args s = true := fun w h => S.2.2.2.2 w ((by decide +kernel : ∀ w ∈ u_ws RX3 TX3 7, w ∈ wsX4_setSeed) w h)
  have LX4 : ∀ w ∈ u_ws RX4 TX4 6, w.before args s = true := fun w h => S.2.2.2.2 w ((by decide +kernel : ∀ w ∈ u_ws RX4 TX4 6, w ∈ wsX4_setSeed) w h)
  have k1 : (Cond.fieldLink RX4 10 "GossipMembership" "world" "LGossipMembership$World;").before args s = true := S.2.2.2.2 _ (by decide +kernel : (Cond.fieldLink RX4 10 "GossipMembership" "world" "LGossipMembership$World;") ∈ wsX4_setSeed)
  have k2 : (Cond.fieldLink RX4 58 "GossipMembership$World" "drawSeed" "I").before args s = true := S.2.2.2.2 _ (by decide +kernel : (Cond.fieldLink RX4 58 "GossipMembership$World" "drawSeed" "I") ∈ wsX4_setSeed)
  have m1IAE : Cond.classLink RX4 30 xIAE ∈ wsX4_setSeed := by decide +kernel
  have m2IAE : Cond.initialized xIAE ∈ wsX4_setSeed := by decide +kernel
  have m3IAE : ∀ w ∈ (vx_atS RX4 34 xIAE ["java/lang/RuntimeException", "java/lang/Exception"]).filter goodWord, w ∈ wsX4_setSeed := by decide +kernel
  refine lv_iload_n S.1 S.2.1 dX4_setSeed_0 rfl (lv_at hl 1 rfl) ?_
  refine lv_if_ge (tgt := 14) S.1 S.2.1 dX4_setSeed_1 (by decide) (fun c1 => ?_) (fun c1 => ?_)
  · skip
    refine lv_aload_n S.1 S.2.1 dX4_setSeed_14 rfl (lv_at hl 0 rfl) ?_
    refine gt_X4_0 (v := .ref (a 15)) S hK hw 0 rfl rfl LX4 k1 dX4_setSeed_15 ?_
    refine gt_X3_3 (v := .int (z 0 1)) S hK hw 15 rfl rfl LX3 k2 dX4_setSeed_18 ?_
    refine lv_istore_n (lv' := [(2, .int (z 0 1)), (0, .ref (a 0)), (1, .int (v))]) S.1 S.2.1 dX4_setSeed_21 rfl hl (by decide) rfl (fun ls hl => ?_)
    refine lv_aload_n S.1 S.2.1 dX4_setSeed_22 rfl (lv_at hl 1 rfl) ?_
    refine gt_X4_0 (v := .ref (a 15)) S hK hw 0 rfl rfl LX4 k1 dX4_setSeed_23 ?_
    refine lv_iload_n S.1 S.2.1 dX4_setSeed_26 rfl (lv_at hl 2 rfl) ?_
    refine pt_X3_3 (ws' := (gp G a (st z 0 1 (v)) y k)) S hK hw 15 rfl LX3 k2 rfl (Nat.le_of_ble_eq_true rfl) dX4_setSeed_27 (fun H locs hw => ?_)
    obtain ⟨z2, ez2⟩ : ∃ zz, zz = st z 0 1 (v) := ⟨_, rfl⟩
    have hw : WD G (gp G a z2 y k) A s H locs := by rw [ez2]; exact hw
    refine lv_iload_n S.1 S.2.1 dX4_setSeed_30 rfl (lv_at hl 0 rfl) ?_
    have hp9 : pS 1 0 2147483647 v z = (0, (z 0 1), z2) := (by subst ez2; first | (have h7 := i_ln c1; simp [pS, inB, h7, c1]; done) | (have h7 := i_max v; simp [pS, inB, h7, c1]; done))
    exact ret_x hQ (Nat.zero_le _) (Nat.zero_le _) (en_i (v := (z 0 1)) ((z2, y, k) : St × St × St) rfl S hr hlk hw (by exact ⟨by rw [hp9], by rw [hp9], by rw [hp9]⟩) dX4_setSeed_31)
  · skip
    have hp9 : pS 1 0 2147483647 v z = (1, 0, z) := (by first | (simp [pS, inB, c1]; done) | (have h7 := i_nl c1; simp [pS, inB, h7, c1]; done))
    exact th_IAE (text := "the seed is negative") S hX hw hl.1 hlk htab (by decide) m1IAE m2IAE m3IAE dX4_setSeed_4 dX4_setSeed_7 dX4_setSeed_8 dX4_setSeed_10 dX4_setSeed_13 hQ ((z, y, k) : St × St × St) (by rw [hp9]; exact ⟨show ¬ (1 : Int32) = 0 by decide, rfl⟩) (by rw [hp9]; rfl) rfl (by rw [hR]; exact Nat.le_of_ble_eq_true rfl) (by rw [hR]; exact Nat.le_of_ble_eq_true rfl) (by rw [hR]; show 0 + 1 ≤ xc (pS 1 0 2147483647 v z).1; rw [hp9]; exact (show 0 + 1 ≤ xc 1 by decide)) (by rw [hR]; show 0 + 6 ≤ 6 * xc (pS 1 0 2147483647 v z).1; rw [hp9]; exact (show 0 + 6 ≤ 6 * xc 1 by decide)) (by rw [hp9]; exact (show 0 + 1 ≤ xc 1 by decide)) (by rw [hp9]; exact (show 0 + 6 ≤ 6 * xc 1 by decide))

theorem hd_X4_seed : yX4_seed.cls = RX4 ∧ yX4_seed.cls ≠ "java/lang/invoke/MethodHandle" ∧ yX4_seed.cls ≠ "java/lang/invoke/VarHandle" ∧ (parseMethodDescriptor yX4_seed.desc).map (fun d => d.parameters.length) = some 0 := by decide +kernel
set_option maxHeartbeats 4000000 in
set_option maxRecDepth 100000 in
theorem c_X4_seed (l : Launch) (G : GA) (a : Nat → Nat) (z : St) (y : St) (k : St) (sz : Nat) : vx_Met l yX4_seed wsX4_seed ({ frames := 6, cells := xc (((0, z 0 1, z) : PO) : PO).1, slots := 6 * xc (((0, z 0 1, z) : PO) : PO).1, locals := 90 }) (va_Pc [.ref (a 0)] (PX l G (gp G a z y k) sz)) (va_Qi (fun (r : Int32) (u : St × St × St) => (((0, z 0 1, z) : PO) : PO).1 = 0 ∧ r = (((0, z 0 1, z) : PO) : PO).2.1 ∧ u = ((((0, z 0 1, z) : PO) : PO).2.2, y, k)) (fun (u : St × St × St) t => va_P G.1 gcl (gp G a u.1 u.2.1 u.2.2) t.heap) (va_A (gp G a z y k) sz)) (vx_X (fun (u : St × St × St) => ¬ (((0, z 0 1, z) : PO) : PO).1 = 0 ∧ u = ((((0, z 0 1, z) : PO) : PO).2.2, y, k)) (fun E u t => E = ex3 xIAE xIAE xIAE (((0, z 0 1, z) : PO) : PO).1 ∧ va_P G.1 gcl (gp G a u.1 u.2.1 u.2.2) t.heap) (va_A (gp G a z y k) sz)) (xc (((0, z 0 1, z) : PO) : PO).1) (6 * xc (((0, z 0 1, z) : PO) : PO).1) (va_A (gp G a z y k) sz) := by
  refine met_x (cc := cX4_seed) (maxL := 1) (ret := (some .int)) (fun A => va_Qi (fun (r : Int32) (u : St × St × St) => (((0, z 0 1, z) : PO) : PO).1 = 0 ∧ r = (((0, z 0 1, z) : PO) : PO).2.1 ∧ u = ((((0, z 0 1, z) : PO) : PO).2.2, y, k)) (fun (u : St × St × St) t => va_P G.1 gcl (gp G a u.1 u.2.1 u.2.2) t.heap) A) (fun A => vx_X (fun (u : St × St × St) => ¬ (((0, z 0 1, z) : PO) : PO).1 = 0 ∧ u = ((((0, z 0 1, z) : PO) : PO).2.2, y, k)) (fun E u t => E = ex3 xIAE xIAE xIAE (((0, z 0 1, z) : PO) : PO).1 ∧ va_P G.1 gcl (gp G a u.1 u.2.1 u.2.2) t.heap) A) (by decide) rfl (Nat.le_of_ble_eq_true rfl) ?_
  intro p e s m args below meth c R Q A H ls hR hQ S hr hlk htab hK hX hsz hH hAe hA hw hl
  have hl : lv_has ls 1 [(0, .ref (a 0))] := hl
  have LX3 : ∀ w ∈ u_ws RX3 TX3 7, w.before args s = true := fun w h => S.2.2.2.2 w ((by decide +kernel : ∀ w ∈ u_ws RX3 TX3 7, w ∈ wsX4_seed) w h)
  have LX4 : ∀ w ∈ u_ws RX4 TX4 6, w.before args s = true := fun w h => S.2.2.2.2 w ((by decide +kernel : ∀ w ∈ u_ws RX4 TX4 6, w ∈ wsX4_seed) w h)
  have k1 : (Cond.fieldLink RX4 10 "GossipMembership" "world" "LGossipMembership$World;").before args s = true := S.2.2.2.2 _ (by decide +kernel : (Cond.fieldLink RX4 10 "GossipMembership" "world" "LGossipMembership$World;") ∈ wsX4_seed)
  have k2 : (Cond.fieldLink RX4 58 "GossipMembership$World" "drawSeed" "I").before args s = true := S.2.2.2.2 _ (by decide +kernel : (Cond.fieldLink RX4 58 "GossipMembership$World" "drawSeed" "I") ∈ wsX4_seed)
  refine lv_aload_n S.1 S.2.1 dX4_seed_0 rfl (lv_at hl 0 rfl) ?_
  refine gt_X4_0 (v := .ref (a 15)) S hK hw 0 rfl rfl LX4 k1 dX4_seed_1 ?_
  refine gt_X3_3 (v := .int (z 0 1)) S hK hw 15 rfl rfl LX3 k2 dX4_seed_4 ?_
  have hp9 : ((0, z 0 1, z) : PO) = (0, (z 0 1), z) := (by rfl)
  exact ret_x hQ (Nat.zero_le _) (Nat.zero_le _) (en_i (v := (z 0 1)) ((z, y, k) : St × St × St) rfl S hr hlk hw (by exact ⟨by rw [hp9], by rw [hp9], by rw [hp9]⟩) dX4_seed_7)

theorem hd_X4_round : yX4_round.cls = RX4 ∧ yX4_round.cls ≠ "java/lang/invoke/MethodHandle" ∧ yX4_round.cls ≠ "java/lang/invoke/VarHandle" ∧ (parseMethodDescriptor yX4_round.desc).map (fun d => d.parameters.length) = some 0 := by decide +kernel
set_option maxHeartbeats 4000000 in
set_option maxRecDepth 100000 in
theorem c_X4_round (l : Launch) (G : GA) (a : Nat → Nat) (z : St) (y : St) (k : St) (sz : Nat) : vx_Met l yX4_round wsX4_round ({ frames := 6, cells := xc (((0, z 0 0, z) : PO) : PO).1, slots := 6 * xc (((0, z 0 0, z) : PO) : PO).1, locals := 90 }) (va_Pc [.ref (a 0)] (PX l G (gp G a z y k) sz)) (va_Qi (fun (r : Int32) (u : St × St × St) => (((0, z 0 0, z) : PO) : PO).1 = 0 ∧ r = (((0, z 0 0, z) : PO) : PO).2.1 ∧ u = ((((0, z 0 0, z) : PO) : PO).2.2, y, k)) (fun (u : St × St × St) t => va_P G.1 gcl (gp G a u.1 u.2.1 u.2.2) t.heap) (va_A (gp G a z y k) sz)) (vx_X (fun (u : St × St × St) => ¬ (((0, z 0 0, z) : PO) : PO).1 = 0 ∧ u = ((((0, z 0 0, z) : PO) : PO).2.2, y, k)) (fun E u t => E = ex3 xIAE xIAE xIAE (((0, z 0 0, z) : PO) : PO).1 ∧ va_P G.1 gcl (gp G a u.1 u.2.1 u.2.2) t.heap) (va_A (gp G a z y k) sz)) (xc (((0, z 0 0, z) : PO) : PO).1) (6 * xc (((0, z 0 0, z) : PO) : PO).1) (va_A (gp G a z y k) sz) := by
  refine met_x (cc := cX4_round) (maxL := 1) (ret := (some .int)) (fun A => va_Qi (fun (r : Int32) (u : St × St × St) => (((0, z 0 0, z) : PO) : PO).1 = 0 ∧ r = (((0, z 0 0, z) : PO) : PO).2.1 ∧ u = ((((0, z 0 0, z) : PO) : PO).2.2, y, k)) (fun (u : St × St × St) t => va_P G.1 gcl (gp G a u.1 u.2.1 u.2.2) t.heap) A) (fun A => vx_X (fun (u : St × St × St) => ¬ (((0, z 0 0, z) : PO) : PO).1 = 0 ∧ u = ((((0, z 0 0, z) : PO) : PO).2.2, y, k)) (fun E u t => E = ex3 xIAE xIAE xIAE (((0, z 0 0, z) : PO) : PO).1 ∧ va_P G.1 gcl (gp G a u.1 u.2.1 u.2.2) t.heap) A) (by decide) rfl (Nat.le_of_ble_eq_true rfl) ?_
  intro p e s m args below meth c R Q A H ls hR hQ S hr hlk htab hK hX hsz hH hAe hA hw hl
  have hl : lv_has ls 1 [(0, .ref (a 0))] := hl
  have LX1 : ∀ w ∈ u_ws RX1 TX1 10, w.before args s = true := fun w h => S.2.2.2.2 w ((by decide +kernel : ∀ w ∈ u_ws RX1 TX1 10, w ∈ wsX4_round) w h)
  have LX3 : ∀ w ∈ u_ws RX3 TX3 7, w.before args s = true := fun w h => S.2.2.2.2 w ((by decide +kernel : ∀ w ∈ u_ws RX3 TX3 7, w ∈ wsX4_round) w h)
  have LX4 : ∀ w ∈ u_ws RX4 TX4 6, w.before args s = true := fun w h => S.2.2.2.2 w ((by decide +kernel : ∀ w ∈ u_ws RX4 TX4 6, w ∈ wsX4_round) w h)
  have k1 : (Cond.fieldLink RX4 10 "GossipMembership" "world" "LGossipMembership$World;").before args s = true := S.2.2.2.2 _ (by decide +kernel : (Cond.fieldLink RX4 10 "GossipMembership" "world" "LGossipMembership$World;") ∈ wsX4_round)
  have k2 : (Cond.fieldLink RX4 37 "GossipMembership$World" "knowledge" "LGossipMembership$Knowledge;").before args s = true := S.2.2.2.2 _ (by decide +kernel : (Cond.fieldLink RX4 37 "GossipMembership$World" "knowledge" "LGossipMembership$Knowledge;") ∈ wsX4_round)
  have k3 : (Cond.fieldLink RX4 127 "GossipMembership$Knowledge" "presentRound" "I").before args s = true := S.2.2.2.2 _ (by decide +kernel : (Cond.fieldLink RX4 127 "GossipMembership$Knowledge" "presentRound" "I") ∈ wsX4_round)
  refine lv_aload_n S.1 S.2.1 dX4_round_0 rfl (lv_at hl 0 rfl) ?_
  refine gt_X4_0 (v := .ref (a 15)) S hK hw 0 rfl rfl LX4 k1 dX4_round_1 ?_
  refine gt_X3_1 (v := .ref (a 21)) S hK hw 15 rfl rfl LX3 k2 dX4_round_4 ?_
  refine gt_X1_7 (v := .int (z 0 0)) S hK hw 21 rfl rfl LX1 k3 dX4_round_7 ?_
  have hp9 : ((0, z 0 0, z) : PO) = (0, (z 0 0), z) := (by rfl)
  exact ret_x hQ (Nat.zero_le _) (Nat.zero_le _) (en_i (v := (z 0 0)) ((z, y, k) : St × St × St) rfl S hr hlk hw (by exact ⟨by rw [hp9], by rw [hp9], by rw [hp9]⟩) dX4_round_10)

theorem hd_X4_declarations : yX4_declarations.cls = RX4 ∧ yX4_declarations.cls ≠ "java/lang/invoke/MethodHandle" ∧ yX4_declarations.cls ≠ "java/lang/invoke/VarHandle" ∧ (parseMethodDescriptor yX4_declarations.desc).map (fun d => d.parameters.length) = some 0 := by decide +kernel
set_option maxHeartbeats 4000000 in
set_option maxRecDepth 100000 in
theorem c_X4_declarations (l : Launch) (G : GA) (a : Nat → Nat) (z : St) (y : St) (k : St) (sz : Nat) : vx_Met l yX4_declarations wsX4_declarations ({ frames := 6, cells := xc (((0, z 0 5, z) : PO) : PO).1, slots := 6 * xc (((0, z 0 5, z) : PO) : PO).1, locals := 90 }) (va_Pc [.ref (a 0)] (PX l G (gp G a z y k) sz)) (va_Qi (fun (r : Int32) (u : St × St × St) => (((0, z 0 5, z) : PO) : PO).1 = 0 ∧ r = (((0, z 0 5, z) : PO) : PO).2.1 ∧ u = ((((0, z 0 5, z) : PO) : PO).2.2, y, k)) (fun (u : St × St × St) t => va_P G.1 gcl (gp G a u.1 u.2.1 u.2.2) t.heap) (va_A (gp G a z y k) sz)) (vx_X (fun (u : St × St × St) => ¬ (((0, z 0 5, z) : PO) : PO).1 = 0 ∧ u = ((((0, z 0 5, z) : PO) : PO).2.2, y, k)) (fun E u t => E = ex3 xIAE xIAE xIAE (((0, z 0 5, z) : PO) : PO).1 ∧ va_P G.1 gcl (gp G a u.1 u.2.1 u.2.2) t.heap) (va_A (gp G a z y k) sz)) (xc (((0, z 0 5, z) : PO) : PO).1) (6 * xc (((0, z 0 5, z) : PO) : PO).1) (va_A (gp G a z y k) sz) := by
  refine met_x (cc := cX4_declarations) (maxL := 1) (ret := (some .int)) (fun A => va_Qi (fun (r : Int32) (u : St × St × St) => (((0, z 0 5, z) : PO) : PO).1 = 0 ∧ r = (((0, z 0 5, z) : PO) : PO).2.1 ∧ u = ((((0, z 0 5, z) : PO) : PO).2.2, y, k)) (fun (u : St × St × St) t => va_P G.1 gcl (gp G a u.1 u.2.1 u.2.2) t.heap) A) (fun A => vx_X (fun (u : St × St × St) => ¬ (((0, z 0 5, z) : PO) : PO).1 = 0 ∧ u = ((((0, z 0 5, z) : PO) : PO).2.2, y, k)) (fun E u t => E = ex3 xIAE xIAE xIAE (((0, z 0 5, z) : PO) : PO).1 ∧ va_P G.1 gcl (gp G a u.1 u.2.1 u.2.2) t.heap) A) (by decide) rfl (Nat.le_of_ble_eq_true rfl) ?_
  intro p e s m args below meth c R Q A H ls hR hQ S hr hlk htab hK hX hsz hH hAe hA hw hl
  have hl : lv_has ls 1 [(0, .ref (a 0))] := hl
  have LX3 : ∀ w ∈ u_ws RX3 TX3 7, w.before args s = true := fun w h => S.2.2.2.2 w ((by decide +kernel : ∀ w ∈ u_ws RX3 TX3 7, w ∈ wsX4_declarations) w h)
  have LX4 : ∀ w ∈ u_ws RX4 TX4 6, w.before args s = true := fun w h => S.2.2.2.2 w ((by decide +kernel : ∀ w ∈ u_ws RX4 TX4 6, w ∈ wsX4_declarations) w h)
  have k1 : (Cond.fieldLink RX4 10 "GossipMembership" "world" "LGossipMembership$World;").before args s = true := S.2.2.2.2 _ (by decide +kernel : (Cond.fieldLink RX4 10 "GossipMembership" "world" "LGossipMembership$World;") ∈ wsX4_declarations)
  have k2 : (Cond.fieldLink RX4 172 "GossipMembership$World" "declared" "I").before args s = true := S.2.2.2.2 _ (by decide +kernel : (Cond.fieldLink RX4 172 "GossipMembership$World" "declared" "I") ∈ wsX4_declarations)
  refine lv_aload_n S.1 S.2.1 dX4_declarations_0 rfl (lv_at hl 0 rfl) ?_
  refine gt_X4_0 (v := .ref (a 15)) S hK hw 0 rfl rfl LX4 k1 dX4_declarations_1 ?_
  refine gt_X3_4 (v := .int (z 0 5)) S hK hw 15 rfl rfl LX3 k2 dX4_declarations_4 ?_
  have hp9 : ((0, z 0 5, z) : PO) = (0, (z 0 5), z) := (by rfl)
  exact ret_x hQ (Nat.zero_le _) (Nat.zero_le _) (en_i (v := (z 0 5)) ((z, y, k) : St × St × St) rfl S hr hlk hw (by exact ⟨by rw [hp9], by rw [hp9], by rw [hp9]⟩) dX4_declarations_7)

theorem hd_X4_falseDeclarations : yX4_falseDeclarations.cls = RX4 ∧ yX4_falseDeclarations.cls ≠ "java/lang/invoke/MethodHandle" ∧ yX4_falseDeclarations.cls ≠ "java/lang/invoke/VarHandle" ∧ (parseMethodDescriptor yX4_falseDeclarations.desc).map (fun d => d.parameters.length) = some 0 := by decide +kernel
set_option maxHeartbeats 4000000 in
set_option maxRecDepth 100000 in
theorem c_X4_falseDeclarations (l : Launch) (G : GA) (a : Nat → Nat) (z : St) (y : St) (k : St) (sz : Nat) : vx_Met l yX4_falseDeclarations wsX4_falseDeclarations ({ frames := 6, cells := xc (((0, z 0 6, z) : PO) : PO).1, slots := 6 * xc (((0, z 0 6, z) : PO) : PO).1, locals := 90 }) (va_Pc [.ref (a 0)] (PX l G (gp G a z y k) sz)) (va_Qi (fun (r : Int32) (u : St × St × St) => (((0, z 0 6, z) : PO) : PO).1 = 0 ∧ r = (((0, z 0 6, z) : PO) : PO).2.1 ∧ u = ((((0, z 0 6, z) : PO) : PO).2.2, y, k)) (fun (u : St × St × St) t => va_P G.1 gcl (gp G a u.1 u.2.1 u.2.2) t.heap) (va_A (gp G a z y k) sz)) (vx_X (fun (u : St × St × St) => ¬ (((0, z 0 6, z) : PO) : PO).1 = 0 ∧ u = ((((0, z 0 6, z) : PO) : PO).2.2, y, k)) (fun E u t => E = ex3 xIAE xIAE xIAE (((0, z 0 6, z) : PO) : PO).1 ∧ va_P G.1 gcl (gp G a u.1 u.2.1 u.2.2) t.heap) (va_A (gp G a z y k) sz)) (xc (((0, z 0 6, z) : PO) : PO).1) (6 * xc (((0, z 0 6, z) : PO) : PO).1) (va_A (gp G a z y k) sz) := by
  refine met_x (cc := cX4_falseDeclarations) (maxL := 1) (ret := (some .int)) (fun A => va_Qi (fun (r : Int32) (u : St × St × St) => (((0, z 0 6, z) : PO) : PO).1 = 0 ∧ r = (((0, z 0 6, z) : PO) : PO).2.1 ∧ u = ((((0, z 0 6, z) : PO) : PO).2.2, y, k)) (fun (u : St × St × St) t => va_P G.1 gcl (gp G a u.1 u.2.1 u.2.2) t.heap) A) (fun A => vx_X (fun (u : St × St × St) => ¬ (((0, z 0 6, z) : PO) : PO).1 = 0 ∧ u = ((((0, z 0 6, z) : PO) : PO).2.2, y, k)) (fun E u t => E = ex3 xIAE xIAE xIAE (((0, z 0 6, z) : PO) : PO).1 ∧ va_P G.1 gcl (gp G a u.1 u.2.1 u.2.2) t.heap) A) (by decide) rfl (Nat.le_of_ble_eq_true rfl) ?_
  intro p e s m args below meth c R Q A H ls hR hQ S hr hlk htab hK hX hsz hH hAe hA hw hl
  have hl : lv_has ls 1 [(0, .ref (a 0))] := hl
  have LX3 : ∀ w ∈ u_ws RX3 TX3 7, w.before args s = true := fun w h => S.2.2.2.2 w ((by decide +kernel : ∀ w ∈ u_ws RX3 TX3 7, w ∈ wsX4_falseDeclarations) w h)
  have LX4 : ∀ w ∈ u_ws RX4 TX4 6, w.before args s = true := fun w h => S.2.2.2.2 w ((by decide +kernel : ∀ w ∈ u_ws RX4 TX4 6, w ∈ wsX4_falseDeclarations) w h)
  have k1 : (Cond.fieldLink RX4 10 "GossipMembership" "world" "LGossipMembership$World;").before args s = true := S.2.2.2.2 _ (by decide +kernel : (Cond.fieldLink RX4 10 "GossipMembership" "world" "LGossipMembership$World;") ∈ wsX4_falseDeclarations)
  have k2 : (Cond.fieldLink RX4 175 "GossipMembership$World" "declaredFalsely" "I").before args s = true := S.2.2.2.2 _ (by decide +kernel : (Cond.fieldLink RX4 175 "GossipMembership$World" "declaredFalsely" "I") ∈ wsX4_falseDeclarations)
  refine lv_aload_n S.1 S.2.1 dX4_falseDeclarations_0 rfl (lv_at hl 0 rfl) ?_
  refine gt_X4_0 (v := .ref (a 15)) S hK hw 0 rfl rfl LX4 k1 dX4_falseDeclarations_1 ?_
  refine gt_X3_5 (v := .int (z 0 6)) S hK hw 15 rfl rfl LX3 k2 dX4_falseDeclarations_4 ?_
  have hp9 : ((0, z 0 6, z) : PO) = (0, (z 0 6), z) := (by rfl)
  exact ret_x hQ (Nat.zero_le _) (Nat.zero_le _) (en_i (v := (z 0 6)) ((z, y, k) : St × St × St) rfl S hr hlk hw (by exact ⟨by rw [hp9], by rw [hp9], by rw [hp9]⟩) dX4_falseDeclarations_7)

theorem hd_X4_refutations : yX4_refutations.cls = RX4 ∧ yX4_refutations.cls ≠ "java/lang/invoke/MethodHandle" ∧ yX4_refutations.cls ≠ "java/lang/invoke/VarHandle" ∧ (parseMethodDescriptor yX4_refutations.desc).map (fun d => d.parameters.length) = some 0 := by decide +kernel
set_option maxHeartbeats 4000000 in
set_option maxRecDepth 100000 in
theorem c_X4_refutations (l : Launch) (G : GA) (a : Nat → Nat) (z : St) (y : St) (k : St) (sz : Nat) : vx_Met l yX4_refutations wsX4_refutations ({ frames := 6, cells := xc (((0, z 0 7, z) : PO) : PO).1, slots := 6 * xc (((0, z 0 7, z) : PO) : PO).1, locals := 90 }) (va_Pc [.ref (a 0)] (PX l G (gp G a z y k) sz)) (va_Qi (fun (r : Int32) (u : St × St × St) => (((0, z 0 7, z) : PO) : PO).1 = 0 ∧ r = (((0, z 0 7, z) : PO) : PO).2.1 ∧ u = ((((0, z 0 7, z) : PO) : PO).2.2, y, k)) (fun (u : St × St × St) t => va_P G.1 gcl (gp G a u.1 u.2.1 u.2.2) t.heap) (va_A (gp G a z y k) sz)) (vx_X (fun (u : St × St × St) => ¬ (((0, z 0 7, z) : PO) : PO).1 = 0 ∧ u = ((((0, z 0 7, z) : PO) : PO).2.2, y, k)) (fun E u t => E = ex3 xIAE xIAE xIAE (((0, z 0 7, z) : PO) : PO).1 ∧ va_P G.1 gcl (gp G a u.1 u.2.1 u.2.2) t.heap) (va_A (gp G a z y k) sz)) (xc (((0, z 0 7, z) : PO) : PO).1) (6 * xc (((0, z 0 7, z) : PO) : PO).1) (va_A (gp G a z y k) sz) := by
  refine met_x (cc := cX4_refutations) (maxL := 1) (ret := (some .int)) (fun A => va_Qi (fun (r : Int32) (u : St × St × St) => (((0, z 0 7, z) : PO) : PO).1 = 0 ∧ r = (((0, z 0 7, z) : PO) : PO).2.1 ∧ u = ((((0, z 0 7, z) : PO) : PO).2.2, y, k)) (fun (u : St × St × St) t => va_P G.1 gcl (gp G a u.1 u.2.1 u.2.2) t.heap) A) (fun A => vx_X (fun (u : St × St × St) => ¬ (((0, z 0 7, z) : PO) : PO).1 = 0 ∧ u = ((((0, z 0 7, z) : PO) : PO).2.2, y, k)) (fun E u t => E = ex3 xIAE xIAE xIAE (((0, z 0 7, z) : PO) : PO).1 ∧ va_P G.1 gcl (gp G a u.1 u.2.1 u.2.2) t.heap) A) (by decide) rfl (Nat.le_of_ble_eq_true rfl) ?_
  intro p e s m args below meth c R Q A H ls hR hQ S hr hlk htab hK hX hsz hH hAe hA hw hl
  have hl : lv_has ls 1 [(0, .ref (a 0))] := hl
  have LX1 : ∀ w ∈ u_ws RX1 TX1 10, w.before args s = true := fun w h => S.2.2.2.2 w ((by decide +kernel : ∀ w ∈ u_ws RX1 TX1 10, w ∈ wsX4_refutations) w h)
  have LX3 : ∀ w ∈ u_ws RX3 TX3 7, w.before args s = true := fun w h => S.2.2.2.2 w ((by decide +kernel : ∀ w ∈ u_ws RX3 TX3 7, w ∈ wsX4_refutations) w h)
  have LX4 : ∀ w ∈ u_ws RX4 TX4 6, w.before args s = true := fun w h => S.2.2.2.2 w ((by decide +kernel : ∀ w ∈ u_ws RX4 TX4 6, w ∈ wsX4_refutations) w h)
  have k1 : (Cond.fieldLink RX4 10 "GossipMembership" "world" "LGossipMembership$World;").before args s = true := S.2.2.2.2 _ (by decide +kernel : (Cond.fieldLink RX4 10 "GossipMembership" "world" "LGossipMembership$World;") ∈ wsX4_refutations)
  have k2 : (Cond.fieldLink RX4 37 "GossipMembership$World" "knowledge" "LGossipMembership$Knowledge;").before args s = true := S.2.2.2.2 _ (by decide +kernel : (Cond.fieldLink RX4 37 "GossipMembership$World" "knowledge" "LGossipMembership$Knowledge;") ∈ wsX4_refutations)
  have k3 : (Cond.fieldLink RX4 178 "GossipMembership$Knowledge" "refuted" "I").before args s = true := S.2.2.2.2 _ (by decide +kernel : (Cond.fieldLink RX4 178 "GossipMembership$Knowledge" "refuted" "I") ∈ wsX4_refutations)
  refine lv_aload_n S.1 S.2.1 dX4_refutations_0 rfl (lv_at hl 0 rfl) ?_
  refine gt_X4_0 (v := .ref (a 15)) S hK hw 0 rfl rfl LX4 k1 dX4_refutations_1 ?_
  refine gt_X3_1 (v := .ref (a 21)) S hK hw 15 rfl rfl LX3 k2 dX4_refutations_4 ?_
  refine gt_X1_9 (v := .int (z 0 7)) S hK hw 21 rfl rfl LX1 k3 dX4_refutations_7 ?_
  have hp9 : ((0, z 0 7, z) : PO) = (0, (z 0 7), z) := (by rfl)
  exact ret_x hQ (Nat.zero_le _) (Nat.zero_le _) (en_i (v := (z 0 7)) ((z, y, k) : St × St × St) rfl S hr hlk hw (by exact ⟨by rw [hp9], by rw [hp9], by rw [hp9]⟩) dX4_refutations_10)

theorem hd_X4_messages : yX4_messages.cls = RX4 ∧ yX4_messages.cls ≠ "java/lang/invoke/MethodHandle" ∧ yX4_messages.cls ≠ "java/lang/invoke/VarHandle" ∧ (parseMethodDescriptor yX4_messages.desc).map (fun d => d.parameters.length) = some 0 := by decide +kernel
set_option maxHeartbeats 4000000 in
set_option maxRecDepth 100000 in
theorem c_X4_messages (l : Launch) (G : GA) (a : Nat → Nat) (z : St) (y : St) (k : St) (sz : Nat) : vx_Met l yX4_messages wsX4_messages ({ frames := 6, cells := xc (((0, z 0 8, z) : PO) : PO).1, slots := 6 * xc (((0, z 0 8, z) : PO) : PO).1, locals := 90 }) (va_Pc [.ref (a 0)] (PX l G (gp G a z y k) sz)) (va_Qi (fun (r : Int32) (u : St × St × St) => (((0, z 0 8, z) : PO) : PO).1 = 0 ∧ r = (((0, z 0 8, z) : PO) : PO).2.1 ∧ u = ((((0, z 0 8, z) : PO) : PO).2.2, y, k)) (fun (u : St × St × St) t => va_P G.1 gcl (gp G a u.1 u.2.1 u.2.2) t.heap) (va_A (gp G a z y k) sz)) (vx_X (fun (u : St × St × St) => ¬ (((0, z 0 8, z) : PO) : PO).1 = 0 ∧ u = ((((0, z 0 8, z) : PO) : PO).2.2, y, k)) (fun E u t => E = ex3 xIAE xIAE xIAE (((0, z 0 8, z) : PO) : PO).1 ∧ va_P G.1 gcl (gp G a u.1 u.2.1 u.2.2) t.heap) (va_A (gp G a z y k) sz)) (xc (((0, z 0 8, z) : PO) : PO).1) (6 * xc (((0, z 0 8, z) : PO) : PO).1) (va_A (gp G a z y k) sz) := by
  refine met_x (cc := cX4_messages) (maxL := 1) (ret := (some .int)) (fun A => va_Qi (fun (r : Int32) (u : St × St × St) => (((0, z 0 8, z) : PO) : PO).1 = 0 ∧ r = (((0, z 0 8, z) : PO) : PO).2.1 ∧ u = ((((0, z 0 8, z) : PO) : PO).2.2, y, k)) (fun (u : St × St × St) t => va_P G.1 gcl (gp G a u.1 u.2.1 u.2.2) t.heap) A) (fun A => vx_X (fun (u : St × St × St) => ¬ (((0, z 0 8, z) : PO) : PO).1 = 0 ∧ u = ((((0, z 0 8, z) : PO) : PO).2.2, y, k)) (fun E u t => E = ex3 xIAE xIAE xIAE (((0, z 0 8, z) : PO) : PO).1 ∧ va_P G.1 gcl (gp G a u.1 u.2.1 u.2.2) t.heap) A) (by decide) rfl (Nat.le_of_ble_eq_true rfl) ?_
  intro p e s m args below meth c R Q A H ls hR hQ S hr hlk htab hK hX hsz hH hAe hA hw hl
  have hl : lv_has ls 1 [(0, .ref (a 0))] := hl
  have LX3 : ∀ w ∈ u_ws RX3 TX3 7, w.before args s = true := fun w h => S.2.2.2.2 w ((by decide +kernel : ∀ w ∈ u_ws RX3 TX3 7, w ∈ wsX4_messages) w h)
  have LX4 : ∀ w ∈ u_ws RX4 TX4 6, w.before args s = true := fun w h => S.2.2.2.2 w ((by decide +kernel : ∀ w ∈ u_ws RX4 TX4 6, w ∈ wsX4_messages) w h)
  have k1 : (Cond.fieldLink RX4 10 "GossipMembership" "world" "LGossipMembership$World;").before args s = true := S.2.2.2.2 _ (by decide +kernel : (Cond.fieldLink RX4 10 "GossipMembership" "world" "LGossipMembership$World;") ∈ wsX4_messages)
  have k2 : (Cond.fieldLink RX4 181 "GossipMembership$World" "messagesSent" "I").before args s = true := S.2.2.2.2 _ (by decide +kernel : (Cond.fieldLink RX4 181 "GossipMembership$World" "messagesSent" "I") ∈ wsX4_messages)
  refine lv_aload_n S.1 S.2.1 dX4_messages_0 rfl (lv_at hl 0 rfl) ?_
  refine gt_X4_0 (v := .ref (a 15)) S hK hw 0 rfl rfl LX4 k1 dX4_messages_1 ?_
  refine gt_X3_6 (v := .int (z 0 8)) S hK hw 15 rfl rfl LX3 k2 dX4_messages_4 ?_
  have hp9 : ((0, z 0 8, z) : PO) = (0, (z 0 8), z) := (by rfl)
  exact ret_x hQ (Nat.zero_le _) (Nat.zero_le _) (en_i (v := (z 0 8)) ((z, y, k) : St × St × St) rfl S hr hlk hw (by exact ⟨by rw [hp9], by rw [hp9], by rw [hp9]⟩) dX4_messages_7)

theorem hd_X4_quietRounds : yX4_quietRounds.cls = RX4 ∧ yX4_quietRounds.cls ≠ "java/lang/invoke/MethodHandle" ∧ yX4_quietRounds.cls ≠ "java/lang/invoke/VarHandle" ∧ (parseMethodDescriptor yX4_quietRounds.desc).map (fun d => d.parameters.length) = some 0 := by decide +kernel
set_option maxHeartbeats 4000000 in
set_option maxRecDepth 100000 in
theorem c_X4_quietRounds (l : Launch) (G : GA) (a : Nat → Nat) (z : St) (y : St) (k : St) (sz : Nat) : vx_Met l yX4_quietRounds wsX4_quietRounds ({ frames := 6, cells := xc (((0, z 0 0 - z 0 9, z) : PO) : PO).1, slots := 6 * xc (((0, z 0 0 - z 0 9, z) : PO) : PO).1, locals := 90 }) (va_Pc [.ref (a 0)] (PX l G (gp G a z y k) sz)) (va_Qi (fun (r : Int32) (u : St × St × St) => (((0, z 0 0 - z 0 9, z) : PO) : PO).1 = 0 ∧ r = (((0, z 0 0 - z 0 9, z) : PO) : PO).2.1 ∧ u = ((((0, z 0 0 - z 0 9, z) : PO) : PO).2.2, y, k)) (fun (u : St × St × St) t => va_P G.1 gcl (gp G a u.1 u.2.1 u.2.2) t.heap) (va_A (gp G a z y k) sz)) (vx_X (fun (u : St × St × St) => ¬ (((0, z 0 0 - z 0 9, z) : PO) : PO).1 = 0 ∧ u = ((((0, z 0 0 - z 0 9, z) : PO) : PO).2.2, y, k)) (fun E u t => E = ex3 xIAE xIAE xIAE (((0, z 0 0 - z 0 9, z) : PO) : PO).1 ∧ va_P G.1 gcl (gp G a u.1 u.2.1 u.2.2) t.heap) (va_A (gp G a z y k) sz)) (xc (((0, z 0 0 - z 0 9, z) : PO) : PO).1) (6 * xc (((0, z 0 0 - z 0 9, z) : PO) : PO).1) (va_A (gp G a z y k) sz) := by
  refine met_x (cc := cX4_quietRounds) (maxL := 1) (ret := (some .int)) (fun A => va_Qi (fun (r : Int32) (u : St × St × St) => (((0, z 0 0 - z 0 9, z) : PO) : PO).1 = 0 ∧ r = (((0, z 0 0 - z 0 9, z) : PO) : PO).2.1 ∧ u = ((((0, z 0 0 - z 0 9, z) : PO) : PO).2.2, y, k)) (fun (u : St × St × St) t => va_P G.1 gcl (gp G a u.1 u.2.1 u.2.2) t.heap) A) (fun A => vx_X (fun (u : St × St × St) => ¬ (((0, z 0 0 - z 0 9, z) : PO) : PO).1 = 0 ∧ u = ((((0, z 0 0 - z 0 9, z) : PO) : PO).2.2, y, k)) (fun E u t => E = ex3 xIAE xIAE xIAE (((0, z 0 0 - z 0 9, z) : PO) : PO).1 ∧ va_P G.1 gcl (gp G a u.1 u.2.1 u.2.2) t.heap) A) (by decide) rfl (Nat.le_of_ble_eq_true rfl) ?_
  intro p e s m args below meth c R Q A H ls hR hQ S hr hlk htab hK hX hsz hH hAe hA hw hl
  have hl : lv_has ls 1 [(0, .ref (a 0))] := hl
  have LX1 : ∀ w ∈ u_ws RX1 TX1 10, w.before args s = true := fun w h => S.2.2.2.2 w ((by decide +kernel : ∀ w ∈ u_ws RX1 TX1 10, w ∈ wsX4_quietRounds) w h)
  have LX3 : ∀ w ∈ u_ws RX3 TX3 7, w.before args s = true := fun w h => S.2.2.2.2 w ((by decide +kernel : ∀ w ∈ u_ws RX3 TX3 7, w ∈ wsX4_quietRounds) w h)
  have LX4 : ∀ w ∈ u_ws RX4 TX4 6, w.before args s = true := fun w h => S.2.2.2.2 w ((by decide +kernel : ∀ w ∈ u_ws RX4 TX4 6, w ∈ wsX4_quietRounds) w h)
  have k1 : (Cond.fieldLink RX4 10 "GossipMembership" "world" "LGossipMembership$World;").before args s = true := S.2.2.2.2 _ (by decide +kernel : (Cond.fieldLink RX4 10 "GossipMembership" "world" "LGossipMembership$World;") ∈ wsX4_quietRounds)
  have k2 : (Cond.fieldLink RX4 37 "GossipMembership$World" "knowledge" "LGossipMembership$Knowledge;").before args s = true := S.2.2.2.2 _ (by decide +kernel : (Cond.fieldLink RX4 37 "GossipMembership$World" "knowledge" "LGossipMembership$Knowledge;") ∈ wsX4_quietRounds)
  have k3 : (Cond.fieldLink RX4 127 "GossipMembership$Knowledge" "presentRound" "I").before args s = true := S.2.2.2.2 _ (by decide +kernel : (Cond.fieldLink RX4 127 "GossipMembership$Knowledge" "presentRound" "I") ∈ wsX4_quietRounds)
  have k4 : (Cond.fieldLink RX4 184 "GossipMembership$Knowledge" "lastUnquietRound" "I").before args s = true := S.2.2.2.2 _ (by decide +kernel : (Cond.fieldLink RX4 184 "GossipMembership$Knowledge" "lastUnquietRound" "I") ∈ wsX4_quietRounds)
  refine lv_aload_n S.1 S.2.1 dX4_quietRounds_0 rfl (lv_at hl 0 rfl) ?_
  refine gt_X4_0 (v := .ref (a 15)) S hK hw 0 rfl rfl LX4 k1 dX4_quietRounds_1 ?_
  refine gt_X3_1 (v := .ref (a 21)) S hK hw 15 rfl rfl LX3 k2 dX4_quietRounds_4 ?_
  refine gt_X1_7 (v := .int (z 0 0)) S hK hw 21 rfl rfl LX1 k3 dX4_quietRounds_7 ?_
  refine lv_aload_n S.1 S.2.1 dX4_quietRounds_10 rfl (lv_at hl 0 rfl) ?_
  refine gt_X4_0 (v := .ref (a 15)) S hK hw 0 rfl rfl LX4 k1 dX4_quietRounds_11 ?_
  refine gt_X3_1 (v := .ref (a 21)) S hK hw 15 rfl rfl LX3 k2 dX4_quietRounds_14 ?_
  refine gt_X1_8 (v := .int (z 0 9)) S hK hw 21 rfl rfl LX1 k4 dX4_quietRounds_17 ?_
  refine lv_isub S.1 S.2.1 dX4_quietRounds_20 ?_
  have hp9 : ((0, z 0 0 - z 0 9, z) : PO) = (0, ((z 0 0) - (z 0 9)), z) := (by rfl)
  exact ret_x hQ (Nat.zero_le _) (Nat.zero_le _) (en_i (v := ((z 0 0) - (z 0 9))) ((z, y, k) : St × St × St) rfl S hr hlk hw (by exact ⟨by rw [hp9], by rw [hp9], by rw [hp9]⟩) dX4_quietRounds_21)

theorem hd_X4_agree : yX4_agree.cls = RX4 ∧ yX4_agree.cls ≠ "java/lang/invoke/MethodHandle" ∧ yX4_agree.cls ≠ "java/lang/invoke/VarHandle" ∧ (parseMethodDescriptor yX4_agree.desc).map (fun d => d.parameters.length) = some 0 := by decide +kernel
set_option maxHeartbeats 4000000 in
set_option maxRecDepth 100000 in
theorem c_X4_agree (l : Launch) (G : GA) (a : Nat → Nat) (z : St) (y : St) (k : St) (sz : Nat) (iz : Inv z) : vx_Met l yX4_agree wsX4_agree ({ frames := 6, cells := xc (((0, b2 (agB z), z) : PO) : PO).1, slots := 6 * xc (((0, b2 (agB z), z) : PO) : PO).1, locals := 90 }) (va_Pc [.ref (a 0)] (PX l G (gp G a z y k) sz)) (va_Qi (fun (r : Int32) (u : St × St × St) => (((0, b2 (agB z), z) : PO) : PO).1 = 0 ∧ r = (((0, b2 (agB z), z) : PO) : PO).2.1 ∧ u = ((((0, b2 (agB z), z) : PO) : PO).2.2, y, k)) (fun (u : St × St × St) t => va_P G.1 gcl (gp G a u.1 u.2.1 u.2.2) t.heap) (va_A (gp G a z y k) sz)) (vx_X (fun (u : St × St × St) => ¬ (((0, b2 (agB z), z) : PO) : PO).1 = 0 ∧ u = ((((0, b2 (agB z), z) : PO) : PO).2.2, y, k)) (fun E u t => E = ex3 xIAE xIAE xIAE (((0, b2 (agB z), z) : PO) : PO).1 ∧ va_P G.1 gcl (gp G a u.1 u.2.1 u.2.2) t.heap) (va_A (gp G a z y k) sz)) (xc (((0, b2 (agB z), z) : PO) : PO).1) (6 * xc (((0, b2 (agB z), z) : PO) : PO).1) (va_A (gp G a z y k) sz) := by
  refine met_x (cc := cX4_agree) (maxL := 1) (ret := (some .boolean)) (fun A => va_Qi (fun (r : Int32) (u : St × St × St) => (((0, b2 (agB z), z) : PO) : PO).1 = 0 ∧ r = (((0, b2 (agB z), z) : PO) : PO).2.1 ∧ u = ((((0, b2 (agB z), z) : PO) : PO).2.2, y, k)) (fun (u : St × St × St) t => va_P G.1 gcl (gp G a u.1 u.2.1 u.2.2) t.heap) A) (fun A => vx_X (fun (u : St × St × St) => ¬ (((0, b2 (agB z), z) : PO) : PO).1 = 0 ∧ u = ((((0, b2 (agB z), z) : PO) : PO).2.2, y, k)) (fun E u t => E = ex3 xIAE xIAE xIAE (((0, b2 (agB z), z) : PO) : PO).1 ∧ va_P G.1 gcl (gp G a u.1 u.2.1 u.2.2) t.heap) A) (by decide) rfl (Nat.le_of_ble_eq_true rfl) ?_
  intro p e s m args below meth c R Q A H ls hR hQ S hr hlk htab hK hX hsz hH hAe hA hw hl
  have hl : lv_has ls 1 [(0, .ref (a 0))] := hl
  have LX4 : ∀ w ∈ u_ws RX4 TX4 6, w.before args s = true := fun w h => S.2.2.2.2 w ((by decide +kernel : ∀ w ∈ u_ws RX4 TX4 6, w ∈ wsX4_agree) w h)
  have k1 : (Cond.fieldLink RX4 10 "GossipMembership" "world" "LGossipMembership$World;").before args s = true := S.2.2.2.2 _ (by decide +kernel : (Cond.fieldLink RX4 10 "GossipMembership" "world" "LGossipMembership$World;") ∈ wsX4_agree)
  refine lv_aload_n S.1 S.2.1 dX4_agree_0 rfl (lv_at hl 0 rfl) ?_
  refine gt_X4_0 (v := .ref (a 15)) S hK hw 0 rfl rfl LX4 k1 dX4_agree_1 ?_
  have hwc : WD G (wp G (fun i => a (15 + i)) z) A s H _ := hw.sub [15, 16, 17, 18, 19, 20, 21, 22, 23, 24, 25, 26] rfl rfl
  refine cj_i (wc := (wp G (fun i => a (15 + i)) z)) (wr := (gpr G a y k)) (va_runV (As := []) (rest := []) S (c_X3_allAgree l G (fun i => a (15 + i)) z H.size  (by exact iz)) (cwV 0 S.2.2.2.2 gX4_agree_X3_allAgree rfl rfl rfl hd_X3_allAgree ⟨by rw [hR]; exact Nat.le_of_ble_eq_true rfl, by rw [hR]; exact Nat.le_of_ble_eq_true rfl⟩) ⟨PW.blind, va_recv hK.1 hwc.1 (ci := 3) (q0 := 0) rfl rfl, fun U hU hW => ⟨rfl, PW.of hK hwc hU hW⟩⟩ rfl rfl hl.1 rfl (lv_room (Nat.le_of_ble_eq_true rfl)) dX4_agree_4 ⟨Nat.zero_le _, Nat.zero_le _⟩) hw hA [15, 16, 17, 18, 19, 20, 21, 22, 23, 24, 25, 26] [0, 1, 2, 3, 4, 5, 6, 7, 8, 9, 10, 11, 12, 13, 14] rfl rfl rfl rfl (by decide) (fun _ => rfl) (fun r1 z2 H locs h3 hw9 => ?_)
  obtain ⟨rfl, qz2⟩ := h3
  rw [qz2] at hw9
  have hw : WD G (gp G a z y k) A s H locs := hw9
  have hp9 : ((0, b2 (agB z), z) : PO) = (0, (b2 (agB z)), z) := (by rfl)
  exact ret_x hQ (Nat.zero_le _) (Nat.zero_le _) (en_z (v := (b2 (agB z))) ((z, y, k) : St × St × St) rfl S hr hlk (b2_narrow _) hw (by exact ⟨by rw [hp9], by rw [hp9], by rw [hp9]⟩) dX4_agree_7)

theorem hd_X4_disagreements : yX4_disagreements.cls = RX4 ∧ yX4_disagreements.cls ≠ "java/lang/invoke/MethodHandle" ∧ yX4_disagreements.cls ≠ "java/lang/invoke/VarHandle" ∧ (parseMethodDescriptor yX4_disagreements.desc).map (fun d => d.parameters.length) = some 0 := by decide +kernel
set_option maxHeartbeats 4000000 in
set_option maxRecDepth 100000 in
theorem c_X4_disagreements (l : Launch) (G : GA) (a : Nat → Nat) (z : St) (y : St) (k : St) (sz : Nat) (iz : Inv z) : vx_Met l yX4_disagreements wsX4_disagreements ({ frames := 6, cells := xc (((0, nI (cdT z 8), z) : PO) : PO).1, slots := 6 * xc (((0, nI (cdT z 8), z) : PO) : PO).1, locals := 90 }) (va_Pc [.ref (a 0)] (PX l G (gp G a z y k) sz)) (va_Qi (fun (r : Int32) (u : St × St × St) => (((0, nI (cdT z 8), z) : PO) : PO).1 = 0 ∧ r = (((0, nI (cdT z 8), z) : PO) : PO).2.1 ∧ u = ((((0, nI (cdT z 8), z) : PO) : PO).2.2, y, k)) (fun (u : St × St × St) t => va_P G.1 gcl (gp G a u.1 u.2.1 u.2.2) t.heap) (va_A (gp G a z y k) sz)) (vx_X (fun (u : St × St × St) => ¬ (((0, nI (cdT z 8), z) : PO) : PO).1 = 0 ∧ u = ((((0, nI (cdT z 8), z) : PO) : PO).2.2, y, k)) (fun E u t => E = ex3 xIAE xIAE xIAE (((0, nI (cdT z 8), z) : PO) : PO).1 ∧ va_P G.1 gcl (gp G a u.1 u.2.1 u.2.2) t.heap) (va_A (gp G a z y k) sz)) (xc (((0, nI (cdT z 8), z) : PO) : PO).1) (6 * xc (((0, nI (cdT z 8), z) : PO) : PO).1) (va_A (gp G a z y k) sz) := by
  refine met_x (cc := cX4_disagreements) (maxL := 1) (ret := (some .int)) (fun A => va_Qi (fun (r : Int32) (u : St × St × St) => (((0, nI (cdT z 8), z) : PO) : PO).1 = 0 ∧ r = (((0, nI (cdT z 8), z) : PO) : PO).2.1 ∧ u = ((((0, nI (cdT z 8), z) : PO) : PO).2.2, y, k)) (fun (u : St × St × St) t => va_P G.1 gcl (gp G a u.1 u.2.1 u.2.2) t.heap) A) (fun A => vx_X (fun (u : St × St × St) => ¬ (((0, nI (cdT z 8), z) : PO) : PO).1 = 0 ∧ u = ((((0, nI (cdT z 8), z) : PO) : PO).2.2, y, k)) (fun E u t => E = ex3 xIAE xIAE xIAE (((0, nI (cdT z 8), z) : PO) : PO).1 ∧ va_P G.1 gcl (gp G a u.1 u.2.1 u.2.2) t.heap) A) (by decide) rfl (Nat.le_of_ble_eq_true rfl) ?_
  intro p e s m args below meth c R Q A H ls hR hQ S hr hlk htab hK hX hsz hH hAe hA hw hl
  have hl : lv_has ls 1 [(0, .ref (a 0))] := hl
  have LX4 : ∀ w ∈ u_ws RX4 TX4 6, w.before args s = true := fun w h => S.2.2.2.2 w ((by decide +kernel : ∀ w ∈ u_ws RX4 TX4 6, w ∈ wsX4_disagreements) w h)
  have k1 : (Cond.fieldLink RX4 10 "GossipMembership" "world" "LGossipMembership$World;").before args s = true := S.2.2.2.2 _ (by decide +kernel : (Cond.fieldLink RX4 10 "GossipMembership" "world" "LGossipMembership$World;") ∈ wsX4_disagreements)
  refine lv_aload_n S.1 S.2.1 dX4_disagreements_0 rfl (lv_at hl 0 rfl) ?_
  refine gt_X4_0 (v := .ref (a 15)) S hK hw 0 rfl rfl LX4 k1 dX4_disagreements_1 ?_
  have hwc : WD G (wp G (fun i => a (15 + i)) z) A s H _ := hw.sub [15, 16, 17, 18, 19, 20, 21, 22, 23, 24, 25, 26] rfl rfl
  refine cj_i (wc := (wp G (fun i => a (15 + i)) z)) (wr := (gpr G a y k)) (va_runV (As := []) (rest := []) S (c_X3_countDisagreements l G (fun i => a (15 + i)) z H.size  (by exact iz)) (cwV 0 S.2.2.2.2 gX4_disagreements_X3_countDisagreements rfl rfl rfl hd_X3_countDisagreements ⟨by rw [hR]; exact Nat.le_of_ble_eq_true rfl, by rw [hR]; exact Nat.le_of_ble_eq_true rfl⟩) ⟨PW.blind, va_recv hK.1 hwc.1 (ci := 3) (q0 := 0) rfl rfl, fun U hU hW => ⟨rfl, PW.of hK hwc hU hW⟩⟩ rfl rfl hl.1 rfl (lv_room (Nat.le_of_ble_eq_true rfl)) dX4_disagreements_4 ⟨Nat.zero_le _, Nat.zero_le _⟩) hw hA [15, 16, 17, 18, 19, 20, 21, 22, 23, 24, 25, 26] [0, 1, 2, 3, 4, 5, 6, 7, 8, 9, 10, 11, 12, 13, 14] rfl rfl rfl rfl (by decide) (fun _ => rfl) (fun r1 z2 H locs h3 hw9 => ?_)
  obtain ⟨rfl, qz2⟩ := h3
  rw [qz2] at hw9
  have hw : WD G (gp G a z y k) A s H locs := hw9
  have hp9 : ((0, nI (cdT z 8), z) : PO) = (0, (nI (cdT z 8)), z) := (by rfl)
  exact ret_x hQ (Nat.zero_le _) (Nat.zero_le _) (en_i (v := (nI (cdT z 8))) ((z, y, k) : St × St × St) rfl S hr hlk hw (by exact ⟨by rw [hp9], by rw [hp9], by rw [hp9]⟩) dX4_disagreements_7)

theorem hd_X4_crash : yX4_crash.cls = RX4 ∧ yX4_crash.cls ≠ "java/lang/invoke/MethodHandle" ∧ yX4_crash.cls ≠ "java/lang/invoke/VarHandle" ∧ (parseMethodDescriptor yX4_crash.desc).map (fun d => d.parameters.length) = some 1 := by decide +kernel
set_option maxHeartbeats 4000000 in
set_option maxRecDepth 100000 in
theorem c_X4_crash (l : Launch) (G : GA) (a : Nat → Nat) (z : St) (y : St) (k : St) (sz : Nat) (v : Int32) (iz : Inv z) : vx_Met l yX4_crash wsX4_crash ({ frames := 7, cells := xc (pC v z : PO).1, slots := 6 * xc (pC v z : PO).1, locals := 110 }) (va_Pc [.ref (a 0), .int (v)] (PX l G (gp G a z y k) sz)) (va_Qi (fun (r : Int32) (u : St × St × St) => (pC v z : PO).1 = 0 ∧ r = (pC v z : PO).2.1 ∧ u = ((pC v z : PO).2.2, y, k)) (fun (u : St × St × St) t => va_P G.1 gcl (gp G a u.1 u.2.1 u.2.2) t.heap) (va_A (gp G a z y k) sz)) (vx_X (fun (u : St × St × St) => ¬ (pC v z : PO).1 = 0 ∧ u = ((pC v z : PO).2.2, y, k)) (fun E u t => E = ex3 xIOE xISE xISE (pC v z : PO).1 ∧ va_P G.1 gcl (gp G a u.1 u.2.1 u.2.2) t.heap) (va_A (gp G a z y k) sz)) (xc (pC v z : PO).1) (6 * xc (pC v z : PO).1) (va_A (gp G a z y k) sz) := by
  refine met_x (cc := cX4_crash) (maxL := 2) (ret := (some .int)) (fun A => va_Qi (fun (r : Int32) (u : St × St × St) => (pC v z : PO).1 = 0 ∧ r = (pC v z : PO).2.1 ∧ u = ((pC v z : PO).2.2, y, k)) (fun (u : St × St × St) t => va_P G.1 gcl (gp G a u.1 u.2.1 u.2.2) t.heap) A) (fun A => vx_X (fun (u : St × St × St) => ¬ (pC v z : PO).1 = 0 ∧ u = ((pC v z : PO).2.2, y, k)) (fun E u t => E = ex3 xIOE xISE xISE (pC v z : PO).1 ∧ va_P G.1 gcl (gp G a u.1 u.2.1 u.2.2) t.heap) A) (by decide) rfl (Nat.le_of_ble_eq_true rfl) ?_
  intro p e s m args below meth c R Q A H ls hR hQ S hr hlk htab hK hX hsz hH hAe hA hw hl
  have hl : lv_has ls 2 [(0, .ref (a 0)), (1, .int (v))] := hl
  have LX2 : ∀ w ∈ u_ws RX2 TX2 4, w.before args s = true := fun w h => S.2.2.2.2 w ((by decide +kernel : ∀ w ∈ u_ws RX2 TX2 4, w ∈ wsX4_crash) w h)
  have LX3 : ∀ w ∈ u_ws RX3 TX3 7, w.before args s = true := fun w h => S.2.2.2.2 w ((by decide +kernel : ∀ w ∈ u_ws RX3 TX3 7, w ∈ wsX4_crash) w h)
  have LX4 : ∀ w ∈ u_ws RX4 TX4 6, w.before args s = true := fun w h => S.2.2.2.2 w ((by decide +kernel : ∀ w ∈ u_ws RX4 TX4 6, w ∈ wsX4_crash) w h)
  have k1 : (Cond.fieldLink RX4 10 "GossipMembership" "world" "LGossipMembership$World;").before args s = true := S.2.2.2.2 _ (by decide +kernel : (Cond.fieldLink RX4 10 "GossipMembership" "world" "LGossipMembership$World;") ∈ wsX4_crash)
  have k2 : (Cond.fieldLink RX4 65 "GossipMembership$World" "network" "LGossipMembership$Network;").before args s = true := S.2.2.2.2 _ (by decide +kernel : (Cond.fieldLink RX4 65 "GossipMembership$World" "network" "LGossipMembership$Network;") ∈ wsX4_crash)
  have k3 : (Cond.fieldLink RX4 69 "GossipMembership$Network" "up" "[Z").before args s = true := S.2.2.2.2 _ (by decide +kernel : (Cond.fieldLink RX4 69 "GossipMembership$Network" "up" "[Z") ∈ wsX4_crash)
  have k4 : (Cond.fieldLink RX4 37 "GossipMembership$World" "knowledge" "LGossipMembership$Knowledge;").before args s = true := S.2.2.2.2 _ (by decide +kernel : (Cond.fieldLink RX4 37 "GossipMembership$World" "knowledge" "LGossipMembership$Knowledge;") ∈ wsX4_crash)
  have m1ISE : Cond.classLink RX4 75 xISE ∈ wsX4_crash := by decide +kernel
  have m2ISE : Cond.initialized xISE ∈ wsX4_crash := by decide +kernel
  have m3ISE : ∀ w ∈ (vx_atS RX4 79 xISE ["java/lang/RuntimeException", "java/lang/Exception"]).filter goodWord, w ∈ wsX4_crash := by decide +kernel
  refine lv_iload_n S.1 S.2.1 dX4_crash_0 rfl (lv_at hl 1 rfl) ?_
  refine cx_v (wc := []) (wr := (gp G a z y k)) (vx_runS (As := [.int (v)]) (rest := []) S (c_X4_requireNode l G H.size (v)) (va_cwS 1 S.2.2.2.2 gX4_crash_X4_requireNode rfl rfl rfl hd_X4_requireNode ⟨by rw [hR]; exact Nat.le_of_ble_eq_true rfl, by rw [hR]; exact Nat.le_of_ble_eq_true rfl⟩) ⟨PX.blind, fun U hU hW => ⟨rfl, PX.of hK hX (hw.sub [] rfl rfl) (va_free hw.2.1 hw.2.2 hA [] rfl) hU hW⟩⟩ rfl rfl hl.1 rfl (lv_room (Nat.le_of_ble_eq_true rfl)) dX4_crash_1 ⟨by rw [hR, Nat.zero_add]; exact xc_on1 _ _ _, by rw [hR, Nat.zero_add]; exact Nat.mul_le_mul_left 6 (xc_on1 _ _ _)⟩) hw hA [] [0, 1, 2, 3, 4, 5, 6, 7, 8, 9, 10, 11, 12, 13, 14, 15, 16, 17, 18, 19, 20, 21, 22, 23, 24, 25, 26] rfl rfl rfl rfl (by decide) (fun _ => rfl) (fun _ => rfl) (fun ce q9 u9 H locs hpx hw9 g1 g2 g3 => ?_) (fun u9 H locs hn1 hw9 => ?_)
  · skip
    have hpx : ¬ rn (v) = 0 := hpx
    have hp9 : pC v z = (rn (v), 0, z) := (by rw [pC, on1_no (rn_f hpx), rn_1 hpx])
    exact out_x hQ (u := ((z, y, k) : St × St × St)) (by rw [List.append_nil] at hw9; exact hw9) hlk htab g1 g2 g3 (by rw [hp9]; exact ⟨hpx, rfl⟩) (by first | (rw [hp9]; done) | (rw [hp9]; rw [rn_1 hpx]; rfl)) rfl (by rw [hp9, Nat.zero_add]; exact Nat.le_refl _) (by rw [hp9, Nat.zero_add]; exact Nat.le_refl _)
  · skip
    have hn1 : rn (v) = 0 := hn1
    have hw : WD G (gp G a z y k) A s H locs := by rw [List.append_nil] at hw9; exact hw9
    refine W.widen (k := 0) (n := 0) (by show 0 + xc (rn (v)) ≤ 0; rw [hn1]; decide) (by show 0 + 6 * xc (rn (v)) ≤ 0; rw [hn1]; decide) ?_
    have hn1b := rn_0.mp hn1
    obtain ⟨n, hn, en9⟩ := nd_of hn1b
    subst en9
    refine lv_aload_n S.1 S.2.1 dX4_crash_4 rfl (lv_at hl 0 rfl) ?_
    refine gt_X4_0 (v := .ref (a 15)) S hK hw 0 rfl rfl LX4 k1 dX4_crash_5 ?_
    refine gt_X3_0 (v := .ref (a 16)) S hK hw 15 rfl rfl LX3 k2 dX4_crash_8 ?_
    refine gt_X2_0 (v := .ref (a 17)) S hK hw 16 rfl rfl LX2 k3 dX4_crash_11 ?_
    refine lv_iload_n S.1 S.2.1 dX4_crash_14 rfl (lv_at hl 1 rfl) ?_
    refine ald_z (f := z 1) (k := n) S hK hw 17 rfl (by omega) (by decide) (iz.1 _ (by omega)) dX4_crash_15 ?_
    refine brB_ne (b := decide (z 1 (n) = 1)) S (tgt := 29) dX4_crash_16 (by decide) (fun c2 => ?_) (fun c2 => ?_)
    · skip
      have h0 := fl1 c2
      refine lv_aload_n S.1 S.2.1 dX4_crash_29 rfl (lv_at hl 0 rfl) ?_
      refine gt_X4_0 (v := .ref (a 15)) S hK hw 0 rfl rfl LX4 k1 dX4_crash_30 ?_
      refine gt_X3_0 (v := .ref (a 16)) S hK hw 15 rfl rfl LX3 k2 dX4_crash_33 ?_
      refine gt_X2_0 (v := .ref (a 17)) S hK hw 16 rfl rfl LX2 k3 dX4_crash_36 ?_
      refine lv_iload_n S.1 S.2.1 dX4_crash_39 rfl (lv_at hl 1 rfl) ?_
      refine lv_iconst (v := 0) S.1 S.2.1 dX4_crash_40 (by decide) ?_
      refine ast_z (ws' := (gp G a (st z 1 (n) (0)) y k)) (k := n) S hK hw 17 rfl (by omega) (by decide) (by decide) rfl dX4_crash_41 (fun H locs hw => ?_)
      obtain ⟨z3, ez3⟩ : ∃ zz, zz = st z 1 (n) (0) := ⟨_, rfl⟩
      have hw : WD G (gp G a z3 y k) A s H locs := by rw [ez3]; exact hw
      have iz3 : Inv z3 := by rw [ez3]; exact inv_1 iz (by decide) (by decide)
      refine lv_aload_n S.1 S.2.1 dX4_crash_42 rfl (lv_at hl 0 rfl) ?_
      refine gt_X4_0 (v := .ref (a 15)) S hK hw 0 rfl rfl LX4 k1 dX4_crash_43 ?_
      refine gt_X3_1 (v := .ref (a 21)) S hK hw 15 rfl rfl LX3 k4 dX4_crash_46 ?_
      have hwc : WD G (wp G (fun i => a (15 + i)) z3) A s H _ := hw.sub [15, 16, 17, 18, 19, 20, 21, 22, 23, 24, 25, 26] rfl rfl
      refine cj_v (wc := (wp G (fun i => a (15 + i)) z3)) (wr := (gpr G a y k)) (va_runV (As := []) (rest := []) S (c_X1_endQuiet l G (fun i => a (15 + i)) z3 H.size  ) (cwV 0 S.2.2.2.2 gX4_crash_X1_endQuiet rfl rfl rfl hd_X1_endQuiet ⟨by rw [hR]; exact Nat.le_of_ble_eq_true rfl, by rw [hR]; exact Nat.le_of_ble_eq_true rfl⟩) ⟨PW.blind, va_recv hK.1 hwc.1 (ci := 1) (q0 := 6) rfl rfl, fun U hU hW => ⟨rfl, PW.of hK hwc hU hW⟩⟩ rfl rfl hl.1 rfl (lv_room (Nat.le_of_ble_eq_true rfl)) dX4_crash_49 ⟨Nat.zero_le _, Nat.zero_le _⟩) hw hA [15, 16, 17, 18, 19, 20, 21, 22, 23, 24, 25, 26] [0, 1, 2, 3, 4, 5, 6, 7, 8, 9, 10, 11, 12, 13, 14] rfl rfl rfl rfl (by decide) (fun _ => rfl) (fun z5 H locs h6 hw9 => ?_)
      have ez5 := h6
      have hw : WD G (gp G a z5 y k) A s H locs := hw9
      have iz5 : Inv z5 := by rw [ez5]; exact inv_endq iz3
      refine lv_aload_n S.1 S.2.1 dX4_crash_52 rfl (lv_at hl 0 rfl) ?_
      refine gt_X4_0 (v := .ref (a 15)) S hK hw 0 rfl rfl LX4 k1 dX4_crash_53 ?_
      refine gt_X3_0 (v := .ref (a 16)) S hK hw 15 rfl rfl LX3 k2 dX4_crash_56 ?_
      have hwc : WD G (wp G (fun i => a (15 + i)) z5) A s H _ := hw.sub [15, 16, 17, 18, 19, 20, 21, 22, 23, 24, 25, 26] rfl rfl
      refine cj_i (wc := (wp G (fun i => a (15 + i)) z5)) (wr := (gpr G a y k)) (va_runV (As := []) (rest := []) S (c_X2_countUp l G (fun i => a (15 + i)) z5 H.size  (by exact iz5)) (cwV 0 S.2.2.2.2 gX4_crash_X2_countUp rfl rfl rfl hd_X2_countUp ⟨by rw [hR]; exact Nat.le_of_ble_eq_true rfl, by rw [hR]; exact Nat.le_of_ble_eq_true rfl⟩) ⟨PW.blind, va_recv hK.1 hwc.1 (ci := 2) (q0 := 1) rfl rfl, fun U hU hW => ⟨rfl, PW.of hK hwc hU hW⟩⟩ rfl rfl hl.1 rfl (lv_room (Nat.le_of_ble_eq_true rfl)) dX4_crash_59 ⟨Nat.zero_le _, Nat.zero_le _⟩) hw hA [15, 16, 17, 18, 19, 20, 21, 22, 23, 24, 25, 26] [0, 1, 2, 3, 4, 5, 6, 7, 8, 9, 10, 11, 12, 13, 14] rfl rfl rfl rfl (by decide) (fun _ => rfl) (fun r7 z8 H locs h9 hw9 => ?_)
      obtain ⟨rfl, qz8⟩ := h9
      rw [qz8] at hw9
      have hw : WD G (gp G a z5 y k) A s H locs := hw9
      have hp9 : pC (nI (n)) z = (0, (nI (cup z5 8)), z5) := (by subst ez5 ez3; simp [pC, on1, h0, hn, nd_n hn, tN_n hn])
      exact ret_x hQ (Nat.zero_le _) (Nat.zero_le _) (en_i (v := (nI (cup z5 8))) ((z5, y, k) : St × St × St) rfl S hr hlk hw (by exact ⟨by rw [hp9], by rw [hp9], by rw [hp9]⟩) dX4_crash_62)
    · skip
      have h0 := fl0 (iz.1 n hn) c2
      have hp9 : pC (nI (n)) z = (2, 0, z) := (by simp [pC, on1, h0, hn, nd_n hn, tN_n hn])
      exact th_ISE (text := "the node is down") S hX hw hl.1 hlk htab (by decide) m1ISE m2ISE m3ISE dX4_crash_19 dX4_crash_22 dX4_crash_23 dX4_crash_25 dX4_crash_28 hQ ((z, y, k) : St × St × St) (by rw [hp9]; exact ⟨show ¬ (2 : Int32) = 0 by decide, rfl⟩) (by rw [hp9]; rfl) rfl (by rw [hR]; exact Nat.le_of_ble_eq_true rfl) (by rw [hR]; exact Nat.le_of_ble_eq_true rfl) (by rw [hR]; show 0 + 1 ≤ xc (pC (nI (n)) z).1; rw [hp9]; exact (show 0 + 1 ≤ xc 2 by decide)) (by rw [hR]; show 0 + 6 ≤ 6 * xc (pC (nI (n)) z).1; rw [hp9]; exact (show 0 + 6 ≤ 6 * xc 2 by decide)) (by rw [hp9]; exact (show 0 + 1 ≤ xc 2 by decide)) (by rw [hp9]; exact (show 0 + 6 ≤ 6 * xc 2 by decide))

theorem hd_X4_join : yX4_join.cls = RX4 ∧ yX4_join.cls ≠ "java/lang/invoke/MethodHandle" ∧ yX4_join.cls ≠ "java/lang/invoke/VarHandle" ∧ (parseMethodDescriptor yX4_join.desc).map (fun d => d.parameters.length) = some 2 := by decide +kernel
set_option maxHeartbeats 4000000 in
set_option maxRecDepth 100000 in
theorem c_X4_join (l : Launch) (G : GA) (a : Nat → Nat) (z : St) (y : St) (k : St) (sz : Nat) (v : Int32) (w : Int32) (iz : Inv z) : vx_Met l yX4_join wsX4_join ({ frames := 7, cells := xc (pJ v w z : PO).1, slots := 6 * xc (pJ v w z : PO).1, locals := 110 }) (va_Pc [.ref (a 0), .int (v), .int (w)] (PX l G (gp G a z y k) sz)) (va_Qi (fun (r : Int32) (u : St × St × St) => (pJ v w z : PO).1 = 0 ∧ r = (pJ v w z : PO).2.1 ∧ u = ((pJ v w z : PO).2.2, y, k)) (fun (u : St × St × St) t => va_P G.1 gcl (gp G a u.1 u.2.1 u.2.2) t.heap) (va_A (gp G a z y k) sz)) (vx_X (fun (u : St × St × St) => ¬ (pJ v w z : PO).1 = 0 ∧ u = ((pJ v w z : PO).2.2, y, k)) (fun E u t => E = ex3 xIOE xISE xIAE (pJ v w z : PO).1 ∧ va_P G.1 gcl (gp G a u.1 u.2.1 u.2.2) t.heap) (va_A (gp G a z y k) sz)) (xc (pJ v w z : PO).1) (6 * xc (pJ v w z : PO).1) (va_A (gp G a z y k) sz) := by
  refine met_x (cc := cX4_join) (maxL := 3) (ret := (some .int)) (fun A => va_Qi (fun (r : Int32) (u : St × St × St) => (pJ v w z : PO).1 = 0 ∧ r = (pJ v w z : PO).2.1 ∧ u = ((pJ v w z : PO).2.2, y, k)) (fun (u : St × St × St) t => va_P G.1 gcl (gp G a u.1 u.2.1 u.2.2) t.heap) A) (fun A => vx_X (fun (u : St × St × St) => ¬ (pJ v w z : PO).1 = 0 ∧ u = ((pJ v w z : PO).2.2, y, k)) (fun E u t => E = ex3 xIOE xISE xIAE (pJ v w z : PO).1 ∧ va_P G.1 gcl (gp G a u.1 u.2.1 u.2.2) t.heap) A) (by decide) rfl (Nat.le_of_ble_eq_true rfl) ?_
  intro p e s m args below meth c R Q A H ls hR hQ S hr hlk htab hK hX hsz hH hAe hA hw hl
  have hl : lv_has ls 3 [(0, .ref (a 0)), (1, .int (v)), (2, .int (w))] := hl
  have LX1 : ∀ w ∈ u_ws RX1 TX1 10, w.before args s = true := fun w h => S.2.2.2.2 w ((by decide +kernel : ∀ w ∈ u_ws RX1 TX1 10, w ∈ wsX4_join) w h)
  have LX2 : ∀ w ∈ u_ws RX2 TX2 4, w.before args s = true := fun w h => S.2.2.2.2 w ((by decide +kernel : ∀ w ∈ u_ws RX2 TX2 4, w ∈ wsX4_join) w h)
  have LX3 : ∀ w ∈ u_ws RX3 TX3 7, w.before args s = true := fun w h => S.2.2.2.2 w ((by decide +kernel : ∀ w ∈ u_ws RX3 TX3 7, w ∈ wsX4_join) w h)
  have LX4 : ∀ w ∈ u_ws RX4 TX4 6, w.before args s = true := fun w h => S.2.2.2.2 w ((by decide +kernel : ∀ w ∈ u_ws RX4 TX4 6, w ∈ wsX4_join) w h)
  have k1 : (Cond.fieldLink RX4 10 "GossipMembership" "world" "LGossipMembership$World;").before args s = true := S.2.2.2.2 _ (by decide +kernel : (Cond.fieldLink RX4 10 "GossipMembership" "world" "LGossipMembership$World;") ∈ wsX4_join)
  have k2 : (Cond.fieldLink RX4 65 "GossipMembership$World" "network" "LGossipMembership$Network;").before args s = true := S.2.2.2.2 _ (by decide +kernel : (Cond.fieldLink RX4 65 "GossipMembership$World" "network" "LGossipMembership$Network;") ∈ wsX4_join)
  have k3 : (Cond.fieldLink RX4 69 "GossipMembership$Network" "up" "[Z").before args s = true := S.2.2.2.2 _ (by decide +kernel : (Cond.fieldLink RX4 69 "GossipMembership$Network" "up" "[Z") ∈ wsX4_join)
  have k4 : (Cond.fieldLink RX4 37 "GossipMembership$World" "knowledge" "LGossipMembership$Knowledge;").before args s = true := S.2.2.2.2 _ (by decide +kernel : (Cond.fieldLink RX4 37 "GossipMembership$World" "knowledge" "LGossipMembership$Knowledge;") ∈ wsX4_join)
  have k5 : (Cond.fieldLink RX4 93 "GossipMembership$Knowledge" "ownIncarnation" "[I").before args s = true := S.2.2.2.2 _ (by decide +kernel : (Cond.fieldLink RX4 93 "GossipMembership$Knowledge" "ownIncarnation" "[I") ∈ wsX4_join)
  have m1IAE : Cond.classLink RX4 30 xIAE ∈ wsX4_join := by decide +kernel
  have m2IAE : Cond.initialized xIAE ∈ wsX4_join := by decide +kernel
  have m3IAE : ∀ w ∈ (vx_atS RX4 34 xIAE ["java/lang/RuntimeException", "java/lang/Exception"]).filter goodWord, w ∈ wsX4_join := by decide +kernel
  have m1ISE : Cond.classLink RX4 75 xISE ∈ wsX4_join := by decide +kernel
  have m2ISE : Cond.initialized xISE ∈ wsX4_join := by decide +kernel
  have m3ISE : ∀ w ∈ (vx_atS RX4 79 xISE ["java/lang/RuntimeException", "java/lang/Exception"]).filter goodWord, w ∈ wsX4_join := by decide +kernel
  refine lv_iload_n S.1 S.2.1 dX4_join_0 rfl (lv_at hl 1 rfl) ?_
  refine cx_v (wc := []) (wr := (gp G a z y k)) (vx_runS (As := [.int (v)]) (rest := []) S (c_X4_requireNode l G H.size (v)) (va_cwS 1 S.2.2.2.2 gX4_join_X4_requireNode rfl rfl rfl hd_X4_requireNode ⟨by rw [hR]; exact Nat.le_of_ble_eq_true rfl, by rw [hR]; exact Nat.le_of_ble_eq_true rfl⟩) ⟨PX.blind, fun U hU hW => ⟨rfl, PX.of hK hX (hw.sub [] rfl rfl) (va_free hw.2.1 hw.2.2 hA [] rfl) hU hW⟩⟩ rfl rfl hl.1 rfl (lv_room (Nat.le_of_ble_eq_true rfl)) dX4_join_1 ⟨by rw [hR, Nat.zero_add]; exact xc_on2 _ _ _ _, by rw [hR, Nat.zero_add]; exact Nat.mul_le_mul_left 6 (xc_on2 _ _ _ _)⟩) hw hA [] [0, 1, 2, 3, 4, 5, 6, 7, 8, 9, 10, 11, 12, 13, 14, 15, 16, 17, 18, 19, 20, 21, 22, 23, 24, 25, 26] rfl rfl rfl rfl (by decide) (fun _ => rfl) (fun _ => rfl) (fun ce q9 u9 H locs hpx hw9 g1 g2 g3 => ?_) (fun u9 H locs hn1 hw9 => ?_)
  · skip
    have hpx : ¬ rn (v) = 0 := hpx
    have hp9 : pJ v w z = (rn (v), 0, z) := (by rw [pJ, on2_no1 (rn_f hpx), rn_1 hpx])
    exact out_x hQ (u := ((z, y, k) : St × St × St)) (by rw [List.append_nil] at hw9; exact hw9) hlk htab g1 g2 g3 (by rw [hp9]; exact ⟨hpx, rfl⟩) (by first | (rw [hp9]; done) | (rw [hp9]; rw [rn_1 hpx]; rfl)) rfl (by rw [hp9, Nat.zero_add]; exact Nat.le_refl _) (by rw [hp9, Nat.zero_add]; exact Nat.le_refl _)
  · skip
    have hn1 : rn (v) = 0 := hn1
    have hw : WD G (gp G a z y k) A s H locs := by rw [List.append_nil] at hw9; exact hw9
    refine W.widen (k := 0) (n := 0) (by show 0 + xc (rn (v)) ≤ 0; rw [hn1]; decide) (by show 0 + 6 * xc (rn (v)) ≤ 0; rw [hn1]; decide) ?_
    have hn1b := rn_0.mp hn1
    obtain ⟨n, hn, en9⟩ := nd_of hn1b
    subst en9
    refine lv_iload_n S.1 S.2.1 dX4_join_4 rfl (lv_at hl 2 rfl) ?_
    refine cx_v (wc := []) (wr := (gp G a z y k)) (vx_runS (As := [.int (w)]) (rest := []) S (c_X4_requireNode l G H.size (w)) (va_cwS 1 S.2.2.2.2 gX4_join_X4_requireNode rfl rfl rfl hd_X4_requireNode ⟨by rw [hR]; exact Nat.le_of_ble_eq_true rfl, by rw [hR]; exact Nat.le_of_ble_eq_true rfl⟩) ⟨PX.blind, fun U hU hW => ⟨rfl, PX.of hK hX (hw.sub [] rfl rfl) (va_free hw.2.1 hw.2.2 hA [] rfl) hU hW⟩⟩ rfl rfl hl.1 rfl (lv_room (Nat.le_of_ble_eq_true rfl)) dX4_join_5 ⟨by rw [hR, Nat.zero_add]; exact xc_on2b _ _ _ _, by rw [hR, Nat.zero_add]; exact Nat.mul_le_mul_left 6 (xc_on2b _ _ _ _)⟩) hw hA [] [0, 1, 2, 3, 4, 5, 6, 7, 8, 9, 10, 11, 12, 13, 14, 15, 16, 17, 18, 19, 20, 21, 22, 23, 24, 25, 26] rfl rfl rfl rfl (by decide) (fun _ => rfl) (fun _ => rfl) (fun ce q9 u9 H locs hpx hw9 g1 g2 g3 => ?_) (fun u9 H locs hn2 hw9 => ?_)
    · skip
      have hpx : ¬ rn (w) = 0 := hpx
      have hp9 : pJ (nI (n)) w z = (rn (w), 0, z) := (by rw [pJ, on2_no2 (rn_f hpx), rn_1 hpx])
      exact out_x hQ (u := ((z, y, k) : St × St × St)) (by rw [List.append_nil] at hw9; exact hw9) hlk htab g1 g2 g3 (by rw [hp9]; exact ⟨hpx, rfl⟩) (by first | (rw [hp9]; done) | (rw [hp9]; rw [rn_1 hpx]; rfl)) rfl (by rw [hp9, Nat.zero_add]; exact Nat.le_refl _) (by rw [hp9, Nat.zero_add]; exact Nat.le_refl _)
    · skip
      have hn2 : rn (w) = 0 := hn2
      have hw : WD G (gp G a z y k) A s H locs := by rw [List.append_nil] at hw9; exact hw9
      refine W.widen (k := 0) (n := 0) (by show 0 + xc (rn (w)) ≤ 0; rw [hn2]; decide) (by show 0 + 6 * xc (rn (w)) ≤ 0; rw [hn2]; decide) ?_
      have hn2b := rn_0.mp hn2
      obtain ⟨b, hb, eb9⟩ := nd_of hn2b
      subst eb9
      refine lv_aload_n S.1 S.2.1 dX4_join_8 rfl (lv_at hl 0 rfl) ?_
      refine gt_X4_0 (v := .ref (a 15)) S hK hw 0 rfl rfl LX4 k1 dX4_join_9 ?_
      refine gt_X3_0 (v := .ref (a 16)) S hK hw 15 rfl rfl LX3 k2 dX4_join_12 ?_
      refine gt_X2_0 (v := .ref (a 17)) S hK hw 16 rfl rfl LX2 k3 dX4_join_15 ?_
      refine lv_iload_n S.1 S.2.1 dX4_join_18 rfl (lv_at hl 1 rfl) ?_
      refine ald_z (f := z 1) (k := n) S hK hw 17 rfl (by omega) (by decide) (iz.1 _ (by omega)) dX4_join_19 ?_
      refine brB_eq (b := decide (z 1 (n) = 1)) S (tgt := 33) dX4_join_20 (by decide) (fun c3 => ?_) (fun c3 => ?_)
      · skip
        have h0 := of_decide_eq_false c3
        refine lv_iload_n S.1 S.2.1 dX4_join_33 rfl (lv_at hl 2 rfl) ?_
        refine lv_iload_n S.1 S.2.1 dX4_join_34 rfl (lv_at hl 1 rfl) ?_
        refine brN_eq (a := b) (b := n) S (by omega) (by omega) (tgt := 63) dX4_join_35 (by decide) (fun c4 => ?_) (fun c4 => ?_)
        · skip
          refine lv_aload_n S.1 S.2.1 dX4_join_63 rfl (lv_at hl 0 rfl) ?_
          refine gt_X4_0 (v := .ref (a 15)) S hK hw 0 rfl rfl LX4 k1 dX4_join_64 ?_
          refine lv_iload_n S.1 S.2.1 dX4_join_67 rfl (lv_at hl 1 rfl) ?_
          refine lv_iload_n S.1 S.2.1 dX4_join_68 rfl (lv_at hl 2 rfl) ?_
          have hwc : WD G (wp G (fun i => a (15 + i)) z) A s H _ := hw.sub [15, 16, 17, 18, 19, 20, 21, 22, 23, 24, 25, 26] rfl rfl
          refine cj_v (wc := (wp G (fun i => a (15 + i)) z)) (wr := (gpr G a y k)) (va_runV (As := [.int (nI (n)), .int (nI (b))]) (rest := []) S (c_X3_admit l G (fun i => a (15 + i)) z H.size (n) (b) (by omega) (by omega) (by exact iz)) (cwV 2 S.2.2.2.2 gX4_join_X3_admit rfl rfl rfl hd_X3_admit ⟨by rw [hR]; exact Nat.le_of_ble_eq_true rfl, by rw [hR]; exact Nat.le_of_ble_eq_true rfl⟩) ⟨PW.blind, va_recv hK.1 hwc.1 (ci := 3) (q0 := 0) rfl rfl, fun U hU hW => ⟨rfl, PW.of hK hwc hU hW⟩⟩ rfl rfl hl.1 rfl (lv_room (Nat.le_of_ble_eq_true rfl)) dX4_join_69 ⟨Nat.zero_le _, Nat.zero_le _⟩) hw hA [15, 16, 17, 18, 19, 20, 21, 22, 23, 24, 25, 26] [0, 1, 2, 3, 4, 5, 6, 7, 8, 9, 10, 11, 12, 13, 14] rfl rfl rfl rfl (by decide) (fun _ => rfl) (fun z6 H locs h7 hw9 => ?_)
          have ez6 := h7
          have hw : WD G (gp G a z6 y k) A s H locs := hw9
          have iz6 : Inv z6 := by rw [ez6]; exact inv_adm iz (n := (n)) (b := (b)) (by omega) (by omega)
          refine lv_aload_n S.1 S.2.1 dX4_join_72 rfl (lv_at hl 0 rfl) ?_
          refine gt_X4_0 (v := .ref (a 15)) S hK hw 0 rfl rfl LX4 k1 dX4_join_73 ?_
          refine gt_X3_1 (v := .ref (a 21)) S hK hw 15 rfl rfl LX3 k4 dX4_join_76 ?_
          have hwc : WD G (wp G (fun i => a (15 + i)) z6) A s H _ := hw.sub [15, 16, 17, 18, 19, 20, 21, 22, 23, 24, 25, 26] rfl rfl
          refine cj_v (wc := (wp G (fun i => a (15 + i)) z6)) (wr := (gpr G a y k)) (va_runV (As := []) (rest := []) S (c_X1_endQuiet l G (fun i => a (15 + i)) z6 H.size  ) (cwV 0 S.2.2.2.2 gX4_join_X1_endQuiet rfl rfl rfl hd_X1_endQuiet ⟨by rw [hR]; exact Nat.le_of_ble_eq_true rfl, by rw [hR]; exact Nat.le_of_ble_eq_true rfl⟩) ⟨PW.blind, va_recv hK.1 hwc.1 (ci := 1) (q0 := 6) rfl rfl, fun U hU hW => ⟨rfl, PW.of hK hwc hU hW⟩⟩ rfl rfl hl.1 rfl (lv_room (Nat.le_of_ble_eq_true rfl)) dX4_join_79 ⟨Nat.zero_le _, Nat.zero_le _⟩) hw hA [15, 16, 17, 18, 19, 20, 21, 22, 23, 24, 25, 26] [0, 1, 2, 3, 4, 5, 6, 7, 8, 9, 10, 11, 12, 13, 14] rfl rfl rfl rfl (by decide) (fun _ => rfl) (fun z9 H locs h10 hw9 => ?_)
          have ez9 := h10
          have hw : WD G (gp G a z9 y k) A s H locs := hw9
          have iz9 : Inv z9 := by rw [ez9]; exact inv_endq iz6
          refine lv_aload_n S.1 S.2.1 dX4_join_82 rfl (lv_at hl 0 rfl) ?_
          refine gt_X4_0 (v := .ref (a 15)) S hK hw 0 rfl rfl LX4 k1 dX4_join_83 ?_
          refine gt_X3_1 (v := .ref (a 21)) S hK hw 15 rfl rfl LX3 k4 dX4_join_86 ?_
          refine gt_X1_0 (v := .ref (a 22)) S hK hw 21 rfl rfl LX1 k5 dX4_join_89 ?_
          refine lv_iload_n S.1 S.2.1 dX4_join_92 rfl (lv_at hl 1 rfl) ?_
          refine ald_i (v := z9 4 (n)) (k := n) S hK hw 22 rfl (by omega) (by decide) rfl dX4_join_93 ?_
          have hp9 : pJ (nI (n)) (nI (b)) z = (0, (z9 4 (n)), z9) := (by have hj : ¬ (¬ b = n ∧ wcn z n b = false) := (by first | exact fun h => h.1 (by assumption) | (intro h; have h2 := h.2; simp_all; done)); subst ez9 ez6; rw [pJ, on2_n hn hb, if_neg h0, if_neg hj]; rfl)
          exact ret_x hQ (Nat.zero_le _) (Nat.zero_le _) (en_i (v := (z9 4 (n))) ((z9, y, k) : St × St × St) rfl S hr hlk hw (by exact ⟨by rw [hp9], by rw [hp9], by rw [hp9]⟩) dX4_join_94)
        · skip
          refine lv_aload_n S.1 S.2.1 dX4_join_38 rfl (lv_at hl 0 rfl) ?_
          refine gt_X4_0 (v := .ref (a 15)) S hK hw 0 rfl rfl LX4 k1 dX4_join_39 ?_
          refine gt_X3_0 (v := .ref (a 16)) S hK hw 15 rfl rfl LX3 k2 dX4_join_42 ?_
          refine lv_iload_n S.1 S.2.1 dX4_join_45 rfl (lv_at hl 1 rfl) ?_
          refine lv_iload_n S.1 S.2.1 dX4_join_46 rfl (lv_at hl 2 rfl) ?_
          have hwc : WD G (wp G (fun i => a (15 + i)) z) A s H _ := hw.sub [15, 16, 17, 18, 19, 20, 21, 22, 23, 24, 25, 26] rfl rfl
          refine cj_i (wc := (wp G (fun i => a (15 + i)) z)) (wr := (gpr G a y k)) (va_runV (As := [.int (nI (n)), .int (nI (b))]) (rest := []) S (c_X2_wouldConnect l G (fun i => a (15 + i)) z H.size (n) (b) (by omega) (by omega) (by exact iz)) (cwV 2 S.2.2.2.2 gX4_join_X2_wouldConnect rfl rfl rfl hd_X2_wouldConnect ⟨by rw [hR]; exact Nat.le_of_ble_eq_true rfl, by rw [hR]; exact Nat.le_of_ble_eq_true rfl⟩) ⟨PW.blind, va_recv hK.1 hwc.1 (ci := 2) (q0 := 1) rfl rfl, fun U hU hW => ⟨rfl, PW.of hK hwc hU hW⟩⟩ rfl rfl hl.1 rfl (lv_room (Nat.le_of_ble_eq_true rfl)) dX4_join_47 ⟨Nat.zero_le _, Nat.zero_le _⟩) hw hA [15, 16, 17, 18, 19, 20, 21, 22, 23, 24, 25, 26] [0, 1, 2, 3, 4, 5, 6, 7, 8, 9, 10, 11, 12, 13, 14] rfl rfl rfl rfl (by decide) (fun _ => rfl) (fun r11 z12 H locs h13 hw9 => ?_)
          obtain ⟨rfl, qz12⟩ := h13
          rw [qz12] at hw9
          have hw : WD G (gp G a z y k) A s H locs := hw9
          refine brB_ne (b := wcn z (n) (b)) S (tgt := 63) dX4_join_50 (by decide) (fun c14 => ?_) (fun c14 => ?_)
          · skip
            refine lv_aload_n S.1 S.2.1 dX4_join_63 rfl (lv_at hl 0 rfl) ?_
            refine gt_X4_0 (v := .ref (a 15)) S hK hw 0 rfl rfl LX4 k1 dX4_join_64 ?_
            refine lv_iload_n S.1 S.2.1 dX4_join_67 rfl (lv_at hl 1 rfl) ?_
            refine lv_iload_n S.1 S.2.1 dX4_join_68 rfl (lv_at hl 2 rfl) ?_
            have hwc : WD G (wp G (fun i => a (15 + i)) z) A s H _ := hw.sub [15, 16, 17, 18, 19, 20, 21, 22, 23, 24, 25, 26] rfl rfl
            refine cj_v (wc := (wp G (fun i => a (15 + i)) z)) (wr := (gpr G a y k)) (va_runV (As := [.int (nI (n)), .int (nI (b))]) (rest := []) S (c_X3_admit l G (fun i => a (15 + i)) z H.size (n) (b) (by omega) (by omega) (by exact iz)) (cwV 2 S.2.2.2.2 gX4_join_X3_admit rfl rfl rfl hd_X3_admit ⟨by rw [hR]; exact Nat.le_of_ble_eq_true rfl, by rw [hR]; exact Nat.le_of_ble_eq_true rfl⟩) ⟨PW.blind, va_recv hK.1 hwc.1 (ci := 3) (q0 := 0) rfl rfl, fun U hU hW => ⟨rfl, PW.of hK hwc hU hW⟩⟩ rfl rfl hl.1 rfl (lv_room (Nat.le_of_ble_eq_true rfl)) dX4_join_69 ⟨Nat.zero_le _, Nat.zero_le _⟩) hw hA [15, 16, 17, 18, 19, 20, 21, 22, 23, 24, 25, 26] [0, 1, 2, 3, 4, 5, 6, 7, 8, 9, 10, 11, 12, 13, 14] rfl rfl rfl rfl (by decide) (fun _ => rfl) (fun z16 H locs h17 hw9 => ?_)
            have ez16 := h17
            have hw : WD G (gp G a z16 y k) A s H locs := hw9
            have iz16 : Inv z16 := by rw [ez16]; exact inv_adm iz (n := (n)) (b := (b)) (by omega) (by omega)
            refine lv_aload_n S.1 S.2.1 dX4_join_72 rfl (lv_at hl 0 rfl) ?_
            refine gt_X4_0 (v := .ref (a 15)) S hK hw 0 rfl rfl LX4 k1 dX4_join_73 ?_
            refine gt_X3_1 (v := .ref (a 21)) S hK hw 15 rfl rfl LX3 k4 dX4_join_76 ?_
            have hwc : WD G (wp G (fun i => a (15 + i)) z16) A s H _ := hw.sub [15, 16, 17, 18, 19, 20, 21, 22, 23, 24, 25, 26] rfl rfl
            refine cj_v (wc := (wp G (fun i => a (15 + i)) z16)) (wr := (gpr G a y k)) (va_runV (As := []) (rest := []) S (c_X1_endQuiet l G (fun i => a (15 + i)) z16 H.size  ) (cwV 0 S.2.2.2.2 gX4_join_X1_endQuiet rfl rfl rfl hd_X1_endQuiet ⟨by rw [hR]; exact Nat.le_of_ble_eq_true rfl, by rw [hR]; exact Nat.le_of_ble_eq_true rfl⟩) ⟨PW.blind, va_recv hK.1 hwc.1 (ci := 1) (q0 := 6) rfl rfl, fun U hU hW => ⟨rfl, PW.of hK hwc hU hW⟩⟩ rfl rfl hl.1 rfl (lv_room (Nat.le_of_ble_eq_true rfl)) dX4_join_79 ⟨Nat.zero_le _, Nat.zero_le _⟩) hw hA [15, 16, 17, 18, 19, 20, 21, 22, 23, 24, 25, 26] [0, 1, 2, 3, 4, 5, 6, 7, 8, 9, 10, 11, 12, 13, 14] rfl rfl rfl rfl (by decide) (fun _ => rfl) (fun z19 H locs h20 hw9 => ?_)
            have ez19 := h20
            have hw : WD G (gp G a z19 y k) A s H locs := hw9
            have iz19 : Inv z19 := by rw [ez19]; exact inv_endq iz16
            refine lv_aload_n S.1 S.2.1 dX4_join_82 rfl (lv_at hl 0 rfl) ?_
            refine gt_X4_0 (v := .ref (a 15)) S hK hw 0 rfl rfl LX4 k1 dX4_join_83 ?_
            refine gt_X3_1 (v := .ref (a 21)) S hK hw 15 rfl rfl LX3 k4 dX4_join_86 ?_
            refine gt_X1_0 (v := .ref (a 22)) S hK hw 21 rfl rfl LX1 k5 dX4_join_89 ?_
            refine lv_iload_n S.1 S.2.1 dX4_join_92 rfl (lv_at hl 1 rfl) ?_
            refine ald_i (v := z19 4 (n)) (k := n) S hK hw 22 rfl (by omega) (by decide) rfl dX4_join_93 ?_
            have hp9 : pJ (nI (n)) (nI (b)) z = (0, (z19 4 (n)), z19) := (by have hj : ¬ (¬ b = n ∧ wcn z n b = false) := (by first | exact fun h => h.1 (by assumption) | (intro h; have h2 := h.2; simp_all; done)); subst ez19 ez16; rw [pJ, on2_n hn hb, if_neg h0, if_neg hj]; rfl)
            exact ret_x hQ (Nat.zero_le _) (Nat.zero_le _) (en_i (v := (z19 4 (n))) ((z19, y, k) : St × St × St) rfl S hr hlk hw (by exact ⟨by rw [hp9], by rw [hp9], by rw [hp9]⟩) dX4_join_94)
          · skip
            have hp9 : pJ (nI (n)) (nI (b)) z = (3, 0, z) := (by simp [pJ, on2, h0, hn, nd_n hn, tN_n hn, hb, nd_n hb, tN_n hb, c3, c4, c14])
            exact th_IAE (text := "the contact cannot be reached") S hX hw hl.1 hlk htab (by decide) m1IAE m2IAE m3IAE dX4_join_53 dX4_join_56 dX4_join_57 dX4_join_59 dX4_join_62 hQ ((z, y, k) : St × St × St) (by rw [hp9]; exact ⟨show ¬ (3 : Int32) = 0 by decide, rfl⟩) (by rw [hp9]; rfl) rfl (by rw [hR]; exact Nat.le_of_ble_eq_true rfl) (by rw [hR]; exact Nat.le_of_ble_eq_true rfl) (by rw [hR]; show 0 + 1 ≤ xc (pJ (nI (n)) (nI (b)) z).1; rw [hp9]; exact (show 0 + 1 ≤ xc 3 by decide)) (by rw [hR]; show 0 + 6 ≤ 6 * xc (pJ (nI (n)) (nI (b)) z).1; rw [hp9]; exact (show 0 + 6 ≤ 6 * xc 3 by decide)) (by rw [hp9]; exact (show 0 + 1 ≤ xc 3 by decide)) (by rw [hp9]; exact (show 0 + 6 ≤ 6 * xc 3 by decide))
      · skip
        have h0 := of_decide_eq_true c3
        have hp9 : pJ (nI (n)) (nI (b)) z = (2, 0, z) := (by simp [pJ, on2, h0, hn, nd_n hn, tN_n hn, hb, nd_n hb, tN_n hb, c3])
        exact th_ISE (text := "the node is up") S hX hw hl.1 hlk htab (by decide) m1ISE m2ISE m3ISE dX4_join_23 dX4_join_26 dX4_join_27 dX4_join_29 dX4_join_32 hQ ((z, y, k) : St × St × St) (by rw [hp9]; exact ⟨show ¬ (2 : Int32) = 0 by decide, rfl⟩) (by rw [hp9]; rfl) rfl (by rw [hR]; exact Nat.le_of_ble_eq_true rfl) (by rw [hR]; exact Nat.le_of_ble_eq_true rfl) (by rw [hR]; show 0 + 1 ≤ xc (pJ (nI (n)) (nI (b)) z).1; rw [hp9]; exact (show 0 + 1 ≤ xc 2 by decide)) (by rw [hR]; show 0 + 6 ≤ 6 * xc (pJ (nI (n)) (nI (b)) z).1; rw [hp9]; exact (show 0 + 6 ≤ 6 * xc 2 by decide)) (by rw [hp9]; exact (show 0 + 1 ≤ xc 2 by decide)) (by rw [hp9]; exact (show 0 + 6 ≤ 6 * xc 2 by decide))

theorem hd_X4_move : yX4_move.cls = RX4 ∧ yX4_move.cls ≠ "java/lang/invoke/MethodHandle" ∧ yX4_move.cls ≠ "java/lang/invoke/VarHandle" ∧ (parseMethodDescriptor yX4_move.desc).map (fun d => d.parameters.length) = some 2 := by decide +kernel
set_option maxHeartbeats 4000000 in
set_option maxRecDepth 100000 in
theorem c_X4_move (l : Launch) (G : GA) (a : Nat → Nat) (z : St) (y : St) (k : St) (sz : Nat) (v : Int32) (q : Int32) (iz : Inv z) : vx_Met l yX4_move wsX4_move ({ frames := 7, cells := xc (pM v q z : PO).1, slots := 6 * xc (pM v q z : PO).1, locals := 110 }) (va_Pc [.ref (a 0), .int (v), .int (q)] (PX l G (gp G a z y k) sz)) (va_Qi (fun (r : Int32) (u : St × St × St) => (pM v q z : PO).1 = 0 ∧ r = (pM v q z : PO).2.1 ∧ u = ((pM v q z : PO).2.2, y, k)) (fun (u : St × St × St) t => va_P G.1 gcl (gp G a u.1 u.2.1 u.2.2) t.heap) (va_A (gp G a z y k) sz)) (vx_X (fun (u : St × St × St) => ¬ (pM v q z : PO).1 = 0 ∧ u = ((pM v q z : PO).2.2, y, k)) (fun E u t => E = ex3 xIOE xIAE xIAE (pM v q z : PO).1 ∧ va_P G.1 gcl (gp G a u.1 u.2.1 u.2.2) t.heap) (va_A (gp G a z y k) sz)) (xc (pM v q z : PO).1) (6 * xc (pM v q z : PO).1) (va_A (gp G a z y k) sz) := by
  refine met_x (cc := cX4_move) (maxL := 4) (ret := (some .int)) (fun A => va_Qi (fun (r : Int32) (u : St × St × St) => (pM v q z : PO).1 = 0 ∧ r = (pM v q z : PO).2.1 ∧ u = ((pM v q z : PO).2.2, y, k)) (fun (u : St × St × St) t => va_P G.1 gcl (gp G a u.1 u.2.1 u.2.2) t.heap) A) (fun A => vx_X (fun (u : St × St × St) => ¬ (pM v q z : PO).1 = 0 ∧ u = ((pM v q z : PO).2.2, y, k)) (fun E u t => E = ex3 xIOE xIAE xIAE (pM v q z : PO).1 ∧ va_P G.1 gcl (gp G a u.1 u.2.1 u.2.2) t.heap) A) (by decide) rfl (Nat.le_of_ble_eq_true rfl) ?_
  intro p e s m args below meth c R Q A H ls hR hQ S hr hlk htab hK hX hsz hH hAe hA hw hl
  have hl : lv_has ls 4 [(0, .ref (a 0)), (1, .int (v)), (2, .int (q))] := hl
  have LX2 : ∀ w ∈ u_ws RX2 TX2 4, w.before args s = true := fun w h => S.2.2.2.2 w ((by decide +kernel : ∀ w ∈ u_ws RX2 TX2 4, w ∈ wsX4_move) w h)
  have LX3 : ∀ w ∈ u_ws RX3 TX3 7, w.before args s = true := fun w h => S.2.2.2.2 w ((by decide +kernel : ∀ w ∈ u_ws RX3 TX3 7, w ∈ wsX4_move) w h)
  have LX4 : ∀ w ∈ u_ws RX4 TX4 6, w.before args s = true := fun w h => S.2.2.2.2 w ((by decide +kernel : ∀ w ∈ u_ws RX4 TX4 6, w ∈ wsX4_move) w h)
  have k1 : (Cond.fieldLink RX4 10 "GossipMembership" "world" "LGossipMembership$World;").before args s = true := S.2.2.2.2 _ (by decide +kernel : (Cond.fieldLink RX4 10 "GossipMembership" "world" "LGossipMembership$World;") ∈ wsX4_move)
  have k2 : (Cond.fieldLink RX4 65 "GossipMembership$World" "network" "LGossipMembership$Network;").before args s = true := S.2.2.2.2 _ (by decide +kernel : (Cond.fieldLink RX4 65 "GossipMembership$World" "network" "LGossipMembership$Network;") ∈ wsX4_move)
  have k3 : (Cond.fieldLink RX4 105 "GossipMembership$Network" "place" "[I").before args s = true := S.2.2.2.2 _ (by decide +kernel : (Cond.fieldLink RX4 105 "GossipMembership$Network" "place" "[I") ∈ wsX4_move)
  have k4 : (Cond.fieldLink RX4 37 "GossipMembership$World" "knowledge" "LGossipMembership$Knowledge;").before args s = true := S.2.2.2.2 _ (by decide +kernel : (Cond.fieldLink RX4 37 "GossipMembership$World" "knowledge" "LGossipMembership$Knowledge;") ∈ wsX4_move)
  have m1IAE : Cond.classLink RX4 30 xIAE ∈ wsX4_move := by decide +kernel
  have m2IAE : Cond.initialized xIAE ∈ wsX4_move := by decide +kernel
  have m3IAE : ∀ w ∈ (vx_atS RX4 34 xIAE ["java/lang/RuntimeException", "java/lang/Exception"]).filter goodWord, w ∈ wsX4_move := by decide +kernel
  refine lv_iload_n S.1 S.2.1 dX4_move_0 rfl (lv_at hl 1 rfl) ?_
  refine cx_v (wc := []) (wr := (gp G a z y k)) (vx_runS (As := [.int (v)]) (rest := []) S (c_X4_requireNode l G H.size (v)) (va_cwS 1 S.2.2.2.2 gX4_move_X4_requireNode rfl rfl rfl hd_X4_requireNode ⟨by rw [hR]; exact Nat.le_of_ble_eq_true rfl, by rw [hR]; exact Nat.le_of_ble_eq_true rfl⟩) ⟨PX.blind, fun U hU hW => ⟨rfl, PX.of hK hX (hw.sub [] rfl rfl) (va_free hw.2.1 hw.2.2 hA [] rfl) hU hW⟩⟩ rfl rfl hl.1 rfl (lv_room (Nat.le_of_ble_eq_true rfl)) dX4_move_1 ⟨by rw [hR, Nat.zero_add]; exact xc_on1 _ _ _, by rw [hR, Nat.zero_add]; exact Nat.mul_le_mul_left 6 (xc_on1 _ _ _)⟩) hw hA [] [0, 1, 2, 3, 4, 5, 6, 7, 8, 9, 10, 11, 12, 13, 14, 15, 16, 17, 18, 19, 20, 21, 22, 23, 24, 25, 26] rfl rfl rfl rfl (by decide) (fun _ => rfl) (fun _ => rfl) (fun ce q9 u9 H locs hpx hw9 g1 g2 g3 => ?_) (fun u9 H locs hn1 hw9 => ?_)
  · skip
    have hpx : ¬ rn (v) = 0 := hpx
    have hp9 : pM v q z = (rn (v), 0, z) := (by rw [pM, on1_no (rn_f hpx), rn_1 hpx])
    exact out_x hQ (u := ((z, y, k) : St × St × St)) (by rw [List.append_nil] at hw9; exact hw9) hlk htab g1 g2 g3 (by rw [hp9]; exact ⟨hpx, rfl⟩) (by first | (rw [hp9]; done) | (rw [hp9]; rw [rn_1 hpx]; rfl)) rfl (by rw [hp9, Nat.zero_add]; exact Nat.le_refl _) (by rw [hp9, Nat.zero_add]; exact Nat.le_refl _)
  · skip
    have hn1 : rn (v) = 0 := hn1
    have hw : WD G (gp G a z y k) A s H locs := by rw [List.append_nil] at hw9; exact hw9
    refine W.widen (k := 0) (n := 0) (by show 0 + xc (rn (v)) ≤ 0; rw [hn1]; decide) (by show 0 + 6 * xc (rn (v)) ≤ 0; rw [hn1]; decide) ?_
    have hn1b := rn_0.mp hn1
    obtain ⟨n, hn, en9⟩ := nd_of hn1b
    subst en9
    refine lv_iload_n S.1 S.2.1 dX4_move_4 rfl (lv_at hl 2 rfl) ?_
    refine lv_if_lt (tgt := 13) S.1 S.2.1 dX4_move_5 (by decide) (fun c2 => ?_) (fun c2 => ?_)
    · skip
      have hp9 : pM (nI (n)) q z = (2, 0, z) := (by first | (simp [pM, inB, on1, hn, nd_n hn, tN_n hn, c2]; done) | (have h7 := i4 c2; simp [pM, inB, on1, h7, hn, nd_n hn, tN_n hn, c2]; done))
      exact th_IAE (text := "there is no such partition") S hX hw hl.1 hlk htab (by decide) m1IAE m2IAE m3IAE dX4_move_13 dX4_move_16 dX4_move_17 dX4_move_19 dX4_move_22 hQ ((z, y, k) : St × St × St) (by rw [hp9]; exact ⟨show ¬ (2 : Int32) = 0 by decide, rfl⟩) (by rw [hp9]; rfl) rfl (by rw [hR]; exact Nat.le_of_ble_eq_true rfl) (by rw [hR]; exact Nat.le_of_ble_eq_true rfl) (by rw [hR]; show 0 + 1 ≤ xc (pM (nI (n)) q z).1; rw [hp9]; exact (show 0 + 1 ≤ xc 2 by decide)) (by rw [hR]; show 0 + 6 ≤ 6 * xc (pM (nI (n)) q z).1; rw [hp9]; exact (show 0 + 6 ≤ 6 * xc 2 by decide)) (by rw [hp9]; exact (show 0 + 1 ≤ xc 2 by decide)) (by rw [hp9]; exact (show 0 + 6 ≤ 6 * xc 2 by decide))
    · skip
      refine lv_iload_n S.1 S.2.1 dX4_move_8 rfl (lv_at hl 2 rfl) ?_
      refine lv_iconst (v := 4) S.1 S.2.1 dX4_move_9 (by decide) ?_
      refine lv_icmp_lt (tgt := 23) S.1 S.2.1 dX4_move_10 (by decide) (fun c3 => ?_) (fun c3 => ?_)
      · skip
        refine lv_aload_n S.1 S.2.1 dX4_move_23 rfl (lv_at hl 0 rfl) ?_
        refine gt_X4_0 (v := .ref (a 15)) S hK hw 0 rfl rfl LX4 k1 dX4_move_24 ?_
        refine gt_X3_0 (v := .ref (a 16)) S hK hw 15 rfl rfl LX3 k2 dX4_move_27 ?_
        refine gt_X2_2 (v := .ref (a 19)) S hK hw 16 rfl rfl LX2 k3 dX4_move_30 ?_
        refine lv_iload_n S.1 S.2.1 dX4_move_33 rfl (lv_at hl 1 rfl) ?_
        refine ald_i (v := z 3 (n)) (k := n) S hK hw 19 rfl (by omega) (by decide) rfl dX4_move_34 ?_
        refine lv_istore_n (lv' := [(3, .int (z 3 (n))), (0, .ref (a 0)), (1, .int (nI (n))), (2, .int (q))]) S.1 S.2.1 dX4_move_35 rfl hl (by decide) rfl (fun ls hl => ?_)
        refine lv_aload_n S.1 S.2.1 dX4_move_36 rfl (lv_at hl 1 rfl) ?_
        refine gt_X4_0 (v := .ref (a 15)) S hK hw 0 rfl rfl LX4 k1 dX4_move_37 ?_
        refine gt_X3_0 (v := .ref (a 16)) S hK hw 15 rfl rfl LX3 k2 dX4_move_40 ?_
        refine gt_X2_2 (v := .ref (a 19)) S hK hw 16 rfl rfl LX2 k3 dX4_move_43 ?_
        refine lv_iload_n S.1 S.2.1 dX4_move_46 rfl (lv_at hl 2 rfl) ?_
        refine lv_iload_n S.1 S.2.1 dX4_move_47 rfl (lv_at hl 3 rfl) ?_
        refine ast_i (ws' := (gp G a (st z 3 (n) (q)) y k)) (k := n) S hK hw 19 rfl (by omega) (by decide) rfl dX4_move_48 (fun H locs hw => ?_)
        obtain ⟨z4, ez4⟩ : ∃ zz, zz = st z 3 (n) (q) := ⟨_, rfl⟩
        have hw : WD G (gp G a z4 y k) A s H locs := by rw [ez4]; exact hw
        have iz4 : Inv z4 := by rw [ez4]; exact inv_o iz (by decide) (by simp)
        refine lv_aload_n S.1 S.2.1 dX4_move_49 rfl (lv_at hl 1 rfl) ?_
        refine gt_X4_0 (v := .ref (a 15)) S hK hw 0 rfl rfl LX4 k1 dX4_move_50 ?_
        refine gt_X3_1 (v := .ref (a 21)) S hK hw 15 rfl rfl LX3 k4 dX4_move_53 ?_
        have hwc : WD G (wp G (fun i => a (15 + i)) z4) A s H _ := hw.sub [15, 16, 17, 18, 19, 20, 21, 22, 23, 24, 25, 26] rfl rfl
        refine cj_v (wc := (wp G (fun i => a (15 + i)) z4)) (wr := (gpr G a y k)) (va_runV (As := []) (rest := []) S (c_X1_endQuiet l G (fun i => a (15 + i)) z4 H.size  ) (cwV 0 S.2.2.2.2 gX4_move_X1_endQuiet rfl rfl rfl hd_X1_endQuiet ⟨by rw [hR]; exact Nat.le_of_ble_eq_true rfl, by rw [hR]; exact Nat.le_of_ble_eq_true rfl⟩) ⟨PW.blind, va_recv hK.1 hwc.1 (ci := 1) (q0 := 6) rfl rfl, fun U hU hW => ⟨rfl, PW.of hK hwc hU hW⟩⟩ rfl rfl hl.1 rfl (lv_room (Nat.le_of_ble_eq_true rfl)) dX4_move_56 ⟨Nat.zero_le _, Nat.zero_le _⟩) hw hA [15, 16, 17, 18, 19, 20, 21, 22, 23, 24, 25, 26] [0, 1, 2, 3, 4, 5, 6, 7, 8, 9, 10, 11, 12, 13, 14] rfl rfl rfl rfl (by decide) (fun _ => rfl) (fun z6 H locs h7 hw9 => ?_)
        have ez6 := h7
        have hw : WD G (gp G a z6 y k) A s H locs := hw9
        have iz6 : Inv z6 := by rw [ez6]; exact inv_endq iz4
        refine lv_iload_n S.1 S.2.1 dX4_move_59 rfl (lv_at hl 0 rfl) ?_
        have hp9 : pM (nI (n)) q z = (0, (z 3 (n)), z6) := (by subst ez6 ez4; have h7 := i4b c3; simp [pM, inB, on1, endq, h7, hn, nd_n hn, tN_n hn, c2, c3])
        exact ret_x hQ (Nat.zero_le _) (Nat.zero_le _) (en_i (v := (z 3 (n))) ((z6, y, k) : St × St × St) rfl S hr hlk hw (by exact ⟨by rw [hp9], by rw [hp9], by rw [hp9]⟩) dX4_move_60)
      · skip
        have hp9 : pM (nI (n)) q z = (2, 0, z) := (by first | (simp [pM, inB, on1, hn, nd_n hn, tN_n hn, c2, c3]; done) | (have h7 := i4 c3; simp [pM, inB, on1, h7, hn, nd_n hn, tN_n hn, c2, c3]; done))
        exact th_IAE (text := "there is no such partition") S hX hw hl.1 hlk htab (by decide) m1IAE m2IAE m3IAE dX4_move_13 dX4_move_16 dX4_move_17 dX4_move_19 dX4_move_22 hQ ((z, y, k) : St × St × St) (by rw [hp9]; exact ⟨show ¬ (2 : Int32) = 0 by decide, rfl⟩) (by rw [hp9]; rfl) rfl (by rw [hR]; exact Nat.le_of_ble_eq_true rfl) (by rw [hR]; exact Nat.le_of_ble_eq_true rfl) (by rw [hR]; show 0 + 1 ≤ xc (pM (nI (n)) q z).1; rw [hp9]; exact (show 0 + 1 ≤ xc 2 by decide)) (by rw [hR]; show 0 + 6 ≤ 6 * xc (pM (nI (n)) q z).1; rw [hp9]; exact (show 0 + 6 ≤ 6 * xc 2 by decide)) (by rw [hp9]; exact (show 0 + 1 ≤ xc 2 by decide)) (by rw [hp9]; exact (show 0 + 6 ≤ 6 * xc 2 by decide))

theorem hd_X4_cut : yX4_cut.cls = RX4 ∧ yX4_cut.cls ≠ "java/lang/invoke/MethodHandle" ∧ yX4_cut.cls ≠ "java/lang/invoke/VarHandle" ∧ (parseMethodDescriptor yX4_cut.desc).map (fun d => d.parameters.length) = some 3 := by decide +kernel
set_option maxHeartbeats 4000000 in
set_option maxRecDepth 100000 in
theorem c_X4_cut (l : Launch) (G : GA) (a : Nat → Nat) (z : St) (y : St) (k : St) (sz : Nat) (v : Int32) (w : Int32) (on : Bool) (iz : Inv z) : vx_Met l yX4_cut wsX4_cut ({ frames := 8, cells := xc (pK v w on z : PO).1, slots := 6 * xc (pK v w on z : PO).1, locals := 131 }) (va_Pc [.ref (a 0), .int (v), .int (w), .int (b2 (on))] (PX l G (gp G a z y k) sz)) (va_Qi (fun (r : Int32) (u : St × St × St) => (pK v w on z : PO).1 = 0 ∧ r = (pK v w on z : PO).2.1 ∧ u = ((pK v w on z : PO).2.2, y, k)) (fun (u : St × St × St) t => va_P G.1 gcl (gp G a u.1 u.2.1 u.2.2) t.heap) (va_A (gp G a z y k) sz)) (vx_X (fun (u : St × St × St) => ¬ (pK v w on z : PO).1 = 0 ∧ u = ((pK v w on z : PO).2.2, y, k)) (fun E u t => E = ex3 xIOE xIAE xIAE (pK v w on z : PO).1 ∧ va_P G.1 gcl (gp G a u.1 u.2.1 u.2.2) t.heap) (va_A (gp G a z y k) sz)) (xc (pK v w on z : PO).1) (6 * xc (pK v w on z : PO).1) (va_A (gp G a z y k) sz) := by
  refine met_x (cc := cX4_cut) (maxL := 5) (ret := (some .boolean)) (fun A => va_Qi (fun (r : Int32) (u : St × St × St) => (pK v w on z : PO).1 = 0 ∧ r = (pK v w on z : PO).2.1 ∧ u = ((pK v w on z : PO).2.2, y, k)) (fun (u : St × St × St) t => va_P G.1 gcl (gp G a u.1 u.2.1 u.2.2) t.heap) A) (fun A => vx_X (fun (u : St × St × St) => ¬ (pK v w on z : PO).1 = 0 ∧ u = ((pK v w on z : PO).2.2, y, k)) (fun E u t => E = ex3 xIOE xIAE xIAE (pK v w on z : PO).1 ∧ va_P G.1 gcl (gp G a u.1 u.2.1 u.2.2) t.heap) A) (by decide) rfl (Nat.le_of_ble_eq_true rfl) ?_
  intro p e s m args below meth c R Q A H ls hR hQ S hr hlk htab hK hX hsz hH hAe hA hw hl
  have hl : lv_has ls 5 [(0, .ref (a 0)), (1, .int (v)), (2, .int (w)), (3, .int (b2 (on)))] := hl
  have LX2 : ∀ w ∈ u_ws RX2 TX2 4, w.before args s = true := fun w h => S.2.2.2.2 w ((by decide +kernel : ∀ w ∈ u_ws RX2 TX2 4, w ∈ wsX4_cut) w h)
  have LX3 : ∀ w ∈ u_ws RX3 TX3 7, w.before args s = true := fun w h => S.2.2.2.2 w ((by decide +kernel : ∀ w ∈ u_ws RX3 TX3 7, w ∈ wsX4_cut) w h)
  have LX4 : ∀ w ∈ u_ws RX4 TX4 6, w.before args s = true := fun w h => S.2.2.2.2 w ((by decide +kernel : ∀ w ∈ u_ws RX4 TX4 6, w ∈ wsX4_cut) w h)
  have k1 : (Cond.fieldLink RX4 10 "GossipMembership" "world" "LGossipMembership$World;").before args s = true := S.2.2.2.2 _ (by decide +kernel : (Cond.fieldLink RX4 10 "GossipMembership" "world" "LGossipMembership$World;") ∈ wsX4_cut)
  have k2 : (Cond.fieldLink RX4 65 "GossipMembership$World" "network" "LGossipMembership$Network;").before args s = true := S.2.2.2.2 _ (by decide +kernel : (Cond.fieldLink RX4 65 "GossipMembership$World" "network" "LGossipMembership$Network;") ∈ wsX4_cut)
  have k3 : (Cond.fieldLink RX4 111 "GossipMembership$Network" "cutLinks" "[Z").before args s = true := S.2.2.2.2 _ (by decide +kernel : (Cond.fieldLink RX4 111 "GossipMembership$Network" "cutLinks" "[Z") ∈ wsX4_cut)
  have k4 : (Cond.fieldLink RX4 37 "GossipMembership$World" "knowledge" "LGossipMembership$Knowledge;").before args s = true := S.2.2.2.2 _ (by decide +kernel : (Cond.fieldLink RX4 37 "GossipMembership$World" "knowledge" "LGossipMembership$Knowledge;") ∈ wsX4_cut)
  refine lv_iload_n S.1 S.2.1 dX4_cut_0 rfl (lv_at hl 1 rfl) ?_
  refine lv_iload_n S.1 S.2.1 dX4_cut_1 rfl (lv_at hl 2 rfl) ?_
  refine cx_v (wc := []) (wr := (gp G a z y k)) (vx_runS (As := [.int (v), .int (w)]) (rest := []) S (c_X4_requireTwoNodes l G H.size (v) (w)) (va_cwS 2 S.2.2.2.2 gX4_cut_X4_requireTwoNodes rfl rfl rfl hd_X4_requireTwoNodes ⟨by rw [hR]; exact Nat.le_of_ble_eq_true rfl, by rw [hR]; exact Nat.le_of_ble_eq_true rfl⟩) ⟨PX.blind, fun U hU hW => ⟨rfl, PX.of hK hX (hw.sub [] rfl rfl) (va_free hw.2.1 hw.2.2 hA [] rfl) hU hW⟩⟩ rfl rfl hl.1 rfl (lv_room (Nat.le_of_ble_eq_true rfl)) dX4_cut_2 ⟨by rw [hR, Nat.zero_add]; exact xc_vr _ _ _ _ (fun n _ => by rw [if_pos rfl]), by rw [hR, Nat.zero_add]; exact Nat.mul_le_mul_left 6 (xc_vr _ _ _ _ (fun n _ => by rw [if_pos rfl]))⟩) hw hA [] [0, 1, 2, 3, 4, 5, 6, 7, 8, 9, 10, 11, 12, 13, 14, 15, 16, 17, 18, 19, 20, 21, 22, 23, 24, 25, 26] rfl rfl rfl rfl (by decide) (fun _ => rfl) (fun _ => rfl) (fun ce q9 u9 H locs hpx hw9 g1 g2 g3 => ?_) (fun u9 H locs hn1 hw9 => ?_)
  · skip
    have hpx : ¬ vr (v) (w) = 0 := hpx
    have hp9 : pK v w on z = (vr (v) (w), 0, z) := (by exact vr_on2 (vr_le hpx) (fun n _ => by rw [if_pos rfl]))
    exact out_x hQ (u := ((z, y, k) : St × St × St)) (by rw [List.append_nil] at hw9; exact hw9) hlk htab g1 g2 g3 (by rw [hp9]; exact ⟨hpx, rfl⟩) (by first | (rw [hp9]; done) | (rw [hp9]; rcases vr_12 hpx with h | h <;> rw [h] <;> rfl)) rfl (by rw [hp9, Nat.zero_add]; exact Nat.le_refl _) (by rw [hp9, Nat.zero_add]; exact Nat.le_refl _)
  · skip
    have hn1 : vr (v) (w) = 0 := hn1
    have hw : WD G (gp G a z y k) A s H locs := by rw [List.append_nil] at hw9; exact hw9
    refine W.widen (k := 0) (n := 0) (by show 0 + xc (vr (v) (w)) ≤ 0; rw [hn1]; decide) (by show 0 + 6 * xc (vr (v) (w)) ≤ 0; rw [hn1]; decide) ?_
    obtain ⟨n, b, hn, hb, hnb, ev9, ew9, hvr⟩ := vr_yes (by rw [hn1]; decide)
    subst ev9 ew9
    refine lv_aload_n S.1 S.2.1 dX4_cut_5 rfl (lv_at hl 0 rfl) ?_
    refine gt_X4_0 (v := .ref (a 15)) S hK hw 0 rfl rfl LX4 k1 dX4_cut_6 ?_
    refine gt_X3_0 (v := .ref (a 16)) S hK hw 15 rfl rfl LX3 k2 dX4_cut_9 ?_
    refine gt_X2_3 (v := .ref (a 20)) S hK hw 16 rfl rfl LX2 k3 dX4_cut_12 ?_
    refine lv_iload_n S.1 S.2.1 dX4_cut_15 rfl (lv_at hl 1 rfl) ?_
    refine lv_iload_n S.1 S.2.1 dX4_cut_16 rfl (lv_at hl 2 rfl) ?_
    refine pr_s (n := n) (b := b) S hl.1 gX4_cut_X4_pair ⟨by rw [hR]; exact Nat.le_of_ble_eq_true rfl, by rw [hR]; exact Nat.le_of_ble_eq_true rfl⟩ (Nat.zero_le _) (Nat.zero_le _) (Nat.le_of_ble_eq_true rfl) dX4_cut_17 ?_
    refine ald_z (f := z 9) (k := 8 * n + b) S hK hw 20 rfl (by omega) (by decide) (iz.2.2.1 _ (by omega)) dX4_cut_20 ?_
    refine lv_istore (lv' := [(4, .int (b2 (decide (z 9 (8 * n + b) = 1)))), (0, .ref (a 0)), (1, .int (nI (n))), (2, .int (nI (b))), (3, .int (b2 (on)))]) S.1 S.2.1 dX4_cut_21 hl (by decide) rfl (fun ls hl => ?_)
    refine lv_aload_n S.1 S.2.1 dX4_cut_23 rfl (lv_at hl 1 rfl) ?_
    refine gt_X4_0 (v := .ref (a 15)) S hK hw 0 rfl rfl LX4 k1 dX4_cut_24 ?_
    refine gt_X3_0 (v := .ref (a 16)) S hK hw 15 rfl rfl LX3 k2 dX4_cut_27 ?_
    refine lv_iload_n S.1 S.2.1 dX4_cut_30 rfl (lv_at hl 2 rfl) ?_
    refine lv_iload_n S.1 S.2.1 dX4_cut_31 rfl (lv_at hl 3 rfl) ?_
    refine lv_iload_n S.1 S.2.1 dX4_cut_32 rfl (lv_at hl 4 rfl) ?_
    have hwc : WD G (wp G (fun i => a (15 + i)) z) A s H _ := hw.sub [15, 16, 17, 18, 19, 20, 21, 22, 23, 24, 25, 26] rfl rfl
    refine cj_v (wc := (wp G (fun i => a (15 + i)) z)) (wr := (gpr G a y k)) (va_runV (As := [.int (nI (n)), .int (nI (b)), .int (b2 (on))]) (rest := []) S (c_X2_setCut l G (fun i => a (15 + i)) z H.size (n) (b) (on) (by omega) (by omega)) (cwV 3 S.2.2.2.2 gX4_cut_X2_setCut rfl rfl rfl hd_X2_setCut ⟨by rw [hR]; exact Nat.le_of_ble_eq_true rfl, by rw [hR]; exact Nat.le_of_ble_eq_true rfl⟩) ⟨PW.blind, va_recv hK.1 hwc.1 (ci := 2) (q0 := 1) rfl rfl, fun U hU hW => ⟨rfl, PW.of hK hwc hU hW⟩⟩ rfl rfl hl.1 rfl (lv_room (Nat.le_of_ble_eq_true rfl)) dX4_cut_33 ⟨Nat.zero_le _, Nat.zero_le _⟩) hw hA [15, 16, 17, 18, 19, 20, 21, 22, 23, 24, 25, 26] [0, 1, 2, 3, 4, 5, 6, 7, 8, 9, 10, 11, 12, 13, 14] rfl rfl rfl rfl (by decide) (fun _ => rfl) (fun z3 H locs h4 hw9 => ?_)
    have ez3 := h4
    have hw : WD G (gp G a z3 y k) A s H locs := hw9
    have iz3 : Inv z3 := by rw [ez3]; exact inv_sct iz (n := (n)) (b := (b)) (by omega) (by omega) (on)
    refine lv_aload_n S.1 S.2.1 dX4_cut_36 rfl (lv_at hl 1 rfl) ?_
    refine gt_X4_0 (v := .ref (a 15)) S hK hw 0 rfl rfl LX4 k1 dX4_cut_37 ?_
    refine gt_X3_1 (v := .ref (a 21)) S hK hw 15 rfl rfl LX3 k4 dX4_cut_40 ?_
    have hwc : WD G (wp G (fun i => a (15 + i)) z3) A s H _ := hw.sub [15, 16, 17, 18, 19, 20, 21, 22, 23, 24, 25, 26] rfl rfl
    refine cj_v (wc := (wp G (fun i => a (15 + i)) z3)) (wr := (gpr G a y k)) (va_runV (As := []) (rest := []) S (c_X1_endQuiet l G (fun i => a (15 + i)) z3 H.size  ) (cwV 0 S.2.2.2.2 gX4_cut_X1_endQuiet rfl rfl rfl hd_X1_endQuiet ⟨by rw [hR]; exact Nat.le_of_ble_eq_true rfl, by rw [hR]; exact Nat.le_of_ble_eq_true rfl⟩) ⟨PW.blind, va_recv hK.1 hwc.1 (ci := 1) (q0 := 6) rfl rfl, fun U hU hW => ⟨rfl, PW.of hK hwc hU hW⟩⟩ rfl rfl hl.1 rfl (lv_room (Nat.le_of_ble_eq_true rfl)) dX4_cut_43 ⟨Nat.zero_le _, Nat.zero_le _⟩) hw hA [15, 16, 17, 18, 19, 20, 21, 22, 23, 24, 25, 26] [0, 1, 2, 3, 4, 5, 6, 7, 8, 9, 10, 11, 12, 13, 14] rfl rfl rfl rfl (by decide) (fun _ => rfl) (fun z6 H locs h7 hw9 => ?_)
    have ez6 := h7
    have hw : WD G (gp G a z6 y k) A s H locs := hw9
    have iz6 : Inv z6 := by rw [ez6]; exact inv_endq iz3
    refine lv_iload S.1 S.2.1 dX4_cut_46 (lv_at hl 0 rfl) ?_
    have hp9 : pK (nI (n)) (nI (b)) on z = (0, (b2 (decide (z 9 (8 * n + b) = 1))), z6) := (by subst ez6 ez3; simp [pK, on2, hn, hb, nd_n hn, nd_n hb, tN_n hn, tN_n hb, hnb])
    exact ret_x hQ (Nat.zero_le _) (Nat.zero_le _) (en_z (v := (b2 (decide (z 9 (8 * n + b) = 1)))) ((z6, y, k) : St × St × St) rfl S hr hlk (b2_narrow _) hw (by exact ⟨by rw [hp9], by rw [hp9], by rw [hp9]⟩) dX4_cut_48)

theorem hd_X4_isUp : yX4_isUp.cls = RX4 ∧ yX4_isUp.cls ≠ "java/lang/invoke/MethodHandle" ∧ yX4_isUp.cls ≠ "java/lang/invoke/VarHandle" ∧ (parseMethodDescriptor yX4_isUp.desc).map (fun d => d.parameters.length) = some 1 := by decide +kernel
set_option maxHeartbeats 4000000 in
set_option maxRecDepth 100000 in
theorem c_X4_isUp (l : Launch) (G : GA) (a : Nat → Nat) (z : St) (y : St) (k : St) (sz : Nat) (v : Int32) (iz : Inv z) : vx_Met l yX4_isUp wsX4_isUp ({ frames := 7, cells := xc (pUp v z : PO).1, slots := 6 * xc (pUp v z : PO).1, locals := 110 }) (va_Pc [.ref (a 0), .int (v)] (PX l G (gp G a z y k) sz)) (va_Qi (fun (r : Int32) (u : St × St × St) => (pUp v z : PO).1 = 0 ∧ r = (pUp v z : PO).2.1 ∧ u = ((pUp v z : PO).2.2, y, k)) (fun (u : St × St × St) t => va_P G.1 gcl (gp G a u.1 u.2.1 u.2.2) t.heap) (va_A (gp G a z y k) sz)) (vx_X (fun (u : St × St × St) => ¬ (pUp v z : PO).1 = 0 ∧ u = ((pUp v z : PO).2.2, y, k)) (fun E u t => E = ex3 xIOE xIOE xIOE (pUp v z : PO).1 ∧ va_P G.1 gcl (gp G a u.1 u.2.1 u.2.2) t.heap) (va_A (gp G a z y k) sz)) (xc (pUp v z : PO).1) (6 * xc (pUp v z : PO).1) (va_A (gp G a z y k) sz) := by
  refine met_x (cc := cX4_isUp) (maxL := 2) (ret := (some .boolean)) (fun A => va_Qi (fun (r : Int32) (u : St × St × St) => (pUp v z : PO).1 = 0 ∧ r = (pUp v z : PO).2.1 ∧ u = ((pUp v z : PO).2.2, y, k)) (fun (u : St × St × St) t => va_P G.1 gcl (gp G a u.1 u.2.1 u.2.2) t.heap) A) (fun A => vx_X (fun (u : St × St × St) => ¬ (pUp v z : PO).1 = 0 ∧ u = ((pUp v z : PO).2.2, y, k)) (fun E u t => E = ex3 xIOE xIOE xIOE (pUp v z : PO).1 ∧ va_P G.1 gcl (gp G a u.1 u.2.1 u.2.2) t.heap) A) (by decide) rfl (Nat.le_of_ble_eq_true rfl) ?_
  intro p e s m args below meth c R Q A H ls hR hQ S hr hlk htab hK hX hsz hH hAe hA hw hl
  have hl : lv_has ls 2 [(0, .ref (a 0)), (1, .int (v))] := hl
  have LX2 : ∀ w ∈ u_ws RX2 TX2 4, w.before args s = true := fun w h => S.2.2.2.2 w ((by decide +kernel : ∀ w ∈ u_ws RX2 TX2 4, w ∈ wsX4_isUp) w h)
  have LX3 : ∀ w ∈ u_ws RX3 TX3 7, w.before args s = true := fun w h => S.2.2.2.2 w ((by decide +kernel : ∀ w ∈ u_ws RX3 TX3 7, w ∈ wsX4_isUp) w h)
  have LX4 : ∀ w ∈ u_ws RX4 TX4 6, w.before args s = true := fun w h => S.2.2.2.2 w ((by decide +kernel : ∀ w ∈ u_ws RX4 TX4 6, w ∈ wsX4_isUp) w h)
  have k1 : (Cond.fieldLink RX4 10 "GossipMembership" "world" "LGossipMembership$World;").before args s = true := S.2.2.2.2 _ (by decide +kernel : (Cond.fieldLink RX4 10 "GossipMembership" "world" "LGossipMembership$World;") ∈ wsX4_isUp)
  have k2 : (Cond.fieldLink RX4 65 "GossipMembership$World" "network" "LGossipMembership$Network;").before args s = true := S.2.2.2.2 _ (by decide +kernel : (Cond.fieldLink RX4 65 "GossipMembership$World" "network" "LGossipMembership$Network;") ∈ wsX4_isUp)
  have k3 : (Cond.fieldLink RX4 69 "GossipMembership$Network" "up" "[Z").before args s = true := S.2.2.2.2 _ (by decide +kernel : (Cond.fieldLink RX4 69 "GossipMembership$Network" "up" "[Z") ∈ wsX4_isUp)
  refine lv_iload_n S.1 S.2.1 dX4_isUp_0 rfl (lv_at hl 1 rfl) ?_
  refine cx_v (wc := []) (wr := (gp G a z y k)) (vx_runS (As := [.int (v)]) (rest := []) S (c_X4_requireNode l G H.size (v)) (va_cwS 1 S.2.2.2.2 gX4_isUp_X4_requireNode rfl rfl rfl hd_X4_requireNode ⟨by rw [hR]; exact Nat.le_of_ble_eq_true rfl, by rw [hR]; exact Nat.le_of_ble_eq_true rfl⟩) ⟨PX.blind, fun U hU hW => ⟨rfl, PX.of hK hX (hw.sub [] rfl rfl) (va_free hw.2.1 hw.2.2 hA [] rfl) hU hW⟩⟩ rfl rfl hl.1 rfl (lv_room (Nat.le_of_ble_eq_true rfl)) dX4_isUp_1 ⟨by rw [hR, Nat.zero_add]; exact xc_on1 _ _ _, by rw [hR, Nat.zero_add]; exact Nat.mul_le_mul_left 6 (xc_on1 _ _ _)⟩) hw hA [] [0, 1, 2, 3, 4, 5, 6, 7, 8, 9, 10, 11, 12, 13, 14, 15, 16, 17, 18, 19, 20, 21, 22, 23, 24, 25, 26] rfl rfl rfl rfl (by decide) (fun _ => rfl) (fun _ => rfl) (fun ce q9 u9 H locs hpx hw9 g1 g2 g3 => ?_) (fun u9 H locs hn1 hw9 => ?_)
  · skip
    have hpx : ¬ rn (v) = 0 := hpx
    have hp9 : pUp v z = (rn (v), 0, z) := (by rw [pUp, on1_no (rn_f hpx), rn_1 hpx])
    exact out_x hQ (u := ((z, y, k) : St × St × St)) (by rw [List.append_nil] at hw9; exact hw9) hlk htab g1 g2 g3 (by rw [hp9]; exact ⟨hpx, rfl⟩) (by first | (rw [hp9]; done) | (rw [hp9]; rw [rn_1 hpx]; rfl)) rfl (by rw [hp9, Nat.zero_add]; exact Nat.le_refl _) (by rw [hp9, Nat.zero_add]; exact Nat.le_refl _)
  · skip
    have hn1 : rn (v) = 0 := hn1
    have hw : WD G (gp G a z y k) A s H locs := by rw [List.append_nil] at hw9; exact hw9
    refine W.widen (k := 0) (n := 0) (by show 0 + xc (rn (v)) ≤ 0; rw [hn1]; decide) (by show 0 + 6 * xc (rn (v)) ≤ 0; rw [hn1]; decide) ?_
    have hn1b := rn_0.mp hn1
    obtain ⟨n, hn, en9⟩ := nd_of hn1b
    subst en9
    refine lv_aload_n S.1 S.2.1 dX4_isUp_4 rfl (lv_at hl 0 rfl) ?_
    refine gt_X4_0 (v := .ref (a 15)) S hK hw 0 rfl rfl LX4 k1 dX4_isUp_5 ?_
    refine gt_X3_0 (v := .ref (a 16)) S hK hw 15 rfl rfl LX3 k2 dX4_isUp_8 ?_
    refine gt_X2_0 (v := .ref (a 17)) S hK hw 16 rfl rfl LX2 k3 dX4_isUp_11 ?_
    refine lv_iload_n S.1 S.2.1 dX4_isUp_14 rfl (lv_at hl 1 rfl) ?_
    refine ald_z (f := z 1) (k := n) S hK hw 17 rfl (by omega) (by decide) (iz.1 _ (by omega)) dX4_isUp_15 ?_
    have hp9 : pUp (nI (n)) z = (0, (b2 (decide (z 1 (n) = 1))), z) := (by simp [pUp, on1, hn, nd_n hn, tN_n hn])
    exact ret_x hQ (Nat.zero_le _) (Nat.zero_le _) (en_z (v := (b2 (decide (z 1 (n) = 1)))) ((z, y, k) : St × St × St) rfl S hr hlk (b2_narrow _) hw (by exact ⟨by rw [hp9], by rw [hp9], by rw [hp9]⟩) dX4_isUp_16)

theorem hd_X4_partition : yX4_partition.cls = RX4 ∧ yX4_partition.cls ≠ "java/lang/invoke/MethodHandle" ∧ yX4_partition.cls ≠ "java/lang/invoke/VarHandle" ∧ (parseMethodDescriptor yX4_partition.desc).map (fun d => d.parameters.length) = some 1 := by decide +kernel
set_option maxHeartbeats 4000000 in
set_option maxRecDepth 100000 in
theorem c_X4_partition (l : Launch) (G : GA) (a : Nat → Nat) (z : St) (y : St) (k : St) (sz : Nat) (v : Int32) (iz : Inv z) : vx_Met l yX4_partition wsX4_partition ({ frames := 7, cells := xc (pA1 3 v z : PO).1, slots := 6 * xc (pA1 3 v z : PO).1, locals := 110 }) (va_Pc [.ref (a 0), .int (v)] (PX l G (gp G a z y k) sz)) (va_Qi (fun (r : Int32) (u : St × St × St) => (pA1 3 v z : PO).1 = 0 ∧ r = (pA1 3 v z : PO).2.1 ∧ u = ((pA1 3 v z : PO).2.2, y, k)) (fun (u : St × St × St) t => va_P G.1 gcl (gp G a u.1 u.2.1 u.2.2) t.heap) (va_A (gp G a z y k) sz)) (vx_X (fun (u : St × St × St) => ¬ (pA1 3 v z : PO).1 = 0 ∧ u = ((pA1 3 v z : PO).2.2, y, k)) (fun E u t => E = ex3 xIOE xIOE xIOE (pA1 3 v z : PO).1 ∧ va_P G.1 gcl (gp G a u.1 u.2.1 u.2.2) t.heap) (va_A (gp G a z y k) sz)) (xc (pA1 3 v z : PO).1) (6 * xc (pA1 3 v z : PO).1) (va_A (gp G a z y k) sz) := by
  refine met_x (cc := cX4_partition) (maxL := 2) (ret := (some .int)) (fun A => va_Qi (fun (r : Int32) (u : St × St × St) => (pA1 3 v z : PO).1 = 0 ∧ r = (pA1 3 v z : PO).2.1 ∧ u = ((pA1 3 v z : PO).2.2, y, k)) (fun (u : St × St × St) t => va_P G.1 gcl (gp G a u.1 u.2.1 u.2.2) t.heap) A) (fun A => vx_X (fun (u : St × St × St) => ¬ (pA1 3 v z : PO).1 = 0 ∧ u = ((pA1 3 v z : PO).2.2, y, k)) (fun E u t => E = ex3 xIOE xIOE xIOE (pA1 3 v z : PO).1 ∧ va_P G.1 gcl (gp G a u.1 u.2.1 u.2.2) t.heap) A) (by decide) rfl (Nat.le_of_ble_eq_true rfl) ?_
  intro p e s m args below meth c R Q A H ls hR hQ S hr hlk htab hK hX hsz hH hAe hA hw hl
  have hl : lv_has ls 2 [(0, .ref (a 0)), (1, .int (v))] := hl
  have LX2 : ∀ w ∈ u_ws RX2 TX2 4, w.before args s = true := fun w h => S.2.2.2.2 w ((by decide +kernel : ∀ w ∈ u_ws RX2 TX2 4, w ∈ wsX4_partition) w h)
  have LX3 : ∀ w ∈ u_ws RX3 TX3 7, w.before args s = true := fun w h => S.2.2.2.2 w ((by decide +kernel : ∀ w ∈ u_ws RX3 TX3 7, w ∈ wsX4_partition) w h)
  have LX4 : ∀ w ∈ u_ws RX4 TX4 6, w.before args s = true := fun w h => S.2.2.2.2 w ((by decide +kernel : ∀ w ∈ u_ws RX4 TX4 6, w ∈ wsX4_partition) w h)
  have k1 : (Cond.fieldLink RX4 10 "GossipMembership" "world" "LGossipMembership$World;").before args s = true := S.2.2.2.2 _ (by decide +kernel : (Cond.fieldLink RX4 10 "GossipMembership" "world" "LGossipMembership$World;") ∈ wsX4_partition)
  have k2 : (Cond.fieldLink RX4 65 "GossipMembership$World" "network" "LGossipMembership$Network;").before args s = true := S.2.2.2.2 _ (by decide +kernel : (Cond.fieldLink RX4 65 "GossipMembership$World" "network" "LGossipMembership$Network;") ∈ wsX4_partition)
  have k3 : (Cond.fieldLink RX4 105 "GossipMembership$Network" "place" "[I").before args s = true := S.2.2.2.2 _ (by decide +kernel : (Cond.fieldLink RX4 105 "GossipMembership$Network" "place" "[I") ∈ wsX4_partition)
  refine lv_iload_n S.1 S.2.1 dX4_partition_0 rfl (lv_at hl 1 rfl) ?_
  refine cx_v (wc := []) (wr := (gp G a z y k)) (vx_runS (As := [.int (v)]) (rest := []) S (c_X4_requireNode l G H.size (v)) (va_cwS 1 S.2.2.2.2 gX4_partition_X4_requireNode rfl rfl rfl hd_X4_requireNode ⟨by rw [hR]; exact Nat.le_of_ble_eq_true rfl, by rw [hR]; exact Nat.le_of_ble_eq_true rfl⟩) ⟨PX.blind, fun U hU hW => ⟨rfl, PX.of hK hX (hw.sub [] rfl rfl) (va_free hw.2.1 hw.2.2 hA [] rfl) hU hW⟩⟩ rfl rfl hl.1 rfl (lv_room (Nat.le_of_ble_eq_true rfl)) dX4_partition_1 ⟨by rw [hR, Nat.zero_add]; exact xc_on1 _ _ _, by rw [hR, Nat.zero_add]; exact Nat.mul_le_mul_left 6 (xc_on1 _ _ _)⟩) hw hA [] [0, 1, 2, 3, 4, 5, 6, 7, 8, 9, 10, 11, 12, 13, 14, 15, 16, 17, 18, 19, 20, 21, 22, 23, 24, 25, 26] rfl rfl rfl rfl (by decide) (fun _ => rfl) (fun _ => rfl) (fun ce q9 u9 H locs hpx hw9 g1 g2 g3 => ?_) (fun u9 H locs hn1 hw9 => ?_)
  · skip
    have hpx : ¬ rn (v) = 0 := hpx
    have hp9 : pA1 3 v z = (rn (v), 0, z) := (by rw [pA1, on1_no (rn_f hpx), rn_1 hpx])
    exact out_x hQ (u := ((z, y, k) : St × St × St)) (by rw [List.append_nil] at hw9; exact hw9) hlk htab g1 g2 g3 (by rw [hp9]; exact ⟨hpx, rfl⟩) (by first | (rw [hp9]; done) | (rw [hp9]; rw [rn_1 hpx]; rfl)) rfl (by rw [hp9, Nat.zero_add]; exact Nat.le_refl _) (by rw [hp9, Nat.zero_add]; exact Nat.le_refl _)
  · skip
    have hn1 : rn (v) = 0 := hn1
    have hw : WD G (gp G a z y k) A s H locs := by rw [List.append_nil] at hw9; exact hw9
    refine W.widen (k := 0) (n := 0) (by show 0 + xc (rn (v)) ≤ 0; rw [hn1]; decide) (by show 0 + 6 * xc (rn (v)) ≤ 0; rw [hn1]; decide) ?_
    have hn1b := rn_0.mp hn1
    obtain ⟨n, hn, en9⟩ := nd_of hn1b
    subst en9
    refine lv_aload_n S.1 S.2.1 dX4_partition_4 rfl (lv_at hl 0 rfl) ?_
    refine gt_X4_0 (v := .ref (a 15)) S hK hw 0 rfl rfl LX4 k1 dX4_partition_5 ?_
    refine gt_X3_0 (v := .ref (a 16)) S hK hw 15 rfl rfl LX3 k2 dX4_partition_8 ?_
    refine gt_X2_2 (v := .ref (a 19)) S hK hw 16 rfl rfl LX2 k3 dX4_partition_11 ?_
    refine lv_iload_n S.1 S.2.1 dX4_partition_14 rfl (lv_at hl 1 rfl) ?_
    refine ald_i (v := z 3 (n)) (k := n) S hK hw 19 rfl (by omega) (by decide) rfl dX4_partition_15 ?_
    have hp9 : pA1 3 (nI (n)) z = (0, (z 3 (n)), z) := (by simp [pA1, on1, hn, nd_n hn, tN_n hn])
    exact ret_x hQ (Nat.zero_le _) (Nat.zero_le _) (en_i (v := (z 3 (n))) ((z, y, k) : St × St × St) rfl S hr hlk hw (by exact ⟨by rw [hp9], by rw [hp9], by rw [hp9]⟩) dX4_partition_16)

theorem hd_X4_incarnation : yX4_incarnation.cls = RX4 ∧ yX4_incarnation.cls ≠ "java/lang/invoke/MethodHandle" ∧ yX4_incarnation.cls ≠ "java/lang/invoke/VarHandle" ∧ (parseMethodDescriptor yX4_incarnation.desc).map (fun d => d.parameters.length) = some 1 := by decide +kernel
set_option maxHeartbeats 4000000 in
set_option maxRecDepth 100000 in
theorem c_X4_incarnation (l : Launch) (G : GA) (a : Nat → Nat) (z : St) (y : St) (k : St) (sz : Nat) (v : Int32) (iz : Inv z) : vx_Met l yX4_incarnation wsX4_incarnation ({ frames := 7, cells := xc (pA1 4 v z : PO).1, slots := 6 * xc (pA1 4 v z : PO).1, locals := 110 }) (va_Pc [.ref (a 0), .int (v)] (PX l G (gp G a z y k) sz)) (va_Qi (fun (r : Int32) (u : St × St × St) => (pA1 4 v z : PO).1 = 0 ∧ r = (pA1 4 v z : PO).2.1 ∧ u = ((pA1 4 v z : PO).2.2, y, k)) (fun (u : St × St × St) t => va_P G.1 gcl (gp G a u.1 u.2.1 u.2.2) t.heap) (va_A (gp G a z y k) sz)) (vx_X (fun (u : St × St × St) => ¬ (pA1 4 v z : PO).1 = 0 ∧ u = ((pA1 4 v z : PO).2.2, y, k)) (fun E u t => E = ex3 xIOE xIOE xIOE (pA1 4 v z : PO).1 ∧ va_P G.1 gcl (gp G a u.1 u.2.1 u.2.2) t.heap) (va_A (gp G a z y k) sz)) (xc (pA1 4 v z : PO).1) (6 * xc (pA1 4 v z : PO).1) (va_A (gp G a z y k) sz) := by
  refine met_x (cc := cX4_incarnation) (maxL := 2) (ret := (some .int)) (fun A => va_Qi (fun (r : Int32) (u : St × St × St) => (pA1 4 v z : PO).1 = 0 ∧ r = (pA1 4 v z : PO).2.1 ∧ u = ((pA1 4 v z : PO).2.2, y, k)) (fun (u : St × St × St) t => va_P G.1 gcl (gp G a u.1 u.2.1 u.2.2) t.heap) A) (fun A => vx_X (fun (u : St × St × St) => ¬ (pA1 4 v z : PO).1 = 0 ∧ u = ((pA1 4 v z : PO).2.2, y, k)) (fun E u t => E = ex3 xIOE xIOE xIOE (pA1 4 v z : PO).1 ∧ va_P G.1 gcl (gp G a u.1 u.2.1 u.2.2) t.heap) A) (by decide) rfl (Nat.le_of_ble_eq_true rfl) ?_
  intro p e s m args below meth c R Q A H ls hR hQ S hr hlk htab hK hX hsz hH hAe hA hw hl
  have hl : lv_has ls 2 [(0, .ref (a 0)), (1, .int (v))] := hl
  have LX1 : ∀ w ∈ u_ws RX1 TX1 10, w.before args s = true := fun w h => S.2.2.2.2 w ((by decide +kernel : ∀ w ∈ u_ws RX1 TX1 10, w ∈ wsX4_incarnation) w h)
  have LX3 : ∀ w ∈ u_ws RX3 TX3 7, w.before args s = true := fun w h => S.2.2.2.2 w ((by decide +kernel : ∀ w ∈ u_ws RX3 TX3 7, w ∈ wsX4_incarnation) w h)
  have LX4 : ∀ w ∈ u_ws RX4 TX4 6, w.before args s = true := fun w h => S.2.2.2.2 w ((by decide +kernel : ∀ w ∈ u_ws RX4 TX4 6, w ∈ wsX4_incarnation) w h)
  have k1 : (Cond.fieldLink RX4 10 "GossipMembership" "world" "LGossipMembership$World;").before args s = true := S.2.2.2.2 _ (by decide +kernel : (Cond.fieldLink RX4 10 "GossipMembership" "world" "LGossipMembership$World;") ∈ wsX4_incarnation)
  have k2 : (Cond.fieldLink RX4 37 "GossipMembership$World" "knowledge" "LGossipMembership$Knowledge;").before args s = true := S.2.2.2.2 _ (by decide +kernel : (Cond.fieldLink RX4 37 "GossipMembership$World" "knowledge" "LGossipMembership$Knowledge;") ∈ wsX4_incarnation)
  have k3 : (Cond.fieldLink RX4 93 "GossipMembership$Knowledge" "ownIncarnation" "[I").before args s = true := S.2.2.2.2 _ (by decide +kernel : (Cond.fieldLink RX4 93 "GossipMembership$Knowledge" "ownIncarnation" "[I") ∈ wsX4_incarnation)
  refine lv_iload_n S.1 S.2.1 dX4_incarnation_0 rfl (lv_at hl 1 rfl) ?_
  refine cx_v (wc := []) (wr := (gp G a z y k)) (vx_runS (As := [.int (v)]) (rest := []) S (c_X4_requireNode l G H.size (v)) (va_cwS 1 S.2.2.2.2 gX4_incarnation_X4_requireNode rfl rfl rfl hd_X4_requireNode ⟨by rw [hR]; exact Nat.le_of_ble_eq_true rfl, by rw [hR]; exact Nat.le_of_ble_eq_true rfl⟩) ⟨PX.blind, fun U hU hW => ⟨rfl, PX.of hK hX (hw.sub [] rfl rfl) (va_free hw.2.1 hw.2.2 hA [] rfl) hU hW⟩⟩ rfl rfl hl.1 rfl (lv_room (Nat.le_of_ble_eq_true rfl)) dX4_incarnation_1 ⟨by rw [hR, Nat.zero_add]; exact xc_on1 _ _ _, by rw [hR, Nat.zero_add]; exact Nat.mul_le_mul_left 6 (xc_on1 _ _ _)⟩) hw hA [] [0, 1, 2, 3, 4, 5, 6, 7, 8, 9, 10, 11, 12, 13, 14, 15, 16, 17, 18, 19, 20, 21, 22, 23, 24, 25, 26] rfl rfl rfl rfl (by decide) (fun _ => rfl) (fun _ => rfl) (fun ce q9 u9 H locs hpx hw9 g1 g2 g3 => ?_) (fun u9 H locs hn1 hw9 => ?_)
  · skip
    have hpx : ¬ rn (v) = 0 := hpx
    have hp9 : pA1 4 v z = (rn (v), 0, z) := (by rw [pA1, on1_no (rn_f hpx), rn_1 hpx])
    exact out_x hQ (u := ((z, y, k) : St × St × St)) (by rw [List.append_nil] at hw9; exact hw9) hlk htab g1 g2 g3 (by rw [hp9]; exact ⟨hpx, rfl⟩) (by first | (rw [hp9]; done) | (rw [hp9]; rw [rn_1 hpx]; rfl)) rfl (by rw [hp9, Nat.zero_add]; exact Nat.le_refl _) (by rw [hp9, Nat.zero_add]; exact Nat.le_refl _)
  · skip
    have hn1 : rn (v) = 0 := hn1
    have hw : WD G (gp G a z y k) A s H locs := by rw [List.append_nil] at hw9; exact hw9
    refine W.widen (k := 0) (n := 0) (by show 0 + xc (rn (v)) ≤ 0; rw [hn1]; decide) (by show 0 + 6 * xc (rn (v)) ≤ 0; rw [hn1]; decide) ?_
    have hn1b := rn_0.mp hn1
    obtain ⟨n, hn, en9⟩ := nd_of hn1b
    subst en9
    refine lv_aload_n S.1 S.2.1 dX4_incarnation_4 rfl (lv_at hl 0 rfl) ?_
    refine gt_X4_0 (v := .ref (a 15)) S hK hw 0 rfl rfl LX4 k1 dX4_incarnation_5 ?_
    refine gt_X3_1 (v := .ref (a 21)) S hK hw 15 rfl rfl LX3 k2 dX4_incarnation_8 ?_
    refine gt_X1_0 (v := .ref (a 22)) S hK hw 21 rfl rfl LX1 k3 dX4_incarnation_11 ?_
    refine lv_iload_n S.1 S.2.1 dX4_incarnation_14 rfl (lv_at hl 1 rfl) ?_
    refine ald_i (v := z 4 (n)) (k := n) S hK hw 22 rfl (by omega) (by decide) rfl dX4_incarnation_15 ?_
    have hp9 : pA1 4 (nI (n)) z = (0, (z 4 (n)), z) := (by simp [pA1, on1, hn, nd_n hn, tN_n hn])
    exact ret_x hQ (Nat.zero_le _) (Nat.zero_le _) (en_i (v := (z 4 (n))) ((z, y, k) : St × St × St) rfl S hr hlk hw (by exact ⟨by rw [hp9], by rw [hp9], by rw [hp9]⟩) dX4_incarnation_16)

theorem hd_X4_alive : yX4_alive.cls = RX4 ∧ yX4_alive.cls ≠ "java/lang/invoke/MethodHandle" ∧ yX4_alive.cls ≠ "java/lang/invoke/VarHandle" ∧ (parseMethodDescriptor yX4_alive.desc).map (fun d => d.parameters.length) = some 1 := by decide +kernel
set_option maxHeartbeats 4000000 in
set_option maxRecDepth 100000 in
theorem c_X4_alive (l : Launch) (G : GA) (a : Nat → Nat) (z : St) (y : St) (k : St) (sz : Nat) (v : Int32) (iz : Inv z) : vx_Met l yX4_alive wsX4_alive ({ frames := 7, cells := xc (pAl v z : PO).1, slots := 6 * xc (pAl v z : PO).1, locals := 110 }) (va_Pc [.ref (a 0), .int (v)] (PX l G (gp G a z y k) sz)) (va_Qi (fun (r : Int32) (u : St × St × St) => (pAl v z : PO).1 = 0 ∧ r = (pAl v z : PO).2.1 ∧ u = ((pAl v z : PO).2.2, y, k)) (fun (u : St × St × St) t => va_P G.1 gcl (gp G a u.1 u.2.1 u.2.2) t.heap) (va_A (gp G a z y k) sz)) (vx_X (fun (u : St × St × St) => ¬ (pAl v z : PO).1 = 0 ∧ u = ((pAl v z : PO).2.2, y, k)) (fun E u t => E = ex3 xIOE xIOE xIOE (pAl v z : PO).1 ∧ va_P G.1 gcl (gp G a u.1 u.2.1 u.2.2) t.heap) (va_A (gp G a z y k) sz)) (xc (pAl v z : PO).1) (6 * xc (pAl v z : PO).1) (va_A (gp G a z y k) sz) := by
  refine met_x (cc := cX4_alive) (maxL := 2) (ret := (some .int)) (fun A => va_Qi (fun (r : Int32) (u : St × St × St) => (pAl v z : PO).1 = 0 ∧ r = (pAl v z : PO).2.1 ∧ u = ((pAl v z : PO).2.2, y, k)) (fun (u : St × St × St) t => va_P G.1 gcl (gp G a u.1 u.2.1 u.2.2) t.heap) A) (fun A => vx_X (fun (u : St × St × St) => ¬ (pAl v z : PO).1 = 0 ∧ u = ((pAl v z : PO).2.2, y, k)) (fun E u t => E = ex3 xIOE xIOE xIOE (pAl v z : PO).1 ∧ va_P G.1 gcl (gp G a u.1 u.2.1 u.2.2) t.heap) A) (by decide) rfl (Nat.le_of_ble_eq_true rfl) ?_
  intro p e s m args below meth c R Q A H ls hR hQ S hr hlk htab hK hX hsz hH hAe hA hw hl
  have hl : lv_has ls 2 [(0, .ref (a 0)), (1, .int (v))] := hl
  have LX3 : ∀ w ∈ u_ws RX3 TX3 7, w.before args s = true := fun w h => S.2.2.2.2 w ((by decide +kernel : ∀ w ∈ u_ws RX3 TX3 7, w ∈ wsX4_alive) w h)
  have LX4 : ∀ w ∈ u_ws RX4 TX4 6, w.before args s = true := fun w h => S.2.2.2.2 w ((by decide +kernel : ∀ w ∈ u_ws RX4 TX4 6, w ∈ wsX4_alive) w h)
  have k1 : (Cond.fieldLink RX4 10 "GossipMembership" "world" "LGossipMembership$World;").before args s = true := S.2.2.2.2 _ (by decide +kernel : (Cond.fieldLink RX4 10 "GossipMembership" "world" "LGossipMembership$World;") ∈ wsX4_alive)
  have k2 : (Cond.fieldLink RX4 37 "GossipMembership$World" "knowledge" "LGossipMembership$Knowledge;").before args s = true := S.2.2.2.2 _ (by decide +kernel : (Cond.fieldLink RX4 37 "GossipMembership$World" "knowledge" "LGossipMembership$Knowledge;") ∈ wsX4_alive)
  refine lv_iload_n S.1 S.2.1 dX4_alive_0 rfl (lv_at hl 1 rfl) ?_
  refine cx_v (wc := []) (wr := (gp G a z y k)) (vx_runS (As := [.int (v)]) (rest := []) S (c_X4_requireNode l G H.size (v)) (va_cwS 1 S.2.2.2.2 gX4_alive_X4_requireNode rfl rfl rfl hd_X4_requireNode ⟨by rw [hR]; exact Nat.le_of_ble_eq_true rfl, by rw [hR]; exact Nat.le_of_ble_eq_true rfl⟩) ⟨PX.blind, fun U hU hW => ⟨rfl, PX.of hK hX (hw.sub [] rfl rfl) (va_free hw.2.1 hw.2.2 hA [] rfl) hU hW⟩⟩ rfl rfl hl.1 rfl (lv_room (Nat.le_of_ble_eq_true rfl)) dX4_alive_1 ⟨by rw [hR, Nat.zero_add]; exact xc_on1 _ _ _, by rw [hR, Nat.zero_add]; exact Nat.mul_le_mul_left 6 (xc_on1 _ _ _)⟩) hw hA [] [0, 1, 2, 3, 4, 5, 6, 7, 8, 9, 10, 11, 12, 13, 14, 15, 16, 17, 18, 19, 20, 21, 22, 23, 24, 25, 26] rfl rfl rfl rfl (by decide) (fun _ => rfl) (fun _ => rfl) (fun ce q9 u9 H locs hpx hw9 g1 g2 g3 => ?_) (fun u9 H locs hn1 hw9 => ?_)
  · skip
    have hpx : ¬ rn (v) = 0 := hpx
    have hp9 : pAl v z = (rn (v), 0, z) := (by rw [pAl, on1_no (rn_f hpx), rn_1 hpx])
    exact out_x hQ (u := ((z, y, k) : St × St × St)) (by rw [List.append_nil] at hw9; exact hw9) hlk htab g1 g2 g3 (by rw [hp9]; exact ⟨hpx, rfl⟩) (by first | (rw [hp9]; done) | (rw [hp9]; rw [rn_1 hpx]; rfl)) rfl (by rw [hp9, Nat.zero_add]; exact Nat.le_refl _) (by rw [hp9, Nat.zero_add]; exact Nat.le_refl _)
  · skip
    have hn1 : rn (v) = 0 := hn1
    have hw : WD G (gp G a z y k) A s H locs := by rw [List.append_nil] at hw9; exact hw9
    refine W.widen (k := 0) (n := 0) (by show 0 + xc (rn (v)) ≤ 0; rw [hn1]; decide) (by show 0 + 6 * xc (rn (v)) ≤ 0; rw [hn1]; decide) ?_
    have hn1b := rn_0.mp hn1
    obtain ⟨n, hn, en9⟩ := nd_of hn1b
    subst en9
    refine lv_aload_n S.1 S.2.1 dX4_alive_4 rfl (lv_at hl 0 rfl) ?_
    refine gt_X4_0 (v := .ref (a 15)) S hK hw 0 rfl rfl LX4 k1 dX4_alive_5 ?_
    refine gt_X3_1 (v := .ref (a 21)) S hK hw 15 rfl rfl LX3 k2 dX4_alive_8 ?_
    refine lv_iload_n S.1 S.2.1 dX4_alive_11 rfl (lv_at hl 1 rfl) ?_
    refine lv_iconst (v := 1) S.1 S.2.1 dX4_alive_12 (by decide) ?_
    have hwc : WD G (wp G (fun i => a (15 + i)) z) A s H _ := hw.sub [15, 16, 17, 18, 19, 20, 21, 22, 23, 24, 25, 26] rfl rfl
    refine cj_i (wc := (wp G (fun i => a (15 + i)) z)) (wr := (gpr G a y k)) (va_runV (As := [.int (nI (n)), .int 1]) (rest := []) S (c_X1_nodesInState l G (fun i => a (15 + i)) z H.size (n) (1) (by omega)) (cwV 2 S.2.2.2.2 gX4_alive_X1_nodesInState rfl rfl rfl hd_X1_nodesInState ⟨by rw [hR]; exact Nat.le_of_ble_eq_true rfl, by rw [hR]; exact Nat.le_of_ble_eq_true rfl⟩) ⟨PW.blind, va_recv hK.1 hwc.1 (ci := 1) (q0 := 6) rfl rfl, fun U hU hW => ⟨rfl, PW.of hK hwc hU hW⟩⟩ rfl rfl hl.1 rfl (lv_room (Nat.le_of_ble_eq_true rfl)) dX4_alive_13 ⟨Nat.zero_le _, Nat.zero_le _⟩) hw hA [15, 16, 17, 18, 19, 20, 21, 22, 23, 24, 25, 26] [0, 1, 2, 3, 4, 5, 6, 7, 8, 9, 10, 11, 12, 13, 14] rfl rfl rfl rfl (by decide) (fun _ => rfl) (fun r2 z3 H locs h4 hw9 => ?_)
    obtain ⟨rfl, qz3⟩ := h4
    rw [qz3] at hw9
    have hw : WD G (gp G a z y k) A s H locs := hw9
    have hp9 : pAl (nI (n)) z = (0, (nI (mk (nst z (n) (1)) 8)), z) := (by simp [pAl, on1, hn, nd_n hn, tN_n hn])
    exact ret_x hQ (Nat.zero_le _) (Nat.zero_le _) (en_i (v := (nI (mk (nst z (n) (1)) 8))) ((z, y, k) : St × St × St) rfl S hr hlk hw (by exact ⟨by rw [hp9], by rw [hp9], by rw [hp9]⟩) dX4_alive_16)

theorem hd_X4_reaches : yX4_reaches.cls = RX4 ∧ yX4_reaches.cls ≠ "java/lang/invoke/MethodHandle" ∧ yX4_reaches.cls ≠ "java/lang/invoke/VarHandle" ∧ (parseMethodDescriptor yX4_reaches.desc).map (fun d => d.parameters.length) = some 2 := by decide +kernel
set_option maxHeartbeats 4000000 in
set_option maxRecDepth 100000 in
theorem c_X4_reaches (l : Launch) (G : GA) (a : Nat → Nat) (z : St) (y : St) (k : St) (sz : Nat) (v : Int32) (w : Int32) (iz : Inv z) : vx_Met l yX4_reaches wsX4_reaches ({ frames := 7, cells := xc (pRe v w z : PO).1, slots := 6 * xc (pRe v w z : PO).1, locals := 110 }) (va_Pc [.ref (a 0), .int (v), .int (w)] (PX l G (gp G a z y k) sz)) (va_Qi (fun (r : Int32) (u : St × St × St) => (pRe v w z : PO).1 = 0 ∧ r = (pRe v w z : PO).2.1 ∧ u = ((pRe v w z : PO).2.2, y, k)) (fun (u : St × St × St) t => va_P G.1 gcl (gp G a u.1 u.2.1 u.2.2) t.heap) (va_A (gp G a z y k) sz)) (vx_X (fun (u : St × St × St) => ¬ (pRe v w z : PO).1 = 0 ∧ u = ((pRe v w z : PO).2.2, y, k)) (fun E u t => E = ex3 xIOE xIOE xIOE (pRe v w z : PO).1 ∧ va_P G.1 gcl (gp G a u.1 u.2.1 u.2.2) t.heap) (va_A (gp G a z y k) sz)) (xc (pRe v w z : PO).1) (6 * xc (pRe v w z : PO).1) (va_A (gp G a z y k) sz) := by
  refine met_x (cc := cX4_reaches) (maxL := 3) (ret := (some .boolean)) (fun A => va_Qi (fun (r : Int32) (u : St × St × St) => (pRe v w z : PO).1 = 0 ∧ r = (pRe v w z : PO).2.1 ∧ u = ((pRe v w z : PO).2.2, y, k)) (fun (u : St × St × St) t => va_P G.1 gcl (gp G a u.1 u.2.1 u.2.2) t.heap) A) (fun A => vx_X (fun (u : St × St × St) => ¬ (pRe v w z : PO).1 = 0 ∧ u = ((pRe v w z : PO).2.2, y, k)) (fun E u t => E = ex3 xIOE xIOE xIOE (pRe v w z : PO).1 ∧ va_P G.1 gcl (gp G a u.1 u.2.1 u.2.2) t.heap) A) (by decide) rfl (Nat.le_of_ble_eq_true rfl) ?_
  intro p e s m args below meth c R Q A H ls hR hQ S hr hlk htab hK hX hsz hH hAe hA hw hl
  have hl : lv_has ls 3 [(0, .ref (a 0)), (1, .int (v)), (2, .int (w))] := hl
  have LX3 : ∀ w ∈ u_ws RX3 TX3 7, w.before args s = true := fun w h => S.2.2.2.2 w ((by decide +kernel : ∀ w ∈ u_ws RX3 TX3 7, w ∈ wsX4_reaches) w h)
  have LX4 : ∀ w ∈ u_ws RX4 TX4 6, w.before args s = true := fun w h => S.2.2.2.2 w ((by decide +kernel : ∀ w ∈ u_ws RX4 TX4 6, w ∈ wsX4_reaches) w h)
  have k1 : (Cond.fieldLink RX4 10 "GossipMembership" "world" "LGossipMembership$World;").before args s = true := S.2.2.2.2 _ (by decide +kernel : (Cond.fieldLink RX4 10 "GossipMembership" "world" "LGossipMembership$World;") ∈ wsX4_reaches)
  have k2 : (Cond.fieldLink RX4 65 "GossipMembership$World" "network" "LGossipMembership$Network;").before args s = true := S.2.2.2.2 _ (by decide +kernel : (Cond.fieldLink RX4 65 "GossipMembership$World" "network" "LGossipMembership$Network;") ∈ wsX4_reaches)
  refine lv_iload_n S.1 S.2.1 dX4_reaches_0 rfl (lv_at hl 1 rfl) ?_
  refine cx_v (wc := []) (wr := (gp G a z y k)) (vx_runS (As := [.int (v)]) (rest := []) S (c_X4_requireNode l G H.size (v)) (va_cwS 1 S.2.2.2.2 gX4_reaches_X4_requireNode rfl rfl rfl hd_X4_requireNode ⟨by rw [hR]; exact Nat.le_of_ble_eq_true rfl, by rw [hR]; exact Nat.le_of_ble_eq_true rfl⟩) ⟨PX.blind, fun U hU hW => ⟨rfl, PX.of hK hX (hw.sub [] rfl rfl) (va_free hw.2.1 hw.2.2 hA [] rfl) hU hW⟩⟩ rfl rfl hl.1 rfl (lv_room (Nat.le_of_ble_eq_true rfl)) dX4_reaches_1 ⟨by rw [hR, Nat.zero_add]; exact xc_on2 _ _ _ _, by rw [hR, Nat.zero_add]; exact Nat.mul_le_mul_left 6 (xc_on2 _ _ _ _)⟩) hw hA [] [0, 1, 2, 3, 4, 5, 6, 7, 8, 9, 10, 11, 12, 13, 14, 15, 16, 17, 18, 19, 20, 21, 22, 23, 24, 25, 26] rfl rfl rfl rfl (by decide) (fun _ => rfl) (fun _ => rfl) (fun ce q9 u9 H locs hpx hw9 g1 g2 g3 => ?_) (fun u9 H locs hn1 hw9 => ?_)
  · skip
    have hpx : ¬ rn (v) = 0 := hpx
    have hp9 : pRe v w z = (rn (v), 0, z) := (by rw [pRe, on2_no1 (rn_f hpx), rn_1 hpx])
    exact out_x hQ (u := ((z, y, k) : St × St × St)) (by rw [List.append_nil] at hw9; exact hw9) hlk htab g1 g2 g3 (by rw [hp9]; exact ⟨hpx, rfl⟩) (by first | (rw [hp9]; done) | (rw [hp9]; rw [rn_1 hpx]; rfl)) rfl (by rw [hp9, Nat.zero_add]; exact Nat.le_refl _) (by rw [hp9, Nat.zero_add]; exact Nat.le_refl _)
  · skip
    have hn1 : rn (v) = 0 := hn1
    have hw : WD G (gp G a z y k) A s H locs := by rw [List.append_nil] at hw9; exact hw9
    refine W.widen (k := 0) (n := 0) (by show 0 + xc (rn (v)) ≤ 0; rw [hn1]; decide) (by show 0 + 6 * xc (rn (v)) ≤ 0; rw [hn1]; decide) ?_
    have hn1b := rn_0.mp hn1
    obtain ⟨n, hn, en9⟩ := nd_of hn1b
    subst en9
    refine lv_iload_n S.1 S.2.1 dX4_reaches_4 rfl (lv_at hl 2 rfl) ?_
    refine cx_v (wc := []) (wr := (gp G a z y k)) (vx_runS (As := [.int (w)]) (rest := []) S (c_X4_requireNode l G H.size (w)) (va_cwS 1 S.2.2.2.2 gX4_reaches_X4_requireNode rfl rfl rfl hd_X4_requireNode ⟨by rw [hR]; exact Nat.le_of_ble_eq_true rfl, by rw [hR]; exact Nat.le_of_ble_eq_true rfl⟩) ⟨PX.blind, fun U hU hW => ⟨rfl, PX.of hK hX (hw.sub [] rfl rfl) (va_free hw.2.1 hw.2.2 hA [] rfl) hU hW⟩⟩ rfl rfl hl.1 rfl (lv_room (Nat.le_of_ble_eq_true rfl)) dX4_reaches_5 ⟨by rw [hR, Nat.zero_add]; exact xc_on2b _ _ _ _, by rw [hR, Nat.zero_add]; exact Nat.mul_le_mul_left 6 (xc_on2b _ _ _ _)⟩) hw hA [] [0, 1, 2, 3, 4, 5, 6, 7, 8, 9, 10, 11, 12, 13, 14, 15, 16, 17, 18, 19, 20, 21, 22, 23, 24, 25, 26] rfl rfl rfl rfl (by decide) (fun _ => rfl) (fun _ => rfl) (fun ce q9 u9 H locs hpx hw9 g1 g2 g3 => ?_) (fun u9 H locs hn2 hw9 => ?_)
    · skip
      have hpx : ¬ rn (w) = 0 := hpx
      have hp9 : pRe (nI (n)) w z = (rn (w), 0, z) := (by rw [pRe, on2_no2 (rn_f hpx), rn_1 hpx])
      exact out_x hQ (u := ((z, y, k) : St × St × St)) (by rw [List.append_nil] at hw9; exact hw9) hlk htab g1 g2 g3 (by rw [hp9]; exact ⟨hpx, rfl⟩) (by first | (rw [hp9]; done) | (rw [hp9]; rw [rn_1 hpx]; rfl)) rfl (by rw [hp9, Nat.zero_add]; exact Nat.le_refl _) (by rw [hp9, Nat.zero_add]; exact Nat.le_refl _)
    · skip
      have hn2 : rn (w) = 0 := hn2
      have hw : WD G (gp G a z y k) A s H locs := by rw [List.append_nil] at hw9; exact hw9
      refine W.widen (k := 0) (n := 0) (by show 0 + xc (rn (w)) ≤ 0; rw [hn2]; decide) (by show 0 + 6 * xc (rn (w)) ≤ 0; rw [hn2]; decide) ?_
      have hn2b := rn_0.mp hn2
      obtain ⟨b, hb, eb9⟩ := nd_of hn2b
      subst eb9
      refine lv_aload_n S.1 S.2.1 dX4_reaches_8 rfl (lv_at hl 0 rfl) ?_
      refine gt_X4_0 (v := .ref (a 15)) S hK hw 0 rfl rfl LX4 k1 dX4_reaches_9 ?_
      refine gt_X3_0 (v := .ref (a 16)) S hK hw 15 rfl rfl LX3 k2 dX4_reaches_12 ?_
      refine lv_iload_n S.1 S.2.1 dX4_reaches_15 rfl (lv_at hl 1 rfl) ?_
      refine lv_iload_n S.1 S.2.1 dX4_reaches_16 rfl (lv_at hl 2 rfl) ?_
      have hwc : WD G (wp G (fun i => a (15 + i)) z) A s H _ := hw.sub [15, 16, 17, 18, 19, 20, 21, 22, 23, 24, 25, 26] rfl rfl
      refine cj_i (wc := (wp G (fun i => a (15 + i)) z)) (wr := (gpr G a y k)) (va_runV (As := [.int (nI (n)), .int (nI (b))]) (rest := []) S (c_X2_connects l G (fun i => a (15 + i)) z H.size (n) (b) (by omega) (by omega) (by exact iz)) (cwV 2 S.2.2.2.2 gX4_reaches_X2_connects rfl rfl rfl hd_X2_connects ⟨by rw [hR]; exact Nat.le_of_ble_eq_true rfl, by rw [hR]; exact Nat.le_of_ble_eq_true rfl⟩) ⟨PW.blind, va_recv hK.1 hwc.1 (ci := 2) (q0 := 1) rfl rfl, fun U hU hW => ⟨rfl, PW.of hK hwc hU hW⟩⟩ rfl rfl hl.1 rfl (lv_room (Nat.le_of_ble_eq_true rfl)) dX4_reaches_17 ⟨Nat.zero_le _, Nat.zero_le _⟩) hw hA [15, 16, 17, 18, 19, 20, 21, 22, 23, 24, 25, 26] [0, 1, 2, 3, 4, 5, 6, 7, 8, 9, 10, 11, 12, 13, 14] rfl rfl rfl rfl (by decide) (fun _ => rfl) (fun r3 z4 H locs h5 hw9 => ?_)
      obtain ⟨rfl, qz4⟩ := h5
      rw [qz4] at hw9
      have hw : WD G (gp G a z y k) A s H locs := hw9
      have hp9 : pRe (nI (n)) (nI (b)) z = (0, (b2 (cnn z (n) (b))), z) := (by simp [pRe, on2, hn, nd_n hn, tN_n hn, hb, nd_n hb, tN_n hb])
      exact ret_x hQ (Nat.zero_le _) (Nat.zero_le _) (en_z (v := (b2 (cnn z (n) (b)))) ((z, y, k) : St × St × St) rfl S hr hlk (b2_narrow _) hw (by exact ⟨by rw [hp9], by rw [hp9], by rw [hp9]⟩) dX4_reaches_20)

theorem hd_X4_counter : yX4_counter.cls = RX4 ∧ yX4_counter.cls ≠ "java/lang/invoke/MethodHandle" ∧ yX4_counter.cls ≠ "java/lang/invoke/VarHandle" ∧ (parseMethodDescriptor yX4_counter.desc).map (fun d => d.parameters.length) = some 2 := by decide +kernel
set_option maxHeartbeats 4000000 in
set_option maxRecDepth 100000 in
theorem c_X4_counter (l : Launch) (G : GA) (a : Nat → Nat) (z : St) (y : St) (k : St) (sz : Nat) (v : Int32) (w : Int32) (iz : Inv z) : vx_Met l yX4_counter wsX4_counter ({ frames := 7, cells := xc (pCt v w z : PO).1, slots := 6 * xc (pCt v w z : PO).1, locals := 110 }) (va_Pc [.ref (a 0), .int (v), .int (w)] (PX l G (gp G a z y k) sz)) (va_Qi (fun (r : Int32) (u : St × St × St) => (pCt v w z : PO).1 = 0 ∧ r = (pCt v w z : PO).2.1 ∧ u = ((pCt v w z : PO).2.2, y, k)) (fun (u : St × St × St) t => va_P G.1 gcl (gp G a u.1 u.2.1 u.2.2) t.heap) (va_A (gp G a z y k) sz)) (vx_X (fun (u : St × St × St) => ¬ (pCt v w z : PO).1 = 0 ∧ u = ((pCt v w z : PO).2.2, y, k)) (fun E u t => E = ex3 xIOE xIOE xIOE (pCt v w z : PO).1 ∧ va_P G.1 gcl (gp G a u.1 u.2.1 u.2.2) t.heap) (va_A (gp G a z y k) sz)) (xc (pCt v w z : PO).1) (6 * xc (pCt v w z : PO).1) (va_A (gp G a z y k) sz) := by
  refine met_x (cc := cX4_counter) (maxL := 3) (ret := (some .int)) (fun A => va_Qi (fun (r : Int32) (u : St × St × St) => (pCt v w z : PO).1 = 0 ∧ r = (pCt v w z : PO).2.1 ∧ u = ((pCt v w z : PO).2.2, y, k)) (fun (u : St × St × St) t => va_P G.1 gcl (gp G a u.1 u.2.1 u.2.2) t.heap) A) (fun A => vx_X (fun (u : St × St × St) => ¬ (pCt v w z : PO).1 = 0 ∧ u = ((pCt v w z : PO).2.2, y, k)) (fun E u t => E = ex3 xIOE xIOE xIOE (pCt v w z : PO).1 ∧ va_P G.1 gcl (gp G a u.1 u.2.1 u.2.2) t.heap) A) (by decide) rfl (Nat.le_of_ble_eq_true rfl) ?_
  intro p e s m args below meth c R Q A H ls hR hQ S hr hlk htab hK hX hsz hH hAe hA hw hl
  have hl : lv_has ls 3 [(0, .ref (a 0)), (1, .int (v)), (2, .int (w))] := hl
  have LX1 : ∀ w ∈ u_ws RX1 TX1 10, w.before args s = true := fun w h => S.2.2.2.2 w ((by decide +kernel : ∀ w ∈ u_ws RX1 TX1 10, w ∈ wsX4_counter) w h)
  have LX3 : ∀ w ∈ u_ws RX3 TX3 7, w.before args s = true := fun w h => S.2.2.2.2 w ((by decide +kernel : ∀ w ∈ u_ws RX3 TX3 7, w ∈ wsX4_counter) w h)
  have LX4 : ∀ w ∈ u_ws RX4 TX4 6, w.before args s = true := fun w h => S.2.2.2.2 w ((by decide +kernel : ∀ w ∈ u_ws RX4 TX4 6, w ∈ wsX4_counter) w h)
  have k1 : (Cond.fieldLink RX4 10 "GossipMembership" "world" "LGossipMembership$World;").before args s = true := S.2.2.2.2 _ (by decide +kernel : (Cond.fieldLink RX4 10 "GossipMembership" "world" "LGossipMembership$World;") ∈ wsX4_counter)
  have k2 : (Cond.fieldLink RX4 37 "GossipMembership$World" "knowledge" "LGossipMembership$Knowledge;").before args s = true := S.2.2.2.2 _ (by decide +kernel : (Cond.fieldLink RX4 37 "GossipMembership$World" "knowledge" "LGossipMembership$Knowledge;") ∈ wsX4_counter)
  have k3 : (Cond.fieldLink RX4 155 "GossipMembership$Knowledge" "counters" "[I").before args s = true := S.2.2.2.2 _ (by decide +kernel : (Cond.fieldLink RX4 155 "GossipMembership$Knowledge" "counters" "[I") ∈ wsX4_counter)
  refine lv_iload_n S.1 S.2.1 dX4_counter_0 rfl (lv_at hl 1 rfl) ?_
  refine cx_v (wc := []) (wr := (gp G a z y k)) (vx_runS (As := [.int (v)]) (rest := []) S (c_X4_requireNode l G H.size (v)) (va_cwS 1 S.2.2.2.2 gX4_counter_X4_requireNode rfl rfl rfl hd_X4_requireNode ⟨by rw [hR]; exact Nat.le_of_ble_eq_true rfl, by rw [hR]; exact Nat.le_of_ble_eq_true rfl⟩) ⟨PX.blind, fun U hU hW => ⟨rfl, PX.of hK hX (hw.sub [] rfl rfl) (va_free hw.2.1 hw.2.2 hA [] rfl) hU hW⟩⟩ rfl rfl hl.1 rfl (lv_room (Nat.le_of_ble_eq_true rfl)) dX4_counter_1 ⟨by rw [hR, Nat.zero_add]; exact xc_on2 _ _ _ _, by rw [hR, Nat.zero_add]; exact Nat.mul_le_mul_left 6 (xc_on2 _ _ _ _)⟩) hw hA [] [0, 1, 2, 3, 4, 5, 6, 7, 8, 9, 10, 11, 12, 13, 14, 15, 16, 17, 18, 19, 20, 21, 22, 23, 24, 25, 26] rfl rfl rfl rfl (by decide) (fun _ => rfl) (fun _ => rfl) (fun ce q9 u9 H locs hpx hw9 g1 g2 g3 => ?_) (fun u9 H locs hn1 hw9 => ?_)
  · skip
    have hpx : ¬ rn (v) = 0 := hpx
    have hp9 : pCt v w z = (rn (v), 0, z) := (by rw [pCt, on2_no1 (rn_f hpx), rn_1 hpx])
    exact out_x hQ (u := ((z, y, k) : St × St × St)) (by rw [List.append_nil] at hw9; exact hw9) hlk htab g1 g2 g3 (by rw [hp9]; exact ⟨hpx, rfl⟩) (by first | (rw [hp9]; done) | (rw [hp9]; rw [rn_1 hpx]; rfl)) rfl (by rw [hp9, Nat.zero_add]; exact Nat.le_refl _) (by rw [hp9, Nat.zero_add]; exact Nat.le_refl _)
  · skip
    have hn1 : rn (v) = 0 := hn1
    have hw : WD G (gp G a z y k) A s H locs := by rw [List.append_nil] at hw9; exact hw9
    refine W.widen (k := 0) (n := 0) (by show 0 + xc (rn (v)) ≤ 0; rw [hn1]; decide) (by show 0 + 6 * xc (rn (v)) ≤ 0; rw [hn1]; decide) ?_
    have hn1b := rn_0.mp hn1
    obtain ⟨n, hn, en9⟩ := nd_of hn1b
    subst en9
    refine lv_iload_n S.1 S.2.1 dX4_counter_4 rfl (lv_at hl 2 rfl) ?_
    refine cx_v (wc := []) (wr := (gp G a z y k)) (vx_runS (As := [.int (w)]) (rest := []) S (c_X4_requireNode l G H.size (w)) (va_cwS 1 S.2.2.2.2 gX4_counter_X4_requireNode rfl rfl rfl hd_X4_requireNode ⟨by rw [hR]; exact Nat.le_of_ble_eq_true rfl, by rw [hR]; exact Nat.le_of_ble_eq_true rfl⟩) ⟨PX.blind, fun U hU hW => ⟨rfl, PX.of hK hX (hw.sub [] rfl rfl) (va_free hw.2.1 hw.2.2 hA [] rfl) hU hW⟩⟩ rfl rfl hl.1 rfl (lv_room (Nat.le_of_ble_eq_true rfl)) dX4_counter_5 ⟨by rw [hR, Nat.zero_add]; exact xc_on2b _ _ _ _, by rw [hR, Nat.zero_add]; exact Nat.mul_le_mul_left 6 (xc_on2b _ _ _ _)⟩) hw hA [] [0, 1, 2, 3, 4, 5, 6, 7, 8, 9, 10, 11, 12, 13, 14, 15, 16, 17, 18, 19, 20, 21, 22, 23, 24, 25, 26] rfl rfl rfl rfl (by decide) (fun _ => rfl) (fun _ => rfl) (fun ce q9 u9 H locs hpx hw9 g1 g2 g3 => ?_) (fun u9 H locs hn2 hw9 => ?_)
    · skip
      have hpx : ¬ rn (w) = 0 := hpx
      have hp9 : pCt (nI (n)) w z = (rn (w), 0, z) := (by rw [pCt, on2_no2 (rn_f hpx), rn_1 hpx])
      exact out_x hQ (u := ((z, y, k) : St × St × St)) (by rw [List.append_nil] at hw9; exact hw9) hlk htab g1 g2 g3 (by rw [hp9]; exact ⟨hpx, rfl⟩) (by first | (rw [hp9]; done) | (rw [hp9]; rw [rn_1 hpx]; rfl)) rfl (by rw [hp9, Nat.zero_add]; exact Nat.le_refl _) (by rw [hp9, Nat.zero_add]; exact Nat.le_refl _)
    · skip
      have hn2 : rn (w) = 0 := hn2
      have hw : WD G (gp G a z y k) A s H locs := by rw [List.append_nil] at hw9; exact hw9
      refine W.widen (k := 0) (n := 0) (by show 0 + xc (rn (w)) ≤ 0; rw [hn2]; decide) (by show 0 + 6 * xc (rn (w)) ≤ 0; rw [hn2]; decide) ?_
      have hn2b := rn_0.mp hn2
      obtain ⟨b, hb, eb9⟩ := nd_of hn2b
      subst eb9
      refine lv_aload_n S.1 S.2.1 dX4_counter_8 rfl (lv_at hl 0 rfl) ?_
      refine gt_X4_0 (v := .ref (a 15)) S hK hw 0 rfl rfl LX4 k1 dX4_counter_9 ?_
      refine gt_X3_1 (v := .ref (a 21)) S hK hw 15 rfl rfl LX3 k2 dX4_counter_12 ?_
      refine gt_X1_4 (v := .ref (a 26)) S hK hw 21 rfl rfl LX1 k3 dX4_counter_15 ?_
      refine lv_iload_n S.1 S.2.1 dX4_counter_18 rfl (lv_at hl 1 rfl) ?_
      refine lv_iload_n S.1 S.2.1 dX4_counter_19 rfl (lv_at hl 2 rfl) ?_
      refine pr_s (n := n) (b := b) S hl.1 gX4_counter_X4_pair ⟨by rw [hR]; exact Nat.le_of_ble_eq_true rfl, by rw [hR]; exact Nat.le_of_ble_eq_true rfl⟩ (Nat.zero_le _) (Nat.zero_le _) (Nat.le_of_ble_eq_true rfl) dX4_counter_20 ?_
      refine ald_i (v := z 8 (8 * n + b)) (k := 8 * n + b) S hK hw 26 rfl (by omega) (by decide) rfl dX4_counter_23 ?_
      have hp9 : pCt (nI (n)) (nI (b)) z = (0, (z 8 (8 * n + b)), z) := (by simp [pCt, on2, hn, nd_n hn, tN_n hn, hb, nd_n hb, tN_n hb])
      exact ret_x hQ (Nat.zero_le _) (Nat.zero_le _) (en_i (v := (z 8 (8 * n + b))) ((z, y, k) : St × St × St) rfl S hr hlk hw (by exact ⟨by rw [hp9], by rw [hp9], by rw [hp9]⟩) dX4_counter_24)

theorem hd_X4_view : yX4_view.cls = RX4 ∧ yX4_view.cls ≠ "java/lang/invoke/MethodHandle" ∧ yX4_view.cls ≠ "java/lang/invoke/VarHandle" ∧ (parseMethodDescriptor yX4_view.desc).map (fun d => d.parameters.length) = some 2 := by decide +kernel
set_option maxHeartbeats 4000000 in
set_option maxRecDepth 100000 in
theorem c_X4_view (l : Launch) (G : GA) (a : Nat → Nat) (z : St) (y : St) (k : St) (sz : Nat) (v : Int32) (w : Int32) (iz : Inv z) : vx_Met l yX4_view wsX4_view ({ frames := 8, cells := xc (pV 5 v w z : PO).1, slots := 6 * xc (pV 5 v w z : PO).1, locals := 131 }) (va_Pc [.ref (a 0), .int (v), .int (w)] (PX l G (gp G a z y k) sz)) (va_Qi (fun (r : Int32) (u : St × St × St) => (pV 5 v w z : PO).1 = 0 ∧ r = (pV 5 v w z : PO).2.1 ∧ u = ((pV 5 v w z : PO).2.2, y, k)) (fun (u : St × St × St) t => va_P G.1 gcl (gp G a u.1 u.2.1 u.2.2) t.heap) (va_A (gp G a z y k) sz)) (vx_X (fun (u : St × St × St) => ¬ (pV 5 v w z : PO).1 = 0 ∧ u = ((pV 5 v w z : PO).2.2, y, k)) (fun E u t => E = ex3 xIOE xIAE xIAE (pV 5 v w z : PO).1 ∧ va_P G.1 gcl (gp G a u.1 u.2.1 u.2.2) t.heap) (va_A (gp G a z y k) sz)) (xc (pV 5 v w z : PO).1) (6 * xc (pV 5 v w z : PO).1) (va_A (gp G a z y k) sz) := by
  refine met_x (cc := cX4_view) (maxL := 3) (ret := (some .int)) (fun A => va_Qi (fun (r : Int32) (u : St × St × St) => (pV 5 v w z : PO).1 = 0 ∧ r = (pV 5 v w z : PO).2.1 ∧ u = ((pV 5 v w z : PO).2.2, y, k)) (fun (u : St × St × St) t => va_P G.1 gcl (gp G a u.1 u.2.1 u.2.2) t.heap) A) (fun A => vx_X (fun (u : St × St × St) => ¬ (pV 5 v w z : PO).1 = 0 ∧ u = ((pV 5 v w z : PO).2.2, y, k)) (fun E u t => E = ex3 xIOE xIAE xIAE (pV 5 v w z : PO).1 ∧ va_P G.1 gcl (gp G a u.1 u.2.1 u.2.2) t.heap) A) (by decide) rfl (Nat.le_of_ble_eq_true rfl) ?_
  intro p e s m args below meth c R Q A H ls hR hQ S hr hlk htab hK hX hsz hH hAe hA hw hl
  have hl : lv_has ls 3 [(0, .ref (a 0)), (1, .int (v)), (2, .int (w))] := hl
  have LX1 : ∀ w ∈ u_ws RX1 TX1 10, w.before args s = true := fun w h => S.2.2.2.2 w ((by decide +kernel : ∀ w ∈ u_ws RX1 TX1 10, w ∈ wsX4_view) w h)
  have LX3 : ∀ w ∈ u_ws RX3 TX3 7, w.before args s = true := fun w h => S.2.2.2.2 w ((by decide +kernel : ∀ w ∈ u_ws RX3 TX3 7, w ∈ wsX4_view) w h)
  have LX4 : ∀ w ∈ u_ws RX4 TX4 6, w.before args s = true := fun w h => S.2.2.2.2 w ((by decide +kernel : ∀ w ∈ u_ws RX4 TX4 6, w ∈ wsX4_view) w h)
  have k1 : (Cond.fieldLink RX4 10 "GossipMembership" "world" "LGossipMembership$World;").before args s = true := S.2.2.2.2 _ (by decide +kernel : (Cond.fieldLink RX4 10 "GossipMembership" "world" "LGossipMembership$World;") ∈ wsX4_view)
  have k2 : (Cond.fieldLink RX4 37 "GossipMembership$World" "knowledge" "LGossipMembership$Knowledge;").before args s = true := S.2.2.2.2 _ (by decide +kernel : (Cond.fieldLink RX4 37 "GossipMembership$World" "knowledge" "LGossipMembership$Knowledge;") ∈ wsX4_view)
  have k3 : (Cond.fieldLink RX4 144 "GossipMembership$Knowledge" "state" "[I").before args s = true := S.2.2.2.2 _ (by decide +kernel : (Cond.fieldLink RX4 144 "GossipMembership$Knowledge" "state" "[I") ∈ wsX4_view)
  refine lv_iload_n S.1 S.2.1 dX4_view_0 rfl (lv_at hl 1 rfl) ?_
  refine lv_iload_n S.1 S.2.1 dX4_view_1 rfl (lv_at hl 2 rfl) ?_
  refine cx_v (wc := []) (wr := (gp G a z y k)) (vx_runS (As := [.int (v), .int (w)]) (rest := []) S (c_X4_requireTwoNodes l G H.size (v) (w)) (va_cwS 2 S.2.2.2.2 gX4_view_X4_requireTwoNodes rfl rfl rfl hd_X4_requireTwoNodes ⟨by rw [hR]; exact Nat.le_of_ble_eq_true rfl, by rw [hR]; exact Nat.le_of_ble_eq_true rfl⟩) ⟨PX.blind, fun U hU hW => ⟨rfl, PX.of hK hX (hw.sub [] rfl rfl) (va_free hw.2.1 hw.2.2 hA [] rfl) hU hW⟩⟩ rfl rfl hl.1 rfl (lv_room (Nat.le_of_ble_eq_true rfl)) dX4_view_2 ⟨by rw [hR, Nat.zero_add]; exact xc_vr _ _ _ _ (fun n _ => by rw [if_pos rfl]), by rw [hR, Nat.zero_add]; exact Nat.mul_le_mul_left 6 (xc_vr _ _ _ _ (fun n _ => by rw [if_pos rfl]))⟩) hw hA [] [0, 1, 2, 3, 4, 5, 6, 7, 8, 9, 10, 11, 12, 13, 14, 15, 16, 17, 18, 19, 20, 21, 22, 23, 24, 25, 26] rfl rfl rfl rfl (by decide) (fun _ => rfl) (fun _ => rfl) (fun ce q9 u9 H locs hpx hw9 g1 g2 g3 => ?_) (fun u9 H locs hn1 hw9 => ?_)
  · skip
    have hpx : ¬ vr (v) (w) = 0 := hpx
    have hp9 : pV 5 v w z = (vr (v) (w), 0, z) := (by exact vr_on2 (vr_le hpx) (fun n _ => by rw [if_pos rfl]))
    exact out_x hQ (u := ((z, y, k) : St × St × St)) (by rw [List.append_nil] at hw9; exact hw9) hlk htab g1 g2 g3 (by rw [hp9]; exact ⟨hpx, rfl⟩) (by first | (rw [hp9]; done) | (rw [hp9]; rcases vr_12 hpx with h | h <;> rw [h] <;> rfl)) rfl (by rw [hp9, Nat.zero_add]; exact Nat.le_refl _) (by rw [hp9, Nat.zero_add]; exact Nat.le_refl _)
  · skip
    have hn1 : vr (v) (w) = 0 := hn1
    have hw : WD G (gp G a z y k) A s H locs := by rw [List.append_nil] at hw9; exact hw9
    refine W.widen (k := 0) (n := 0) (by show 0 + xc (vr (v) (w)) ≤ 0; rw [hn1]; decide) (by show 0 + 6 * xc (vr (v) (w)) ≤ 0; rw [hn1]; decide) ?_
    obtain ⟨n, b, hn, hb, hnb, ev9, ew9, hvr⟩ := vr_yes (by rw [hn1]; decide)
    subst ev9 ew9
    refine lv_aload_n S.1 S.2.1 dX4_view_5 rfl (lv_at hl 0 rfl) ?_
    refine gt_X4_0 (v := .ref (a 15)) S hK hw 0 rfl rfl LX4 k1 dX4_view_6 ?_
    refine gt_X3_1 (v := .ref (a 21)) S hK hw 15 rfl rfl LX3 k2 dX4_view_9 ?_
    refine gt_X1_1 (v := .ref (a 23)) S hK hw 21 rfl rfl LX1 k3 dX4_view_12 ?_
    refine lv_iload_n S.1 S.2.1 dX4_view_15 rfl (lv_at hl 1 rfl) ?_
    refine lv_iload_n S.1 S.2.1 dX4_view_16 rfl (lv_at hl 2 rfl) ?_
    refine pr_s (n := n) (b := b) S hl.1 gX4_view_X4_pair ⟨by rw [hR]; exact Nat.le_of_ble_eq_true rfl, by rw [hR]; exact Nat.le_of_ble_eq_true rfl⟩ (Nat.zero_le _) (Nat.zero_le _) (Nat.le_of_ble_eq_true rfl) dX4_view_17 ?_
    refine ald_i (v := z 5 (8 * n + b)) (k := 8 * n + b) S hK hw 23 rfl (by omega) (by decide) rfl dX4_view_20 ?_
    have hp9 : pV 5 (nI (n)) (nI (b)) z = (0, (z 5 (8 * n + b)), z) := (by simp [pV, on2, hn, hb, nd_n hn, nd_n hb, tN_n hn, tN_n hb, hnb])
    exact ret_x hQ (Nat.zero_le _) (Nat.zero_le _) (en_i (v := (z 5 (8 * n + b))) ((z, y, k) : St × St × St) rfl S hr hlk hw (by exact ⟨by rw [hp9], by rw [hp9], by rw [hp9]⟩) dX4_view_21)

theorem hd_X4_viewIncarnation : yX4_viewIncarnation.cls = RX4 ∧ yX4_viewIncarnation.cls ≠ "java/lang/invoke/MethodHandle" ∧ yX4_viewIncarnation.cls ≠ "java/lang/invoke/VarHandle" ∧ (parseMethodDescriptor yX4_viewIncarnation.desc).map (fun d => d.parameters.length) = some 2 := by decide +kernel
set_option maxHeartbeats 4000000 in
set_option maxRecDepth 100000 in
theorem c_X4_viewIncarnation (l : Launch) (G : GA) (a : Nat → Nat) (z : St) (y : St) (k : St) (sz : Nat) (v : Int32) (w : Int32) (iz : Inv z) : vx_Met l yX4_viewIncarnation wsX4_viewIncarnation ({ frames := 8, cells := xc (pV 6 v w z : PO).1, slots := 6 * xc (pV 6 v w z : PO).1, locals := 131 }) (va_Pc [.ref (a 0), .int (v), .int (w)] (PX l G (gp G a z y k) sz)) (va_Qi (fun (r : Int32) (u : St × St × St) => (pV 6 v w z : PO).1 = 0 ∧ r = (pV 6 v w z : PO).2.1 ∧ u = ((pV 6 v w z : PO).2.2, y, k)) (fun (u : St × St × St) t => va_P G.1 gcl (gp G a u.1 u.2.1 u.2.2) t.heap) (va_A (gp G a z y k) sz)) (vx_X (fun (u : St × St × St) => ¬ (pV 6 v w z : PO).1 = 0 ∧ u = ((pV 6 v w z : PO).2.2, y, k)) (fun E u t => E = ex3 xIOE xIAE xIAE (pV 6 v w z : PO).1 ∧ va_P G.1 gcl (gp G a u.1 u.2.1 u.2.2) t.heap) (va_A (gp G a z y k) sz)) (xc (pV 6 v w z : PO).1) (6 * xc (pV 6 v w z : PO).1) (va_A (gp G a z y k) sz) := by
  refine met_x (cc := cX4_viewIncarnation) (maxL := 3) (ret := (some .int)) (fun A => va_Qi (fun (r : Int32) (u : St × St × St) => (pV 6 v w z : PO).1 = 0 ∧ r = (pV 6 v w z : PO).2.1 ∧ u = ((pV 6 v w z : PO).2.2, y, k)) (fun (u : St × St × St) t => va_P G.1 gcl (gp G a u.1 u.2.1 u.2.2) t.heap) A) (fun A => vx_X (fun (u : St × St × St) => ¬ (pV 6 v w z : PO).1 = 0 ∧ u = ((pV 6 v w z : PO).2.2, y, k)) (fun E u t => E = ex3 xIOE xIAE xIAE (pV 6 v w z : PO).1 ∧ va_P G.1 gcl (gp G a u.1 u.2.1 u.2.2) t.heap) A) (by decide) rfl (Nat.le_of_ble_eq_true rfl) ?_
  intro p e s m args below meth c R Q A H ls hR hQ S hr hlk htab hK hX hsz hH hAe hA hw hl
  have hl : lv_has ls 3 [(0, .ref (a 0)), (1, .int (v)), (2, .int (w))] := hl
  have LX1 : ∀ w ∈ u_ws RX1 TX1 10, w.before args s = true := fun w h => S.2.2.2.2 w ((by decide +kernel : ∀ w ∈ u_ws RX1 TX1 10, w ∈ wsX4_viewIncarnation) w h)
  have LX3 : ∀ w ∈ u_ws RX3 TX3 7, w.before args s = true := fun w h => S.2.2.2.2 w ((by decide +kernel : ∀ w ∈ u_ws RX3 TX3 7, w ∈ wsX4_viewIncarnation) w h)
  have LX4 : ∀ w ∈ u_ws RX4 TX4 6, w.before args s = true := fun w h => S.2.2.2.2 w ((by decide +kernel : ∀ w ∈ u_ws RX4 TX4 6, w ∈ wsX4_viewIncarnation) w h)
  have k1 : (Cond.fieldLink RX4 10 "GossipMembership" "world" "LGossipMembership$World;").before args s = true := S.2.2.2.2 _ (by decide +kernel : (Cond.fieldLink RX4 10 "GossipMembership" "world" "LGossipMembership$World;") ∈ wsX4_viewIncarnation)
  have k2 : (Cond.fieldLink RX4 37 "GossipMembership$World" "knowledge" "LGossipMembership$Knowledge;").before args s = true := S.2.2.2.2 _ (by decide +kernel : (Cond.fieldLink RX4 37 "GossipMembership$World" "knowledge" "LGossipMembership$Knowledge;") ∈ wsX4_viewIncarnation)
  have k3 : (Cond.fieldLink RX4 147 "GossipMembership$Knowledge" "incarnations" "[I").before args s = true := S.2.2.2.2 _ (by decide +kernel : (Cond.fieldLink RX4 147 "GossipMembership$Knowledge" "incarnations" "[I") ∈ wsX4_viewIncarnation)
  refine lv_iload_n S.1 S.2.1 dX4_viewIncarnation_0 rfl (lv_at hl 1 rfl) ?_
  refine lv_iload_n S.1 S.2.1 dX4_viewIncarnation_1 rfl (lv_at hl 2 rfl) ?_
  refine cx_v (wc := []) (wr := (gp G a z y k)) (vx_runS (As := [.int (v), .int (w)]) (rest := []) S (c_X4_requireTwoNodes l G H.size (v) (w)) (va_cwS 2 S.2.2.2.2 gX4_viewIncarnation_X4_requireTwoNodes rfl rfl rfl hd_X4_requireTwoNodes ⟨by rw [hR]; exact Nat.le_of_ble_eq_true rfl, by rw [hR]; exact Nat.le_of_ble_eq_true rfl⟩) ⟨PX.blind, fun U hU hW => ⟨rfl, PX.of hK hX (hw.sub [] rfl rfl) (va_free hw.2.1 hw.2.2 hA [] rfl) hU hW⟩⟩ rfl rfl hl.1 rfl (lv_room (Nat.le_of_ble_eq_true rfl)) dX4_viewIncarnation_2 ⟨by rw [hR, Nat.zero_add]; exact xc_vr _ _ _ _ (fun n _ => by rw [if_pos rfl]), by rw [hR, Nat.zero_add]; exact Nat.mul_le_mul_left 6 (xc_vr _ _ _ _ (fun n _ => by rw [if_pos rfl]))⟩) hw hA [] [0, 1, 2, 3, 4, 5, 6, 7, 8, 9, 10, 11, 12, 13, 14, 15, 16, 17, 18, 19, 20, 21, 22, 23, 24, 25, 26] rfl rfl rfl rfl (by decide) (fun _ => rfl) (fun _ => rfl) (fun ce q9 u9 H locs hpx hw9 g1 g2 g3 => ?_) (fun u9 H locs hn1 hw9 => ?_)
  · skip
    have hpx : ¬ vr (v) (w) = 0 := hpx
    have hp9 : pV 6 v w z = (vr (v) (w), 0, z) := (by exact vr_on2 (vr_le hpx) (fun n _ => by rw [if_pos rfl]))
    exact out_x hQ (u := ((z, y, k) : St × St × St)) (by rw [List.append_nil] at hw9; exact hw9) hlk htab g1 g2 g3 (by rw [hp9]; exact ⟨hpx, rfl⟩) (by first | (rw [hp9]; done) | (rw [hp9]; rcases vr_12 hpx with h | h <;> rw [h] <;> rfl)) rfl (by rw [hp9, Nat.zero_add]; exact Nat.le_refl _) (by rw [hp9, Nat.zero_add]; exact Nat.le_refl _)
  · skip
    have hn1 : vr (v) (w) = 0 := hn1
    have hw : WD G (gp G a z y k) A s H locs := by rw [List.append_nil] at hw9; exact hw9
    refine W.widen (k := 0) (n := 0) (by show 0 + xc (vr (v) (w)) ≤ 0; rw [hn1]; decide) (by show 0 + 6 * xc (vr (v) (w)) ≤ 0; rw [hn1]; decide) ?_
    obtain ⟨n, b, hn, hb, hnb, ev9, ew9, hvr⟩ := vr_yes (by rw [hn1]; decide)
    subst ev9 ew9
    refine lv_aload_n S.1 S.2.1 dX4_viewIncarnation_5 rfl (lv_at hl 0 rfl) ?_
    refine gt_X4_0 (v := .ref (a 15)) S hK hw 0 rfl rfl LX4 k1 dX4_viewIncarnation_6 ?_
    refine gt_X3_1 (v := .ref (a 21)) S hK hw 15 rfl rfl LX3 k2 dX4_viewIncarnation_9 ?_
    refine gt_X1_2 (v := .ref (a 24)) S hK hw 21 rfl rfl LX1 k3 dX4_viewIncarnation_12 ?_
    refine lv_iload_n S.1 S.2.1 dX4_viewIncarnation_15 rfl (lv_at hl 1 rfl) ?_
    refine lv_iload_n S.1 S.2.1 dX4_viewIncarnation_16 rfl (lv_at hl 2 rfl) ?_
    refine pr_s (n := n) (b := b) S hl.1 gX4_viewIncarnation_X4_pair ⟨by rw [hR]; exact Nat.le_of_ble_eq_true rfl, by rw [hR]; exact Nat.le_of_ble_eq_true rfl⟩ (Nat.zero_le _) (Nat.zero_le _) (Nat.le_of_ble_eq_true rfl) dX4_viewIncarnation_17 ?_
    refine ald_i (v := z 6 (8 * n + b)) (k := 8 * n + b) S hK hw 24 rfl (by omega) (by decide) rfl dX4_viewIncarnation_20 ?_
    have hp9 : pV 6 (nI (n)) (nI (b)) z = (0, (z 6 (8 * n + b)), z) := (by simp [pV, on2, hn, hb, nd_n hn, nd_n hb, tN_n hn, tN_n hb, hnb])
    exact ret_x hQ (Nat.zero_le _) (Nat.zero_le _) (en_i (v := (z 6 (8 * n + b))) ((z, y, k) : St × St × St) rfl S hr hlk hw (by exact ⟨by rw [hp9], by rw [hp9], by rw [hp9]⟩) dX4_viewIncarnation_21)

theorem hd_X4_deadline : yX4_deadline.cls = RX4 ∧ yX4_deadline.cls ≠ "java/lang/invoke/MethodHandle" ∧ yX4_deadline.cls ≠ "java/lang/invoke/VarHandle" ∧ (parseMethodDescriptor yX4_deadline.desc).map (fun d => d.parameters.length) = some 2 := by decide +kernel
set_option maxHeartbeats 4000000 in
set_option maxRecDepth 100000 in
theorem c_X4_deadline (l : Launch) (G : GA) (a : Nat → Nat) (z : St) (y : St) (k : St) (sz : Nat) (v : Int32) (w : Int32) (iz : Inv z) : vx_Met l yX4_deadline wsX4_deadline ({ frames := 8, cells := xc (pD v w z : PO).1, slots := 6 * xc (pD v w z : PO).1, locals := 131 }) (va_Pc [.ref (a 0), .int (v), .int (w)] (PX l G (gp G a z y k) sz)) (va_Qi (fun (r : Int32) (u : St × St × St) => (pD v w z : PO).1 = 0 ∧ r = (pD v w z : PO).2.1 ∧ u = ((pD v w z : PO).2.2, y, k)) (fun (u : St × St × St) t => va_P G.1 gcl (gp G a u.1 u.2.1 u.2.2) t.heap) (va_A (gp G a z y k) sz)) (vx_X (fun (u : St × St × St) => ¬ (pD v w z : PO).1 = 0 ∧ u = ((pD v w z : PO).2.2, y, k)) (fun E u t => E = ex3 xIOE xIAE xNSE (pD v w z : PO).1 ∧ va_P G.1 gcl (gp G a u.1 u.2.1 u.2.2) t.heap) (va_A (gp G a z y k) sz)) (xc (pD v w z : PO).1) (6 * xc (pD v w z : PO).1) (va_A (gp G a z y k) sz) := by
  refine met_x (cc := cX4_deadline) (maxL := 3) (ret := (some .int)) (fun A => va_Qi (fun (r : Int32) (u : St × St × St) => (pD v w z : PO).1 = 0 ∧ r = (pD v w z : PO).2.1 ∧ u = ((pD v w z : PO).2.2, y, k)) (fun (u : St × St × St) t => va_P G.1 gcl (gp G a u.1 u.2.1 u.2.2) t.heap) A) (fun A => vx_X (fun (u : St × St × St) => ¬ (pD v w z : PO).1 = 0 ∧ u = ((pD v w z : PO).2.2, y, k)) (fun E u t => E = ex3 xIOE xIAE xNSE (pD v w z : PO).1 ∧ va_P G.1 gcl (gp G a u.1 u.2.1 u.2.2) t.heap) A) (by decide) rfl (Nat.le_of_ble_eq_true rfl) ?_
  intro p e s m args below meth c R Q A H ls hR hQ S hr hlk htab hK hX hsz hH hAe hA hw hl
  have hl : lv_has ls 3 [(0, .ref (a 0)), (1, .int (v)), (2, .int (w))] := hl
  have LX1 : ∀ w ∈ u_ws RX1 TX1 10, w.before args s = true := fun w h => S.2.2.2.2 w ((by decide +kernel : ∀ w ∈ u_ws RX1 TX1 10, w ∈ wsX4_deadline) w h)
  have LX3 : ∀ w ∈ u_ws RX3 TX3 7, w.before args s = true := fun w h => S.2.2.2.2 w ((by decide +kernel : ∀ w ∈ u_ws RX3 TX3 7, w ∈ wsX4_deadline) w h)
  have LX4 : ∀ w ∈ u_ws RX4 TX4 6, w.before args s = true := fun w h => S.2.2.2.2 w ((by decide +kernel : ∀ w ∈ u_ws RX4 TX4 6, w ∈ wsX4_deadline) w h)
  have k1 : (Cond.fieldLink RX4 10 "GossipMembership" "world" "LGossipMembership$World;").before args s = true := S.2.2.2.2 _ (by decide +kernel : (Cond.fieldLink RX4 10 "GossipMembership" "world" "LGossipMembership$World;") ∈ wsX4_deadline)
  have k2 : (Cond.fieldLink RX4 37 "GossipMembership$World" "knowledge" "LGossipMembership$Knowledge;").before args s = true := S.2.2.2.2 _ (by decide +kernel : (Cond.fieldLink RX4 37 "GossipMembership$World" "knowledge" "LGossipMembership$Knowledge;") ∈ wsX4_deadline)
  have k3 : (Cond.fieldLink RX4 144 "GossipMembership$Knowledge" "state" "[I").before args s = true := S.2.2.2.2 _ (by decide +kernel : (Cond.fieldLink RX4 144 "GossipMembership$Knowledge" "state" "[I") ∈ wsX4_deadline)
  have k4 : (Cond.fieldLink RX4 152 "GossipMembership$Knowledge" "deadlines" "[I").before args s = true := S.2.2.2.2 _ (by decide +kernel : (Cond.fieldLink RX4 152 "GossipMembership$Knowledge" "deadlines" "[I") ∈ wsX4_deadline)
  have m1NSE : Cond.classLink RX4 136 xNSE ∈ wsX4_deadline := by decide +kernel
  have m2NSE : Cond.initialized xNSE ∈ wsX4_deadline := by decide +kernel
  have m3NSE : ∀ w ∈ (nse_at RX4 140).filter goodWord, w ∈ wsX4_deadline := by decide +kernel
  refine lv_iload_n S.1 S.2.1 dX4_deadline_0 rfl (lv_at hl 1 rfl) ?_
  refine lv_iload_n S.1 S.2.1 dX4_deadline_1 rfl (lv_at hl 2 rfl) ?_
  refine cx_v (wc := []) (wr := (gp G a z y k)) (vx_runS (As := [.int (v), .int (w)]) (rest := []) S (c_X4_requireTwoNodes l G H.size (v) (w)) (va_cwS 2 S.2.2.2.2 gX4_deadline_X4_requireTwoNodes rfl rfl rfl hd_X4_requireTwoNodes ⟨by rw [hR]; exact Nat.le_of_ble_eq_true rfl, by rw [hR]; exact Nat.le_of_ble_eq_true rfl⟩) ⟨PX.blind, fun U hU hW => ⟨rfl, PX.of hK hX (hw.sub [] rfl rfl) (va_free hw.2.1 hw.2.2 hA [] rfl) hU hW⟩⟩ rfl rfl hl.1 rfl (lv_room (Nat.le_of_ble_eq_true rfl)) dX4_deadline_2 ⟨by rw [hR, Nat.zero_add]; exact xc_vr _ _ _ _ (fun n _ => by rw [if_pos rfl]), by rw [hR, Nat.zero_add]; exact Nat.mul_le_mul_left 6 (xc_vr _ _ _ _ (fun n _ => by rw [if_pos rfl]))⟩) hw hA [] [0, 1, 2, 3, 4, 5, 6, 7, 8, 9, 10, 11, 12, 13, 14, 15, 16, 17, 18, 19, 20, 21, 22, 23, 24, 25, 26] rfl rfl rfl rfl (by decide) (fun _ => rfl) (fun _ => rfl) (fun ce q9 u9 H locs hpx hw9 g1 g2 g3 => ?_) (fun u9 H locs hn1 hw9 => ?_)
  · skip
    have hpx : ¬ vr (v) (w) = 0 := hpx
    have hp9 : pD v w z = (vr (v) (w), 0, z) := (by exact vr_on2 (vr_le hpx) (fun n _ => by rw [if_pos rfl]))
    exact out_x hQ (u := ((z, y, k) : St × St × St)) (by rw [List.append_nil] at hw9; exact hw9) hlk htab g1 g2 g3 (by rw [hp9]; exact ⟨hpx, rfl⟩) (by first | (rw [hp9]; done) | (rw [hp9]; rcases vr_12 hpx with h | h <;> rw [h] <;> rfl)) rfl (by rw [hp9, Nat.zero_add]; exact Nat.le_refl _) (by rw [hp9, Nat.zero_add]; exact Nat.le_refl _)
  · skip
    have hn1 : vr (v) (w) = 0 := hn1
    have hw : WD G (gp G a z y k) A s H locs := by rw [List.append_nil] at hw9; exact hw9
    refine W.widen (k := 0) (n := 0) (by show 0 + xc (vr (v) (w)) ≤ 0; rw [hn1]; decide) (by show 0 + 6 * xc (vr (v) (w)) ≤ 0; rw [hn1]; decide) ?_
    obtain ⟨n, b, hn, hb, hnb, ev9, ew9, hvr⟩ := vr_yes (by rw [hn1]; decide)
    subst ev9 ew9
    refine lv_aload_n S.1 S.2.1 dX4_deadline_5 rfl (lv_at hl 0 rfl) ?_
    refine gt_X4_0 (v := .ref (a 15)) S hK hw 0 rfl rfl LX4 k1 dX4_deadline_6 ?_
    refine gt_X3_1 (v := .ref (a 21)) S hK hw 15 rfl rfl LX3 k2 dX4_deadline_9 ?_
    refine gt_X1_1 (v := .ref (a 23)) S hK hw 21 rfl rfl LX1 k3 dX4_deadline_12 ?_
    refine lv_iload_n S.1 S.2.1 dX4_deadline_15 rfl (lv_at hl 1 rfl) ?_
    refine lv_iload_n S.1 S.2.1 dX4_deadline_16 rfl (lv_at hl 2 rfl) ?_
    refine pr_s (n := n) (b := b) S hl.1 gX4_deadline_X4_pair ⟨by rw [hR]; exact Nat.le_of_ble_eq_true rfl, by rw [hR]; exact Nat.le_of_ble_eq_true rfl⟩ (Nat.zero_le _) (Nat.zero_le _) (Nat.le_of_ble_eq_true rfl) dX4_deadline_17 ?_
    refine ald_i (v := z 5 (8 * n + b)) (k := 8 * n + b) S hK hw 23 rfl (by omega) (by decide) rfl dX4_deadline_20 ?_
    refine lv_iconst (v := 2) S.1 S.2.1 dX4_deadline_21 (by decide) ?_
    refine lv_icmp_eq (tgt := 35) S.1 S.2.1 dX4_deadline_22 (by decide) (fun c2 => ?_) (fun c2 => ?_)
    · skip
      refine lv_aload_n S.1 S.2.1 dX4_deadline_35 rfl (lv_at hl 0 rfl) ?_
      refine gt_X4_0 (v := .ref (a 15)) S hK hw 0 rfl rfl LX4 k1 dX4_deadline_36 ?_
      refine gt_X3_1 (v := .ref (a 21)) S hK hw 15 rfl rfl LX3 k2 dX4_deadline_39 ?_
      refine gt_X1_3 (v := .ref (a 25)) S hK hw 21 rfl rfl LX1 k4 dX4_deadline_42 ?_
      refine lv_iload_n S.1 S.2.1 dX4_deadline_45 rfl (lv_at hl 1 rfl) ?_
      refine lv_iload_n S.1 S.2.1 dX4_deadline_46 rfl (lv_at hl 2 rfl) ?_
      refine pr_s (n := n) (b := b) S hl.1 gX4_deadline_X4_pair ⟨by rw [hR]; exact Nat.le_of_ble_eq_true rfl, by rw [hR]; exact Nat.le_of_ble_eq_true rfl⟩ (Nat.zero_le _) (Nat.zero_le _) (Nat.le_of_ble_eq_true rfl) dX4_deadline_47 ?_
      refine ald_i (v := z 7 (8 * n + b)) (k := 8 * n + b) S hK hw 25 rfl (by omega) (by decide) rfl dX4_deadline_50 ?_
      have hp9 : pD (nI (n)) (nI (b)) z = (0, (z 7 (8 * n + b)), z) := (by simp [pD, on2, hn, hb, nd_n hn, nd_n hb, tN_n hn, tN_n hb, hnb, c2])
      exact ret_x hQ (Nat.zero_le _) (Nat.zero_le _) (en_i (v := (z 7 (8 * n + b))) ((z, y, k) : St × St × St) rfl S hr hlk hw (by exact ⟨by rw [hp9], by rw [hp9], by rw [hp9]⟩) dX4_deadline_51)
    · skip
      have hp9 : pD (nI (n)) (nI (b)) z = (3, 0, z) := (by simp [pD, on2, hn, hb, nd_n hn, nd_n hb, tN_n hn, tN_n hb, hnb, c2])
      exact th_NSE (text := "the view is not suspect") S hX hw hl.1 hlk htab (by decide) m1NSE m2NSE m3NSE dX4_deadline_25 dX4_deadline_28 dX4_deadline_29 dX4_deadline_31 dX4_deadline_34 hQ ((z, y, k) : St × St × St) (by rw [hp9]; exact ⟨show ¬ (3 : Int32) = 0 by decide, rfl⟩) (by rw [hp9]; rfl) rfl (by rw [hR]; exact Nat.le_of_ble_eq_true rfl) (by rw [hR]; exact Nat.le_of_ble_eq_true rfl) (by rw [hR]; show 0 + 1 ≤ xc (pD (nI (n)) (nI (b)) z).1; rw [hp9]; exact (show 0 + 1 ≤ xc 3 by decide)) (by rw [hR]; show 0 + 6 ≤ 6 * xc (pD (nI (n)) (nI (b)) z).1; rw [hp9]; exact (show 0 + 6 ≤ 6 * xc 3 by decide)) (by rw [hp9]; exact (show 0 + 1 ≤ xc 3 by decide)) (by rw [hp9]; exact (show 0 + 6 ≤ 6 * xc 3 by decide))

theorem hd_X4_tell : yX4_tell.cls = RX4 ∧ yX4_tell.cls ≠ "java/lang/invoke/MethodHandle" ∧ yX4_tell.cls ≠ "java/lang/invoke/VarHandle" ∧ (parseMethodDescriptor yX4_tell.desc).map (fun d => d.parameters.length) = some 4 := by decide +kernel
set_option maxHeartbeats 4000000 in
set_option maxRecDepth 100000 in
theorem c_X4_tell (l : Launch) (G : GA) (a : Nat → Nat) (z : St) (y : St) (k : St) (sz : Nat) (v : Int32) (w : Int32) (x : Int32) (i : Int32) (iz : Inv z) : vx_Met l yX4_tell wsX4_tell ({ frames := 7, cells := xc (pT v w x i z : PO).1, slots := 6 * xc (pT v w x i z : PO).1, locals := 110 }) (va_Pc [.ref (a 0), .int (v), .int (w), .int (x), .int (i)] (PX l G (gp G a z y k) sz)) (va_Qi (fun (r : Int32) (u : St × St × St) => (pT v w x i z : PO).1 = 0 ∧ r = (pT v w x i z : PO).2.1 ∧ u = ((pT v w x i z : PO).2.2, y, k)) (fun (u : St × St × St) t => va_P G.1 gcl (gp G a u.1 u.2.1 u.2.2) t.heap) (va_A (gp G a z y k) sz)) (vx_X (fun (u : St × St × St) => ¬ (pT v w x i z : PO).1 = 0 ∧ u = ((pT v w x i z : PO).2.2, y, k)) (fun E u t => E = ex3 xIOE xISE xIAE (pT v w x i z : PO).1 ∧ va_P G.1 gcl (gp G a u.1 u.2.1 u.2.2) t.heap) (va_A (gp G a z y k) sz)) (xc (pT v w x i z : PO).1) (6 * xc (pT v w x i z : PO).1) (va_A (gp G a z y k) sz) := by
  refine met_x (cc := cX4_tell) (maxL := 6) (ret := (some .boolean)) (fun A => va_Qi (fun (r : Int32) (u : St × St × St) => (pT v w x i z : PO).1 = 0 ∧ r = (pT v w x i z : PO).2.1 ∧ u = ((pT v w x i z : PO).2.2, y, k)) (fun (u : St × St × St) t => va_P G.1 gcl (gp G a u.1 u.2.1 u.2.2) t.heap) A) (fun A => vx_X (fun (u : St × St × St) => ¬ (pT v w x i z : PO).1 = 0 ∧ u = ((pT v w x i z : PO).2.2, y, k)) (fun E u t => E = ex3 xIOE xISE xIAE (pT v w x i z : PO).1 ∧ va_P G.1 gcl (gp G a u.1 u.2.1 u.2.2) t.heap) A) (by decide) rfl (Nat.le_of_ble_eq_true rfl) ?_
  intro p e s m args below meth c R Q A H ls hR hQ S hr hlk htab hK hX hsz hH hAe hA hw hl
  have hl : lv_has ls 6 [(0, .ref (a 0)), (1, .int (v)), (2, .int (w)), (3, .int (x)), (4, .int (i))] := hl
  have LX2 : ∀ w ∈ u_ws RX2 TX2 4, w.before args s = true := fun w h => S.2.2.2.2 w ((by decide +kernel : ∀ w ∈ u_ws RX2 TX2 4, w ∈ wsX4_tell) w h)
  have LX3 : ∀ w ∈ u_ws RX3 TX3 7, w.before args s = true := fun w h => S.2.2.2.2 w ((by decide +kernel : ∀ w ∈ u_ws RX3 TX3 7, w ∈ wsX4_tell) w h)
  have LX4 : ∀ w ∈ u_ws RX4 TX4 6, w.before args s = true := fun w h => S.2.2.2.2 w ((by decide +kernel : ∀ w ∈ u_ws RX4 TX4 6, w ∈ wsX4_tell) w h)
  have k1 : (Cond.fieldLink RX4 10 "GossipMembership" "world" "LGossipMembership$World;").before args s = true := S.2.2.2.2 _ (by decide +kernel : (Cond.fieldLink RX4 10 "GossipMembership" "world" "LGossipMembership$World;") ∈ wsX4_tell)
  have k2 : (Cond.fieldLink RX4 65 "GossipMembership$World" "network" "LGossipMembership$Network;").before args s = true := S.2.2.2.2 _ (by decide +kernel : (Cond.fieldLink RX4 65 "GossipMembership$World" "network" "LGossipMembership$Network;") ∈ wsX4_tell)
  have k3 : (Cond.fieldLink RX4 69 "GossipMembership$Network" "up" "[Z").before args s = true := S.2.2.2.2 _ (by decide +kernel : (Cond.fieldLink RX4 69 "GossipMembership$Network" "up" "[Z") ∈ wsX4_tell)
  have k4 : (Cond.fieldLink RX4 37 "GossipMembership$World" "knowledge" "LGossipMembership$Knowledge;").before args s = true := S.2.2.2.2 _ (by decide +kernel : (Cond.fieldLink RX4 37 "GossipMembership$World" "knowledge" "LGossipMembership$Knowledge;") ∈ wsX4_tell)
  have m1IAE : Cond.classLink RX4 30 xIAE ∈ wsX4_tell := by decide +kernel
  have m2IAE : Cond.initialized xIAE ∈ wsX4_tell := by decide +kernel
  have m3IAE : ∀ w ∈ (vx_atS RX4 34 xIAE ["java/lang/RuntimeException", "java/lang/Exception"]).filter goodWord, w ∈ wsX4_tell := by decide +kernel
  have m1ISE : Cond.classLink RX4 75 xISE ∈ wsX4_tell := by decide +kernel
  have m2ISE : Cond.initialized xISE ∈ wsX4_tell := by decide +kernel
  have m3ISE : ∀ w ∈ (vx_atS RX4 79 xISE ["java/lang/RuntimeException", "java/lang/Exception"]).filter goodWord, w ∈ wsX4_tell := by decide +kernel
  refine lv_iload_n S.1 S.2.1 dX4_tell_0 rfl (lv_at hl 1 rfl) ?_
  refine cx_v (wc := []) (wr := (gp G a z y k)) (vx_runS (As := [.int (v)]) (rest := []) S (c_X4_requireNode l G H.size (v)) (va_cwS 1 S.2.2.2.2 gX4_tell_X4_requireNode rfl rfl rfl hd_X4_requireNode ⟨by rw [hR]; exact Nat.le_of_ble_eq_true rfl, by rw [hR]; exact Nat.le_of_ble_eq_true rfl⟩) ⟨PX.blind, fun U hU hW => ⟨rfl, PX.of hK hX (hw.sub [] rfl rfl) (va_free hw.2.1 hw.2.2 hA [] rfl) hU hW⟩⟩ rfl rfl hl.1 rfl (lv_room (Nat.le_of_ble_eq_true rfl)) dX4_tell_1 ⟨by rw [hR, Nat.zero_add]; exact xc_on2 _ _ _ _, by rw [hR, Nat.zero_add]; exact Nat.mul_le_mul_left 6 (xc_on2 _ _ _ _)⟩) hw hA [] [0, 1, 2, 3, 4, 5, 6, 7, 8, 9, 10, 11, 12, 13, 14, 15, 16, 17, 18, 19, 20, 21, 22, 23, 24, 25, 26] rfl rfl rfl rfl (by decide) (fun _ => rfl) (fun _ => rfl) (fun ce q9 u9 H locs hpx hw9 g1 g2 g3 => ?_) (fun u9 H locs hn1 hw9 => ?_)
  · skip
    have hpx : ¬ rn (v) = 0 := hpx
    have hp9 : pT v w x i z = (rn (v), 0, z) := (by rw [pT, on2_no1 (rn_f hpx), rn_1 hpx])
    exact out_x hQ (u := ((z, y, k) : St × St × St)) (by rw [List.append_nil] at hw9; exact hw9) hlk htab g1 g2 g3 (by rw [hp9]; exact ⟨hpx, rfl⟩) (by first | (rw [hp9]; done) | (rw [hp9]; rw [rn_1 hpx]; rfl)) rfl (by rw [hp9, Nat.zero_add]; exact Nat.le_refl _) (by rw [hp9, Nat.zero_add]; exact Nat.le_refl _)
  · skip
    have hn1 : rn (v) = 0 := hn1
    have hw : WD G (gp G a z y k) A s H locs := by rw [List.append_nil] at hw9; exact hw9
    refine W.widen (k := 0) (n := 0) (by show 0 + xc (rn (v)) ≤ 0; rw [hn1]; decide) (by show 0 + 6 * xc (rn (v)) ≤ 0; rw [hn1]; decide) ?_
    have hn1b := rn_0.mp hn1
    obtain ⟨n, hn, en9⟩ := nd_of hn1b
    subst en9
    refine lv_iload_n S.1 S.2.1 dX4_tell_4 rfl (lv_at hl 2 rfl) ?_
    refine cx_v (wc := []) (wr := (gp G a z y k)) (vx_runS (As := [.int (w)]) (rest := []) S (c_X4_requireNode l G H.size (w)) (va_cwS 1 S.2.2.2.2 gX4_tell_X4_requireNode rfl rfl rfl hd_X4_requireNode ⟨by rw [hR]; exact Nat.le_of_ble_eq_true rfl, by rw [hR]; exact Nat.le_of_ble_eq_true rfl⟩) ⟨PX.blind, fun U hU hW => ⟨rfl, PX.of hK hX (hw.sub [] rfl rfl) (va_free hw.2.1 hw.2.2 hA [] rfl) hU hW⟩⟩ rfl rfl hl.1 rfl (lv_room (Nat.le_of_ble_eq_true rfl)) dX4_tell_5 ⟨by rw [hR, Nat.zero_add]; exact xc_on2b _ _ _ _, by rw [hR, Nat.zero_add]; exact Nat.mul_le_mul_left 6 (xc_on2b _ _ _ _)⟩) hw hA [] [0, 1, 2, 3, 4, 5, 6, 7, 8, 9, 10, 11, 12, 13, 14, 15, 16, 17, 18, 19, 20, 21, 22, 23, 24, 25, 26] rfl rfl rfl rfl (by decide) (fun _ => rfl) (fun _ => rfl) (fun ce q9 u9 H locs hpx hw9 g1 g2 g3 => ?_) (fun u9 H locs hn2 hw9 => ?_)
    · skip
      have hpx : ¬ rn (w) = 0 := hpx
      have hp9 : pT (nI (n)) w x i z = (rn (w), 0, z) := (by rw [pT, on2_no2 (rn_f hpx), rn_1 hpx])
      exact out_x hQ (u := ((z, y, k) : St × St × St)) (by rw [List.append_nil] at hw9; exact hw9) hlk htab g1 g2 g3 (by rw [hp9]; exact ⟨hpx, rfl⟩) (by first | (rw [hp9]; done) | (rw [hp9]; rw [rn_1 hpx]; rfl)) rfl (by rw [hp9, Nat.zero_add]; exact Nat.le_refl _) (by rw [hp9, Nat.zero_add]; exact Nat.le_refl _)
    · skip
      have hn2 : rn (w) = 0 := hn2
      have hw : WD G (gp G a z y k) A s H locs := by rw [List.append_nil] at hw9; exact hw9
      refine W.widen (k := 0) (n := 0) (by show 0 + xc (rn (w)) ≤ 0; rw [hn2]; decide) (by show 0 + 6 * xc (rn (w)) ≤ 0; rw [hn2]; decide) ?_
      have hn2b := rn_0.mp hn2
      obtain ⟨b, hb, eb9⟩ := nd_of hn2b
      subst eb9
      refine lv_aload_n S.1 S.2.1 dX4_tell_8 rfl (lv_at hl 0 rfl) ?_
      refine gt_X4_0 (v := .ref (a 15)) S hK hw 0 rfl rfl LX4 k1 dX4_tell_9 ?_
      refine gt_X3_0 (v := .ref (a 16)) S hK hw 15 rfl rfl LX3 k2 dX4_tell_12 ?_
      refine gt_X2_0 (v := .ref (a 17)) S hK hw 16 rfl rfl LX2 k3 dX4_tell_15 ?_
      refine lv_iload_n S.1 S.2.1 dX4_tell_18 rfl (lv_at hl 1 rfl) ?_
      refine ald_z (f := z 1) (k := n) S hK hw 17 rfl (by omega) (by decide) (iz.1 _ (by omega)) dX4_tell_19 ?_
      refine brB_ne (b := decide (z 1 (n) = 1)) S (tgt := 33) dX4_tell_20 (by decide) (fun c3 => ?_) (fun c3 => ?_)
      · skip
        have h0 := fl1 c3
        refine lv_iload_n S.1 S.2.1 dX4_tell_33 rfl (lv_at hl 3 rfl) ?_
        refine lv_iconst (v := 1) S.1 S.2.1 dX4_tell_34 (by decide) ?_
        refine lv_icmp_lt (tgt := 43) S.1 S.2.1 dX4_tell_35 (by decide) (fun c4 => ?_) (fun c4 => ?_)
        · skip
          have hp9 : pT (nI (n)) (nI (b)) x i z = (3, 0, z) := (by first | (simp [pT, on2, inB, h0, hn, nd_n hn, tN_n hn, hb, nd_n hb, tN_n hb, c3, c4]; done) | (have h7 := i_nl c4; simp [pT, on2, inB, h0, h7, hn, nd_n hn, tN_n hn, hb, nd_n hb, tN_n hb, c3, c4]; done))
          exact th_IAE (text := "the state is out of range") S hX hw hl.1 hlk htab (by decide) m1IAE m2IAE m3IAE dX4_tell_43 dX4_tell_46 dX4_tell_47 dX4_tell_49 dX4_tell_52 hQ ((z, y, k) : St × St × St) (by rw [hp9]; exact ⟨show ¬ (3 : Int32) = 0 by decide, rfl⟩) (by rw [hp9]; rfl) rfl (by rw [hR]; exact Nat.le_of_ble_eq_true rfl) (by rw [hR]; exact Nat.le_of_ble_eq_true rfl) (by rw [hR]; show 0 + 1 ≤ xc (pT (nI (n)) (nI (b)) x i z).1; rw [hp9]; exact (show 0 + 1 ≤ xc 3 by decide)) (by rw [hR]; show 0 + 6 ≤ 6 * xc (pT (nI (n)) (nI (b)) x i z).1; rw [hp9]; exact (show 0 + 6 ≤ 6 * xc 3 by decide)) (by rw [hp9]; exact (show 0 + 1 ≤ xc 3 by decide)) (by rw [hp9]; exact (show 0 + 6 ≤ 6 * xc 3 by decide))
        · skip
          refine lv_iload_n S.1 S.2.1 dX4_tell_38 rfl (lv_at hl 3 rfl) ?_
          refine lv_iconst (v := 3) S.1 S.2.1 dX4_tell_39 (by decide) ?_
          refine lv_icmp_le (tgt := 53) S.1 S.2.1 dX4_tell_40 (by decide) (fun c5 => ?_) (fun c5 => ?_)
          · skip
            have hx3 := c5
            refine lv_iload S.1 S.2.1 dX4_tell_53 (lv_at hl 4 rfl) ?_
            refine lv_if_lt (tgt := 66) S.1 S.2.1 dX4_tell_55 (by decide) (fun c6 => ?_) (fun c6 => ?_)
            · skip
              have hp9 : pT (nI (n)) (nI (b)) x i z = (3, 0, z) := (by first | (simp [pT, on2, inB, h0, hn, nd_n hn, tN_n hn, hb, nd_n hb, tN_n hb, c3, c4, c5, c6]; done) | (have h7 := i_nl c6; simp [pT, on2, inB, h0, h7, hn, nd_n hn, tN_n hn, hb, nd_n hb, tN_n hb, c3, c4, c5, c6]; done))
              exact th_IAE (text := "the incarnation is out of range") S hX hw hl.1 hlk htab (by decide) m1IAE m2IAE m3IAE dX4_tell_66 dX4_tell_69 dX4_tell_70 dX4_tell_72 dX4_tell_75 hQ ((z, y, k) : St × St × St) (by rw [hp9]; exact ⟨show ¬ (3 : Int32) = 0 by decide, rfl⟩) (by rw [hp9]; rfl) rfl (by rw [hR]; exact Nat.le_of_ble_eq_true rfl) (by rw [hR]; exact Nat.le_of_ble_eq_true rfl) (by rw [hR]; show 0 + 1 ≤ xc (pT (nI (n)) (nI (b)) x i z).1; rw [hp9]; exact (show 0 + 1 ≤ xc 3 by decide)) (by rw [hR]; show 0 + 6 ≤ 6 * xc (pT (nI (n)) (nI (b)) x i z).1; rw [hp9]; exact (show 0 + 6 ≤ 6 * xc 3 by decide)) (by rw [hp9]; exact (show 0 + 1 ≤ xc 3 by decide)) (by rw [hp9]; exact (show 0 + 6 ≤ 6 * xc 3 by decide))
            · skip
              refine lv_iload S.1 S.2.1 dX4_tell_58 (lv_at hl 4 rfl) ?_
              refine lv_sipush (v := 1000) S.1 S.2.1 dX4_tell_60 (by decide) ?_
              refine lv_icmp_le (tgt := 76) S.1 S.2.1 dX4_tell_63 (by decide) (fun c7 => ?_) (fun c7 => ?_)
              · skip
                refine lv_aload_n S.1 S.2.1 dX4_tell_76 rfl (lv_at hl 0 rfl) ?_
                refine gt_X4_0 (v := .ref (a 15)) S hK hw 0 rfl rfl LX4 k1 dX4_tell_77 ?_
                refine gt_X3_1 (v := .ref (a 21)) S hK hw 15 rfl rfl LX3 k4 dX4_tell_80 ?_
                refine lv_iload_n S.1 S.2.1 dX4_tell_83 rfl (lv_at hl 1 rfl) ?_
                refine lv_iload_n S.1 S.2.1 dX4_tell_84 rfl (lv_at hl 2 rfl) ?_
                refine lv_iload_n S.1 S.2.1 dX4_tell_85 rfl (lv_at hl 3 rfl) ?_
                refine lv_iload S.1 S.2.1 dX4_tell_86 (lv_at hl 4 rfl) ?_
                have hwc : WD G (wp G (fun i => a (15 + i)) z) A s H _ := hw.sub [15, 16, 17, 18, 19, 20, 21, 22, 23, 24, 25, 26] rfl rfl
                refine cj_i (wc := (wp G (fun i => a (15 + i)) z)) (wr := (gpr G a y k)) (va_runV (As := [.int (nI (n)), .int (nI (b)), .int (x), .int (i)]) (rest := []) S (c_X1_takeIn l G (fun i => a (15 + i)) z H.size (n) (b) (x) (i) (by omega) (by omega)) (cwV 4 S.2.2.2.2 gX4_tell_X1_takeIn rfl rfl rfl hd_X1_takeIn ⟨by rw [hR]; exact Nat.le_of_ble_eq_true rfl, by rw [hR]; exact Nat.le_of_ble_eq_true rfl⟩) ⟨PW.blind, va_recv hK.1 hwc.1 (ci := 1) (q0 := 6) rfl rfl, fun U hU hW => ⟨rfl, PW.of hK hwc hU hW⟩⟩ rfl rfl hl.1 rfl (lv_room (Nat.le_of_ble_eq_true rfl)) dX4_tell_88 ⟨Nat.zero_le _, Nat.zero_le _⟩) hw hA [15, 16, 17, 18, 19, 20, 21, 22, 23, 24, 25, 26] [0, 1, 2, 3, 4, 5, 6, 7, 8, 9, 10, 11, 12, 13, 14] rfl rfl rfl rfl (by decide) (fun _ => rfl) (fun r8 z9 H locs h10 hw9 => ?_)
                obtain ⟨rfl, ez9⟩ := h10
                have hw : WD G (gp G a z9 y k) A s H locs := hw9
                have iz9 : Inv z9 := by rw [ez9]; exact inv_tk iz (n := (n)) (b := (b)) (by omega) (by omega) (x) (i)
                refine lv_istore (lv' := [(5, .int (b2 (tkb z (n) (b) (x) (i)))), (0, .ref (a 0)), (1, .int (nI (n))), (2, .int (nI (b))), (3, .int (x)), (4, .int (i))]) S.1 S.2.1 dX4_tell_91 hl (by decide) rfl (fun ls hl => ?_)
                refine lv_aload_n S.1 S.2.1 dX4_tell_93 rfl (lv_at hl 1 rfl) ?_
                refine gt_X4_0 (v := .ref (a 15)) S hK hw 0 rfl rfl LX4 k1 dX4_tell_94 ?_
                refine gt_X3_1 (v := .ref (a 21)) S hK hw 15 rfl rfl LX3 k4 dX4_tell_97 ?_
                have hwc : WD G (wp G (fun i => a (15 + i)) z9) A s H _ := hw.sub [15, 16, 17, 18, 19, 20, 21, 22, 23, 24, 25, 26] rfl rfl
                refine cj_v (wc := (wp G (fun i => a (15 + i)) z9)) (wr := (gpr G a y k)) (va_runV (As := []) (rest := []) S (c_X1_endQuiet l G (fun i => a (15 + i)) z9 H.size  ) (cwV 0 S.2.2.2.2 gX4_tell_X1_endQuiet rfl rfl rfl hd_X1_endQuiet ⟨by rw [hR]; exact Nat.le_of_ble_eq_true rfl, by rw [hR]; exact Nat.le_of_ble_eq_true rfl⟩) ⟨PW.blind, va_recv hK.1 hwc.1 (ci := 1) (q0 := 6) rfl rfl, fun U hU hW => ⟨rfl, PW.of hK hwc hU hW⟩⟩ rfl rfl hl.1 rfl (lv_room (Nat.le_of_ble_eq_true rfl)) dX4_tell_100 ⟨Nat.zero_le _, Nat.zero_le _⟩) hw hA [15, 16, 17, 18, 19, 20, 21, 22, 23, 24, 25, 26] [0, 1, 2, 3, 4, 5, 6, 7, 8, 9, 10, 11, 12, 13, 14] rfl rfl rfl rfl (by decide) (fun _ => rfl) (fun z12 H locs h13 hw9 => ?_)
                have ez12 := h13
                have hw : WD G (gp G a z12 y k) A s H locs := hw9
                have iz12 : Inv z12 := by rw [ez12]; exact inv_endq iz9
                refine lv_iload S.1 S.2.1 dX4_tell_103 (lv_at hl 0 rfl) ?_
                have hp9 : pT (nI (n)) (nI (b)) x i z = (0, (b2 (tkb z (n) (b) (x) (i))), z12) := (by have h7 := i_ln c7; have h8 := i_ln hx3; subst ez12 ez9; simp [pT, on2, inB, h0, h7, h8, hn, nd_n hn, tN_n hn, hb, nd_n hb, tN_n hb, c3, c4, c5, c6, c7])
                exact ret_x hQ (Nat.zero_le _) (Nat.zero_le _) (en_z (v := (b2 (tkb z (n) (b) (x) (i)))) ((z12, y, k) : St × St × St) rfl S hr hlk (b2_narrow _) hw (by exact ⟨by rw [hp9], by rw [hp9], by rw [hp9]⟩) dX4_tell_105)
              · skip
                have hp9 : pT (nI (n)) (nI (b)) x i z = (3, 0, z) := (by first | (simp [pT, on2, inB, h0, hn, nd_n hn, tN_n hn, hb, nd_n hb, tN_n hb, c3, c4, c5, c6, c7]; done) | (have h7 := i_nl c7; simp [pT, on2, inB, h0, h7, hn, nd_n hn, tN_n hn, hb, nd_n hb, tN_n hb, c3, c4, c5, c6, c7]; done))
                exact th_IAE (text := "the incarnation is out of range") S hX hw hl.1 hlk htab (by decide) m1IAE m2IAE m3IAE dX4_tell_66 dX4_tell_69 dX4_tell_70 dX4_tell_72 dX4_tell_75 hQ ((z, y, k) : St × St × St) (by rw [hp9]; exact ⟨show ¬ (3 : Int32) = 0 by decide, rfl⟩) (by rw [hp9]; rfl) rfl (by rw [hR]; exact Nat.le_of_ble_eq_true rfl) (by rw [hR]; exact Nat.le_of_ble_eq_true rfl) (by rw [hR]; show 0 + 1 ≤ xc (pT (nI (n)) (nI (b)) x i z).1; rw [hp9]; exact (show 0 + 1 ≤ xc 3 by decide)) (by rw [hR]; show 0 + 6 ≤ 6 * xc (pT (nI (n)) (nI (b)) x i z).1; rw [hp9]; exact (show 0 + 6 ≤ 6 * xc 3 by decide)) (by rw [hp9]; exact (show 0 + 1 ≤ xc 3 by decide)) (by rw [hp9]; exact (show 0 + 6 ≤ 6 * xc 3 by decide))
          · skip
            have hp9 : pT (nI (n)) (nI (b)) x i z = (3, 0, z) := (by first | (simp [pT, on2, inB, h0, hn, nd_n hn, tN_n hn, hb, nd_n hb, tN_n hb, c3, c4, c5]; done) | (have h7 := i_nl c5; simp [pT, on2, inB, h0, h7, hn, nd_n hn, tN_n hn, hb, nd_n hb, tN_n hb, c3, c4, c5]; done))
            exact th_IAE (text := "the state is out of range") S hX hw hl.1 hlk htab (by decide) m1IAE m2IAE m3IAE dX4_tell_43 dX4_tell_46 dX4_tell_47 dX4_tell_49 dX4_tell_52 hQ ((z, y, k) : St × St × St) (by rw [hp9]; exact ⟨show ¬ (3 : Int32) = 0 by decide, rfl⟩) (by rw [hp9]; rfl) rfl (by rw [hR]; exact Nat.le_of_ble_eq_true rfl) (by rw [hR]; exact Nat.le_of_ble_eq_true rfl) (by rw [hR]; show 0 + 1 ≤ xc (pT (nI (n)) (nI (b)) x i z).1; rw [hp9]; exact (show 0 + 1 ≤ xc 3 by decide)) (by rw [hR]; show 0 + 6 ≤ 6 * xc (pT (nI (n)) (nI (b)) x i z).1; rw [hp9]; exact (show 0 + 6 ≤ 6 * xc 3 by decide)) (by rw [hp9]; exact (show 0 + 1 ≤ xc 3 by decide)) (by rw [hp9]; exact (show 0 + 6 ≤ 6 * xc 3 by decide))
      · skip
        have h0 := fl0 (iz.1 n hn) c3
        have hp9 : pT (nI (n)) (nI (b)) x i z = (2, 0, z) := (by first | (simp [pT, on2, inB, h0, hn, nd_n hn, tN_n hn, hb, nd_n hb, tN_n hb, c3]; done) | (have h7 := i_nl c3; simp [pT, on2, inB, h0, h7, hn, nd_n hn, tN_n hn, hb, nd_n hb, tN_n hb, c3]; done))
        exact th_ISE (text := "the node is down") S hX hw hl.1 hlk htab (by decide) m1ISE m2ISE m3ISE dX4_tell_23 dX4_tell_26 dX4_tell_27 dX4_tell_29 dX4_tell_32 hQ ((z, y, k) : St × St × St) (by rw [hp9]; exact ⟨show ¬ (2 : Int32) = 0 by decide, rfl⟩) (by rw [hp9]; rfl) rfl (by rw [hR]; exact Nat.le_of_ble_eq_true rfl) (by rw [hR]; exact Nat.le_of_ble_eq_true rfl) (by rw [hR]; show 0 + 1 ≤ xc (pT (nI (n)) (nI (b)) x i z).1; rw [hp9]; exact (show 0 + 1 ≤ xc 2 by decide)) (by rw [hR]; show 0 + 6 ≤ 6 * xc (pT (nI (n)) (nI (b)) x i z).1; rw [hp9]; exact (show 0 + 6 ≤ 6 * xc 2 by decide)) (by rw [hp9]; exact (show 0 + 1 ≤ xc 2 by decide)) (by rw [hp9]; exact (show 0 + 6 ≤ 6 * xc 2 by decide))

theorem hd_X4_rounds : yX4_rounds.cls = RX4 ∧ yX4_rounds.cls ≠ "java/lang/invoke/MethodHandle" ∧ yX4_rounds.cls ≠ "java/lang/invoke/VarHandle" ∧ (parseMethodDescriptor yX4_rounds.desc).map (fun d => d.parameters.length) = some 1 := by decide +kernel
set_option maxHeartbeats 4000000 in
set_option maxRecDepth 100000 in
theorem c_X4_rounds (l : Launch) (G : GA) (a : Nat → Nat) (z : St) (y : St) (k : St) (sz : Nat) (q : Int32) (iz : Inv z) : vx_Met l yX4_rounds wsX4_rounds ({ frames := 6, cells := xc (pR q z : PO).1, slots := 6 * xc (pR q z : PO).1, locals := 136 }) (va_Pc [.ref (a 0), .int (q)] (PX l G (gp G a z y k) sz)) (va_Qi (fun (r : Int32) (u : St × St × St) => (pR q z : PO).1 = 0 ∧ r = (pR q z : PO).2.1 ∧ u = ((pR q z : PO).2.2, y, k)) (fun (u : St × St × St) t => va_P G.1 gcl (gp G a u.1 u.2.1 u.2.2) t.heap) (va_A (gp G a z y k) sz)) (vx_X (fun (u : St × St × St) => ¬ (pR q z : PO).1 = 0 ∧ u = ((pR q z : PO).2.2, y, k)) (fun E u t => E = ex3 xIAE xIAE xIAE (pR q z : PO).1 ∧ va_P G.1 gcl (gp G a u.1 u.2.1 u.2.2) t.heap) (va_A (gp G a z y k) sz)) (xc (pR q z : PO).1) (6 * xc (pR q z : PO).1) (va_A (gp G a z y k) sz) := by
  refine met_x (cc := cX4_rounds) (maxL := 2) (ret := (some .int)) (fun A => va_Qi (fun (r : Int32) (u : St × St × St) => (pR q z : PO).1 = 0 ∧ r = (pR q z : PO).2.1 ∧ u = ((pR q z : PO).2.2, y, k)) (fun (u : St × St × St) t => va_P G.1 gcl (gp G a u.1 u.2.1 u.2.2) t.heap) A) (fun A => vx_X (fun (u : St × St × St) => ¬ (pR q z : PO).1 = 0 ∧ u = ((pR q z : PO).2.2, y, k)) (fun E u t => E = ex3 xIAE xIAE xIAE (pR q z : PO).1 ∧ va_P G.1 gcl (gp G a u.1 u.2.1 u.2.2) t.heap) A) (by decide) rfl (Nat.le_of_ble_eq_true rfl) ?_
  intro p e s m args below meth c R Q A H ls hR hQ S hr hlk htab hK hX hsz hH hAe hA hw hl
  have hl : lv_has ls 2 [(0, .ref (a 0)), (1, .int (q))] := hl
  have LX1 : ∀ w ∈ u_ws RX1 TX1 10, w.before args s = true := fun w h => S.2.2.2.2 w ((by decide +kernel : ∀ w ∈ u_ws RX1 TX1 10, w ∈ wsX4_rounds) w h)
  have LX3 : ∀ w ∈ u_ws RX3 TX3 7, w.before args s = true := fun w h => S.2.2.2.2 w ((by decide +kernel : ∀ w ∈ u_ws RX3 TX3 7, w ∈ wsX4_rounds) w h)
  have LX4 : ∀ w ∈ u_ws RX4 TX4 6, w.before args s = true := fun w h => S.2.2.2.2 w ((by decide +kernel : ∀ w ∈ u_ws RX4 TX4 6, w ∈ wsX4_rounds) w h)
  have k1 : (Cond.fieldLink RX4 10 "GossipMembership" "world" "LGossipMembership$World;").before args s = true := S.2.2.2.2 _ (by decide +kernel : (Cond.fieldLink RX4 10 "GossipMembership" "world" "LGossipMembership$World;") ∈ wsX4_rounds)
  have k2 : (Cond.fieldLink RX4 37 "GossipMembership$World" "knowledge" "LGossipMembership$Knowledge;").before args s = true := S.2.2.2.2 _ (by decide +kernel : (Cond.fieldLink RX4 37 "GossipMembership$World" "knowledge" "LGossipMembership$Knowledge;") ∈ wsX4_rounds)
  have k3 : (Cond.fieldLink RX4 127 "GossipMembership$Knowledge" "presentRound" "I").before args s = true := S.2.2.2.2 _ (by decide +kernel : (Cond.fieldLink RX4 127 "GossipMembership$Knowledge" "presentRound" "I") ∈ wsX4_rounds)
  have m1IAE : Cond.classLink RX4 30 xIAE ∈ wsX4_rounds := by decide +kernel
  have m2IAE : Cond.initialized xIAE ∈ wsX4_rounds := by decide +kernel
  have m3IAE : ∀ w ∈ (vx_atS RX4 34 xIAE ["java/lang/RuntimeException", "java/lang/Exception"]).filter goodWord, w ∈ wsX4_rounds := by decide +kernel
  refine lv_iload_n S.1 S.2.1 dX4_rounds_0 rfl (lv_at hl 1 rfl) ?_
  refine lv_iconst (v := 1) S.1 S.2.1 dX4_rounds_1 (by decide) ?_
  refine lv_icmp_lt (tgt := 11) S.1 S.2.1 dX4_rounds_2 (by decide) (fun c1 => ?_) (fun c1 => ?_)
  · skip
    have hp9 : pR q z = (1, 0, z) := (by first | (simp [pR, inB, c1]; done) | (have h7 := i_nl c1; simp [pR, inB, h7, c1]; done))
    exact th_IAE (text := "count is out of range") S hX hw hl.1 hlk htab (by decide) m1IAE m2IAE m3IAE dX4_rounds_11 dX4_rounds_14 dX4_rounds_15 dX4_rounds_17 dX4_rounds_20 hQ ((z, y, k) : St × St × St) (by rw [hp9]; exact ⟨show ¬ (1 : Int32) = 0 by decide, rfl⟩) (by rw [hp9]; rfl) rfl (by rw [hR]; exact Nat.le_of_ble_eq_true rfl) (by rw [hR]; exact Nat.le_of_ble_eq_true rfl) (by rw [hR]; show 0 + 1 ≤ xc (pR q z).1; rw [hp9]; exact (show 0 + 1 ≤ xc 1 by decide)) (by rw [hR]; show 0 + 6 ≤ 6 * xc (pR q z).1; rw [hp9]; exact (show 0 + 6 ≤ 6 * xc 1 by decide)) (by rw [hp9]; exact (show 0 + 1 ≤ xc 1 by decide)) (by rw [hp9]; exact (show 0 + 6 ≤ 6 * xc 1 by decide))
  · skip
    refine lv_iload_n S.1 S.2.1 dX4_rounds_5 rfl (lv_at hl 1 rfl) ?_
    refine lv_bipush (v := 50) S.1 S.2.1 dX4_rounds_6 (by decide) ?_
    refine lv_icmp_le (tgt := 21) S.1 S.2.1 dX4_rounds_8 (by decide) (fun c2 => ?_) (fun c2 => ?_)
    · skip
      have hB : inB q 1 50 = true := by have h7 := i_ln c2; simp [inB, h7, c1]
      obtain ⟨q9, h50, eq9⟩ := inB_50 hB
      subst eq9
      refine lv_aload_n S.1 S.2.1 dX4_rounds_21 rfl (lv_at hl 0 rfl) ?_
      refine gt_X4_0 (v := .ref (a 15)) S hK hw 0 rfl rfl LX4 k1 dX4_rounds_22 ?_
      refine lv_iload_n S.1 S.2.1 dX4_rounds_25 rfl (lv_at hl 1 rfl) ?_
      have hwc : WD G (wp G (fun i => a (15 + i)) z) A s H _ := hw.sub [15, 16, 17, 18, 19, 20, 21, 22, 23, 24, 25, 26] rfl rfl
      refine cj_v (wc := (wp G (fun i => a (15 + i)) z)) (wr := (gpr G a y k)) (va_runV (As := [.int (nI (q9))]) (rest := []) S (c_X3_play l G (fun i => a (15 + i)) z H.size (q9) (by omega) (by exact iz)) (cwV 1 S.2.2.2.2 gX4_rounds_X3_play rfl rfl rfl hd_X3_play ⟨by rw [hR]; exact Nat.le_of_ble_eq_true rfl, by rw [hR]; exact Nat.le_of_ble_eq_true rfl⟩) ⟨PW.blind, va_recv hK.1 hwc.1 (ci := 3) (q0 := 0) rfl rfl, fun U hU hW => ⟨rfl, PW.of hK hwc hU hW⟩⟩ rfl rfl hl.1 rfl (lv_room (Nat.le_of_ble_eq_true rfl)) dX4_rounds_26 ⟨Nat.zero_le _, Nat.zero_le _⟩) hw hA [15, 16, 17, 18, 19, 20, 21, 22, 23, 24, 25, 26] [0, 1, 2, 3, 4, 5, 6, 7, 8, 9, 10, 11, 12, 13, 14] rfl rfl rfl rfl (by decide) (fun _ => rfl) (fun z4 H locs h5 hw9 => ?_)
      have ez4 := h5
      have hw : WD G (gp G a z4 y k) A s H locs := hw9
      have iz4 : Inv z4 := by rw [ez4]; exact inv_rds iz (q9)
      refine lv_aload_n S.1 S.2.1 dX4_rounds_29 rfl (lv_at hl 0 rfl) ?_
      refine gt_X4_0 (v := .ref (a 15)) S hK hw 0 rfl rfl LX4 k1 dX4_rounds_30 ?_
      refine gt_X3_1 (v := .ref (a 21)) S hK hw 15 rfl rfl LX3 k2 dX4_rounds_33 ?_
      refine gt_X1_7 (v := .int (z4 0 0)) S hK hw 21 rfl rfl LX1 k3 dX4_rounds_36 ?_
      have hp9 : pR (nI (q9)) z = (0, (z4 0 0), z4) := (by subst ez4; rw [pR, if_pos hB, tN_q (Nat.le_trans h50 (by decide))])
      exact ret_x hQ (Nat.zero_le _) (Nat.zero_le _) (en_i (v := (z4 0 0)) ((z4, y, k) : St × St × St) rfl S hr hlk hw (by exact ⟨by rw [hp9], by rw [hp9], by rw [hp9]⟩) dX4_rounds_39)
    · skip
      have hp9 : pR q z = (1, 0, z) := (by first | (simp [pR, inB, c1, c2]; done) | (have h7 := i_nl c2; simp [pR, inB, h7, c1, c2]; done))
      exact th_IAE (text := "count is out of range") S hX hw hl.1 hlk htab (by decide) m1IAE m2IAE m3IAE dX4_rounds_11 dX4_rounds_14 dX4_rounds_15 dX4_rounds_17 dX4_rounds_20 hQ ((z, y, k) : St × St × St) (by rw [hp9]; exact ⟨show ¬ (1 : Int32) = 0 by decide, rfl⟩) (by rw [hp9]; rfl) rfl (by rw [hR]; exact Nat.le_of_ble_eq_true rfl) (by rw [hR]; exact Nat.le_of_ble_eq_true rfl) (by rw [hR]; show 0 + 1 ≤ xc (pR q z).1; rw [hp9]; exact (show 0 + 1 ≤ xc 1 by decide)) (by rw [hR]; show 0 + 6 ≤ 6 * xc (pR q z).1; rw [hp9]; exact (show 0 + 6 ≤ 6 * xc 1 by decide)) (by rw [hp9]; exact (show 0 + 1 ≤ xc 1 by decide)) (by rw [hp9]; exact (show 0 + 6 ≤ 6 * xc 1 by decide))

theorem hd_X4_roundsUntilAgreement : yX4_roundsUntilAgreement.cls = RX4 ∧ yX4_roundsUntilAgreement.cls ≠ "java/lang/invoke/MethodHandle" ∧ yX4_roundsUntilAgreement.cls ≠ "java/lang/invoke/VarHandle" ∧ (parseMethodDescriptor yX4_roundsUntilAgreement.desc).map (fun d => d.parameters.length) = some 1 := by decide +kernel
set_option maxHeartbeats 4000000 in
set_option maxRecDepth 100000 in
theorem c_X4_roundsUntilAgreement (l : Launch) (G : GA) (a : Nat → Nat) (z : St) (y : St) (k : St) (sz : Nat) (q : Int32) (iz : Inv z) : vx_Met l yX4_roundsUntilAgreement wsX4_roundsUntilAgreement ({ frames := 6, cells := xc (pU q z : PO).1, slots := 6 * xc (pU q z : PO).1, locals := 136 }) (va_Pc [.ref (a 0), .int (q)] (PX l G (gp G a z y k) sz)) (va_Qi (fun (r : Int32) (u : St × St × St) => (pU q z : PO).1 = 0 ∧ r = (pU q z : PO).2.1 ∧ u = ((pU q z : PO).2.2, y, k)) (fun (u : St × St × St) t => va_P G.1 gcl (gp G a u.1 u.2.1 u.2.2) t.heap) (va_A (gp G a z y k) sz)) (vx_X (fun (u : St × St × St) => ¬ (pU q z : PO).1 = 0 ∧ u = ((pU q z : PO).2.2, y, k)) (fun E u t => E = ex3 xIAE xNSE xNSE (pU q z : PO).1 ∧ va_P G.1 gcl (gp G a u.1 u.2.1 u.2.2) t.heap) (va_A (gp G a z y k) sz)) (xc (pU q z : PO).1) (6 * xc (pU q z : PO).1) (va_A (gp G a z y k) sz) := by
  refine met_x (cc := cX4_roundsUntilAgreement) (maxL := 4) (ret := (some .int)) (fun A => va_Qi (fun (r : Int32) (u : St × St × St) => (pU q z : PO).1 = 0 ∧ r = (pU q z : PO).2.1 ∧ u = ((pU q z : PO).2.2, y, k)) (fun (u : St × St × St) t => va_P G.1 gcl (gp G a u.1 u.2.1 u.2.2) t.heap) A) (fun A => vx_X (fun (u : St × St × St) => ¬ (pU q z : PO).1 = 0 ∧ u = ((pU q z : PO).2.2, y, k)) (fun E u t => E = ex3 xIAE xNSE xNSE (pU q z : PO).1 ∧ va_P G.1 gcl (gp G a u.1 u.2.1 u.2.2) t.heap) A) (by decide) rfl (Nat.le_of_ble_eq_true rfl) ?_
  intro p e s m args below meth c R Q A H ls hR hQ S hr hlk htab hK hX hsz hH hAe hA hw hl
  have hl : lv_has ls 4 [(0, .ref (a 0)), (1, .int (q))] := hl
  have LX4 : ∀ w ∈ u_ws RX4 TX4 6, w.before args s = true := fun w h => S.2.2.2.2 w ((by decide +kernel : ∀ w ∈ u_ws RX4 TX4 6, w ∈ wsX4_roundsUntilAgreement) w h)
  have k1 : (Cond.fieldLink RX4 10 "GossipMembership" "world" "LGossipMembership$World;").before args s = true := S.2.2.2.2 _ (by decide +kernel : (Cond.fieldLink RX4 10 "GossipMembership" "world" "LGossipMembership$World;") ∈ wsX4_roundsUntilAgreement)
  have m1IAE : Cond.classLink RX4 30 xIAE ∈ wsX4_roundsUntilAgreement := by decide +kernel
  have m2IAE : Cond.initialized xIAE ∈ wsX4_roundsUntilAgreement := by decide +kernel
  have m3IAE : ∀ w ∈ (vx_atS RX4 34 xIAE ["java/lang/RuntimeException", "java/lang/Exception"]).filter goodWord, w ∈ wsX4_roundsUntilAgreement := by decide +kernel
  have m1NSE : Cond.classLink RX4 136 xNSE ∈ wsX4_roundsUntilAgreement := by decide +kernel
  have m2NSE : Cond.initialized xNSE ∈ wsX4_roundsUntilAgreement := by decide +kernel
  have m3NSE : ∀ w ∈ (nse_at RX4 140).filter goodWord, w ∈ wsX4_roundsUntilAgreement := by decide +kernel
  refine lv_iload_n S.1 S.2.1 dX4_roundsUntilAgreement_0 rfl (lv_at hl 1 rfl) ?_
  refine lv_iconst (v := 1) S.1 S.2.1 dX4_roundsUntilAgreement_1 (by decide) ?_
  refine lv_icmp_lt (tgt := 11) S.1 S.2.1 dX4_roundsUntilAgreement_2 (by decide) (fun c1 => ?_) (fun c1 => ?_)
  · skip
    have hp9 : pU q z = (1, 0, z) := (by first | (simp [pU, inB, c1]; done) | (have h7 := i_nl c1; simp [pU, inB, h7, c1]; done) | (have hr9 : ru z q9 = d := ru_eq q9 d hd ho (by first | exact Or.inl (by omega) | exact Or.inr (by rw [← ht]; assumption)); rw [pU, if_pos hB, tN_q h50, hr9, ← ht]; first | (rw [if_pos (by assumption)]; done) | (rw [if_neg (by rw [c1]; decide)]; done)))
    exact th_IAE (text := "most is out of range") S hX hw hl.1 hlk htab (by decide) m1IAE m2IAE m3IAE dX4_roundsUntilAgreement_11 dX4_roundsUntilAgreement_14 dX4_roundsUntilAgreement_15 dX4_roundsUntilAgreement_17 dX4_roundsUntilAgreement_20 hQ ((z, y, k) : St × St × St) (by rw [hp9]; exact ⟨show ¬ (1 : Int32) = 0 by decide, rfl⟩) (by rw [hp9]; rfl) rfl (by rw [hR]; exact Nat.le_of_ble_eq_true rfl) (by rw [hR]; exact Nat.le_of_ble_eq_true rfl) (by rw [hR]; show 0 + 1 ≤ xc (pU q z).1; rw [hp9]; exact (show 0 + 1 ≤ xc 1 by decide)) (by rw [hR]; show 0 + 6 ≤ 6 * xc (pU q z).1; rw [hp9]; exact (show 0 + 6 ≤ 6 * xc 1 by decide)) (by rw [hp9]; exact (show 0 + 1 ≤ xc 1 by decide)) (by rw [hp9]; exact (show 0 + 6 ≤ 6 * xc 1 by decide))
  · skip
    refine lv_iload_n S.1 S.2.1 dX4_roundsUntilAgreement_5 rfl (lv_at hl 1 rfl) ?_
    refine lv_bipush (v := 100) S.1 S.2.1 dX4_roundsUntilAgreement_6 (by decide) ?_
    refine lv_icmp_le (tgt := 21) S.1 S.2.1 dX4_roundsUntilAgreement_8 (by decide) (fun c2 => ?_) (fun c2 => ?_)
    · skip
      have hB : inB q 1 100 = true := by have h7 := i_ln c2; simp [inB, h7, c1]
      obtain ⟨q9, h50, eq9⟩ := inB_100 hB
      subst eq9
      refine lv_iconst (v := 0) S.1 S.2.1 dX4_roundsUntilAgreement_21 (by decide) ?_
      refine lv_istore_n (lv' := [(2, .int 0), (0, .ref (a 0)), (1, .int (nI (q9)))]) S.1 S.2.1 dX4_roundsUntilAgreement_22 rfl hl (by decide) rfl (fun ls hl => ?_)
      refine lv_aload_n S.1 S.2.1 dX4_roundsUntilAgreement_23 rfl (lv_at hl 1 rfl) ?_
      refine gt_X4_0 (v := .ref (a 15)) S hK hw 0 rfl rfl LX4 k1 dX4_roundsUntilAgreement_24 ?_
      have hwc : WD G (wp G (fun i => a (15 + i)) z) A s H _ := hw.sub [15, 16, 17, 18, 19, 20, 21, 22, 23, 24, 25, 26] rfl rfl
      refine cj_i (wc := (wp G (fun i => a (15 + i)) z)) (wr := (gpr G a y k)) (va_runV (As := []) (rest := []) S (c_X3_allAgree l G (fun i => a (15 + i)) z H.size  (by exact iz)) (cwV 0 S.2.2.2.2 gX4_roundsUntilAgreement_X3_allAgree rfl rfl rfl hd_X3_allAgree ⟨by rw [hR]; exact Nat.le_of_ble_eq_true rfl, by rw [hR]; exact Nat.le_of_ble_eq_true rfl⟩) ⟨PW.blind, va_recv hK.1 hwc.1 (ci := 3) (q0 := 0) rfl rfl, fun U hU hW => ⟨rfl, PW.of hK hwc hU hW⟩⟩ rfl rfl hl.1 rfl (lv_room (Nat.le_of_ble_eq_true rfl)) dX4_roundsUntilAgreement_27 ⟨Nat.zero_le _, Nat.zero_le _⟩) hw hA [15, 16, 17, 18, 19, 20, 21, 22, 23, 24, 25, 26] [0, 1, 2, 3, 4, 5, 6, 7, 8, 9, 10, 11, 12, 13, 14] rfl rfl rfl rfl (by decide) (fun _ => rfl) (fun r3 z4 H locs h5 hw9 => ?_)
      obtain ⟨rfl, qz4⟩ := h5
      rw [qz4] at hw9
      have hw : WD G (gp G a z y k) A s H locs := hw9
      refine lv_istore_n (lv' := [(3, .int (b2 (agB z))), (2, .int 0), (0, .ref (a 0)), (1, .int (nI (q9)))]) S.1 S.2.1 dX4_roundsUntilAgreement_30 rfl hl (by decide) rfl (fun ls hl => ?_)
      have K31 : ∀ (fu : Nat) (d : Nat) (t : St) (H : Heap) (locs : List Loc) (ls : Array Slot), q9 - d < fu → d ≤ q9 → t = rds z d → Inv t → (∀ j, j < d → agB (rds z j) = false) → WD G (gp G a t y k) A s H locs → lv_has ls 4 [(0, .ref (a 0)), (1, .int (nI (q9))), (2, .int (nI (d))), (3, .int (b2 (agB t)))] → W p l e R s m args below meth c H locs 0 0 Q (F0 m 31 ls []) := by
        intro fu
        induction fu with
        | zero => exact fun _ _ _ _ _ h => absurd h (Nat.not_lt_zero _)
        | succ fu ih31 =>
          intro d t H locs ls hm31 hd ht it ho hw hl
          refine lv_iload_n S.1 S.2.1 dX4_roundsUntilAgreement_31 rfl (lv_at hl 3 rfl) ?_
          refine brB_ne (b := agB t) S (tgt := 62) dX4_roundsUntilAgreement_32 (by decide) (fun c6 => ?_) (fun c6 => ?_)
          · skip
            refine lv_iload_n S.1 S.2.1 dX4_roundsUntilAgreement_62 rfl (lv_at hl 3 rfl) ?_
            refine brB_ne (b := agB t) S (tgt := 76) dX4_roundsUntilAgreement_63 (by decide) (fun c7 => ?_) (fun c7 => ?_)
            · skip
              refine lv_iload_n S.1 S.2.1 dX4_roundsUntilAgreement_76 rfl (lv_at hl 2 rfl) ?_
              have hp9 : pU (nI (q9)) z = (0, (nI (d)), t) := (by first | (simp [pU, inB, c1, c2, c6, c7]; done) | (have h7 := i_nl c7; simp [pU, inB, h7, c1, c2, c6, c7]; done) | (have hr9 : ru z q9 = d := ru_eq q9 d hd ho (by first | exact Or.inl (by omega) | exact Or.inr (by rw [← ht]; assumption)); rw [pU, if_pos hB, tN_q h50, hr9, ← ht]; first | (rw [if_pos (by assumption)]; done) | (rw [if_neg (by rw [c7]; decide)]; done)))
              exact ret_x hQ (Nat.zero_le _) (Nat.zero_le _) (en_i (v := (nI (d))) ((t, y, k) : St × St × St) rfl S hr hlk hw (by exact ⟨by rw [hp9], by rw [hp9], by rw [hp9]⟩) dX4_roundsUntilAgreement_77)
            · skip
              exact absurd (c6.symm.trans c7) (by decide)
          · skip
            refine lv_iload_n S.1 S.2.1 dX4_roundsUntilAgreement_35 rfl (lv_at hl 2 rfl) ?_
            refine lv_iload_n S.1 S.2.1 dX4_roundsUntilAgreement_36 rfl (lv_at hl 1 rfl) ?_
            refine brN_ge (a := d) (b := q9) S (by omega) (by omega) (tgt := 62) dX4_roundsUntilAgreement_37 (by decide) (fun c8 => ?_) (fun c8 => ?_)
            · skip
              refine lv_iload_n S.1 S.2.1 dX4_roundsUntilAgreement_62 rfl (lv_at hl 3 rfl) ?_
              refine brB_ne (b := agB t) S (tgt := 76) dX4_roundsUntilAgreement_63 (by decide) (fun c9 => ?_) (fun c9 => ?_)
              · skip
                exact absurd (c6.symm.trans c9) (by decide)
              · skip
                have hp9 : pU (nI (q9)) z = (2, 0, t) := (by first | (simp [pU, inB, c1, c2, c6, c8, c9]; done) | (have h7 := i_nl c9; simp [pU, inB, h7, c1, c2, c6, c8, c9]; done) | (have hr9 : ru z q9 = d := ru_eq q9 d hd ho (by first | exact Or.inl (by omega) | exact Or.inr (by rw [← ht]; assumption)); rw [pU, if_pos hB, tN_q h50, hr9, ← ht]; first | (rw [if_pos (by assumption)]; done) | (rw [if_neg (by rw [c9]; decide)]; done)))
                exact th_NSE (text := "the nodes do not agree") S hX hw hl.1 hlk htab (by decide) m1NSE m2NSE m3NSE dX4_roundsUntilAgreement_66 dX4_roundsUntilAgreement_69 dX4_roundsUntilAgreement_70 dX4_roundsUntilAgreement_72 dX4_roundsUntilAgreement_75 hQ ((t, y, k) : St × St × St) (by rw [hp9]; exact ⟨show ¬ (2 : Int32) = 0 by decide, rfl⟩) (by rw [hp9]; rfl) rfl (by rw [hR]; exact Nat.le_of_ble_eq_true rfl) (by rw [hR]; exact Nat.le_of_ble_eq_true rfl) (by rw [hR]; show 0 + 1 ≤ xc (pU (nI (q9)) z).1; rw [hp9]; exact (show 0 + 1 ≤ xc 2 by decide)) (by rw [hR]; show 0 + 6 ≤ 6 * xc (pU (nI (q9)) z).1; rw [hp9]; exact (show 0 + 6 ≤ 6 * xc 2 by decide)) (by rw [hp9]; exact (show 0 + 1 ≤ xc 2 by decide)) (by rw [hp9]; exact (show 0 + 6 ≤ 6 * xc 2 by decide))
            · skip
              refine lv_aload_n S.1 S.2.1 dX4_roundsUntilAgreement_40 rfl (lv_at hl 0 rfl) ?_
              refine gt_X4_0 (v := .ref (a 15)) S hK hw 0 rfl rfl LX4 k1 dX4_roundsUntilAgreement_41 ?_
              refine lv_iconst (v := 1) S.1 S.2.1 dX4_roundsUntilAgreement_44 (by decide) ?_
              have hwc : WD G (wp G (fun i => a (15 + i)) t) A s H _ := hw.sub [15, 16, 17, 18, 19, 20, 21, 22, 23, 24, 25, 26] rfl rfl
              refine cj_v (wc := (wp G (fun i => a (15 + i)) t)) (wr := (gpr G a y k)) (va_runV (As := [.int 1]) (rest := []) S (c_X3_play l G (fun i => a (15 + i)) t H.size (1) (by omega) (by exact it)) (cwV 1 S.2.2.2.2 gX4_roundsUntilAgreement_X3_play rfl rfl rfl hd_X3_play ⟨by rw [hR]; exact Nat.le_of_ble_eq_true rfl, by rw [hR]; exact Nat.le_of_ble_eq_true rfl⟩) ⟨PW.blind, va_recv hK.1 hwc.1 (ci := 3) (q0 := 0) rfl rfl, fun U hU hW => ⟨rfl, PW.of hK hwc hU hW⟩⟩ rfl rfl hl.1 rfl (lv_room (Nat.le_of_ble_eq_true rfl)) dX4_roundsUntilAgreement_45 ⟨Nat.zero_le _, Nat.zero_le _⟩) hw hA [15, 16, 17, 18, 19, 20, 21, 22, 23, 24, 25, 26] [0, 1, 2, 3, 4, 5, 6, 7, 8, 9, 10, 11, 12, 13, 14] rfl rfl rfl rfl (by decide) (fun _ => rfl) (fun z11 H locs h12 hw9 => ?_)
              have ez11 := h12
              have hw : WD G (gp G a z11 y k) A s H locs := hw9
              have iz11 : Inv z11 := by rw [ez11]; exact inv_rds it (1)
              refine lv_iinc (v := (nI (d + 1))) (lv' := [(2, .int (nI (d + 1))), (0, .ref (a 0)), (1, .int (nI (q9))), (3, .int (b2 (agB t)))]) S.1 S.2.1 dX4_roundsUntilAgreement_48 hl (k := 2) rfl (nI_add _ _) (by decide) rfl (fun ls hl => ?_)
              refine lv_aload_n S.1 S.2.1 dX4_roundsUntilAgreement_51 rfl (lv_at hl 1 rfl) ?_
              refine gt_X4_0 (v := .ref (a 15)) S hK hw 0 rfl rfl LX4 k1 dX4_roundsUntilAgreement_52 ?_
              have hwc : WD G (wp G (fun i => a (15 + i)) z11) A s H _ := hw.sub [15, 16, 17, 18, 19, 20, 21, 22, 23, 24, 25, 26] rfl rfl
              refine cj_i (wc := (wp G (fun i => a (15 + i)) z11)) (wr := (gpr G a y k)) (va_runV (As := []) (rest := []) S (c_X3_allAgree l G (fun i => a (15 + i)) z11 H.size  (by exact iz11)) (cwV 0 S.2.2.2.2 gX4_roundsUntilAgreement_X3_allAgree rfl rfl rfl hd_X3_allAgree ⟨by rw [hR]; exact Nat.le_of_ble_eq_true rfl, by rw [hR]; exact Nat.le_of_ble_eq_true rfl⟩) ⟨PW.blind, va_recv hK.1 hwc.1 (ci := 3) (q0 := 0) rfl rfl, fun U hU hW => ⟨rfl, PW.of hK hwc hU hW⟩⟩ rfl rfl hl.1 rfl (lv_room (Nat.le_of_ble_eq_true rfl)) dX4_roundsUntilAgreement_55 ⟨Nat.zero_le _, Nat.zero_le _⟩) hw hA [15, 16, 17, 18, 19, 20, 21, 22, 23, 24, 25, 26] [0, 1, 2, 3, 4, 5, 6, 7, 8, 9, 10, 11, 12, 13, 14] rfl rfl rfl rfl (by decide) (fun _ => rfl) (fun r13 z14 H locs h15 hw9 => ?_)
              obtain ⟨rfl, qz14⟩ := h15
              rw [qz14] at hw9
              have hw : WD G (gp G a z11 y k) A s H locs := hw9
              refine lv_istore_n (lv' := [(3, .int (b2 (agB z11))), (2, .int (nI (d + 1))), (0, .ref (a 0)), (1, .int (nI (q9)))]) S.1 S.2.1 dX4_roundsUntilAgreement_58 rfl hl (by decide) rfl (fun ls hl => ?_)
              refine lv_goto (tgt := 31) S.1 S.2.1 dX4_roundsUntilAgreement_59 (by decide) ?_
              exact ih31 (d + 1) (z11) _ _ _ (by omega) (by omega) (by rw [ez11, ht]; rfl) (by exact iz11) (by exact fun j hj => if e : j = d then (by rw [e, ← ht]; assumption) else ho j (by omega)) hw (lv_sub hl [2, 3, 1, 0] rfl)
      exact K31 (q9 + 1) (0) (z) _ _ _ (by omega) (by exact Nat.zero_le _) (by rfl) (by exact iz) (by exact fun j hj => absurd hj (Nat.not_lt_zero _)) hw (lv_sub hl [2, 3, 1, 0] rfl)
    · skip
      have hp9 : pU q z = (1, 0, z) := (by first | (simp [pU, inB, c1, c2]; done) | (have h7 := i_nl c2; simp [pU, inB, h7, c1, c2]; done) | (have hr9 : ru z q9 = d := ru_eq q9 d hd ho (by first | exact Or.inl (by omega) | exact Or.inr (by rw [← ht]; assumption)); rw [pU, if_pos hB, tN_q h50, hr9, ← ht]; first | (rw [if_pos (by assumption)]; done) | (rw [if_neg (by rw [c2]; decide)]; done)))
      exact th_IAE (text := "most is out of range") S hX hw hl.1 hlk htab (by decide) m1IAE m2IAE m3IAE dX4_roundsUntilAgreement_11 dX4_roundsUntilAgreement_14 dX4_roundsUntilAgreement_15 dX4_roundsUntilAgreement_17 dX4_roundsUntilAgreement_20 hQ ((z, y, k) : St × St × St) (by rw [hp9]; exact ⟨show ¬ (1 : Int32) = 0 by decide, rfl⟩) (by rw [hp9]; rfl) rfl (by rw [hR]; exact Nat.le_of_ble_eq_true rfl) (by rw [hR]; exact Nat.le_of_ble_eq_true rfl) (by rw [hR]; show 0 + 1 ≤ xc (pU q z).1; rw [hp9]; exact (show 0 + 1 ≤ xc 1 by decide)) (by rw [hR]; show 0 + 6 ≤ 6 * xc (pU q z).1; rw [hp9]; exact (show 0 + 6 ≤ 6 * xc 1 by decide)) (by rw [hp9]; exact (show 0 + 1 ≤ xc 1 by decide)) (by rw [hp9]; exact (show 0 + 6 ≤ 6 * xc 1 by decide))
