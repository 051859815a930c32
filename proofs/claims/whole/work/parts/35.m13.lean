theorem hd_X4_runText : yX4_runText.cls = RX4 ∧ yX4_runText.cls ≠ "java/lang/invoke/MethodHandle" ∧ yX4_runText.cls ≠ "java/lang/invoke/VarHandle" ∧ (parseMethodDescriptor yX4_runText.desc).map (fun d => d.parameters.length) = some 0 := by decide +kernel
set_option maxHeartbeats 4000000 in
set_option maxRecDepth 100000 in
theorem c_X4_runText (l : Launch) (G : GA) (a : Nat → Nat) (z : St) (y : St) (k : St) (sz : Nat) {tl : Nat} (iz : Inv z) (hL : k 0 3 = nI tl) (hm : tl ≤ 40) (hch : SG (k 2)) : vx_Met l yX4_runText wsX4_runText ({ frames := 9, cells := xr (((rT (k 2) tl z).1, (rT (k 2) tl z).2.1, (rT (k 2) tl z).2.2.1) : PO).1, slots := 6 * xr (((rT (k 2) tl z).1, (rT (k 2) tl z).2.1, (rT (k 2) tl z).2.2.1) : PO).1, locals := 159 }) (va_Pc [.ref (a 0)] (PX l G (gp G a z y k) sz)) (va_Qi (fun (r : Int32) (u : St × St × St) => (rT (k 2) tl z).1 = 0 ∧ r = (rT (k 2) tl z).2.1 ∧ ∃ N, u = ((rT (k 2) tl z).2.2.1, y, kR k (rT (k 2) tl z).2.2.2.1 N) ∧ (¬ (rT (k 2) tl z).2.2.2.1 = 0 → N = (rT (k 2) tl z).2.2.2.2)) (fun (u : St × St × St) t => va_P G.1 gcl (gp G a u.1 u.2.1 u.2.2) t.heap) (va_A (gp G a z y k) sz)) (vx_X (fun (u : St × St × St) => ¬ (rT (k 2) tl z).1 = 0 ∧ ∃ N, u = ((rT (k 2) tl z).2.2.1, y, kR k (rT (k 2) tl z).2.2.2.1 N) ∧ (¬ (rT (k 2) tl z).2.2.2.1 = 0 → N = (rT (k 2) tl z).2.2.2.2)) (fun E u t => E = ex3 xIAE xISE xISE (((rT (k 2) tl z).1, (rT (k 2) tl z).2.1, (rT (k 2) tl z).2.2.1) : PO).1 ∧ va_P G.1 gcl (gp G a u.1 u.2.1 u.2.2) t.heap) (va_A (gp G a z y k) sz)) (xr (((rT (k 2) tl z).1, (rT (k 2) tl z).2.1, (rT (k 2) tl z).2.2.1) : PO).1) (6 * xr (((rT (k 2) tl z).1, (rT (k 2) tl z).2.1, (rT (k 2) tl z).2.2.1) : PO).1) (va_A (gp G a z y k) sz) := by
  refine met_x (cc := cX4_runText) (maxL := 5) (ret := (some .int)) (fun A => va_Qi (fun (r : Int32) (u : St × St × St) => (rT (k 2) tl z).1 = 0 ∧ r = (rT (k 2) tl z).2.1 ∧ ∃ N, u = ((rT (k 2) tl z).2.2.1, y, kR k (rT (k 2) tl z).2.2.2.1 N) ∧ (¬ (rT (k 2) tl z).2.2.2.1 = 0 → N = (rT (k 2) tl z).2.2.2.2)) (fun (u : St × St × St) t => va_P G.1 gcl (gp G a u.1 u.2.1 u.2.2) t.heap) A) (fun A => vx_X (fun (u : St × St × St) => ¬ (rT (k 2) tl z).1 = 0 ∧ ∃ N, u = ((rT (k 2) tl z).2.2.1, y, kR k (rT (k 2) tl z).2.2.2.1 N) ∧ (¬ (rT (k 2) tl z).2.2.2.1 = 0 → N = (rT (k 2) tl z).2.2.2.2)) (fun E u t => E = ex3 xIAE xISE xISE (((rT (k 2) tl z).1, (rT (k 2) tl z).2.1, (rT (k 2) tl z).2.2.1) : PO).1 ∧ va_P G.1 gcl (gp G a u.1 u.2.1 u.2.2) t.heap) A) (by decide) rfl (Nat.le_of_ble_eq_true rfl) ?_
  intro p e s m args below meth c R Q A H ls hR hQ S hr hlk htab hK hX hsz hH hAe hA hw hl
  have hl : lv_has ls 5 [(0, .ref (a 0))] := hl
  have LX0 : ∀ w ∈ u_ws RX0 TX0 2, w.before args s = true := fun w h => S.2.2.2.2 w ((by decide +kernel : ∀ w ∈ u_ws RX0 TX0 2, w ∈ wsX4_runText) w h)
  have LX4 : ∀ w ∈ u_ws RX4 TX4 6, w.before args s = true := fun w h => S.2.2.2.2 w ((by decide +kernel : ∀ w ∈ u_ws RX4 TX4 6, w ∈ wsX4_runText) w h)
  have k1 : (Cond.fieldLink RX4 22 "GossipMembership" "text" "LGossipMembership$CommandText;").before args s = true := S.2.2.2.2 _ (by decide +kernel : (Cond.fieldLink RX4 22 "GossipMembership" "text" "LGossipMembership$CommandText;") ∈ wsX4_runText)
  have k2 : (Cond.fieldLink RX4 189 "GossipMembership$CommandText" "length" "I").before args s = true := S.2.2.2.2 _ (by decide +kernel : (Cond.fieldLink RX4 189 "GossipMembership$CommandText" "length" "I") ∈ wsX4_runText)
  have k3 : (Cond.fieldLink RX4 26 "GossipMembership" "failureKind" "I").before args s = true := S.2.2.2.2 _ (by decide +kernel : (Cond.fieldLink RX4 26 "GossipMembership" "failureKind" "I") ∈ wsX4_runText)
  have k4 : (Cond.fieldLink RX4 208 "GossipMembership" "failureNumber" "I").before args s = true := S.2.2.2.2 _ (by decide +kernel : (Cond.fieldLink RX4 208 "GossipMembership" "failureNumber" "I") ∈ wsX4_runText)
  have m1IAE : Cond.classLink RX4 30 xIAE ∈ wsX4_runText := by decide +kernel
  have m2IAE : Cond.initialized xIAE ∈ wsX4_runText := by decide +kernel
  have m3IAE : ∀ w ∈ (vx_atS RX4 34 xIAE ["java/lang/RuntimeException", "java/lang/Exception"]).filter goodWord, w ∈ wsX4_runText := by decide +kernel
  have m1ISE : Cond.classLink RX4 75 xISE ∈ wsX4_runText := by decide +kernel
  have m2ISE : Cond.initialized xISE ∈ wsX4_runText := by decide +kernel
  have m3ISE : ∀ w ∈ (vx_atS RX4 79 xISE ["java/lang/RuntimeException", "java/lang/Exception"]).filter goodWord, w ∈ wsX4_runText := by decide +kernel
  refine lv_aload_n S.1 S.2.1 dX4_runText_0 rfl (lv_at hl 0 rfl) ?_
  refine gt_X4_3 (v := .ref (a 1)) S hK hw 0 rfl rfl LX4 k1 dX4_runText_1 ?_
  have hwc : WD G (txp G (fun i => a (1 + i)) k) A s H _ := hw.sub [1, 2] rfl rfl
  refine cj_i (wc := (txp G (fun i => a (1 + i)) k)) (wr := (gpt G a z y k)) (va_runV (As := []) (rest := []) S (c_X0_findFault l G (fun i => a (1 + i)) k H.size  (by exact hL) (by omega) (by exact hch)) (cwV 0 S.2.2.2.2 gX4_runText_X0_findFault rfl rfl rfl hd_X0_findFault ⟨by rw [hR]; exact Nat.le_of_ble_eq_true rfl, by rw [hR]; exact Nat.le_of_ble_eq_true rfl⟩) ⟨PW.blind, va_recv hK.1 hwc.1 (ci := 0) (q0 := 0) rfl rfl, fun U hU hW => ⟨rfl, PW.of hK hwc hU hW⟩⟩ rfl rfl hl.1 rfl (lv_room (Nat.le_of_ble_eq_true rfl)) dX4_runText_4 ⟨by first | exact Nat.zero_le _ | (rw [hR]; show _ ≤ xr (rT (k 2) tl z).1; omega), by first | exact Nat.zero_le _ | (rw [hR]; show _ ≤ 6 * xr (rT (k 2) tl z).1; omega)⟩) hw hA [1, 2] [0, 3, 4, 5, 6, 7, 8, 9, 10, 11, 12, 13, 14, 15, 16, 17, 18, 19, 20, 21, 22, 23, 24, 25, 26] rfl rfl rfl rfl (by decide) (fun _ => rfl) (fun r1 z2 H locs h3 hw9 => ?_)
  obtain ⟨rfl, qz2⟩ := h3
  rw [qz2] at hw9
  have hw : WD G (gp G a z y k) A s H locs := hw9.sub [0, 25, 26, 1, 2, 3, 4, 5, 6, 7, 8, 9, 10, 11, 12, 13, 14, 15, 16, 17, 18, 19, 20, 21, 22, 23, 24] rfl rfl
  refine lv_istore_n (lv' := [(1, .int (flt (k 2) tl)), (0, .ref (a 0))]) S.1 S.2.1 dX4_runText_7 rfl hl (by decide) rfl (fun ls hl => ?_)
  refine lv_iload_n S.1 S.2.1 dX4_runText_8 rfl (lv_at hl 0 rfl) ?_
  refine lv_iconst (v := (-1)) S.1 S.2.1 dX4_runText_9 (by decide) ?_
  refine lv_icmp_ne (tgt := 17) S.1 S.2.1 dX4_runText_10 (by decide) (fun c4 => ?_) (fun c4 => ?_)
  · skip
    have hflt := c4
    refine lv_iconst (v := 1) S.1 S.2.1 dX4_runText_17 (by decide) ?_
    refine lv_istore_n (lv' := [(2, .int 1), (1, .int (flt (k 2) tl)), (0, .ref (a 0))]) S.1 S.2.1 dX4_runText_18 rfl hl (by decide) rfl (fun ls hl => ?_)
    refine lv_iconst (v := 0) S.1 S.2.1 dX4_runText_19 (by decide) ?_
    refine lv_istore_n (lv' := [(3, .int 0), (2, .int 1), (1, .int (flt (k 2) tl)), (0, .ref (a 0))]) S.1 S.2.1 dX4_runText_20 rfl hl (by decide) rfl (fun ls hl => ?_)
    refine lv_iconst (v := 0) S.1 S.2.1 dX4_runText_21 (by decide) ?_
    refine lv_istore (lv' := [(4, .int 0), (3, .int 0), (2, .int 1), (1, .int (flt (k 2) tl)), (0, .ref (a 0))]) S.1 S.2.1 dX4_runText_22 hl (by decide) rfl (fun ls hl => ?_)
    refine lv_iload_n S.1 S.2.1 dX4_runText_24 rfl (lv_at hl 2 rfl) ?_
    refine lv_if_ne (tgt := 73) S.1 S.2.1 dX4_runText_25 (by decide) (fun c5 => ?_) (fun c5 => ?_)
    · skip
      refine lv_aload_n S.1 S.2.1 dX4_runText_73 rfl (lv_at hl 4 rfl) ?_
      refine gt_X4_3 (v := .ref (a 1)) S hK hw 0 rfl rfl LX4 k1 dX4_runText_74 ?_
      refine lv_iconst (v := 0) S.1 S.2.1 dX4_runText_77 (by decide) ?_
      refine pt_X0_1 (ws' := (gp G a z y (st k 0 3 (0)))) S hK hw 1 rfl LX0 k2 rfl (Nat.le_of_ble_eq_true rfl) dX4_runText_78 (fun H locs hw => ?_)
      obtain ⟨k6, ek6⟩ : ∃ zz, zz = st k 0 3 (0) := ⟨_, rfl⟩
      have hw : WD G (gp G a z y k6) A s H locs := by rw [ek6]; exact hw
      refine lv_aload_n S.1 S.2.1 dX4_runText_81 rfl (lv_at hl 4 rfl) ?_
      refine lv_iload_n S.1 S.2.1 dX4_runText_82 rfl (lv_at hl 2 rfl) ?_
      refine pt_X4_4 (ws' := (gp G a z y (st k6 0 1 (1)))) S hK hw 0 rfl LX4 k3 rfl (Nat.le_of_ble_eq_true rfl) dX4_runText_83 (fun H locs hw => ?_)
      obtain ⟨k7, ek7⟩ : ∃ zz, zz = st k6 0 1 (1) := ⟨_, rfl⟩
      have hw : WD G (gp G a z y k7) A s H locs := by rw [ek7]; exact hw
      refine lv_aload_n S.1 S.2.1 dX4_runText_86 rfl (lv_at hl 4 rfl) ?_
      refine lv_iload_n S.1 S.2.1 dX4_runText_87 rfl (lv_at hl 2 rfl) ?_
      refine lv_iconst (v := 1) S.1 S.2.1 dX4_runText_88 (by decide) ?_
      refine lv_icmp_ne (tgt := 96) S.1 S.2.1 dX4_runText_89 (by decide) (fun c8 => ?_) (fun c8 => ?_)
      · skip
        exact absurd c8 (by decide)
      · skip
        refine lv_iload_n S.1 S.2.1 dX4_runText_92 rfl (lv_at hl 3 rfl) ?_
        refine lv_goto (tgt := 97) S.1 S.2.1 dX4_runText_93 (by decide) ?_
        refine pt_X4_5 (ws' := (gp G a z y (st k7 0 2 (flt (k 2) tl)))) S hK hw 0 rfl LX4 k4 rfl (Nat.le_of_ble_eq_true rfl) dX4_runText_97 (fun H locs hw => ?_)
        obtain ⟨k9, ek9⟩ : ∃ zz, zz = st k7 0 2 (flt (k 2) tl) := ⟨_, rfl⟩
        have hw : WD G (gp G a z y k9) A s H locs := by rw [ek9]; exact hw
        refine lv_iload_n S.1 S.2.1 dX4_runText_100 rfl (lv_at hl 2 rfl) ?_
        refine lv_iconst (v := 1) S.1 S.2.1 dX4_runText_101 (by decide) ?_
        refine lv_icmp_ne (tgt := 115) S.1 S.2.1 dX4_runText_102 (by decide) (fun c10 => ?_) (fun c10 => ?_)
        · skip
          exact absurd c10 (by decide)
        · skip
          have hp9 := rT_1 (z := z) hflt
          exact th_IAE (text := "the text has a fault") S hX hw hl.1 hlk htab (by decide) m1IAE m2IAE m3IAE dX4_runText_105 dX4_runText_108 dX4_runText_109 dX4_runText_111 dX4_runText_114 hQ ((z, y, k9) : St × St × St) (by rw [hp9]; exact ⟨show ¬ (1 : Int32) = 0 by decide, flt (k 2) tl, by subst ek9 ek7 ek6; rfl, fun _ => rfl⟩) (by show xIAE = ex3 xIAE xISE xISE (rT (k 2) tl z).1; rw [hp9]; rfl) rfl (by rw [hR]; exact Nat.le_of_ble_eq_true rfl) (by rw [hR]; exact Nat.le_of_ble_eq_true rfl) (by rw [hR]; show _ ≤ xr _; rw [show (rT (k 2) tl z).1 = 1 by rw [hp9]]; decide) (by rw [hR]; show _ ≤ 6 * xr _; rw [show (rT (k 2) tl z).1 = 1 by rw [hp9]]; decide) (by show _ ≤ xr _; rw [show (rT (k 2) tl z).1 = 1 by rw [hp9]]; decide) (by show _ ≤ 6 * xr _; rw [show (rT (k 2) tl z).1 = 1 by rw [hp9]]; decide)
    · skip
      exact absurd c5 (by decide)
  · skip
    have hflt0 : flt (k 2) tl = -1 := by first | exact c4 | exact Decidable.not_not.mp c4
    have hI0 := (ri_0 (z := z) hflt0 hm).1
    have hvv := (ri_0 (z := z) hflt0 hm).2
    refine lv_iconst (v := 0) S.1 S.2.1 dX4_runText_13 (by decide) ?_
    refine lv_goto (tgt := 18) S.1 S.2.1 dX4_runText_14 (by decide) ?_
    refine lv_istore_n (lv' := [(2, .int 0), (1, .int (flt (k 2) tl)), (0, .ref (a 0))]) S.1 S.2.1 dX4_runText_18 rfl hl (by decide) rfl (fun ls hl => ?_)
    refine lv_iconst (v := 0) S.1 S.2.1 dX4_runText_19 (by decide) ?_
    refine lv_istore_n (lv' := [(3, .int 0), (2, .int 0), (1, .int (flt (k 2) tl)), (0, .ref (a 0))]) S.1 S.2.1 dX4_runText_20 rfl hl (by decide) rfl (fun ls hl => ?_)
    refine lv_iconst (v := 0) S.1 S.2.1 dX4_runText_21 (by decide) ?_
    refine lv_istore (lv' := [(4, .int 0), (3, .int 0), (2, .int 0), (1, .int (flt (k 2) tl)), (0, .ref (a 0))]) S.1 S.2.1 dX4_runText_22 hl (by decide) rfl (fun ls hl => ?_)
    refine lv_iload_n S.1 S.2.1 dX4_runText_24 rfl (lv_at hl 2 rfl) ?_
    refine lv_if_ne (tgt := 73) S.1 S.2.1 dX4_runText_25 (by decide) (fun c11 => ?_) (fun c11 => ?_)
    · skip
      exact absurd c11 (by decide)
    · skip
      have K28 : ∀ (fu : Nat) (n : Nat) (q : Nat) (t : St) (H : Heap) (locs : List Loc) (ls : Array Slot), 42 - q < fu → 2 * n ≤ q → q ≤ tl + 1 → Inv t → RI (k 2) tl n q z t → WD G (gp G a t y k) A s H locs → lv_has ls 5 [(0, .ref (a 0)), (1, .int (flt (k 2) tl)), (2, .int 0), (3, .int (nI (n))), (4, .int (nI (q)))] → W p l e R s m args below meth c H locs 0 0 Q (F0 m 28 ls []) := by
        intro fu
        induction fu with
        | zero => exact fun _ _ _ _ _ _ h => absurd h (Nat.not_lt_zero _)
        | succ fu ih28 =>
          intro n q t H locs ls hm28 hn2 hq it hI hw hl
          refine lv_iload S.1 S.2.1 dX4_runText_28 (lv_at hl 4 rfl) ?_
          refine lv_aload_n S.1 S.2.1 dX4_runText_30 rfl (lv_at hl 0 rfl) ?_
          refine gt_X4_3 (v := .ref (a 1)) S hK hw 0 rfl rfl LX4 k1 dX4_runText_31 ?_
          refine gt_X0_1 (v := .int (k 0 3)) S hK hw 1 rfl rfl LX0 k2 dX4_runText_34 ?_
          refine top_to (v := nI tl) S hL ?_
          refine brN_ge (a := q) (b := tl) S (by omega) (by omega) (tgt := 73) dX4_runText_37 (by decide) (fun c12 => ?_) (fun c12 => ?_)
          · skip
            have hq9 := c12
            refine lv_aload_n S.1 S.2.1 dX4_runText_73 rfl (lv_at hl 0 rfl) ?_
            refine gt_X4_3 (v := .ref (a 1)) S hK hw 0 rfl rfl LX4 k1 dX4_runText_74 ?_
            refine lv_iconst (v := 0) S.1 S.2.1 dX4_runText_77 (by decide) ?_
            refine pt_X0_1 (ws' := (gp G a t y (st k 0 3 (0)))) S hK hw 1 rfl LX0 k2 rfl (Nat.le_of_ble_eq_true rfl) dX4_runText_78 (fun H locs hw => ?_)
            obtain ⟨k13, ek13⟩ : ∃ zz, zz = st k 0 3 (0) := ⟨_, rfl⟩
            have hw : WD G (gp G a t y k13) A s H locs := by rw [ek13]; exact hw
            refine lv_aload_n S.1 S.2.1 dX4_runText_81 rfl (lv_at hl 0 rfl) ?_
            refine lv_iload_n S.1 S.2.1 dX4_runText_82 rfl (lv_at hl 2 rfl) ?_
            refine pt_X4_4 (ws' := (gp G a t y (st k13 0 1 (0)))) S hK hw 0 rfl LX4 k3 rfl (Nat.le_of_ble_eq_true rfl) dX4_runText_83 (fun H locs hw => ?_)
            obtain ⟨k14, ek14⟩ : ∃ zz, zz = st k13 0 1 (0) := ⟨_, rfl⟩
            have hw : WD G (gp G a t y k14) A s H locs := by rw [ek14]; exact hw
            refine lv_aload_n S.1 S.2.1 dX4_runText_86 rfl (lv_at hl 0 rfl) ?_
            refine lv_iload_n S.1 S.2.1 dX4_runText_87 rfl (lv_at hl 2 rfl) ?_
            refine lv_iconst (v := 1) S.1 S.2.1 dX4_runText_88 (by decide) ?_
            refine lv_icmp_ne (tgt := 96) S.1 S.2.1 dX4_runText_89 (by decide) (fun c15 => ?_) (fun c15 => ?_)
            · skip
              refine lv_iload_n S.1 S.2.1 dX4_runText_96 rfl (lv_at hl 3 rfl) ?_
              refine pt_X4_5 (ws' := (gp G a t y (st k14 0 2 (nI (n))))) S hK hw 0 rfl LX4 k4 rfl (Nat.le_of_ble_eq_true rfl) dX4_runText_97 (fun H locs hw => ?_)
              obtain ⟨k16, ek16⟩ : ∃ zz, zz = st k14 0 2 (nI (n)) := ⟨_, rfl⟩
              have hw : WD G (gp G a t y k16) A s H locs := by rw [ek16]; exact hw
              refine lv_iload_n S.1 S.2.1 dX4_runText_100 rfl (lv_at hl 2 rfl) ?_
              refine lv_iconst (v := 1) S.1 S.2.1 dX4_runText_101 (by decide) ?_
              refine lv_icmp_ne (tgt := 115) S.1 S.2.1 dX4_runText_102 (by decide) (fun c17 => ?_) (fun c17 => ?_)
              · skip
                refine lv_iload_n S.1 S.2.1 dX4_runText_115 rfl (lv_at hl 2 rfl) ?_
                refine lv_if_eq (tgt := 129) S.1 S.2.1 dX4_runText_116 (by decide) (fun c18 => ?_) (fun c18 => ?_)
                · skip
                  refine lv_iload_n S.1 S.2.1 dX4_runText_129 rfl (lv_at hl 3 rfl) ?_
                  exact ret_x hQ (by first | exact Nat.zero_le _ | (rw [eD]; simp)) (by first | exact Nat.zero_le _ | (rw [eD]; simp)) (en_i (v := (nI (n))) ((t, y, k16) : St × St × St) rfl S hr hlk hw (by have hp9 := rT_0 hvv (ri_e hI hq9); rw [hp9]; exact ⟨rfl, rfl, nI n, by subst ek16 ek14 ek13; rfl, fun h => absurd rfl h⟩) dX4_runText_130)
                · skip
                  exact absurd c18 (by decide)
              · skip
                exact absurd c17 (by decide)
            · skip
              exact absurd c15 (by decide)
          · skip
            have hq9 := c12
            have hn39 : n ≤ 39 := by omega
            have hVV := hI.resolve_right (fun h2 => by omega)
            have hV := (vl_cmd (by omega) hVV.2.1).1
            have hc9 := cmd_len hV
            have hc8 := cmd_2 (x := k 2) (m := tl) (p := q) (by omega) hV
            have hc7 := (cmd_le (x := k 2) (m := tl) (p := q) (by omega)).2
            have hdl := dgs_le (sg (k 2) tl q)
            have hcl : xc (DP (k 2) tl true q t).1 ≤ xr (rT (k 2) tl z).1 := by
                        by_cases h : (DP (k 2) tl true q t).1 = 0
                        · rw [h]; exact Nat.zero_le _
                        · rw [rT_2 hvv (ri_x hn39 hI hq9 h) h]; exact Nat.le_trans DP_xc (show 1 ≤ xr 2 by decide)
            refine lv_aload_n S.1 S.2.1 dX4_runText_40 rfl (lv_at hl 0 rfl) ?_
            refine lv_iload S.1 S.2.1 dX4_runText_41 (lv_at hl 4 rfl) ?_
            refine cx_i (wc := gp G a t y k) (wr := []) (vx_runVX (hh := [(11, 118, 121, 75), (11, 118, 124, 30)]) (As := [.int (nI (q))]) (rest := []) S (c_X4_carryOut l G a t y k H.size q it hL hm hch (by omega) hV) (vx_cwVW 1 S.2.2.2.2 gX4_runText_X4_carryOut rfl rfl rfl hd_X4_carryOut ⟨by rw [hR]; exact Nat.le_of_ble_eq_true rfl, by rw [hR]; exact Nat.le_of_ble_eq_true rfl⟩) ⟨PX.blind, va_recv hK.1 hw.1 (ci := 4) (q0 := 0) rfl rfl, fun U hU hW => ⟨rfl, PX.of hK hX hw (va_free hw.2.1 hw.2.2 hA [0, 1, 2, 3, 4, 5, 6, 7, 8, 9, 10, 11, 12, 13, 14, 15, 16, 17, 18, 19, 20, 21, 22, 23, 24, 25, 26] rfl) hU hW⟩⟩ rfl rfl hl.1 rfl (lv_room (Nat.le_of_ble_eq_true rfl)) dX4_runText_43 ⟨by rw [hR]; show _ ≤ xr (rT (k 2) tl z).1; omega, by rw [hR]; show _ ≤ 6 * xr (rT (k 2) tl z).1; omega⟩) hw hA [0, 1, 2, 3, 4, 5, 6, 7, 8, 9, 10, 11, 12, 13, 14, 15, 16, 17, 18, 19, 20, 21, 22, 23, 24, 25, 26] [] rfl rfl rfl rfl (by decide) (fun _ => rfl) (fun _ => rfl) (fun ce q9 u9 H locs hpx hw9 g1 g2 g3 => absurd hpx id) (fun r9 u9 H locs hp9 hw9 => ?_)
            obtain ⟨rfl, rfl⟩ := hp9
            have hw : WD G (gp G a (DP (k 2) tl true q t).2.2 y k) A s H locs := hw9
            have iD : Inv (DP (k 2) tl true q t).2.2 := inv_DP it _ _ _ _
            refine lv_istore_n (lv' := [(2, .int ((DP (k 2) tl true q t).1)), (0, .ref (a 0)), (1, .int (flt (k 2) tl)), (3, .int (nI (n))), (4, .int (nI (q)))]) S.1 S.2.1 dX4_runText_46 rfl hl (by decide) rfl (fun ls hl => ?_)
            refine lv_iload_n S.1 S.2.1 dX4_runText_47 rfl (lv_at hl 0 rfl) ?_
            refine lv_if_ne (tgt := 54) S.1 S.2.1 dX4_runText_48 (by decide) (fun c19 => ?_) (fun c19 => ?_)
            · skip
              have hF9 := c19
              refine lv_iload S.1 S.2.1 dX4_runText_54 (lv_at hl 4 rfl) ?_
              refine lv_aload_n S.1 S.2.1 dX4_runText_56 rfl (lv_at hl 1 rfl) ?_
              refine gt_X4_3 (v := .ref (a 1)) S hK hw 0 rfl rfl LX4 k1 dX4_runText_57 ?_
              refine lv_iload S.1 S.2.1 dX4_runText_60 (lv_at hl 4 rfl) ?_
              have hwc : WD G (txp G (fun i => a (1 + i)) k) A s H _ := hw.sub [1, 2] rfl rfl
              refine cj_i (wc := (txp G (fun i => a (1 + i)) k)) (wr := (gpt G a (DP (k 2) tl true q t).2.2 y k)) (va_runV (As := [.int (nI (q))]) (rest := [.int (nI (q))]) S (c_X0_lengthOfCommand l G (fun i => a (1 + i)) k H.size (q) (by omega) (by exact hL) (by omega) (by exact hch)) (cwV 1 S.2.2.2.2 gX4_runText_X0_lengthOfCommand rfl rfl rfl hd_X0_lengthOfCommand ⟨by rw [hR]; exact Nat.le_of_ble_eq_true rfl, by rw [hR]; exact Nat.le_of_ble_eq_true rfl⟩) ⟨PW.blind, va_recv hK.1 hwc.1 (ci := 0) (q0 := 0) rfl rfl, fun U hU hW => ⟨rfl, PW.of hK hwc hU hW⟩⟩ rfl rfl hl.1 rfl (lv_room (Nat.le_of_ble_eq_true rfl)) dX4_runText_62 ⟨by first | exact Nat.zero_le _ | (rw [hR]; show _ ≤ xr (rT (k 2) tl z).1; omega), by first | exact Nat.zero_le _ | (rw [hR]; show _ ≤ 6 * xr (rT (k 2) tl z).1; omega)⟩) hw hA [1, 2] [0, 3, 4, 5, 6, 7, 8, 9, 10, 11, 12, 13, 14, 15, 16, 17, 18, 19, 20, 21, 22, 23, 24, 25, 26] rfl rfl rfl rfl (by decide) (fun _ => rfl) (fun r20 z21 H locs h22 hw9 => ?_)
              obtain ⟨rfl, qz21⟩ := h22
              rw [qz21] at hw9
              have hw : WD G (gp G a (DP (k 2) tl true q t).2.2 y k) A s H locs := hw9.sub [0, 25, 26, 1, 2, 3, 4, 5, 6, 7, 8, 9, 10, 11, 12, 13, 14, 15, 16, 17, 18, 19, 20, 21, 22, 23, 24] rfl rfl
              refine lv_iconst (v := 1) S.1 S.2.1 dX4_runText_65 (by decide) ?_
              refine addN (a := 1 + dgs (sg (k 2) tl (q))) (b := 1) S dX4_runText_66 ?_
              refine addN (a := q) (b := 1 + dgs (sg (k 2) tl (q)) + 1) S dX4_runText_67 ?_
              refine lv_istore (lv' := [(4, .int (nI (q + (1 + dgs (sg (k 2) tl (q)) + 1)))), (2, .int ((DP (k 2) tl true q t).1)), (0, .ref (a 0)), (1, .int (flt (k 2) tl)), (3, .int (nI (n)))]) S.1 S.2.1 dX4_runText_68 hl (by decide) rfl (fun ls hl => ?_)
              refine lv_goto (tgt := 24) S.1 S.2.1 dX4_runText_70 (by decide) ?_
              refine lv_iload_n S.1 S.2.1 dX4_runText_24 rfl (lv_at hl 1 rfl) ?_
              refine lv_if_ne (tgt := 73) S.1 S.2.1 dX4_runText_25 (by decide) (fun c23 => ?_) (fun c23 => ?_)
              · skip
                refine lv_aload_n S.1 S.2.1 dX4_runText_73 rfl (lv_at hl 2 rfl) ?_
                refine gt_X4_3 (v := .ref (a 1)) S hK hw 0 rfl rfl LX4 k1 dX4_runText_74 ?_
                refine lv_iconst (v := 0) S.1 S.2.1 dX4_runText_77 (by decide) ?_
                refine pt_X0_1 (ws' := (gp G a (DP (k 2) tl true q t).2.2 y (st k 0 3 (0)))) S hK hw 1 rfl LX0 k2 rfl (Nat.le_of_ble_eq_true rfl) dX4_runText_78 (fun H locs hw => ?_)
                obtain ⟨k24, ek24⟩ : ∃ zz, zz = st k 0 3 (0) := ⟨_, rfl⟩
                have hw : WD G (gp G a (DP (k 2) tl true q t).2.2 y k24) A s H locs := by rw [ek24]; exact hw
                refine lv_aload_n S.1 S.2.1 dX4_runText_81 rfl (lv_at hl 2 rfl) ?_
                refine lv_iload_n S.1 S.2.1 dX4_runText_82 rfl (lv_at hl 1 rfl) ?_
                refine pt_X4_4 (ws' := (gp G a (DP (k 2) tl true q t).2.2 y (st k24 0 1 ((DP (k 2) tl true q t).1)))) S hK hw 0 rfl LX4 k3 rfl (Nat.le_of_ble_eq_true rfl) dX4_runText_83 (fun H locs hw => ?_)
                obtain ⟨k25, ek25⟩ : ∃ zz, zz = st k24 0 1 ((DP (k 2) tl true q t).1) := ⟨_, rfl⟩
                have hw : WD G (gp G a (DP (k 2) tl true q t).2.2 y k25) A s H locs := by rw [ek25]; exact hw
                refine lv_aload_n S.1 S.2.1 dX4_runText_86 rfl (lv_at hl 2 rfl) ?_
                refine lv_iload_n S.1 S.2.1 dX4_runText_87 rfl (lv_at hl 1 rfl) ?_
                refine lv_iconst (v := 1) S.1 S.2.1 dX4_runText_88 (by decide) ?_
                refine lv_icmp_ne (tgt := 96) S.1 S.2.1 dX4_runText_89 (by decide) (fun c26 => ?_) (fun c26 => ?_)
                · skip
                  refine lv_iload_n S.1 S.2.1 dX4_runText_96 rfl (lv_at hl 4 rfl) ?_
                  refine pt_X4_5 (ws' := (gp G a (DP (k 2) tl true q t).2.2 y (st k25 0 2 (nI (n))))) S hK hw 0 rfl LX4 k4 rfl (Nat.le_of_ble_eq_true rfl) dX4_runText_97 (fun H locs hw => ?_)
                  obtain ⟨k27, ek27⟩ : ∃ zz, zz = st k25 0 2 (nI (n)) := ⟨_, rfl⟩
                  have hw : WD G (gp G a (DP (k 2) tl true q t).2.2 y k27) A s H locs := by rw [ek27]; exact hw
                  refine lv_iload_n S.1 S.2.1 dX4_runText_100 rfl (lv_at hl 1 rfl) ?_
                  refine lv_iconst (v := 1) S.1 S.2.1 dX4_runText_101 (by decide) ?_
                  refine lv_icmp_ne (tgt := 115) S.1 S.2.1 dX4_runText_102 (by decide) (fun c28 => ?_) (fun c28 => ?_)
                  · skip
                    refine lv_iload_n S.1 S.2.1 dX4_runText_115 rfl (lv_at hl 1 rfl) ?_
                    refine lv_if_eq (tgt := 129) S.1 S.2.1 dX4_runText_116 (by decide) (fun c29 => ?_) (fun c29 => ?_)
                    · skip
                      exact absurd c29 c23
                    · skip
                      have hp9 := rT_2 hvv (ri_x hn39 hI hq9 hF9) hF9
                      have hxc := DP_xc (x := k 2) (m := tl) (p := q) (z := t)
                      exact th_ISE (text := "a command failed") S hX hw hl.1 hlk htab (by decide) m1ISE m2ISE m3ISE dX4_runText_119 dX4_runText_122 dX4_runText_123 dX4_runText_125 dX4_runText_128 hQ (((DP (k 2) tl true q t).2.2, y, k27) : St × St × St) (by rw [hp9]; exact ⟨show ¬ (2 : Int32) = 0 by decide, nI n, by subst ek27 ek25 ek24; rfl, fun _ => rfl⟩) (by show xISE = ex3 xIAE xISE xISE (rT (k 2) tl z).1; rw [hp9]; rfl) rfl (by rw [hR]; exact Nat.le_of_ble_eq_true rfl) (by rw [hR]; exact Nat.le_of_ble_eq_true rfl) (by rw [hR]; show _ ≤ xr _; rw [show (rT (k 2) tl z).1 = 2 by rw [hp9], show xr 2 = 2 from rfl]; omega) (by rw [hR]; show _ ≤ 6 * xr _; rw [show (rT (k 2) tl z).1 = 2 by rw [hp9], show xr 2 = 2 from rfl]; omega) (by show _ ≤ xr _; rw [show (rT (k 2) tl z).1 = 2 by rw [hp9], show xr 2 = 2 from rfl]; omega) (by show _ ≤ 6 * xr _; rw [show (rT (k 2) tl z).1 = 2 by rw [hp9], show xr 2 = 2 from rfl]; omega)
                  · skip
                    exact absurd c28 (DP_1 hV)
                · skip
                  exact absurd c26 (DP_1 hV)
              · skip
                exact absurd c23 c19
            · skip
              have hF8 := c19
              refine W.widen (k := 0) (n := 0) (by rw [hF8]; decide) (by rw [hF8]; decide) ?_
              refine lv_iinc (v := (nI (n + 1))) (lv' := [(3, .int (nI (n + 1))), (2, .int ((DP (k 2) tl true q t).1)), (0, .ref (a 0)), (1, .int (flt (k 2) tl)), (4, .int (nI (q)))]) S.1 S.2.1 dX4_runText_51 hl (k := 3) rfl (nI_add _ _) (by decide) rfl (fun ls hl => ?_)
              refine lv_iload S.1 S.2.1 dX4_runText_54 (lv_at hl 4 rfl) ?_
              refine lv_aload_n S.1 S.2.1 dX4_runText_56 rfl (lv_at hl 2 rfl) ?_
              refine gt_X4_3 (v := .ref (a 1)) S hK hw 0 rfl rfl LX4 k1 dX4_runText_57 ?_
              refine lv_iload S.1 S.2.1 dX4_runText_60 (lv_at hl 4 rfl) ?_
              have hwc : WD G (txp G (fun i => a (1 + i)) k) A s H _ := hw.sub [1, 2] rfl rfl
              refine cj_i (wc := (txp G (fun i => a (1 + i)) k)) (wr := (gpt G a (DP (k 2) tl true q t).2.2 y k)) (va_runV (As := [.int (nI (q))]) (rest := [.int (nI (q))]) S (c_X0_lengthOfCommand l G (fun i => a (1 + i)) k H.size (q) (by omega) (by exact hL) (by omega) (by exact hch)) (cwV 1 S.2.2.2.2 gX4_runText_X0_lengthOfCommand rfl rfl rfl hd_X0_lengthOfCommand ⟨by rw [hR]; exact Nat.le_of_ble_eq_true rfl, by rw [hR]; exact Nat.le_of_ble_eq_true rfl⟩) ⟨PW.blind, va_recv hK.1 hwc.1 (ci := 0) (q0 := 0) rfl rfl, fun U hU hW => ⟨rfl, PW.of hK hwc hU hW⟩⟩ rfl rfl hl.1 rfl (lv_room (Nat.le_of_ble_eq_true rfl)) dX4_runText_62 ⟨by first | exact Nat.zero_le _ | (rw [hR]; show _ ≤ xr (rT (k 2) tl z).1; omega), by first | exact Nat.zero_le _ | (rw [hR]; show _ ≤ 6 * xr (rT (k 2) tl z).1; omega)⟩) hw hA [1, 2] [0, 3, 4, 5, 6, 7, 8, 9, 10, 11, 12, 13, 14, 15, 16, 17, 18, 19, 20, 21, 22, 23, 24, 25, 26] rfl rfl rfl rfl (by decide) (fun _ => rfl) (fun r30 z31 H locs h32 hw9 => ?_)
              obtain ⟨rfl, qz31⟩ := h32
              rw [qz31] at hw9
              have hw : WD G (gp G a (DP (k 2) tl true q t).2.2 y k) A s H locs := hw9.sub [0, 25, 26, 1, 2, 3, 4, 5, 6, 7, 8, 9, 10, 11, 12, 13, 14, 15, 16, 17, 18, 19, 20, 21, 22, 23, 24] rfl rfl
              refine lv_iconst (v := 1) S.1 S.2.1 dX4_runText_65 (by decide) ?_
              refine addN (a := 1 + dgs (sg (k 2) tl (q))) (b := 1) S dX4_runText_66 ?_
              refine addN (a := q) (b := 1 + dgs (sg (k 2) tl (q)) + 1) S dX4_runText_67 ?_
              refine lv_istore (lv' := [(4, .int (nI (q + (1 + dgs (sg (k 2) tl (q)) + 1)))), (3, .int (nI (n + 1))), (2, .int ((DP (k 2) tl true q t).1)), (0, .ref (a 0)), (1, .int (flt (k 2) tl))]) S.1 S.2.1 dX4_runText_68 hl (by decide) rfl (fun ls hl => ?_)
              refine lv_goto (tgt := 24) S.1 S.2.1 dX4_runText_70 (by decide) ?_
              refine lv_iload_n S.1 S.2.1 dX4_runText_24 rfl (lv_at hl 2 rfl) ?_
              refine lv_if_ne (tgt := 73) S.1 S.2.1 dX4_runText_25 (by decide) (fun c33 => ?_) (fun c33 => ?_)
              · skip
                exact absurd c19 c33
              · skip
                have hl : lv_has ls 5 [(4, .int (nI (q + (1 + dgs (sg (k 2) tl (q)) + 1)))), (3, .int (nI (n + 1))), (2, .int 0), (0, .ref (a 0)), (1, .int (flt (k 2) tl))] := by rw [hF8] at hl; exact hl
                exact ih28 (n + 1) (q + (1 + dgs (sg (k 2) tl (q)) + 1)) ((DP (k 2) tl true q t).2.2) _ _ _ (by omega) (by omega) (by omega) (by exact iD) (by have h9 := ri_go hn39 hI hq9 hF8; rw [hc9] at h9; exact h9) hw (lv_sub hl [3, 4, 2, 1, 0] rfl)
      exact K28 (43) (0) (0) (z) _ _ _ (by omega) (by omega) (by omega) (by exact iz) (by exact hI0) hw (lv_sub hl [4, 3, 2, 1, 0] rfl)
