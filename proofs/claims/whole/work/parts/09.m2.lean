theorem hd_X3_drawFrom : yX3_drawFrom.cls = RX3 ∧ yX3_drawFrom.cls ≠ "java/lang/invoke/MethodHandle" ∧ yX3_drawFrom.cls ≠ "java/lang/invoke/VarHandle" ∧ (parseMethodDescriptor yX3_drawFrom.desc).map (fun d => d.parameters.length) = some 1 := by decide +kernel
set_option maxHeartbeats 4000000 in
set_option maxRecDepth 100000 in
theorem c_X3_drawFrom (l : Launch) (G : GA) (a : Nat → Nat) (z : St) (sz : Nat) (f : Nat → Bool) (iz : Inv z) : Met l yX3_drawFrom wsX3_drawFrom ({ frames := 1, cells := 0, slots := 0, locals := 20 }) (va_Pc [.ref (a 0), .int (nI (mk f 8))] (PW G (wp G a z) sz)) (va_Qi (fun (r : Int32) (u : St) => r = oI (dv z f) ∧ u = dz z f) (fun (u : St) t => va_P G.1 gcl (wp G a u) t.heap) (va_A (wp G a z) sz)) 0 0 (va_A (wp G a z) sz) := by
  refine met_st (cc := cX3_drawFrom) (maxL := 5) (ret := (some .int)) (fun A => va_Qi (fun (r : Int32) (u : St) => r = oI (dv z f) ∧ u = dz z f) (fun (u : St) t => va_P G.1 gcl (wp G a u) t.heap) A) (by decide) rfl (Nat.le_of_ble_eq_true rfl) ?_
  intro p e s m args below meth c R Q A H ls hR hQ S hr hlk _ hK hsz hH hAe hA hw hl
  have hl : lv_has ls 5 [(0, .ref (a 0)), (1, .int (nI (mk f 8)))] := hl
  have LX3 : ∀ w ∈ u_ws RX3 TX3 7, w.before args s = true := fun w h => S.2.2.2.2 w ((by decide +kernel : ∀ w ∈ u_ws RX3 TX3 7, w ∈ wsX3_drawFrom) w h)
  have k1 : (Cond.fieldLink RX3 29 "GossipMembership$World" "drawSeed" "I").before args s = true := S.2.2.2.2 _ (by decide +kernel : (Cond.fieldLink RX3 29 "GossipMembership$World" "drawSeed" "I") ∈ wsX3_drawFrom)
  have k2 : (Cond.constantLong RX3 105 (1103515245)).before args s = true := S.2.2.2.2 _ (by decide +kernel : (Cond.constantLong RX3 105 (1103515245)) ∈ wsX3_drawFrom)
  have k3 : (Cond.constantLong RX3 107 (12345)).before args s = true := S.2.2.2.2 _ (by decide +kernel : (Cond.constantLong RX3 107 (12345)) ∈ wsX3_drawFrom)
  have k4 : (Cond.constantLong RX3 109 (2147483648)).before args s = true := S.2.2.2.2 _ (by decide +kernel : (Cond.constantLong RX3 109 (2147483648)) ∈ wsX3_drawFrom)
  obtain ⟨w, hw31, hsd⟩ := nI_of iz.2.2.2.2.2.1
  have hcn := cnt_le f 8
  have hsd9 : sd (z 0 1) = (w * 1103515245 + 12345) % 2147483648 := by rw [hsd, sd, nI_clamp hw31]
  refine lv_iload_n S.1 S.2.1 dX3_drawFrom_0 rfl (lv_at hl 1 rfl) ?_
  refine vp_callSi (va_runS (As := [.int (nI (mk f 8))]) (rest := []) S (c_J6_bitCount_0f7a4 l (nI (mk f 8)) ) (va_cwS 1 S.2.2.2.2 gX3_drawFrom_J6_bitCount_0f7a4 rfl rfl rfl hd_J6_bitCount_0f7a4 ⟨by rw [hR]; exact Nat.le_of_ble_eq_true rfl, by rw [hR]; exact Nat.le_of_ble_eq_true rfl⟩) ⟨blind_T, fun U hU hW => ⟨rfl, trivial⟩⟩ rfl rfl hl.1 rfl (lv_room (Nat.le_of_ble_eq_true rfl)) dX3_drawFrom_1 ⟨Nat.zero_le _, Nat.zero_le _⟩).run (fun r1 h2 => ?_)
  subst h2
  refine top_to S (bc_cnt f) ?_
  refine lv_istore_n (lv' := [(2, .int (nI (cnt f 8))), (0, .ref (a 0)), (1, .int (nI (mk f 8)))]) S.1 S.2.1 dX3_drawFrom_4 rfl hl (by decide) rfl (fun ls hl => ?_)
  refine lv_iload_n S.1 S.2.1 dX3_drawFrom_5 rfl (lv_at hl 0 rfl) ?_
  refine brN0_ne (a := cnt f 8) S (by omega) (tgt := 11) dX3_drawFrom_6 (by decide) (fun c3 => ?_) (fun c3 => ?_)
  · skip
    refine lv_aload_n S.1 S.2.1 dX3_drawFrom_11 rfl (lv_at hl 1 rfl) ?_
    refine lv_aload_n S.1 S.2.1 dX3_drawFrom_12 rfl (lv_at hl 1 rfl) ?_
    refine gt_X3_3 (v := .int (z 0 1)) S hK hw 0 rfl rfl LX3 k1 dX3_drawFrom_13 ?_
    refine lv_i2l (v := lN w) S.1 S.2.1 dX3_drawFrom_16 (by rw [hsd]; exact nI_l hw31) ?_
    refine lv_ldc2 (v := lN 1103515245) S.1 S.2.1 S.2.2.2.1 k2 dX3_drawFrom_17 ?_
    refine lmul_to (v := lN (w * 1103515245)) S (lN_mul _ _) dX3_drawFrom_20 ?_
    refine lv_ldc2 (v := lN 12345) S.1 S.2.1 S.2.2.2.1 k3 dX3_drawFrom_21 ?_
    refine ladd_to (v := lN (w * 1103515245 + 12345)) S (lN_add _ _) dX3_drawFrom_24 ?_
    refine lv_ldc2 (v := lN 2147483648) S.1 S.2.1 S.2.2.2.1 k4 dX3_drawFrom_25 ?_
    refine lrem_to (v := lN ((w * 1103515245 + 12345) % 2147483648)) S (by decide) (pk_lRem (by omega) (by omega) (by omega)) dX3_drawFrom_28 ?_
    refine lv_l2i (v := nI ((w * 1103515245 + 12345) % 2147483648)) S.1 S.2.1 dX3_drawFrom_29 (lN_i _) ?_
    refine pt_X3_3 (ws' := (wp G a (st z 0 1 (nI ((w * 1103515245 + 12345) % 2147483648))))) S hK hw 0 rfl LX3 k1 rfl (Nat.le_of_ble_eq_true rfl) dX3_drawFrom_30 (fun H locs hw => ?_)
    obtain ⟨z4, ez4⟩ : ∃ zz, zz = st z 0 1 (nI ((w * 1103515245 + 12345) % 2147483648)) := ⟨_, rfl⟩
    have hw : WD G (wp G a z4) A s H locs := by rw [ez4]; exact hw
    refine lv_aload_n S.1 S.2.1 dX3_drawFrom_33 rfl (lv_at hl 1 rfl) ?_
    refine gt_X3_3 (v := .int (z4 0 1)) S hK hw 0 rfl rfl LX3 k1 dX3_drawFrom_34 ?_
    refine top_to (v := nI ((w * 1103515245 + 12345) % 2147483648)) S (by rw [ez4, st_s]) ?_
    refine lv_sipush (v := 256) S.1 S.2.1 dX3_drawFrom_37 (by decide) ?_
    refine idiv_to (v := nI ((w * 1103515245 + 12345) % 2147483648 / 256)) S (by decide) (pk_div (a := (w * 1103515245 + 12345) % 2147483648) (d := 256) (by omega) (by omega) (by omega)) dX3_drawFrom_40 ?_
    refine lv_iload_n S.1 S.2.1 dX3_drawFrom_41 rfl (lv_at hl 0 rfl) ?_
    refine irem_to (v := nI ((w * 1103515245 + 12345) % 2147483648 / 256 % cnt f 8)) S (by rw [nI_z (by omega)]; assumption) (pk_rem (a := (w * 1103515245 + 12345) % 2147483648 / 256) (d := cnt f 8) (by omega) (by omega) (by omega)) dX3_drawFrom_42 ?_
    obtain ⟨i, hi⟩ : ∃ i, i = (w * 1103515245 + 12345) % 2147483648 / 256 % cnt f 8 := ⟨_, rfl⟩
    rw [← hi]
    have hi8 : i < cnt f 8 := by rw [hi]; exact Nat.mod_lt _ (by omega)
    refine lv_istore_n (lv' := [(3, .int (nI (i))), (2, .int (nI (cnt f 8))), (0, .ref (a 0)), (1, .int (nI (mk f 8)))]) S.1 S.2.1 dX3_drawFrom_43 rfl hl (by decide) rfl (fun ls hl => ?_)
    refine lv_iconst (v := 0) S.1 S.2.1 dX3_drawFrom_44 (by decide) ?_
    refine lv_istore (lv' := [(4, .int 0), (3, .int (nI (i))), (2, .int (nI (cnt f 8))), (0, .ref (a 0)), (1, .int (nI (mk f 8)))]) S.1 S.2.1 dX3_drawFrom_45 hl (by decide) rfl (fun ls hl => ?_)
    have K47 : ∀ (fu : Nat) (k : Nat) (H : Heap) (locs : List Loc) (ls : Array Slot), 8 - k < fu → k ≤ 8 → cnt f k ≤ i → WD G (wp G a z4) A s H locs → lv_has ls 5 [(0, .ref (a 0)), (1, .int (nI (mk f 8))), (2, .int (nI (cnt f 8))), (3, .int (nI (i - cnt f k))), (4, .int (nI (k)))] → W p l e R s m args below meth c H locs 0 0 Q (F0 m 47 ls []) := by
      intro fu
      induction fu with
      | zero => exact fun _ _ _ _ h => absurd h (Nat.not_lt_zero _)
      | succ fu ih47 =>
        intro k H locs ls hm47 hk hci hw hl
        refine lv_iload S.1 S.2.1 dX3_drawFrom_47 (lv_at hl 4 rfl) ?_
        refine lv_bipush (v := 8) S.1 S.2.1 dX3_drawFrom_49 (by decide) ?_
        refine brN_ge (a := k) (b := 8) S (by omega) (by omega) (tgt := 80) dX3_drawFrom_51 (by decide) (fun c5 => ?_) (fun c5 => ?_)
        · skip
          have hk9 : k = 8 := by omega
          subst hk9
          refine lv_iconst (v := (-1)) S.1 S.2.1 dX3_drawFrom_80 (by decide) ?_
          exact en_i (v := (-1)) z4 hQ S hr hlk hw (by exfalso; omega) dX3_drawFrom_81
        · skip
          have hcs : cnt f (k + 1) = if f k = true then cnt f k + 1 else cnt f k := rfl
          refine lv_iload_n S.1 S.2.1 dX3_drawFrom_54 rfl (lv_at hl 1 rfl) ?_
          refine lv_iload S.1 S.2.1 dX3_drawFrom_55 (lv_at hl 4 rfl) ?_
          refine lv_ishr S.1 S.2.1 dX3_drawFrom_57 ?_
          refine lv_iconst (v := 1) S.1 S.2.1 dX3_drawFrom_58 (by decide) ?_
          refine iand_to (v := b2 (f (k))) S (mk_sh f (by omega)) dX3_drawFrom_59 ?_
          refine lv_iconst (v := 1) S.1 S.2.1 dX3_drawFrom_60 (by decide) ?_
          refine brB1_ne (b := f (k)) S (tgt := 74) dX3_drawFrom_61 (by decide) (fun c6 => ?_) (fun c6 => ?_)
          · skip
            rw [if_neg (by rw [c6]; decide)] at hcs
            rw [← hcs] at hl
            refine lv_iinc (v := (nI (k + 1))) (lv' := [(4, .int (nI (k + 1))), (0, .ref (a 0)), (1, .int (nI (mk f 8))), (2, .int (nI (cnt f 8))), (3, .int (nI (i - cnt f (k + 1))))]) S.1 S.2.1 dX3_drawFrom_74 hl (k := 4) rfl (nI_add _ _) (by decide) rfl (fun ls hl => ?_)
            refine lv_goto (tgt := 47) S.1 S.2.1 dX3_drawFrom_77 (by decide) ?_
            exact ih47 (k + 1) _ _ _ (by omega) (by omega) (by omega) hw (lv_sub hl [1, 2, 3, 4, 0] rfl)
          · skip
            refine lv_iload_n S.1 S.2.1 dX3_drawFrom_64 rfl (lv_at hl 3 rfl) ?_
            refine brN0_ne (a := i - cnt f k) S (by omega) (tgt := 71) dX3_drawFrom_65 (by decide) (fun c7 => ?_) (fun c7 => ?_)
            · skip
              refine lv_iinc (v := (nI (i - cnt f (k + 1)))) (lv' := [(3, .int (nI (i - cnt f (k + 1)))), (0, .ref (a 0)), (1, .int (nI (mk f 8))), (2, .int (nI (cnt f 8))), (4, .int (nI (k)))]) S.1 S.2.1 dX3_drawFrom_71 hl (k := 3) rfl (by rw [hcs, if_pos (by assumption), show i - cnt f k = (i - (cnt f k + 1)) + 1 by omega]; exact pk_m1 _) (by decide) rfl (fun ls hl => ?_)
              rw [if_pos (by assumption)] at hcs
              refine lv_iinc (v := (nI (k + 1))) (lv' := [(4, .int (nI (k + 1))), (3, .int (nI (i - cnt f (k + 1)))), (0, .ref (a 0)), (1, .int (nI (mk f 8))), (2, .int (nI (cnt f 8)))]) S.1 S.2.1 dX3_drawFrom_74 hl (k := 4) rfl (nI_add _ _) (by decide) rfl (fun ls hl => ?_)
              refine lv_goto (tgt := 47) S.1 S.2.1 dX3_drawFrom_77 (by decide) ?_
              exact ih47 (k + 1) _ _ _ (by omega) (by omega) (by omega) hw (lv_sub hl [2, 3, 4, 1, 0] rfl)
            · skip
              refine lv_iload S.1 S.2.1 dX3_drawFrom_68 (lv_at hl 4 rfl) ?_
              exact en_i (v := (nI (k))) z4 hQ S hr hlk hw (by refine ⟨?_, by rw [dz, if_neg c3, hsd9]; exact ez4⟩; rw [dv, if_neg c3, hsd9, ← hi]; have he : cnt f k = i := (by omega); rw [nth_u (by assumption) he 8 (by omega)]; rfl) dX3_drawFrom_70
    exact K47 (9) (0) _ _ _ (by omega) (by omega) (by exact Nat.zero_le _) hw (lv_sub hl [3, 4, 2, 1, 0] rfl)
  · skip
    refine lv_iconst (v := (-1)) S.1 S.2.1 dX3_drawFrom_9 (by decide) ?_
    exact en_i (v := (-1)) z hQ S hr hlk hw (by rw [dv, dz, if_pos c3, if_pos c3]; exact ⟨rfl, rfl⟩) dX3_drawFrom_10

theorem hd_X3_twoAgree : yX3_twoAgree.cls = RX3 ∧ yX3_twoAgree.cls ≠ "java/lang/invoke/MethodHandle" ∧ yX3_twoAgree.cls ≠ "java/lang/invoke/VarHandle" ∧ (parseMethodDescriptor yX3_twoAgree.desc).map (fun d => d.parameters.length) = some 2 := by decide +kernel
set_option maxHeartbeats 4000000 in
set_option maxRecDepth 100000 in
theorem c_X3_twoAgree (l : Launch) (G : GA) (a : Nat → Nat) (z : St) (sz : Nat) (n : Nat) (b : Nat) (hn : n < 8) (hb : b < 8) : Met l yX3_twoAgree wsX3_twoAgree ({ frames := 2, cells := 0, slots := 0, locals := 46 }) (va_Pc [.ref (a 0), .int (nI (n)), .int (nI (b))] (PW G (wp G a z) sz)) (va_Qi (fun (r : Int32) (u : St) => r = b2 (twa z n b) ∧ u = z) (fun (u : St) t => va_P G.1 gcl (wp G a u) t.heap) (va_A (wp G a z) sz)) 0 0 (va_A (wp G a z) sz) := by
  refine met_st (cc := cX3_twoAgree) (maxL := 3) (ret := (some .boolean)) (fun A => va_Qi (fun (r : Int32) (u : St) => r = b2 (twa z n b) ∧ u = z) (fun (u : St) t => va_P G.1 gcl (wp G a u) t.heap) A) (by decide) rfl (Nat.le_of_ble_eq_true rfl) ?_
  intro p e s m args below meth c R Q A H ls hR hQ S hr hlk _ hK hsz hH hAe hA hw hl
  have hl : lv_has ls 3 [(0, .ref (a 0)), (1, .int (nI (n))), (2, .int (nI (b)))] := hl
  have LX3 : ∀ w ∈ u_ws RX3 TX3 7, w.before args s = true := fun w h => S.2.2.2.2 w ((by decide +kernel : ∀ w ∈ u_ws RX3 TX3 7, w ∈ wsX3_twoAgree) w h)
  have k1 : (Cond.fieldLink RX3 21 "GossipMembership$World" "knowledge" "LGossipMembership$Knowledge;").before args s = true := S.2.2.2.2 _ (by decide +kernel : (Cond.fieldLink RX3 21 "GossipMembership$World" "knowledge" "LGossipMembership$Knowledge;") ∈ wsX3_twoAgree)
  refine lv_aload_n S.1 S.2.1 dX3_twoAgree_0 rfl (lv_at hl 0 rfl) ?_
  refine gt_X3_1 (v := .ref (a 6)) S hK hw 0 rfl rfl LX3 k1 dX3_twoAgree_1 ?_
  refine lv_iload_n S.1 S.2.1 dX3_twoAgree_4 rfl (lv_at hl 1 rfl) ?_
  refine lv_iload_n S.1 S.2.1 dX3_twoAgree_5 rfl (lv_at hl 2 rfl) ?_
  refine cl_i (va_runV (As := [.int (nI (n)), .int (nI (b))]) (rest := []) S (c_X1_isUpToDate l G a z H.size (n) (b) (by omega) (by omega)) (cwV 2 S.2.2.2.2 gX3_twoAgree_X1_isUpToDate rfl rfl rfl hd_X1_isUpToDate ⟨by rw [hR]; exact Nat.le_of_ble_eq_true rfl, by rw [hR]; exact Nat.le_of_ble_eq_true rfl⟩) ⟨PW.blind, va_recv hK.1 hw.1 (ci := 1) (q0 := 6) rfl rfl, fun U hU hW => ⟨rfl, PW.of hK hw hU hW⟩⟩ rfl rfl hl.1 rfl (lv_room (Nat.le_of_ble_eq_true rfl)) dX3_twoAgree_6 ⟨Nat.zero_le _, Nat.zero_le _⟩) hw hA (fun _ => rfl) (fun r1 z2 H locs h3 hw => ?_)
  obtain ⟨rfl, qz2⟩ := h3
  rw [qz2] at hw
  refine brB_eq (b := utd z (n) (b)) S (tgt := 40) dX3_twoAgree_9 (by decide) (fun c4 => ?_) (fun c4 => ?_)
  · skip
    refine lv_iconst (v := 0) S.1 S.2.1 dX3_twoAgree_40 (by decide) ?_
    exact en_z (v := (0)) z hQ S hr hlk rfl hw (by skip; refine ⟨?_, ?_⟩ <;> first | rfl | (simp [twa, b2, c4]; done) | (simp_all [twa, b2]; done)) dX3_twoAgree_41
  · skip
    refine lv_aload_n S.1 S.2.1 dX3_twoAgree_12 rfl (lv_at hl 0 rfl) ?_
    refine gt_X3_1 (v := .ref (a 6)) S hK hw 0 rfl rfl LX3 k1 dX3_twoAgree_13 ?_
    refine lv_iload_n S.1 S.2.1 dX3_twoAgree_16 rfl (lv_at hl 2 rfl) ?_
    refine lv_iload_n S.1 S.2.1 dX3_twoAgree_17 rfl (lv_at hl 1 rfl) ?_
    refine cl_i (va_runV (As := [.int (nI (b)), .int (nI (n))]) (rest := []) S (c_X1_isUpToDate l G a z H.size (b) (n) (by omega) (by omega)) (cwV 2 S.2.2.2.2 gX3_twoAgree_X1_isUpToDate rfl rfl rfl hd_X1_isUpToDate ⟨by rw [hR]; exact Nat.le_of_ble_eq_true rfl, by rw [hR]; exact Nat.le_of_ble_eq_true rfl⟩) ⟨PW.blind, va_recv hK.1 hw.1 (ci := 1) (q0 := 6) rfl rfl, fun U hU hW => ⟨rfl, PW.of hK hw hU hW⟩⟩ rfl rfl hl.1 rfl (lv_room (Nat.le_of_ble_eq_true rfl)) dX3_twoAgree_18 ⟨Nat.zero_le _, Nat.zero_le _⟩) hw hA (fun _ => rfl) (fun r5 z6 H locs h7 hw => ?_)
    obtain ⟨rfl, qz6⟩ := h7
    rw [qz6] at hw
    refine brB_eq (b := utd z (b) (n)) S (tgt := 40) dX3_twoAgree_21 (by decide) (fun c8 => ?_) (fun c8 => ?_)
    · skip
      refine lv_iconst (v := 0) S.1 S.2.1 dX3_twoAgree_40 (by decide) ?_
      exact en_z (v := (0)) z hQ S hr hlk rfl hw (by skip; refine ⟨?_, ?_⟩ <;> first | rfl | (simp [twa, b2, c4, c8]; done) | (simp_all [twa, b2]; done)) dX3_twoAgree_41
    · skip
      refine lv_aload_n S.1 S.2.1 dX3_twoAgree_24 rfl (lv_at hl 0 rfl) ?_
      refine gt_X3_1 (v := .ref (a 6)) S hK hw 0 rfl rfl LX3 k1 dX3_twoAgree_25 ?_
      refine lv_iload_n S.1 S.2.1 dX3_twoAgree_28 rfl (lv_at hl 1 rfl) ?_
      refine lv_iload_n S.1 S.2.1 dX3_twoAgree_29 rfl (lv_at hl 2 rfl) ?_
      refine cl_i (va_runV (As := [.int (nI (n)), .int (nI (b))]) (rest := []) S (c_X1_countDifferences l G a z H.size (n) (b) (by omega) (by omega)) (cwV 2 S.2.2.2.2 gX3_twoAgree_X1_countDifferences rfl rfl rfl hd_X1_countDifferences ⟨by rw [hR]; exact Nat.le_of_ble_eq_true rfl, by rw [hR]; exact Nat.le_of_ble_eq_true rfl⟩) ⟨PW.blind, va_recv hK.1 hw.1 (ci := 1) (q0 := 6) rfl rfl, fun U hU hW => ⟨rfl, PW.of hK hw hU hW⟩⟩ rfl rfl hl.1 rfl (lv_room (Nat.le_of_ble_eq_true rfl)) dX3_twoAgree_30 ⟨Nat.zero_le _, Nat.zero_le _⟩) hw hA (fun _ => rfl) (fun r9 z10 H locs h11 hw => ?_)
      obtain ⟨rfl, qz10⟩ := h11
      rw [qz10] at hw
      refine brN0_ne (a := cdf z (n) (b) 8) S (by first | omega | exact Nat.lt_of_le_of_lt (cdf_le _ _ _ _) (by decide)) (tgt := 40) dX3_twoAgree_33 (by decide) (fun c12 => ?_) (fun c12 => ?_)
      · skip
        refine lv_iconst (v := 0) S.1 S.2.1 dX3_twoAgree_40 (by decide) ?_
        exact en_z (v := (0)) z hQ S hr hlk rfl hw (by skip; refine ⟨?_, ?_⟩ <;> first | rfl | (simp [twa, b2, c4, c8, c12]; done) | (simp_all [twa, b2]; done)) dX3_twoAgree_41
      · skip
        refine lv_iconst (v := 1) S.1 S.2.1 dX3_twoAgree_36 (by decide) ?_
        refine lv_goto (tgt := 41) S.1 S.2.1 dX3_twoAgree_37 (by decide) ?_
        exact en_z (v := (1)) z hQ S hr hlk rfl hw (by skip; refine ⟨?_, ?_⟩ <;> first | rfl | (simp [twa, b2, c4, c8, c12]; done) | (simp_all [twa, b2]; done)) dX3_twoAgree_41

theorem hd_X3_allAgree : yX3_allAgree.cls = RX3 ∧ yX3_allAgree.cls ≠ "java/lang/invoke/MethodHandle" ∧ yX3_allAgree.cls ≠ "java/lang/invoke/VarHandle" ∧ (parseMethodDescriptor yX3_allAgree.desc).map (fun d => d.parameters.length) = some 0 := by decide +kernel
set_option maxHeartbeats 4000000 in
set_option maxRecDepth 100000 in
theorem c_X3_allAgree (l : Launch) (G : GA) (a : Nat → Nat) (z : St) (sz : Nat) (iz : Inv z) : Met l yX3_allAgree wsX3_allAgree ({ frames := 3, cells := 0, slots := 0, locals := 68 }) (va_Pc [.ref (a 0)] (PW G (wp G a z) sz)) (va_Qi (fun (r : Int32) (u : St) => r = b2 (agB z) ∧ u = z) (fun (u : St) t => va_P G.1 gcl (wp G a u) t.heap) (va_A (wp G a z) sz)) 0 0 (va_A (wp G a z) sz) := by
  refine met_st (cc := cX3_allAgree) (maxL := 3) (ret := (some .boolean)) (fun A => va_Qi (fun (r : Int32) (u : St) => r = b2 (agB z) ∧ u = z) (fun (u : St) t => va_P G.1 gcl (wp G a u) t.heap) A) (by decide) rfl (Nat.le_of_ble_eq_true rfl) ?_
  intro p e s m args below meth c R Q A H ls hR hQ S hr hlk _ hK hsz hH hAe hA hw hl
  have hl : lv_has ls 3 [(0, .ref (a 0))] := hl
  have LX3 : ∀ w ∈ u_ws RX3 TX3 7, w.before args s = true := fun w h => S.2.2.2.2 w ((by decide +kernel : ∀ w ∈ u_ws RX3 TX3 7, w ∈ wsX3_allAgree) w h)
  have k1 : (Cond.fieldLink RX3 12 "GossipMembership$World" "network" "LGossipMembership$Network;").before args s = true := S.2.2.2.2 _ (by decide +kernel : (Cond.fieldLink RX3 12 "GossipMembership$World" "network" "LGossipMembership$Network;") ∈ wsX3_allAgree)
  refine lv_iconst (v := 0) S.1 S.2.1 dX3_allAgree_0 (by decide) ?_
  refine lv_istore_n (lv' := [(1, .int 0), (0, .ref (a 0))]) S.1 S.2.1 dX3_allAgree_1 rfl hl (by decide) rfl (fun ls hl => ?_)
  have K2 : ∀ (fu : Nat) (i : Nat) (H : Heap) (locs : List Loc) (ls : Array Slot), 8 - i < fu → i ≤ 8 → (∀ i2 j2, i2 < i → i2 < j2 → j2 < 8 → cnn z i2 j2 = true → twa z i2 j2 = true) → WD G (wp G a z) A s H locs → lv_has ls 3 [(0, .ref (a 0)), (1, .int (nI (i)))] → W p l e R s m args below meth c H locs 0 0 Q (F0 m 2 ls []) := by
    intro fu
    induction fu with
    | zero => exact fun _ _ _ _ h => absurd h (Nat.not_lt_zero _)
    | succ fu ih2 =>
      intro i H locs ls hm2 hi ho hw hl
      refine lv_iload_n S.1 S.2.1 dX3_allAgree_2 rfl (lv_at hl 1 rfl) ?_
      refine lv_bipush (v := 8) S.1 S.2.1 dX3_allAgree_3 (by decide) ?_
      refine brN_ge (a := i) (b := 8) S (by omega) (by omega) (tgt := 53) dX3_allAgree_5 (by decide) (fun c1 => ?_) (fun c1 => ?_)
      · skip
        have hi9 : i = 8 := by omega
        subst hi9
        refine lv_iconst (v := 1) S.1 S.2.1 dX3_allAgree_53 (by decide) ?_
        exact en_z (v := (1)) z hQ S hr hlk rfl hw (by refine ⟨?_, rfl⟩; rw [agB_t (fun i2 j2 h1 h2 h3 => ho i2 j2 (by omega) h1 h2 h3)]; rfl) dX3_allAgree_54
      · skip
        refine lv_iload_n S.1 S.2.1 dX3_allAgree_8 rfl (lv_at hl 1 rfl) ?_
        refine lv_iconst (v := 1) S.1 S.2.1 dX3_allAgree_9 (by decide) ?_
        refine addN (a := i) (b := 1) S dX3_allAgree_10 ?_
        refine lv_istore_n (lv' := [(2, .int (nI (i + 1))), (0, .ref (a 0)), (1, .int (nI (i)))]) S.1 S.2.1 dX3_allAgree_11 rfl hl (by decide) rfl (fun ls hl => ?_)
        have K12 : ∀ (fu : Nat) (j : Nat) (H : Heap) (locs : List Loc) (ls : Array Slot), 8 - j < fu → j ≤ 8 → i < j → (∀ j2, i < j2 → j2 < j → cnn z i j2 = true → twa z i j2 = true) → WD G (wp G a z) A s H locs → lv_has ls 3 [(0, .ref (a 0)), (1, .int (nI (i))), (2, .int (nI (j)))] → W p l e R s m args below meth c H locs 0 0 Q (F0 m 12 ls []) := by
          intro fu
          induction fu with
          | zero => exact fun _ _ _ _ h => absurd h (Nat.not_lt_zero _)
          | succ fu ih12 =>
            intro j H locs ls hm12 hj hij hq hw hl
            refine lv_iload_n S.1 S.2.1 dX3_allAgree_12 rfl (lv_at hl 2 rfl) ?_
            refine lv_bipush (v := 8) S.1 S.2.1 dX3_allAgree_13 (by decide) ?_
            refine brN_ge (a := j) (b := 8) S (by omega) (by omega) (tgt := 47) dX3_allAgree_15 (by decide) (fun c2 => ?_) (fun c2 => ?_)
            · skip
              have hj9 : j = 8 := by omega
              subst hj9
              refine lv_iinc (v := (nI (i + 1))) (lv' := [(1, .int (nI (i + 1))), (0, .ref (a 0)), (2, .int (nI (8)))]) S.1 S.2.1 dX3_allAgree_47 hl (k := 1) rfl (nI_add _ _) (by decide) rfl (fun ls hl => ?_)
              refine lv_goto (tgt := 2) S.1 S.2.1 dX3_allAgree_50 (by decide) ?_
              exact ih2 (i + 1) _ _ _ (by omega) (by omega) (by exact fun i2 j2 h1 h2 h3 h4 => if e : i2 = i then (by subst e; exact hq j2 h2 h3 h4) else ho i2 j2 (by omega) h2 h3 h4) hw (lv_sub hl [1, 0] rfl)
            · skip
              refine lv_aload_n S.1 S.2.1 dX3_allAgree_18 rfl (lv_at hl 0 rfl) ?_
              refine gt_X3_0 (v := .ref (a 1)) S hK hw 0 rfl rfl LX3 k1 dX3_allAgree_19 ?_
              refine lv_iload_n S.1 S.2.1 dX3_allAgree_22 rfl (lv_at hl 1 rfl) ?_
              refine lv_iload_n S.1 S.2.1 dX3_allAgree_23 rfl (lv_at hl 2 rfl) ?_
              refine cl_i (va_runV (As := [.int (nI (i)), .int (nI (j))]) (rest := []) S (c_X2_connects l G a z H.size (i) (j) (by omega) (by omega) (by exact iz)) (cwV 2 S.2.2.2.2 gX3_allAgree_X2_connects rfl rfl rfl hd_X2_connects ⟨by rw [hR]; exact Nat.le_of_ble_eq_true rfl, by rw [hR]; exact Nat.le_of_ble_eq_true rfl⟩) ⟨PW.blind, va_recv hK.1 hw.1 (ci := 2) (q0 := 1) rfl rfl, fun U hU hW => ⟨rfl, PW.of hK hw hU hW⟩⟩ rfl rfl hl.1 rfl (lv_room (Nat.le_of_ble_eq_true rfl)) dX3_allAgree_24 ⟨Nat.zero_le _, Nat.zero_le _⟩) hw hA (fun _ => rfl) (fun r3 z4 H locs h5 hw => ?_)
              obtain ⟨rfl, qz4⟩ := h5
              rw [qz4] at hw
              refine brB_eq (b := cnn z (i) (j)) S (tgt := 41) dX3_allAgree_27 (by decide) (fun c6 => ?_) (fun c6 => ?_)
              · skip
                refine lv_iinc (v := (nI (j + 1))) (lv' := [(2, .int (nI (j + 1))), (0, .ref (a 0)), (1, .int (nI (i)))]) S.1 S.2.1 dX3_allAgree_41 hl (k := 2) rfl (nI_add _ _) (by decide) rfl (fun ls hl => ?_)
                refine lv_goto (tgt := 12) S.1 S.2.1 dX3_allAgree_44 (by decide) ?_
                exact ih12 (j + 1) _ _ _ (by omega) (by omega) (by omega) (by exact fun j2 h1 h2 h3 => if e : j2 = j then (by subst e; first | assumption | (simp_all; done)) else hq j2 h1 (by omega) h3) hw (lv_sub hl [1, 2, 0] rfl)
              · skip
                refine lv_aload_n S.1 S.2.1 dX3_allAgree_30 rfl (lv_at hl 0 rfl) ?_
                refine lv_iload_n S.1 S.2.1 dX3_allAgree_31 rfl (lv_at hl 1 rfl) ?_
                refine lv_iload_n S.1 S.2.1 dX3_allAgree_32 rfl (lv_at hl 2 rfl) ?_
                refine cl_i (va_runV (As := [.int (nI (i)), .int (nI (j))]) (rest := []) S (c_X3_twoAgree l G a z H.size (i) (j) (by omega) (by omega)) (cwV 2 S.2.2.2.2 gX3_allAgree_X3_twoAgree rfl rfl rfl hd_X3_twoAgree ⟨by rw [hR]; exact Nat.le_of_ble_eq_true rfl, by rw [hR]; exact Nat.le_of_ble_eq_true rfl⟩) ⟨PW.blind, va_recv hK.1 hw.1 (ci := 3) (q0 := 0) rfl rfl, fun U hU hW => ⟨rfl, PW.of hK hw hU hW⟩⟩ rfl rfl hl.1 rfl (lv_room (Nat.le_of_ble_eq_true rfl)) dX3_allAgree_33 ⟨Nat.zero_le _, Nat.zero_le _⟩) hw hA (fun _ => rfl) (fun r7 z8 H locs h9 hw => ?_)
                obtain ⟨rfl, qz8⟩ := h9
                rw [qz8] at hw
                refine brB_ne (b := twa z (i) (j)) S (tgt := 41) dX3_allAgree_36 (by decide) (fun c10 => ?_) (fun c10 => ?_)
                · skip
                  refine lv_iinc (v := (nI (j + 1))) (lv' := [(2, .int (nI (j + 1))), (0, .ref (a 0)), (1, .int (nI (i)))]) S.1 S.2.1 dX3_allAgree_41 hl (k := 2) rfl (nI_add _ _) (by decide) rfl (fun ls hl => ?_)
                  refine lv_goto (tgt := 12) S.1 S.2.1 dX3_allAgree_44 (by decide) ?_
                  exact ih12 (j + 1) _ _ _ (by omega) (by omega) (by omega) (by exact fun j2 h1 h2 h3 => if e : j2 = j then (by subst e; first | assumption | (simp_all; done)) else hq j2 h1 (by omega) h3) hw (lv_sub hl [1, 2, 0] rfl)
                · skip
                  refine lv_iconst (v := 0) S.1 S.2.1 dX3_allAgree_39 (by decide) ?_
                  exact en_z (v := (0)) z hQ S hr hlk rfl hw (by refine ⟨?_, rfl⟩; rw [agB_f (fun h => absurd (h i j (by omega) (by omega) (by assumption)) (by rw [c10]; decide))]; rfl) dX3_allAgree_40
        exact K12 (9) (i + 1) _ _ _ (by omega) (by omega) (by omega) (by intro j2 h1 h2; omega) hw (lv_sub hl [1, 2, 0] rfl)
  exact K2 (9) (0) _ _ _ (by omega) (by omega) (by intro i2 j2 h; omega) hw (lv_sub hl [1, 0] rfl)

theorem hd_X3_countDisagreements : yX3_countDisagreements.cls = RX3 ∧ yX3_countDisagreements.cls ≠ "java/lang/invoke/MethodHandle" ∧ yX3_countDisagreements.cls ≠ "java/lang/invoke/VarHandle" ∧ (parseMethodDescriptor yX3_countDisagreements.desc).map (fun d => d.parameters.length) = some 0 := by decide +kernel
set_option maxHeartbeats 4000000 in
set_option maxRecDepth 100000 in
theorem c_X3_countDisagreements (l : Launch) (G : GA) (a : Nat → Nat) (z : St) (sz : Nat) (iz : Inv z) : Met l yX3_countDisagreements wsX3_countDisagreements ({ frames := 3, cells := 0, slots := 0, locals := 65 }) (va_Pc [.ref (a 0)] (PW G (wp G a z) sz)) (va_Qi (fun (r : Int32) (u : St) => r = nI (cdT z 8) ∧ u = z) (fun (u : St) t => va_P G.1 gcl (wp G a u) t.heap) (va_A (wp G a z) sz)) 0 0 (va_A (wp G a z) sz) := by
  refine met_st (cc := cX3_countDisagreements) (maxL := 4) (ret := (some .int)) (fun A => va_Qi (fun (r : Int32) (u : St) => r = nI (cdT z 8) ∧ u = z) (fun (u : St) t => va_P G.1 gcl (wp G a u) t.heap) A) (by decide) rfl (Nat.le_of_ble_eq_true rfl) ?_
  intro p e s m args below meth c R Q A H ls hR hQ S hr hlk _ hK hsz hH hAe hA hw hl
  have hl : lv_has ls 4 [(0, .ref (a 0))] := hl
  have LX3 : ∀ w ∈ u_ws RX3 TX3 7, w.before args s = true := fun w h => S.2.2.2.2 w ((by decide +kernel : ∀ w ∈ u_ws RX3 TX3 7, w ∈ wsX3_countDisagreements) w h)
  have k1 : (Cond.fieldLink RX3 12 "GossipMembership$World" "network" "LGossipMembership$Network;").before args s = true := S.2.2.2.2 _ (by decide +kernel : (Cond.fieldLink RX3 12 "GossipMembership$World" "network" "LGossipMembership$Network;") ∈ wsX3_countDisagreements)
  have k2 : (Cond.fieldLink RX3 21 "GossipMembership$World" "knowledge" "LGossipMembership$Knowledge;").before args s = true := S.2.2.2.2 _ (by decide +kernel : (Cond.fieldLink RX3 21 "GossipMembership$World" "knowledge" "LGossipMembership$Knowledge;") ∈ wsX3_countDisagreements)
  refine lv_iconst (v := 0) S.1 S.2.1 dX3_countDisagreements_0 (by decide) ?_
  refine lv_istore_n (lv' := [(1, .int 0), (0, .ref (a 0))]) S.1 S.2.1 dX3_countDisagreements_1 rfl hl (by decide) rfl (fun ls hl => ?_)
  refine lv_iconst (v := 0) S.1 S.2.1 dX3_countDisagreements_2 (by decide) ?_
  refine lv_istore_n (lv' := [(2, .int 0), (1, .int 0), (0, .ref (a 0))]) S.1 S.2.1 dX3_countDisagreements_3 rfl hl (by decide) rfl (fun ls hl => ?_)
  have K4 : ∀ (fu : Nat) (i : Nat) (H : Heap) (locs : List Loc) (ls : Array Slot), 8 - i < fu → i ≤ 8 → WD G (wp G a z) A s H locs → lv_has ls 4 [(0, .ref (a 0)), (1, .int (nI (cdT z i))), (2, .int (nI (i)))] → W p l e R s m args below meth c H locs 0 0 Q (F0 m 4 ls []) := by
    intro fu
    induction fu with
    | zero => exact fun _ _ _ _ h => absurd h (Nat.not_lt_zero _)
    | succ fu ih4 =>
      intro i H locs ls hm4 hi hw hl
      refine lv_iload_n S.1 S.2.1 dX3_countDisagreements_4 rfl (lv_at hl 2 rfl) ?_
      refine lv_bipush (v := 8) S.1 S.2.1 dX3_countDisagreements_5 (by decide) ?_
      refine brN_ge (a := i) (b := 8) S (by omega) (by omega) (tgt := 56) dX3_countDisagreements_7 (by decide) (fun c1 => ?_) (fun c1 => ?_)
      · skip
        have hi9 : i = 8 := by omega
        subst hi9
        refine lv_iload_n S.1 S.2.1 dX3_countDisagreements_56 rfl (lv_at hl 1 rfl) ?_
        exact en_i (v := (nI (cdT z 8))) z hQ S hr hlk hw (by skip; refine ⟨?_, ?_⟩ <;> first | rfl | (simp [b2, c1]; done) | (simp_all [b2]; done)) dX3_countDisagreements_57
      · skip
        refine lv_iload_n S.1 S.2.1 dX3_countDisagreements_10 rfl (lv_at hl 2 rfl) ?_
        refine lv_iconst (v := 1) S.1 S.2.1 dX3_countDisagreements_11 (by decide) ?_
        refine addN (a := i) (b := 1) S dX3_countDisagreements_12 ?_
        refine lv_istore_n (lv' := [(3, .int (nI (i + 1))), (0, .ref (a 0)), (1, .int (nI (cdT z i))), (2, .int (nI (i)))]) S.1 S.2.1 dX3_countDisagreements_13 rfl hl (by decide) rfl (fun ls hl => ?_)
        have K14 : ∀ (fu : Nat) (j : Nat) (H : Heap) (locs : List Loc) (ls : Array Slot), 8 - j < fu → j ≤ 8 → i < j → WD G (wp G a z) A s H locs → lv_has ls 4 [(0, .ref (a 0)), (1, .int (nI (cdT z i + cdR z i j))), (2, .int (nI (i))), (3, .int (nI (j)))] → W p l e R s m args below meth c H locs 0 0 Q (F0 m 14 ls []) := by
          intro fu
          induction fu with
          | zero => exact fun _ _ _ _ h => absurd h (Nat.not_lt_zero _)
          | succ fu ih14 =>
            intro j H locs ls hm14 hj hij hw hl
            refine lv_iload_n S.1 S.2.1 dX3_countDisagreements_14 rfl (lv_at hl 3 rfl) ?_
            refine lv_bipush (v := 8) S.1 S.2.1 dX3_countDisagreements_15 (by decide) ?_
            refine brN_ge (a := j) (b := 8) S (by omega) (by omega) (tgt := 50) dX3_countDisagreements_17 (by decide) (fun c2 => ?_) (fun c2 => ?_)
            · skip
              have hj9 : j = 8 := by omega
              subst hj9
              have hl : lv_has ls 4 [(0, .ref (a 0)), (1, .int (nI (cdT z (i + 1)))), (2, .int (nI (i))), (3, .int (nI (8)))] := hl
              refine lv_iinc (v := (nI (i + 1))) (lv' := [(2, .int (nI (i + 1))), (0, .ref (a 0)), (1, .int (nI (cdT z (i + 1)))), (3, .int (nI (8)))]) S.1 S.2.1 dX3_countDisagreements_50 hl (k := 2) rfl (nI_add _ _) (by decide) rfl (fun ls hl => ?_)
              refine lv_goto (tgt := 4) S.1 S.2.1 dX3_countDisagreements_53 (by decide) ?_
              exact ih4 (i + 1) _ _ _ (by omega) (by omega) hw (lv_sub hl [1, 2, 0] rfl)
            · skip
              refine lv_aload_n S.1 S.2.1 dX3_countDisagreements_20 rfl (lv_at hl 0 rfl) ?_
              refine gt_X3_0 (v := .ref (a 1)) S hK hw 0 rfl rfl LX3 k1 dX3_countDisagreements_21 ?_
              refine lv_iload_n S.1 S.2.1 dX3_countDisagreements_24 rfl (lv_at hl 2 rfl) ?_
              refine lv_iload_n S.1 S.2.1 dX3_countDisagreements_25 rfl (lv_at hl 3 rfl) ?_
              refine cl_i (va_runV (As := [.int (nI (i)), .int (nI (j))]) (rest := []) S (c_X2_connects l G a z H.size (i) (j) (by omega) (by omega) (by exact iz)) (cwV 2 S.2.2.2.2 gX3_countDisagreements_X2_connects rfl rfl rfl hd_X2_connects ⟨by rw [hR]; exact Nat.le_of_ble_eq_true rfl, by rw [hR]; exact Nat.le_of_ble_eq_true rfl⟩) ⟨PW.blind, va_recv hK.1 hw.1 (ci := 2) (q0 := 1) rfl rfl, fun U hU hW => ⟨rfl, PW.of hK hw hU hW⟩⟩ rfl rfl hl.1 rfl (lv_room (Nat.le_of_ble_eq_true rfl)) dX3_countDisagreements_26 ⟨Nat.zero_le _, Nat.zero_le _⟩) hw hA (fun _ => rfl) (fun r3 z4 H locs h5 hw => ?_)
              obtain ⟨rfl, qz4⟩ := h5
              rw [qz4] at hw
              refine brB_eq (b := cnn z (i) (j)) S (tgt := 44) dX3_countDisagreements_29 (by decide) (fun c6 => ?_) (fun c6 => ?_)
              · skip
                have hz9 : cdT z i + cdR z i (j + 1) = cdT z i + cdR z i j := by rw [cdR, if_neg (by rw [c6]; simp)]
                rw [← hz9] at hl
                refine lv_iinc (v := (nI (j + 1))) (lv' := [(3, .int (nI (j + 1))), (0, .ref (a 0)), (1, .int (nI (cdT z i + cdR z i (j + 1)))), (2, .int (nI (i)))]) S.1 S.2.1 dX3_countDisagreements_44 hl (k := 3) rfl (nI_add _ _) (by decide) rfl (fun ls hl => ?_)
                refine lv_goto (tgt := 14) S.1 S.2.1 dX3_countDisagreements_47 (by decide) ?_
                exact ih14 (j + 1) _ _ _ (by omega) (by omega) (by omega) hw (lv_sub hl [1, 2, 3, 0] rfl)
              · skip
                refine lv_iload_n S.1 S.2.1 dX3_countDisagreements_32 rfl (lv_at hl 1 rfl) ?_
                refine lv_aload_n S.1 S.2.1 dX3_countDisagreements_33 rfl (lv_at hl 0 rfl) ?_
                refine gt_X3_1 (v := .ref (a 6)) S hK hw 0 rfl rfl LX3 k2 dX3_countDisagreements_34 ?_
                refine lv_iload_n S.1 S.2.1 dX3_countDisagreements_37 rfl (lv_at hl 2 rfl) ?_
                refine lv_iload_n S.1 S.2.1 dX3_countDisagreements_38 rfl (lv_at hl 3 rfl) ?_
                refine cl_i (va_runV (As := [.int (nI (i)), .int (nI (j))]) (rest := [.int (nI (cdT z i + cdR z i j))]) S (c_X1_countDifferences l G a z H.size (i) (j) (by omega) (by omega)) (cwV 2 S.2.2.2.2 gX3_countDisagreements_X1_countDifferences rfl rfl rfl hd_X1_countDifferences ⟨by rw [hR]; exact Nat.le_of_ble_eq_true rfl, by rw [hR]; exact Nat.le_of_ble_eq_true rfl⟩) ⟨PW.blind, va_recv hK.1 hw.1 (ci := 1) (q0 := 6) rfl rfl, fun U hU hW => ⟨rfl, PW.of hK hw hU hW⟩⟩ rfl rfl hl.1 rfl (lv_room (Nat.le_of_ble_eq_true rfl)) dX3_countDisagreements_39 ⟨Nat.zero_le _, Nat.zero_le _⟩) hw hA (fun _ => rfl) (fun r7 z8 H locs h9 hw => ?_)
                obtain ⟨rfl, qz8⟩ := h9
                rw [qz8] at hw
                refine addN (a := cdT z i + cdR z i j) (b := cdf z (i) (j) 8) S dX3_countDisagreements_42 ?_
                refine lv_istore_n (lv' := [(1, .int (nI (cdT z i + cdR z i j + cdf z (i) (j) 8))), (0, .ref (a 0)), (2, .int (nI (i))), (3, .int (nI (j)))]) S.1 S.2.1 dX3_countDisagreements_43 rfl hl (by decide) rfl (fun ls hl => ?_)
                have hz9 : cdT z i + cdR z i (j + 1) = cdT z i + cdR z i j + cdf z i j 8 := by rw [cdR, if_pos ⟨by omega, by assumption⟩]; omega
                rw [← hz9] at hl
                refine lv_iinc (v := (nI (j + 1))) (lv' := [(3, .int (nI (j + 1))), (1, .int (nI (cdT z i + cdR z i (j + 1)))), (0, .ref (a 0)), (2, .int (nI (i)))]) S.1 S.2.1 dX3_countDisagreements_44 hl (k := 3) rfl (nI_add _ _) (by decide) rfl (fun ls hl => ?_)
                refine lv_goto (tgt := 14) S.1 S.2.1 dX3_countDisagreements_47 (by decide) ?_
                exact ih14 (j + 1) _ _ _ (by omega) (by omega) (by omega) hw (lv_sub hl [2, 1, 3, 0] rfl)
        have hz9 : cdT z i + cdR z i (i + 1) = cdT z i := by rw [cdR_0 z i (i + 1) (by omega)]; rfl
        rw [← hz9] at hl
        exact K14 (9) (i + 1) _ _ _ (by omega) (by omega) (by omega) hw (lv_sub hl [1, 2, 3, 0] rfl)
  exact K4 (9) (0) _ _ _ (by omega) (by omega) hw (lv_sub hl [2, 1, 0] rfl)

theorem hd_X3_introduce : yX3_introduce.cls = RX3 ∧ yX3_introduce.cls ≠ "java/lang/invoke/MethodHandle" ∧ yX3_introduce.cls ≠ "java/lang/invoke/VarHandle" ∧ (parseMethodDescriptor yX3_introduce.desc).map (fun d => d.parameters.length) = some 2 := by decide +kernel
set_option maxHeartbeats 4000000 in
set_option maxRecDepth 100000 in
theorem c_X3_introduce (l : Launch) (G : GA) (a : Nat → Nat) (z : St) (sz : Nat) (n : Nat) (b : Nat) (hn : n < 8) (hb : b < 8) : Met l yX3_introduce wsX3_introduce ({ frames := 2, cells := 0, slots := 0, locals := 48 }) (va_Pc [.ref (a 0), .int (nI (n)), .int (nI (b))] (PW G (wp G a z) sz)) (va_Qv (fun (u : St) => u = intr z n b) (fun (u : St) t => va_P G.1 gcl (wp G a u) t.heap) (va_A (wp G a z) sz)) 0 0 (va_A (wp G a z) sz) := by
  refine met_st (cc := cX3_introduce) (maxL := 5) (ret := none) (fun A => va_Qv (fun (u : St) => u = intr z n b) (fun (u : St) t => va_P G.1 gcl (wp G a u) t.heap) A) (by decide) rfl (Nat.le_of_ble_eq_true rfl) ?_
  intro p e s m args below meth c R Q A H ls hR hQ S hr hlk _ hK hsz hH hAe hA hw hl
  have hl : lv_has ls 5 [(0, .ref (a 0)), (1, .int (nI (n))), (2, .int (nI (b)))] := hl
  have LX1 : ∀ w ∈ u_ws RX1 TX1 10, w.before args s = true := fun w h => S.2.2.2.2 w ((by decide +kernel : ∀ w ∈ u_ws RX1 TX1 10, w ∈ wsX3_introduce) w h)
  have LX3 : ∀ w ∈ u_ws RX3 TX3 7, w.before args s = true := fun w h => S.2.2.2.2 w ((by decide +kernel : ∀ w ∈ u_ws RX3 TX3 7, w ∈ wsX3_introduce) w h)
  have k1 : (Cond.fieldLink RX3 21 "GossipMembership$World" "knowledge" "LGossipMembership$Knowledge;").before args s = true := S.2.2.2.2 _ (by decide +kernel : (Cond.fieldLink RX3 21 "GossipMembership$World" "knowledge" "LGossipMembership$Knowledge;") ∈ wsX3_introduce)
  have k2 : (Cond.fieldLink RX3 39 "GossipMembership$Knowledge" "ownIncarnation" "[I").before args s = true := S.2.2.2.2 _ (by decide +kernel : (Cond.fieldLink RX3 39 "GossipMembership$Knowledge" "ownIncarnation" "[I") ∈ wsX3_introduce)
  refine lv_iconst (v := 0) S.1 S.2.1 dX3_introduce_0 (by decide) ?_
  refine lv_istore_n (lv' := [(3, .int 0), (0, .ref (a 0)), (1, .int (nI (n))), (2, .int (nI (b)))]) S.1 S.2.1 dX3_introduce_1 rfl hl (by decide) rfl (fun ls hl => ?_)
  have K2 : ∀ (fu : Nat) (k : Nat) (t : St) (H : Heap) (locs : List Loc) (ls : Array Slot), 8 - k < fu → k ≤ 8 → t = inK n b z k → WD G (wp G a t) A s H locs → lv_has ls 5 [(0, .ref (a 0)), (1, .int (nI (n))), (2, .int (nI (b))), (3, .int (nI (k)))] → W p l e R s m args below meth c H locs 0 0 Q (F0 m 2 ls []) := by
    intro fu
    induction fu with
    | zero => exact fun _ _ _ _ _ h => absurd h (Nat.not_lt_zero _)
    | succ fu ih2 =>
      intro k t H locs ls hm2 hk ht hw hl
      refine lv_iload_n S.1 S.2.1 dX3_introduce_2 rfl (lv_at hl 3 rfl) ?_
      refine lv_bipush (v := 8) S.1 S.2.1 dX3_introduce_3 (by decide) ?_
      refine brN_ge (a := k) (b := 8) S (by omega) (by omega) (tgt := 51) dX3_introduce_5 (by decide) (fun c1 => ?_) (fun c1 => ?_)
      · skip
        have hk9 : k = 8 := by omega
        subst hk9
        refine lv_aload_n S.1 S.2.1 dX3_introduce_51 rfl (lv_at hl 0 rfl) ?_
        refine gt_X3_1 (v := .ref (a 6)) S hK hw 0 rfl rfl LX3 k1 dX3_introduce_52 ?_
        refine lv_iload_n S.1 S.2.1 dX3_introduce_55 rfl (lv_at hl 2 rfl) ?_
        refine lv_iload_n S.1 S.2.1 dX3_introduce_56 rfl (lv_at hl 1 rfl) ?_
        refine lv_iconst (v := 1) S.1 S.2.1 dX3_introduce_57 (by decide) ?_
        refine lv_aload_n S.1 S.2.1 dX3_introduce_58 rfl (lv_at hl 0 rfl) ?_
        refine gt_X3_1 (v := .ref (a 6)) S hK hw 0 rfl rfl LX3 k1 dX3_introduce_59 ?_
        refine gt_X1_0 (v := .ref (a 7)) S hK hw 6 rfl rfl LX1 k2 dX3_introduce_62 ?_
        refine lv_iload_n S.1 S.2.1 dX3_introduce_65 rfl (lv_at hl 1 rfl) ?_
        refine ald_i (v := t 4 (n)) (k := n) S hK hw 7 rfl (by omega) (by decide) rfl dX3_introduce_66 ?_
        refine cl_i (va_runV (As := [.int (nI (b)), .int (nI (n)), .int 1, .int (t 4 (n))]) (rest := []) S (c_X1_takeIn l G a t H.size (b) (n) (1) (t 4 (n)) (by omega) (by omega)) (cwV 4 S.2.2.2.2 gX3_introduce_X1_takeIn rfl rfl rfl hd_X1_takeIn ⟨by rw [hR]; exact Nat.le_of_ble_eq_true rfl, by rw [hR]; exact Nat.le_of_ble_eq_true rfl⟩) ⟨PW.blind, va_recv hK.1 hw.1 (ci := 1) (q0 := 6) rfl rfl, fun U hU hW => ⟨rfl, PW.of hK hw hU hW⟩⟩ rfl rfl hl.1 rfl (lv_room (Nat.le_of_ble_eq_true rfl)) dX3_introduce_67 ⟨Nat.zero_le _, Nat.zero_le _⟩) hw hA (fun _ => rfl) (fun r2 z3 H locs h4 hw => ?_)
        obtain ⟨rfl, ez3⟩ := h4
        refine lv_pop S.1 S.2.1 dX3_introduce_70 rfl ?_
        exact en_v z3 hQ S hr hlk hw (by subst ez3; subst ht; rfl) dX3_introduce_71
      · skip
        refine lv_aload_n S.1 S.2.1 dX3_introduce_8 rfl (lv_at hl 0 rfl) ?_
        refine gt_X3_1 (v := .ref (a 6)) S hK hw 0 rfl rfl LX3 k1 dX3_introduce_9 ?_
        refine lv_iload_n S.1 S.2.1 dX3_introduce_12 rfl (lv_at hl 2 rfl) ?_
        refine lv_iload_n S.1 S.2.1 dX3_introduce_13 rfl (lv_at hl 3 rfl) ?_
        refine cl_i (va_runV (As := [.int (nI (b)), .int (nI (k))]) (rest := []) S (c_X1_toldState l G a t H.size (b) (k) (by omega) (by omega)) (cwV 2 S.2.2.2.2 gX3_introduce_X1_toldState rfl rfl rfl hd_X1_toldState ⟨by rw [hR]; exact Nat.le_of_ble_eq_true rfl, by rw [hR]; exact Nat.le_of_ble_eq_true rfl⟩) ⟨PW.blind, va_recv hK.1 hw.1 (ci := 1) (q0 := 6) rfl rfl, fun U hU hW => ⟨rfl, PW.of hK hw hU hW⟩⟩ rfl rfl hl.1 rfl (lv_room (Nat.le_of_ble_eq_true rfl)) dX3_introduce_14 ⟨Nat.zero_le _, Nat.zero_le _⟩) hw hA (fun _ => rfl) (fun r5 z6 H locs h7 hw => ?_)
        obtain ⟨rfl, qz6⟩ := h7
        rw [qz6] at hw
        refine lv_istore (lv' := [(4, .int (toS t (b) (k))), (0, .ref (a 0)), (1, .int (nI (n))), (2, .int (nI (b))), (3, .int (nI (k)))]) S.1 S.2.1 dX3_introduce_17 hl (by decide) rfl (fun ls hl => ?_)
        refine lv_iload S.1 S.2.1 dX3_introduce_19 (lv_at hl 0 rfl) ?_
        refine lv_if_eq (tgt := 45) S.1 S.2.1 dX3_introduce_21 (by decide) (fun c8 => ?_) (fun c8 => ?_)
        · skip
          refine lv_iinc (v := (nI (k + 1))) (lv' := [(3, .int (nI (k + 1))), (4, .int (toS t (b) (k))), (0, .ref (a 0)), (1, .int (nI (n))), (2, .int (nI (b)))]) S.1 S.2.1 dX3_introduce_45 hl (k := 4) rfl (nI_add _ _) (by decide) rfl (fun ls hl => ?_)
          refine lv_goto (tgt := 2) S.1 S.2.1 dX3_introduce_48 (by decide) ?_
          exact ih2 (k + 1) (t) _ _ _ (by omega) (by omega) (by skip; subst ht; rw [inK]; first | rw [if_pos (by assumption)] | rw [if_neg (by assumption)]) hw (lv_sub hl [2, 3, 4, 0] rfl)
        · skip
          refine lv_aload_n S.1 S.2.1 dX3_introduce_24 rfl (lv_at hl 1 rfl) ?_
          refine gt_X3_1 (v := .ref (a 6)) S hK hw 0 rfl rfl LX3 k1 dX3_introduce_25 ?_
          refine lv_iload_n S.1 S.2.1 dX3_introduce_28 rfl (lv_at hl 2 rfl) ?_
          refine lv_iload_n S.1 S.2.1 dX3_introduce_29 rfl (lv_at hl 4 rfl) ?_
          refine lv_iload S.1 S.2.1 dX3_introduce_30 (lv_at hl 0 rfl) ?_
          refine lv_aload_n S.1 S.2.1 dX3_introduce_32 rfl (lv_at hl 1 rfl) ?_
          refine gt_X3_1 (v := .ref (a 6)) S hK hw 0 rfl rfl LX3 k1 dX3_introduce_33 ?_
          refine lv_iload_n S.1 S.2.1 dX3_introduce_36 rfl (lv_at hl 3 rfl) ?_
          refine lv_iload_n S.1 S.2.1 dX3_introduce_37 rfl (lv_at hl 4 rfl) ?_
          refine cl_i (va_runV (As := [.int (nI (b)), .int (nI (k))]) (rest := [.int (toS t (b) (k)), .int (nI (k)), .int (nI (n)), .ref (a 6)]) S (c_X1_toldIncarnation l G a t H.size (b) (k) (by omega) (by omega)) (cwV 2 S.2.2.2.2 gX3_introduce_X1_toldIncarnation rfl rfl rfl hd_X1_toldIncarnation ⟨by rw [hR]; exact Nat.le_of_ble_eq_true rfl, by rw [hR]; exact Nat.le_of_ble_eq_true rfl⟩) ⟨PW.blind, va_recv hK.1 hw.1 (ci := 1) (q0 := 6) rfl rfl, fun U hU hW => ⟨rfl, PW.of hK hw hU hW⟩⟩ rfl rfl hl.1 rfl (lv_room (Nat.le_of_ble_eq_true rfl)) dX3_introduce_38 ⟨Nat.zero_le _, Nat.zero_le _⟩) hw hA (fun _ => rfl) (fun r9 z10 H locs h11 hw => ?_)
          obtain ⟨rfl, qz10⟩ := h11
          rw [qz10] at hw
          refine cl_i (va_runV (As := [.int (nI (n)), .int (nI (k)), .int (toS t (b) (k)), .int (toI t (b) (k))]) (rest := []) S (c_X1_takeIn l G a t H.size (n) (k) (toS t (b) (k)) (toI t (b) (k)) (by omega) (by omega)) (cwV 4 S.2.2.2.2 gX3_introduce_X1_takeIn rfl rfl rfl hd_X1_takeIn ⟨by rw [hR]; exact Nat.le_of_ble_eq_true rfl, by rw [hR]; exact Nat.le_of_ble_eq_true rfl⟩) ⟨PW.blind, va_recv hK.1 hw.1 (ci := 1) (q0 := 6) rfl rfl, fun U hU hW => ⟨rfl, PW.of hK hw hU hW⟩⟩ rfl rfl hl.1 rfl (lv_room (Nat.le_of_ble_eq_true rfl)) dX3_introduce_41 ⟨Nat.zero_le _, Nat.zero_le _⟩) hw hA (fun _ => rfl) (fun r12 z13 H locs h14 hw => ?_)
          obtain ⟨rfl, ez13⟩ := h14
          refine lv_pop S.1 S.2.1 dX3_introduce_44 rfl ?_
          refine lv_iinc (v := (nI (k + 1))) (lv' := [(3, .int (nI (k + 1))), (4, .int (toS t (b) (k))), (0, .ref (a 0)), (1, .int (nI (n))), (2, .int (nI (b)))]) S.1 S.2.1 dX3_introduce_45 hl (k := 4) rfl (nI_add _ _) (by decide) rfl (fun ls hl => ?_)
          refine lv_goto (tgt := 2) S.1 S.2.1 dX3_introduce_48 (by decide) ?_
          exact ih2 (k + 1) (z13) _ _ _ (by omega) (by omega) (by subst ez13; subst ht; rw [inK]; first | rw [if_pos (by assumption)] | rw [if_neg (by assumption)]) hw (lv_sub hl [2, 3, 4, 0] rfl)
  exact K2 (9) (0) (z) _ _ _ (by omega) (by omega) (by rfl) hw (lv_sub hl [1, 2, 3, 0] rfl)

theorem hd_X3_admit : yX3_admit.cls = RX3 ∧ yX3_admit.cls ≠ "java/lang/invoke/MethodHandle" ∧ yX3_admit.cls ≠ "java/lang/invoke/VarHandle" ∧ (parseMethodDescriptor yX3_admit.desc).map (fun d => d.parameters.length) = some 2 := by decide +kernel
set_option maxHeartbeats 4000000 in
set_option maxRecDepth 100000 in
theorem c_X3_admit (l : Launch) (G : GA) (a : Nat → Nat) (z : St) (sz : Nat) (n : Nat) (b : Nat) (hn : n < 8) (hb : b < 8) (iz : Inv z) : Met l yX3_admit wsX3_admit ({ frames := 3, cells := 0, slots := 0, locals := 72 }) (va_Pc [.ref (a 0), .int (nI (n)), .int (nI (b))] (PW G (wp G a z) sz)) (va_Qv (fun (u : St) => u = adm z n b) (fun (u : St) t => va_P G.1 gcl (wp G a u) t.heap) (va_A (wp G a z) sz)) 0 0 (va_A (wp G a z) sz) := by
  refine met_st (cc := cX3_admit) (maxL := 3) (ret := none) (fun A => va_Qv (fun (u : St) => u = adm z n b) (fun (u : St) t => va_P G.1 gcl (wp G a u) t.heap) A) (by decide) rfl (Nat.le_of_ble_eq_true rfl) ?_
  intro p e s m args below meth c R Q A H ls hR hQ S hr hlk _ hK hsz hH hAe hA hw hl
  have hl : lv_has ls 3 [(0, .ref (a 0)), (1, .int (nI (n))), (2, .int (nI (b)))] := hl
  have LX1 : ∀ w ∈ u_ws RX1 TX1 10, w.before args s = true := fun w h => S.2.2.2.2 w ((by decide +kernel : ∀ w ∈ u_ws RX1 TX1 10, w ∈ wsX3_admit) w h)
  have LX2 : ∀ w ∈ u_ws RX2 TX2 4, w.before args s = true := fun w h => S.2.2.2.2 w ((by decide +kernel : ∀ w ∈ u_ws RX2 TX2 4, w ∈ wsX3_admit) w h)
  have LX3 : ∀ w ∈ u_ws RX3 TX3 7, w.before args s = true := fun w h => S.2.2.2.2 w ((by decide +kernel : ∀ w ∈ u_ws RX3 TX3 7, w ∈ wsX3_admit) w h)
  have k1 : (Cond.fieldLink RX3 12 "GossipMembership$World" "network" "LGossipMembership$Network;").before args s = true := S.2.2.2.2 _ (by decide +kernel : (Cond.fieldLink RX3 12 "GossipMembership$World" "network" "LGossipMembership$Network;") ∈ wsX3_admit)
  have k2 : (Cond.fieldLink RX3 32 "GossipMembership$Network" "up" "[Z").before args s = true := S.2.2.2.2 _ (by decide +kernel : (Cond.fieldLink RX3 32 "GossipMembership$Network" "up" "[Z") ∈ wsX3_admit)
  have k3 : (Cond.fieldLink RX3 36 "GossipMembership$Network" "everUp" "[Z").before args s = true := S.2.2.2.2 _ (by decide +kernel : (Cond.fieldLink RX3 36 "GossipMembership$Network" "everUp" "[Z") ∈ wsX3_admit)
  have k4 : (Cond.fieldLink RX3 21 "GossipMembership$World" "knowledge" "LGossipMembership$Knowledge;").before args s = true := S.2.2.2.2 _ (by decide +kernel : (Cond.fieldLink RX3 21 "GossipMembership$World" "knowledge" "LGossipMembership$Knowledge;") ∈ wsX3_admit)
  have k5 : (Cond.fieldLink RX3 39 "GossipMembership$Knowledge" "ownIncarnation" "[I").before args s = true := S.2.2.2.2 _ (by decide +kernel : (Cond.fieldLink RX3 39 "GossipMembership$Knowledge" "ownIncarnation" "[I") ∈ wsX3_admit)
  refine lv_aload_n S.1 S.2.1 dX3_admit_0 rfl (lv_at hl 0 rfl) ?_
  refine gt_X3_0 (v := .ref (a 1)) S hK hw 0 rfl rfl LX3 k1 dX3_admit_1 ?_
  refine gt_X2_0 (v := .ref (a 2)) S hK hw 1 rfl rfl LX2 k2 dX3_admit_4 ?_
  refine lv_iload_n S.1 S.2.1 dX3_admit_7 rfl (lv_at hl 1 rfl) ?_
  refine lv_iconst (v := 1) S.1 S.2.1 dX3_admit_8 (by decide) ?_
  refine ast_z (ws' := (wp G a (st z 1 (n) (1)))) (k := n) S hK hw 2 rfl (by omega) (by decide) (by decide) rfl dX3_admit_9 (fun H locs hw => ?_)
  obtain ⟨z1, ez1⟩ : ∃ zz, zz = st z 1 (n) (1) := ⟨_, rfl⟩
  have hw : WD G (wp G a z1) A s H locs := by rw [ez1]; exact hw
  have iz1 : Inv z1 := by rw [ez1]; exact inv_1 iz (by decide) (by decide)
  refine lv_aload_n S.1 S.2.1 dX3_admit_10 rfl (lv_at hl 0 rfl) ?_
  refine gt_X3_0 (v := .ref (a 1)) S hK hw 0 rfl rfl LX3 k1 dX3_admit_11 ?_
  refine gt_X2_1 (v := .ref (a 3)) S hK hw 1 rfl rfl LX2 k3 dX3_admit_14 ?_
  refine lv_iload_n S.1 S.2.1 dX3_admit_17 rfl (lv_at hl 1 rfl) ?_
  refine ald_z (f := z1 2) (k := n) S hK hw 3 rfl (by omega) (by decide) (iz1.2.1 _ (by omega)) dX3_admit_18 ?_
  refine brB_eq (b := decide (z1 2 (n) = 1)) S (tgt := 35) dX3_admit_19 (by decide) (fun c2 => ?_) (fun c2 => ?_)
  · skip
    refine lv_aload_n S.1 S.2.1 dX3_admit_35 rfl (lv_at hl 0 rfl) ?_
    refine gt_X3_0 (v := .ref (a 1)) S hK hw 0 rfl rfl LX3 k1 dX3_admit_36 ?_
    refine gt_X2_1 (v := .ref (a 3)) S hK hw 1 rfl rfl LX2 k3 dX3_admit_39 ?_
    refine lv_iload_n S.1 S.2.1 dX3_admit_42 rfl (lv_at hl 1 rfl) ?_
    refine lv_iconst (v := 1) S.1 S.2.1 dX3_admit_43 (by decide) ?_
    refine ast_z (ws' := (wp G a (st z1 2 (n) (1)))) (k := n) S hK hw 3 rfl (by omega) (by decide) (by decide) rfl dX3_admit_44 (fun H locs hw => ?_)
    obtain ⟨z3, ez3⟩ : ∃ zz, zz = st z1 2 (n) (1) := ⟨_, rfl⟩
    have hw : WD G (wp G a z3) A s H locs := by rw [ez3]; exact hw
    have iz3 : Inv z3 := by rw [ez3]; exact inv_1 iz1 (by decide) (by decide)
    refine lv_aload_n S.1 S.2.1 dX3_admit_45 rfl (lv_at hl 0 rfl) ?_
    refine gt_X3_1 (v := .ref (a 6)) S hK hw 0 rfl rfl LX3 k4 dX3_admit_46 ?_
    refine lv_iload_n S.1 S.2.1 dX3_admit_49 rfl (lv_at hl 1 rfl) ?_
    refine cl_v (va_runV (As := [.int (nI (n))]) (rest := []) S (c_X1_forgetAll l G a z3 H.size (n) (by omega)) (cwV 1 S.2.2.2.2 gX3_admit_X1_forgetAll rfl rfl rfl hd_X1_forgetAll ⟨by rw [hR]; exact Nat.le_of_ble_eq_true rfl, by rw [hR]; exact Nat.le_of_ble_eq_true rfl⟩) ⟨PW.blind, va_recv hK.1 hw.1 (ci := 1) (q0 := 6) rfl rfl, fun U hU hW => ⟨rfl, PW.of hK hw hU hW⟩⟩ rfl rfl hl.1 rfl (lv_room (Nat.le_of_ble_eq_true rfl)) dX3_admit_50 ⟨Nat.zero_le _, Nat.zero_le _⟩) hw hA (fun _ => rfl) (fun z5 H locs h6 hw => ?_)
    have ez5 := h6
    have iz5 : Inv z5 := by rw [ez5]; exact inv_fgt iz3 (n)
    have ha : z5 = ad0 z n := by subst ez5 ez3 ez1; unfold ad0; dsimp only; first | rw [if_pos (of_decide_eq_true (by assumption))] | rw [if_neg (of_decide_eq_false (by assumption))]
    refine lv_aload_n S.1 S.2.1 dX3_admit_53 rfl (lv_at hl 0 rfl) ?_
    refine gt_X3_0 (v := .ref (a 1)) S hK hw 0 rfl rfl LX3 k1 dX3_admit_54 ?_
    refine lv_iload_n S.1 S.2.1 dX3_admit_57 rfl (lv_at hl 1 rfl) ?_
    refine lv_iload_n S.1 S.2.1 dX3_admit_58 rfl (lv_at hl 2 rfl) ?_
    refine cl_i (va_runV (As := [.int (nI (n)), .int (nI (b))]) (rest := []) S (c_X2_connects l G a z5 H.size (n) (b) (by omega) (by omega) (by exact iz5)) (cwV 2 S.2.2.2.2 gX3_admit_X2_connects rfl rfl rfl hd_X2_connects ⟨by rw [hR]; exact Nat.le_of_ble_eq_true rfl, by rw [hR]; exact Nat.le_of_ble_eq_true rfl⟩) ⟨PW.blind, va_recv hK.1 hw.1 (ci := 2) (q0 := 1) rfl rfl, fun U hU hW => ⟨rfl, PW.of hK hw hU hW⟩⟩ rfl rfl hl.1 rfl (lv_room (Nat.le_of_ble_eq_true rfl)) dX3_admit_59 ⟨Nat.zero_le _, Nat.zero_le _⟩) hw hA (fun _ => rfl) (fun r7 z8 H locs h9 hw => ?_)
    obtain ⟨rfl, qz8⟩ := h9
    rw [qz8] at hw
    refine brB_eq (b := cnn z5 (n) (b)) S (tgt := 71) dX3_admit_62 (by decide) (fun c10 => ?_) (fun c10 => ?_)
    · skip
      exact en_v z5 hQ S hr hlk hw (by first | (rw [ez5, ha, adm, if_pos (by rw [← ha]; assumption)]; done) | (rw [adm, if_neg (by rw [← ha, c10]; decide)]; exact ha)) dX3_admit_71
    · skip
      refine lv_aload_n S.1 S.2.1 dX3_admit_65 rfl (lv_at hl 0 rfl) ?_
      refine lv_iload_n S.1 S.2.1 dX3_admit_66 rfl (lv_at hl 1 rfl) ?_
      refine lv_iload_n S.1 S.2.1 dX3_admit_67 rfl (lv_at hl 2 rfl) ?_
      refine cl_v (va_runV (As := [.int (nI (n)), .int (nI (b))]) (rest := []) S (c_X3_introduce l G a z5 H.size (n) (b) (by omega) (by omega)) (cwV 2 S.2.2.2.2 gX3_admit_X3_introduce rfl rfl rfl hd_X3_introduce ⟨by rw [hR]; exact Nat.le_of_ble_eq_true rfl, by rw [hR]; exact Nat.le_of_ble_eq_true rfl⟩) ⟨PW.blind, va_recv hK.1 hw.1 (ci := 3) (q0 := 0) rfl rfl, fun U hU hW => ⟨rfl, PW.of hK hw hU hW⟩⟩ rfl rfl hl.1 rfl (lv_room (Nat.le_of_ble_eq_true rfl)) dX3_admit_68 ⟨Nat.zero_le _, Nat.zero_le _⟩) hw hA (fun _ => rfl) (fun z12 H locs h13 hw => ?_)
      have ez12 := h13
      have iz12 : Inv z12 := by rw [ez12]; exact inv_intr iz5 (n := (n)) (b := (b)) (by omega) (by omega)
      exact en_v z12 hQ S hr hlk hw (by first | (rw [ez12, ha, adm, if_pos (by rw [← ha]; assumption)]; done) | (rw [adm, if_neg (by rw [← ha, c10]; decide)]; exact ha)) dX3_admit_71
  · skip
    refine lv_aload_n S.1 S.2.1 dX3_admit_22 rfl (lv_at hl 0 rfl) ?_
    refine gt_X3_1 (v := .ref (a 6)) S hK hw 0 rfl rfl LX3 k4 dX3_admit_23 ?_
    refine gt_X1_0 (v := .ref (a 7)) S hK hw 6 rfl rfl LX1 k5 dX3_admit_26 ?_
    refine lv_iload_n S.1 S.2.1 dX3_admit_29 rfl (lv_at hl 1 rfl) ?_
    refine lv_dup2_11 S.1 S.2.1 dX3_admit_30 rfl rfl ?_
    refine ald_i (v := z1 4 (n)) (k := n) S hK hw 7 rfl (by omega) (by decide) rfl dX3_admit_31 ?_
    refine lv_iconst (v := 1) S.1 S.2.1 dX3_admit_32 (by decide) ?_
    refine lv_iadd S.1 S.2.1 dX3_admit_33 ?_
    refine ast_i (ws' := (wp G a (st z1 4 (n) ((z1 4 (n)) + (1))))) (k := n) S hK hw 7 rfl (by omega) (by decide) rfl dX3_admit_34 (fun H locs hw => ?_)
    obtain ⟨z14, ez14⟩ : ∃ zz, zz = st z1 4 (n) ((z1 4 (n)) + (1)) := ⟨_, rfl⟩
    have hw : WD G (wp G a z14) A s H locs := by rw [ez14]; exact hw
    have iz14 : Inv z14 := by rw [ez14]; exact inv_o iz1 (by decide) (by simp)
    refine lv_aload_n S.1 S.2.1 dX3_admit_35 rfl (lv_at hl 0 rfl) ?_
    refine gt_X3_0 (v := .ref (a 1)) S hK hw 0 rfl rfl LX3 k1 dX3_admit_36 ?_
    refine gt_X2_1 (v := .ref (a 3)) S hK hw 1 rfl rfl LX2 k3 dX3_admit_39 ?_
    refine lv_iload_n S.1 S.2.1 dX3_admit_42 rfl (lv_at hl 1 rfl) ?_
    refine lv_iconst (v := 1) S.1 S.2.1 dX3_admit_43 (by decide) ?_
    refine ast_z (ws' := (wp G a (st z14 2 (n) (1)))) (k := n) S hK hw 3 rfl (by omega) (by decide) (by decide) rfl dX3_admit_44 (fun H locs hw => ?_)
    obtain ⟨z15, ez15⟩ : ∃ zz, zz = st z14 2 (n) (1) := ⟨_, rfl⟩
    have hw : WD G (wp G a z15) A s H locs := by rw [ez15]; exact hw
    have iz15 : Inv z15 := by rw [ez15]; exact inv_1 iz14 (by decide) (by decide)
    refine lv_aload_n S.1 S.2.1 dX3_admit_45 rfl (lv_at hl 0 rfl) ?_
    refine gt_X3_1 (v := .ref (a 6)) S hK hw 0 rfl rfl LX3 k4 dX3_admit_46 ?_
    refine lv_iload_n S.1 S.2.1 dX3_admit_49 rfl (lv_at hl 1 rfl) ?_
    refine cl_v (va_runV (As := [.int (nI (n))]) (rest := []) S (c_X1_forgetAll l G a z15 H.size (n) (by omega)) (cwV 1 S.2.2.2.2 gX3_admit_X1_forgetAll rfl rfl rfl hd_X1_forgetAll ⟨by rw [hR]; exact Nat.le_of_ble_eq_true rfl, by rw [hR]; exact Nat.le_of_ble_eq_true rfl⟩) ⟨PW.blind, va_recv hK.1 hw.1 (ci := 1) (q0 := 6) rfl rfl, fun U hU hW => ⟨rfl, PW.of hK hw hU hW⟩⟩ rfl rfl hl.1 rfl (lv_room (Nat.le_of_ble_eq_true rfl)) dX3_admit_50 ⟨Nat.zero_le _, Nat.zero_le _⟩) hw hA (fun _ => rfl) (fun z17 H locs h18 hw => ?_)
    have ez17 := h18
    have iz17 : Inv z17 := by rw [ez17]; exact inv_fgt iz15 (n)
    have ha : z17 = ad0 z n := by subst ez17 ez15 ez14 ez1; unfold ad0; dsimp only; first | rw [if_pos (of_decide_eq_true (by assumption))] | rw [if_neg (of_decide_eq_false (by assumption))]
    refine lv_aload_n S.1 S.2.1 dX3_admit_53 rfl (lv_at hl 0 rfl) ?_
    refine gt_X3_0 (v := .ref (a 1)) S hK hw 0 rfl rfl LX3 k1 dX3_admit_54 ?_
    refine lv_iload_n S.1 S.2.1 dX3_admit_57 rfl (lv_at hl 1 rfl) ?_
    refine lv_iload_n S.1 S.2.1 dX3_admit_58 rfl (lv_at hl 2 rfl) ?_
    refine cl_i (va_runV (As := [.int (nI (n)), .int (nI (b))]) (rest := []) S (c_X2_connects l G a z17 H.size (n) (b) (by omega) (by omega) (by exact iz17)) (cwV 2 S.2.2.2.2 gX3_admit_X2_connects rfl rfl rfl hd_X2_connects ⟨by rw [hR]; exact Nat.le_of_ble_eq_true rfl, by rw [hR]; exact Nat.le_of_ble_eq_true rfl⟩) ⟨PW.blind, va_recv hK.1 hw.1 (ci := 2) (q0 := 1) rfl rfl, fun U hU hW => ⟨rfl, PW.of hK hw hU hW⟩⟩ rfl rfl hl.1 rfl (lv_room (Nat.le_of_ble_eq_true rfl)) dX3_admit_59 ⟨Nat.zero_le _, Nat.zero_le _⟩) hw hA (fun _ => rfl) (fun r19 z20 H locs h21 hw => ?_)
    obtain ⟨rfl, qz20⟩ := h21
    rw [qz20] at hw
    refine brB_eq (b := cnn z17 (n) (b)) S (tgt := 71) dX3_admit_62 (by decide) (fun c22 => ?_) (fun c22 => ?_)
    · skip
      exact en_v z17 hQ S hr hlk hw (by first | (rw [ez17, ha, adm, if_pos (by rw [← ha]; assumption)]; done) | (rw [adm, if_neg (by rw [← ha, c22]; decide)]; exact ha)) dX3_admit_71
    · skip
      refine lv_aload_n S.1 S.2.1 dX3_admit_65 rfl (lv_at hl 0 rfl) ?_
      refine lv_iload_n S.1 S.2.1 dX3_admit_66 rfl (lv_at hl 1 rfl) ?_
      refine lv_iload_n S.1 S.2.1 dX3_admit_67 rfl (lv_at hl 2 rfl) ?_
      refine cl_v (va_runV (As := [.int (nI (n)), .int (nI (b))]) (rest := []) S (c_X3_introduce l G a z17 H.size (n) (b) (by omega) (by omega)) (cwV 2 S.2.2.2.2 gX3_admit_X3_introduce rfl rfl rfl hd_X3_introduce ⟨by rw [hR]; exact Nat.le_of_ble_eq_true rfl, by rw [hR]; exact Nat.le_of_ble_eq_true rfl⟩) ⟨PW.blind, va_recv hK.1 hw.1 (ci := 3) (q0 := 0) rfl rfl, fun U hU hW => ⟨rfl, PW.of hK hw hU hW⟩⟩ rfl rfl hl.1 rfl (lv_room (Nat.le_of_ble_eq_true rfl)) dX3_admit_68 ⟨Nat.zero_le _, Nat.zero_le _⟩) hw hA (fun _ => rfl) (fun z24 H locs h25 hw => ?_)
      have ez24 := h25
      have iz24 : Inv z24 := by rw [ez24]; exact inv_intr iz17 (n := (n)) (b := (b)) (by omega) (by omega)
      exact en_v z24 hQ S hr hlk hw (by first | (rw [ez24, ha, adm, if_pos (by rw [← ha]; assumption)]; done) | (rw [adm, if_neg (by rw [← ha, c22]; decide)]; exact ha)) dX3_admit_71

theorem hd_X3_declareOverdue : yX3_declareOverdue.cls = RX3 ∧ yX3_declareOverdue.cls ≠ "java/lang/invoke/MethodHandle" ∧ yX3_declareOverdue.cls ≠ "java/lang/invoke/VarHandle" ∧ (parseMethodDescriptor yX3_declareOverdue.desc).map (fun d => d.parameters.length) = some 1 := by decide +kernel
set_option maxHeartbeats 4000000 in
set_option maxRecDepth 100000 in
theorem c_X3_declareOverdue (l : Launch) (G : GA) (a : Nat → Nat) (z : St) (sz : Nat) (n : Nat) (hn : n < 8) (iz : Inv z) : Met l yX3_declareOverdue wsX3_declareOverdue ({ frames := 3, cells := 0, slots := 0, locals := 65 }) (va_Pc [.ref (a 0), .int (nI (n))] (PW G (wp G a z) sz)) (va_Qv (fun (u : St) => u = dco z n) (fun (u : St) t => va_P G.1 gcl (wp G a u) t.heap) (va_A (wp G a z) sz)) 0 0 (va_A (wp G a z) sz) := by
  refine met_st (cc := cX3_declareOverdue) (maxL := 4) (ret := none) (fun A => va_Qv (fun (u : St) => u = dco z n) (fun (u : St) t => va_P G.1 gcl (wp G a u) t.heap) A) (by decide) rfl (Nat.le_of_ble_eq_true rfl) ?_
  intro p e s m args below meth c R Q A H ls hR hQ S hr hlk _ hK hsz hH hAe hA hw hl
  have hl : lv_has ls 4 [(0, .ref (a 0)), (1, .int (nI (n)))] := hl
  have LX1 : ∀ w ∈ u_ws RX1 TX1 10, w.before args s = true := fun w h => S.2.2.2.2 w ((by decide +kernel : ∀ w ∈ u_ws RX1 TX1 10, w ∈ wsX3_declareOverdue) w h)
  have LX3 : ∀ w ∈ u_ws RX3 TX3 7, w.before args s = true := fun w h => S.2.2.2.2 w ((by decide +kernel : ∀ w ∈ u_ws RX3 TX3 7, w ∈ wsX3_declareOverdue) w h)
  have k1 : (Cond.fieldLink RX3 21 "GossipMembership$World" "knowledge" "LGossipMembership$Knowledge;").before args s = true := S.2.2.2.2 _ (by decide +kernel : (Cond.fieldLink RX3 21 "GossipMembership$World" "knowledge" "LGossipMembership$Knowledge;") ∈ wsX3_declareOverdue)
  have k2 : (Cond.fieldLink RX3 88 "GossipMembership$Knowledge" "deadlines" "[I").before args s = true := S.2.2.2.2 _ (by decide +kernel : (Cond.fieldLink RX3 88 "GossipMembership$Knowledge" "deadlines" "[I") ∈ wsX3_declareOverdue)
  have k3 : (Cond.static yX4_pair).before args s = true := S.2.2.2.2 _ (by decide +kernel : (Cond.static yX4_pair) ∈ wsX3_declareOverdue)
  have k4 : (Cond.initialized yX4_pair.cls).before args s = true := S.2.2.2.2 _ (by decide +kernel : (Cond.initialized yX4_pair.cls) ∈ wsX3_declareOverdue)
  have k5 : (Cond.fieldLink RX3 66 "GossipMembership$Knowledge" "presentRound" "I").before args s = true := S.2.2.2.2 _ (by decide +kernel : (Cond.fieldLink RX3 66 "GossipMembership$Knowledge" "presentRound" "I") ∈ wsX3_declareOverdue)
  have k6 : (Cond.fieldLink RX3 94 "GossipMembership$World" "declared" "I").before args s = true := S.2.2.2.2 _ (by decide +kernel : (Cond.fieldLink RX3 94 "GossipMembership$World" "declared" "I") ∈ wsX3_declareOverdue)
  have k7 : (Cond.fieldLink RX3 12 "GossipMembership$World" "network" "LGossipMembership$Network;").before args s = true := S.2.2.2.2 _ (by decide +kernel : (Cond.fieldLink RX3 12 "GossipMembership$World" "network" "LGossipMembership$Network;") ∈ wsX3_declareOverdue)
  have k8 : (Cond.fieldLink RX3 97 "GossipMembership$World" "declaredFalsely" "I").before args s = true := S.2.2.2.2 _ (by decide +kernel : (Cond.fieldLink RX3 97 "GossipMembership$World" "declaredFalsely" "I") ∈ wsX3_declareOverdue)
  refine lv_aload_n S.1 S.2.1 dX3_declareOverdue_0 rfl (lv_at hl 0 rfl) ?_
  refine gt_X3_1 (v := .ref (a 6)) S hK hw 0 rfl rfl LX3 k1 dX3_declareOverdue_1 ?_
  refine lv_iload_n S.1 S.2.1 dX3_declareOverdue_4 rfl (lv_at hl 1 rfl) ?_
  refine lv_iconst (v := 2) S.1 S.2.1 dX3_declareOverdue_5 (by decide) ?_
  refine cl_i (va_runV (As := [.int (nI (n)), .int 2]) (rest := []) S (c_X1_nodesInState l G a z H.size (n) (2) (by omega)) (cwV 2 S.2.2.2.2 gX3_declareOverdue_X1_nodesInState rfl rfl rfl hd_X1_nodesInState ⟨by rw [hR]; exact Nat.le_of_ble_eq_true rfl, by rw [hR]; exact Nat.le_of_ble_eq_true rfl⟩) ⟨PW.blind, va_recv hK.1 hw.1 (ci := 1) (q0 := 6) rfl rfl, fun U hU hW => ⟨rfl, PW.of hK hw hU hW⟩⟩ rfl rfl hl.1 rfl (lv_room (Nat.le_of_ble_eq_true rfl)) dX3_declareOverdue_6 ⟨Nat.zero_le _, Nat.zero_le _⟩) hw hA (fun _ => rfl) (fun r1 z2 H locs h3 hw => ?_)
  obtain ⟨rfl, qz2⟩ := h3
  rw [qz2] at hw
  refine lv_istore_n (lv' := [(2, .int (nI (mk (nst z (n) (2)) 8))), (0, .ref (a 0)), (1, .int (nI (n)))]) S.1 S.2.1 dX3_declareOverdue_9 rfl hl (by decide) rfl (fun ls hl => ?_)
  refine lv_iconst (v := 0) S.1 S.2.1 dX3_declareOverdue_10 (by decide) ?_
  refine lv_istore_n (lv' := [(3, .int 0), (2, .int (nI (mk (nst z (n) (2)) 8))), (0, .ref (a 0)), (1, .int (nI (n)))]) S.1 S.2.1 dX3_declareOverdue_11 rfl hl (by decide) rfl (fun ls hl => ?_)
  have K12 : ∀ (fu : Nat) (k : Nat) (t : St) (H : Heap) (locs : List Loc) (ls : Array Slot), 8 - k < fu → k ≤ 8 → t = dcK z n k → Inv t → WD G (wp G a t) A s H locs → lv_has ls 4 [(0, .ref (a 0)), (1, .int (nI (n))), (2, .int (nI (mk (nst z n 2) 8))), (3, .int (nI (k)))] → W p l e R s m args below meth c H locs 0 0 Q (F0 m 12 ls []) := by
    intro fu
    induction fu with
    | zero => exact fun _ _ _ _ _ h => absurd h (Nat.not_lt_zero _)
    | succ fu ih12 =>
      intro k t H locs ls hm12 hk ht it hw hl
      refine lv_iload_n S.1 S.2.1 dX3_declareOverdue_12 rfl (lv_at hl 3 rfl) ?_
      refine lv_bipush (v := 8) S.1 S.2.1 dX3_declareOverdue_13 (by decide) ?_
      refine brN_ge (a := k) (b := 8) S (by omega) (by omega) (tgt := 108) dX3_declareOverdue_15 (by decide) (fun c4 => ?_) (fun c4 => ?_)
      · skip
        have hk9 : k = 8 := by omega
        subst hk9
        exact en_v t hQ S hr hlk hw (by skip; subst ht; rfl) dX3_declareOverdue_108
      · skip
        refine lv_iload_n S.1 S.2.1 dX3_declareOverdue_18 rfl (lv_at hl 2 rfl) ?_
        refine lv_iload_n S.1 S.2.1 dX3_declareOverdue_19 rfl (lv_at hl 3 rfl) ?_
        refine lv_ishr S.1 S.2.1 dX3_declareOverdue_20 ?_
        refine lv_iconst (v := 1) S.1 S.2.1 dX3_declareOverdue_21 (by decide) ?_
        refine iand_to (v := b2 ((nst z n 2) (k))) S (mk_sh (nst z n 2) (by omega)) dX3_declareOverdue_22 ?_
        refine lv_iconst (v := 1) S.1 S.2.1 dX3_declareOverdue_23 (by decide) ?_
        refine brB1_ne (b := (nst z n 2) (k)) S (tgt := 102) dX3_declareOverdue_24 (by decide) (fun c5 => ?_) (fun c5 => ?_)
        · skip
          refine lv_iinc (v := (nI (k + 1))) (lv' := [(3, .int (nI (k + 1))), (0, .ref (a 0)), (1, .int (nI (n))), (2, .int (nI (mk (nst z n 2) 8)))]) S.1 S.2.1 dX3_declareOverdue_102 hl (k := 3) rfl (nI_add _ _) (by decide) rfl (fun ls hl => ?_)
          refine lv_goto (tgt := 12) S.1 S.2.1 dX3_declareOverdue_105 (by decide) ?_
          exact ih12 (k + 1) (t) _ _ _ (by omega) (by omega) (by rw [dcK, ← ht]; first | (rw [if_neg (fun h => h.2 (by assumption))]; done) | (rw [if_neg (fun h => absurd h.1 (by rw [c5]; decide))]; done) | (rw [if_pos ⟨by assumption, by assumption⟩]; skip; unfold dcS; dsimp only; first | (rw [if_pos (by assumption)]; done) | (rw [if_neg (by rw [c5]; decide)]; done))) (by exact it) hw (lv_sub hl [1, 2, 3, 0] rfl)
        · skip
          refine lv_aload_n S.1 S.2.1 dX3_declareOverdue_27 rfl (lv_at hl 0 rfl) ?_
          refine gt_X3_1 (v := .ref (a 6)) S hK hw 0 rfl rfl LX3 k1 dX3_declareOverdue_28 ?_
          refine gt_X1_3 (v := .ref (a 10)) S hK hw 6 rfl rfl LX1 k2 dX3_declareOverdue_31 ?_
          refine lv_iload_n S.1 S.2.1 dX3_declareOverdue_34 rfl (lv_at hl 1 rfl) ?_
          refine lv_iload_n S.1 S.2.1 dX3_declareOverdue_35 rfl (lv_at hl 3 rfl) ?_
          refine pr_n (n := n) (b := k) S hl.1 gX3_declareOverdue_X4_pair_n91 hK.2.2.2.1 k3 k4 ⟨by rw [hR]; exact Nat.le_of_ble_eq_true rfl, by rw [hR]; exact Nat.le_of_ble_eq_true rfl⟩ (Nat.zero_le _) (Nat.zero_le _) (Nat.le_of_ble_eq_true rfl) dX3_declareOverdue_36 ?_
          refine ald_i (v := t 7 (8 * n + k)) (k := 8 * n + k) S hK hw 10 rfl (by omega) (by decide) rfl dX3_declareOverdue_39 ?_
          refine lv_aload_n S.1 S.2.1 dX3_declareOverdue_40 rfl (lv_at hl 0 rfl) ?_
          refine gt_X3_1 (v := .ref (a 6)) S hK hw 0 rfl rfl LX3 k1 dX3_declareOverdue_41 ?_
          refine gt_X1_7 (v := .int (t 0 0)) S hK hw 6 rfl rfl LX1 k5 dX3_declareOverdue_44 ?_
          refine lv_icmp_gt (tgt := 102) S.1 S.2.1 dX3_declareOverdue_47 (by decide) (fun c6 => ?_) (fun c6 => ?_)
          · skip
            refine lv_iinc (v := (nI (k + 1))) (lv' := [(3, .int (nI (k + 1))), (0, .ref (a 0)), (1, .int (nI (n))), (2, .int (nI (mk (nst z n 2) 8)))]) S.1 S.2.1 dX3_declareOverdue_102 hl (k := 3) rfl (nI_add _ _) (by decide) rfl (fun ls hl => ?_)
            refine lv_goto (tgt := 12) S.1 S.2.1 dX3_declareOverdue_105 (by decide) ?_
            exact ih12 (k + 1) (t) _ _ _ (by omega) (by omega) (by rw [dcK, ← ht]; first | (rw [if_neg (fun h => h.2 (by assumption))]; done) | (rw [if_neg (fun h => absurd h.1 (by rw [c6]; decide))]; done) | (rw [if_pos ⟨by assumption, by assumption⟩]; skip; unfold dcS; dsimp only; first | (rw [if_pos (by assumption)]; done) | (rw [if_neg (by rw [c6]; decide)]; done))) (by exact it) hw (lv_sub hl [1, 2, 3, 0] rfl)
          · skip
            refine lv_aload_n S.1 S.2.1 dX3_declareOverdue_50 rfl (lv_at hl 0 rfl) ?_
            refine gt_X3_1 (v := .ref (a 6)) S hK hw 0 rfl rfl LX3 k1 dX3_declareOverdue_51 ?_
            refine lv_iload_n S.1 S.2.1 dX3_declareOverdue_54 rfl (lv_at hl 1 rfl) ?_
            refine lv_iload_n S.1 S.2.1 dX3_declareOverdue_55 rfl (lv_at hl 3 rfl) ?_
            refine lv_iconst (v := 3) S.1 S.2.1 dX3_declareOverdue_56 (by decide) ?_
            refine lv_aload_n S.1 S.2.1 dX3_declareOverdue_57 rfl (lv_at hl 0 rfl) ?_
            refine gt_X3_1 (v := .ref (a 6)) S hK hw 0 rfl rfl LX3 k1 dX3_declareOverdue_58 ?_
            refine lv_iload_n S.1 S.2.1 dX3_declareOverdue_61 rfl (lv_at hl 1 rfl) ?_
            refine lv_iload_n S.1 S.2.1 dX3_declareOverdue_62 rfl (lv_at hl 3 rfl) ?_
            refine cl_i (va_runV (As := [.int (nI (n)), .int (nI (k))]) (rest := [.int 3, .int (nI (k)), .int (nI (n)), .ref (a 6)]) S (c_X1_toldIncarnation l G a t H.size (n) (k) (by omega) (by omega)) (cwV 2 S.2.2.2.2 gX3_declareOverdue_X1_toldIncarnation rfl rfl rfl hd_X1_toldIncarnation ⟨by rw [hR]; exact Nat.le_of_ble_eq_true rfl, by rw [hR]; exact Nat.le_of_ble_eq_true rfl⟩) ⟨PW.blind, va_recv hK.1 hw.1 (ci := 1) (q0 := 6) rfl rfl, fun U hU hW => ⟨rfl, PW.of hK hw hU hW⟩⟩ rfl rfl hl.1 rfl (lv_room (Nat.le_of_ble_eq_true rfl)) dX3_declareOverdue_63 ⟨Nat.zero_le _, Nat.zero_le _⟩) hw hA (fun _ => rfl) (fun r7 z8 H locs h9 hw => ?_)
            obtain ⟨rfl, qz8⟩ := h9
            rw [qz8] at hw
            refine cl_i (va_runV (As := [.int (nI (n)), .int (nI (k)), .int 3, .int (toI t (n) (k))]) (rest := []) S (c_X1_takeIn l G a t H.size (n) (k) (3) (toI t (n) (k)) (by omega) (by omega)) (cwV 4 S.2.2.2.2 gX3_declareOverdue_X1_takeIn rfl rfl rfl hd_X1_takeIn ⟨by rw [hR]; exact Nat.le_of_ble_eq_true rfl, by rw [hR]; exact Nat.le_of_ble_eq_true rfl⟩) ⟨PW.blind, va_recv hK.1 hw.1 (ci := 1) (q0 := 6) rfl rfl, fun U hU hW => ⟨rfl, PW.of hK hw hU hW⟩⟩ rfl rfl hl.1 rfl (lv_room (Nat.le_of_ble_eq_true rfl)) dX3_declareOverdue_66 ⟨Nat.zero_le _, Nat.zero_le _⟩) hw hA (fun _ => rfl) (fun r10 z11 H locs h12 hw => ?_)
            obtain ⟨rfl, ez11⟩ := h12
            have iz11 : Inv z11 := by rw [ez11]; exact inv_tk it (n := (n)) (b := (k)) (by omega) (by omega) (3) (toI t (n) (k))
            refine lv_pop S.1 S.2.1 dX3_declareOverdue_69 rfl ?_
            refine lv_aload_n S.1 S.2.1 dX3_declareOverdue_70 rfl (lv_at hl 0 rfl) ?_
            refine lv_dup S.1 S.2.1 dX3_declareOverdue_71 rfl ?_
            refine gt_X3_4 (v := .int (z11 0 5)) S hK hw 0 rfl rfl LX3 k6 dX3_declareOverdue_72 ?_
            refine lv_iconst (v := 1) S.1 S.2.1 dX3_declareOverdue_75 (by decide) ?_
            refine lv_iadd S.1 S.2.1 dX3_declareOverdue_76 ?_
            refine pt_X3_4 (ws' := (wp G a (st z11 0 5 ((z11 0 5) + (1))))) S hK hw 0 rfl LX3 k6 rfl (Nat.le_of_ble_eq_true rfl) dX3_declareOverdue_77 (fun H locs hw => ?_)
            obtain ⟨z13, ez13⟩ : ∃ zz, zz = st z11 0 5 ((z11 0 5) + (1)) := ⟨_, rfl⟩
            have hw : WD G (wp G a z13) A s H locs := by rw [ez13]; exact hw
            have iz13 : Inv z13 := by rw [ez13]; exact inv_o iz11 (by decide) (by decide)
            refine lv_aload_n S.1 S.2.1 dX3_declareOverdue_80 rfl (lv_at hl 0 rfl) ?_
            refine gt_X3_0 (v := .ref (a 1)) S hK hw 0 rfl rfl LX3 k7 dX3_declareOverdue_81 ?_
            refine lv_iload_n S.1 S.2.1 dX3_declareOverdue_84 rfl (lv_at hl 1 rfl) ?_
            refine lv_iload_n S.1 S.2.1 dX3_declareOverdue_85 rfl (lv_at hl 3 rfl) ?_
            refine cl_i (va_runV (As := [.int (nI (n)), .int (nI (k))]) (rest := []) S (c_X2_connects l G a z13 H.size (n) (k) (by omega) (by omega) (by exact iz13)) (cwV 2 S.2.2.2.2 gX3_declareOverdue_X2_connects rfl rfl rfl hd_X2_connects ⟨by rw [hR]; exact Nat.le_of_ble_eq_true rfl, by rw [hR]; exact Nat.le_of_ble_eq_true rfl⟩) ⟨PW.blind, va_recv hK.1 hw.1 (ci := 2) (q0 := 1) rfl rfl, fun U hU hW => ⟨rfl, PW.of hK hw hU hW⟩⟩ rfl rfl hl.1 rfl (lv_room (Nat.le_of_ble_eq_true rfl)) dX3_declareOverdue_86 ⟨Nat.zero_le _, Nat.zero_le _⟩) hw hA (fun _ => rfl) (fun r14 z15 H locs h16 hw => ?_)
            obtain ⟨rfl, qz15⟩ := h16
            rw [qz15] at hw
            refine brB_eq (b := cnn z13 (n) (k)) S (tgt := 102) dX3_declareOverdue_89 (by decide) (fun c17 => ?_) (fun c17 => ?_)
            · skip
              refine lv_iinc (v := (nI (k + 1))) (lv' := [(3, .int (nI (k + 1))), (0, .ref (a 0)), (1, .int (nI (n))), (2, .int (nI (mk (nst z n 2) 8)))]) S.1 S.2.1 dX3_declareOverdue_102 hl (k := 3) rfl (nI_add _ _) (by decide) rfl (fun ls hl => ?_)
              refine lv_goto (tgt := 12) S.1 S.2.1 dX3_declareOverdue_105 (by decide) ?_
              exact ih12 (k + 1) (z13) _ _ _ (by omega) (by omega) (by rw [dcK, ← ht]; first | (rw [if_neg (fun h => h.2 (by assumption))]; done) | (rw [if_neg (fun h => absurd h.1 (by rw [c17]; decide))]; done) | (rw [if_pos ⟨by assumption, by assumption⟩]; subst ez13 ez11; unfold dcS; dsimp only; first | (rw [if_pos (by assumption)]; done) | (rw [if_neg (by rw [c17]; decide)]; done))) (by exact iz13) hw (lv_sub hl [1, 2, 3, 0] rfl)
            · skip
              refine lv_aload_n S.1 S.2.1 dX3_declareOverdue_92 rfl (lv_at hl 0 rfl) ?_
              refine lv_dup S.1 S.2.1 dX3_declareOverdue_93 rfl ?_
              refine gt_X3_5 (v := .int (z13 0 6)) S hK hw 0 rfl rfl LX3 k8 dX3_declareOverdue_94 ?_
              refine lv_iconst (v := 1) S.1 S.2.1 dX3_declareOverdue_97 (by decide) ?_
              refine lv_iadd S.1 S.2.1 dX3_declareOverdue_98 ?_
              refine pt_X3_5 (ws' := (wp G a (st z13 0 6 ((z13 0 6) + (1))))) S hK hw 0 rfl LX3 k8 rfl (Nat.le_of_ble_eq_true rfl) dX3_declareOverdue_99 (fun H locs hw => ?_)
              obtain ⟨z18, ez18⟩ : ∃ zz, zz = st z13 0 6 ((z13 0 6) + (1)) := ⟨_, rfl⟩
              have hw : WD G (wp G a z18) A s H locs := by rw [ez18]; exact hw
              have iz18 : Inv z18 := by rw [ez18]; exact inv_o iz13 (by decide) (by decide)
              refine lv_iinc (v := (nI (k + 1))) (lv' := [(3, .int (nI (k + 1))), (0, .ref (a 0)), (1, .int (nI (n))), (2, .int (nI (mk (nst z n 2) 8)))]) S.1 S.2.1 dX3_declareOverdue_102 hl (k := 3) rfl (nI_add _ _) (by decide) rfl (fun ls hl => ?_)
              refine lv_goto (tgt := 12) S.1 S.2.1 dX3_declareOverdue_105 (by decide) ?_
              exact ih12 (k + 1) (z18) _ _ _ (by omega) (by omega) (by rw [dcK, ← ht]; first | (rw [if_neg (fun h => h.2 (by assumption))]; done) | (rw [if_neg (fun h => absurd h.1 (by rw [c17]; decide))]; done) | (rw [if_pos ⟨by assumption, by assumption⟩]; subst ez18 ez13 ez11; unfold dcS; dsimp only; first | (rw [if_pos (by assumption)]; done) | (rw [if_neg (by rw [c17]; decide)]; done))) (by exact iz18) hw (lv_sub hl [1, 2, 3, 0] rfl)
  exact K12 (9) (0) (z) _ _ _ (by omega) (by omega) (by rfl) (by exact iz) hw (lv_sub hl [2, 3, 1, 0] rfl)

theorem hd_X3_helpersReach : yX3_helpersReach.cls = RX3 ∧ yX3_helpersReach.cls ≠ "java/lang/invoke/MethodHandle" ∧ yX3_helpersReach.cls ≠ "java/lang/invoke/VarHandle" ∧ (parseMethodDescriptor yX3_helpersReach.desc).map (fun d => d.parameters.length) = some 2 := by decide +kernel
set_option maxHeartbeats 4000000 in
set_option maxRecDepth 100000 in
theorem c_X3_helpersReach (l : Launch) (G : GA) (a : Nat → Nat) (z : St) (sz : Nat) (n : Nat) (y : Nat) (hn : n < 8) (hy : y < 8) (iz : Inv z) : Met l yX3_helpersReach wsX3_helpersReach ({ frames := 3, cells := 0, slots := 0, locals := 65 }) (va_Pc [.ref (a 0), .int (nI (n)), .int (nI (y))] (PW G (wp G a z) sz)) (va_Qi (fun (r : Int32) (u : St) => r = b2 ((hpr z n y).2.2) ∧ u = (hpr z n y).1) (fun (u : St) t => va_P G.1 gcl (wp G a u) t.heap) (va_A (wp G a z) sz)) 0 0 (va_A (wp G a z) sz) := by
  refine met_st (cc := cX3_helpersReach) (maxL := 7) (ret := (some .boolean)) (fun A => va_Qi (fun (r : Int32) (u : St) => r = b2 ((hpr z n y).2.2) ∧ u = (hpr z n y).1) (fun (u : St) t => va_P G.1 gcl (wp G a u) t.heap) A) (by decide) rfl (Nat.le_of_ble_eq_true rfl) ?_
  intro p e s m args below meth c R Q A H ls hR hQ S hr hlk _ hK hsz hH hAe hA hw hl
  have hl : lv_has ls 7 [(0, .ref (a 0)), (1, .int (nI (n))), (2, .int (nI (y)))] := hl
  have LX3 : ∀ w ∈ u_ws RX3 TX3 7, w.before args s = true := fun w h => S.2.2.2.2 w ((by decide +kernel : ∀ w ∈ u_ws RX3 TX3 7, w ∈ wsX3_helpersReach) w h)
  have k1 : (Cond.fieldLink RX3 21 "GossipMembership$World" "knowledge" "LGossipMembership$Knowledge;").before args s = true := S.2.2.2.2 _ (by decide +kernel : (Cond.fieldLink RX3 21 "GossipMembership$World" "knowledge" "LGossipMembership$Knowledge;") ∈ wsX3_helpersReach)
  have k2 : (Cond.fieldLink RX3 25 "GossipMembership$World" "helpers" "I").before args s = true := S.2.2.2.2 _ (by decide +kernel : (Cond.fieldLink RX3 25 "GossipMembership$World" "helpers" "I") ∈ wsX3_helpersReach)
  have k3 : (Cond.fieldLink RX3 12 "GossipMembership$World" "network" "LGossipMembership$Network;").before args s = true := S.2.2.2.2 _ (by decide +kernel : (Cond.fieldLink RX3 12 "GossipMembership$World" "network" "LGossipMembership$Network;") ∈ wsX3_helpersReach)
  have hm3 : hm z ≤ 3 := iz.2.2.2.2.2.2.2
  refine lv_iconst (v := 0) S.1 S.2.1 dX3_helpersReach_0 (by decide) ?_
  refine lv_istore_n (lv' := [(3, .int 0), (0, .ref (a 0)), (1, .int (nI (n))), (2, .int (nI (y)))]) S.1 S.2.1 dX3_helpersReach_1 rfl hl (by decide) rfl (fun ls hl => ?_)
  refine lv_aload_n S.1 S.2.1 dX3_helpersReach_2 rfl (lv_at hl 1 rfl) ?_
  refine gt_X3_1 (v := .ref (a 6)) S hK hw 0 rfl rfl LX3 k1 dX3_helpersReach_3 ?_
  refine lv_iload_n S.1 S.2.1 dX3_helpersReach_6 rfl (lv_at hl 2 rfl) ?_
  refine lv_iconst (v := 1) S.1 S.2.1 dX3_helpersReach_7 (by decide) ?_
  refine cl_i (va_runV (As := [.int (nI (n)), .int 1]) (rest := []) S (c_X1_nodesInState l G a z H.size (n) (1) (by omega)) (cwV 2 S.2.2.2.2 gX3_helpersReach_X1_nodesInState rfl rfl rfl hd_X1_nodesInState ⟨by rw [hR]; exact Nat.le_of_ble_eq_true rfl, by rw [hR]; exact Nat.le_of_ble_eq_true rfl⟩) ⟨PW.blind, va_recv hK.1 hw.1 (ci := 1) (q0 := 6) rfl rfl, fun U hU hW => ⟨rfl, PW.of hK hw hU hW⟩⟩ rfl rfl hl.1 rfl (lv_room (Nat.le_of_ble_eq_true rfl)) dX3_helpersReach_8 ⟨Nat.zero_le _, Nat.zero_le _⟩) hw hA (fun _ => rfl) (fun r1 z2 H locs h3 hw => ?_)
  obtain ⟨rfl, qz2⟩ := h3
  rw [qz2] at hw
  refine lv_iconst (v := 1) S.1 S.2.1 dX3_helpersReach_11 (by decide) ?_
  refine lv_iload_n S.1 S.2.1 dX3_helpersReach_12 rfl (lv_at hl 3 rfl) ?_
  refine lv_ishl S.1 S.2.1 dX3_helpersReach_13 ?_
  refine lv_iconst (v := (-1)) S.1 S.2.1 dX3_helpersReach_14 (by decide) ?_
  refine lv_ixor S.1 S.2.1 dX3_helpersReach_15 ?_
  refine iand_to (v := nI (mk (fun j => (nst z (n) (1)) j && !decide (j = y)) 8)) S (mk_del (nst z (n) (1)) (by omega)) dX3_helpersReach_16 ?_
  refine lv_istore (lv' := [(4, .int (nI (mk (fun j => (nst z (n) (1)) j && !decide (j = y)) 8))), (3, .int 0), (0, .ref (a 0)), (1, .int (nI (n))), (2, .int (nI (y)))]) S.1 S.2.1 dX3_helpersReach_17 hl (by decide) rfl (fun ls hl => ?_)
  refine lv_iconst (v := 0) S.1 S.2.1 dX3_helpersReach_19 (by decide) ?_
  refine lv_istore (lv' := [(5, .int 0), (4, .int (nI (mk (fun j => (nst z (n) (1)) j && !decide (j = y)) 8))), (3, .int 0), (0, .ref (a 0)), (1, .int (nI (n))), (2, .int (nI (y)))]) S.1 S.2.1 dX3_helpersReach_20 hl (by decide) rfl (fun ls hl => ?_)
  have K22 : ∀ (fu : Nat) (d : Nat) (t : St) (q : Nat → Bool) (rb : Bool) (H : Heap) (locs : List Loc) (ls : Array Slot), hm z - d < fu → d ≤ hm z → hpK n y (hp0 z n y) d = (t, q, rb) → Inv t → WD G (wp G a t) A s H locs → lv_has ls 7 [(0, .ref (a 0)), (1, .int (nI (n))), (2, .int (nI (y))), (3, .int (b2 (rb))), (4, .int (nI (mk q 8))), (5, .int (nI (d)))] → W p l e R s m args below meth c H locs 0 0 Q (F0 m 22 ls []) := by
    intro fu
    induction fu with
    | zero => exact fun _ _ _ _ _ _ _ h => absurd h (Nat.not_lt_zero _)
    | succ fu ih22 =>
      intro d t q rb H locs ls hm22 hd hp it hw hl
      refine lv_iload S.1 S.2.1 dX3_helpersReach_22 (lv_at hl 5 rfl) ?_
      refine lv_aload_n S.1 S.2.1 dX3_helpersReach_24 rfl (lv_at hl 0 rfl) ?_
      refine gt_X3_2 (v := .int (t 0 4)) S hK hw 0 rfl rfl LX3 k2 dX3_helpersReach_25 ?_
      refine lv_icmp_ge (tgt := 92) S.1 S.2.1 dX3_helpersReach_28 (by decide) (fun c4 => ?_) (fun c4 => ?_)
      · skip
        have h04 : t 0 4 = nI (hm z) := by have := hpK_04 n y (hp0 z n y) d; rw [hp] at this; exact this.trans iz.2.2.2.2.2.2.1
        have hde : d = hm z := by rw [h04] at c4; have := (nI_leI (by omega) (by omega)).mp c4; omega
        refine lv_iload_n S.1 S.2.1 dX3_helpersReach_92 rfl (lv_at hl 3 rfl) ?_
        exact en_z (v := (b2 (rb))) t hQ S hr hlk (b2_narrow _) hw (by rw [hpr, ← hde, hp]; exact ⟨rfl, rfl⟩) dX3_helpersReach_93
      · skip
        have h04 : t 0 4 = nI (hm z) := by have := hpK_04 n y (hp0 z n y) d; rw [hp] at this; exact this.trans iz.2.2.2.2.2.2.1
        have hdl : d < hm z := by rw [h04] at c4; exact Nat.lt_of_not_le (fun q9 => c4 ((nI_leI (by omega) (by omega)).mpr q9))
        refine lv_aload_n S.1 S.2.1 dX3_helpersReach_31 rfl (lv_at hl 0 rfl) ?_
        refine lv_iload S.1 S.2.1 dX3_helpersReach_32 (lv_at hl 4 rfl) ?_
        refine cl_i (va_runV (As := [.int (nI (mk q 8))]) (rest := []) S (c_X3_drawFrom l G a t H.size q (by exact it)) (cwV 1 S.2.2.2.2 gX3_helpersReach_X3_drawFrom rfl rfl rfl hd_X3_drawFrom ⟨by rw [hR]; exact Nat.le_of_ble_eq_true rfl, by rw [hR]; exact Nat.le_of_ble_eq_true rfl⟩) ⟨PW.blind, va_recv hK.1 hw.1 (ci := 3) (q0 := 0) rfl rfl, fun U hU hW => ⟨rfl, PW.of hK hw hU hW⟩⟩ rfl rfl hl.1 rfl (lv_room (Nat.le_of_ble_eq_true rfl)) dX3_helpersReach_34 ⟨Nat.zero_le _, Nat.zero_le _⟩) hw hA (fun _ => rfl) (fun r5 z6 H locs h7 hw => ?_)
        obtain ⟨rfl, ez6⟩ := h7
        have iz6 : Inv z6 := by rw [ez6]; exact inv_dz it q
        refine lv_istore (lv' := [(6, .int (oI (dv t q))), (0, .ref (a 0)), (1, .int (nI (n))), (2, .int (nI (y))), (3, .int (b2 (rb))), (4, .int (nI (mk q 8))), (5, .int (nI (d)))]) S.1 S.2.1 dX3_helpersReach_37 hl (by decide) rfl (fun ls hl => ?_)
        refine lv_iload S.1 S.2.1 dX3_helpersReach_39 (lv_at hl 0 rfl) ?_
        refine lv_iconst (v := (-1)) S.1 S.2.1 dX3_helpersReach_41 (by decide) ?_
        refine lv_icmp_ne (tgt := 47) S.1 S.2.1 dX3_helpersReach_42 (by decide) (fun c8 => ?_) (fun c8 => ?_)
        · skip
          obtain ⟨h, hh⟩ := oI_some c8
          have hh8 := dv_in hh
          have hl : lv_has ls 7 [(6, .int (nI (h))), (0, .ref (a 0)), (1, .int (nI (n))), (2, .int (nI (y))), (3, .int (b2 (rb))), (4, .int (nI (mk q 8))), (5, .int (nI (d)))] := by rw [hh] at hl; exact hl
          refine lv_iload S.1 S.2.1 dX3_helpersReach_47 (lv_at hl 5 rfl) ?_
          refine lv_iconst (v := 1) S.1 S.2.1 dX3_helpersReach_49 (by decide) ?_
          refine lv_iload S.1 S.2.1 dX3_helpersReach_50 (lv_at hl 0 rfl) ?_
          refine lv_ishl S.1 S.2.1 dX3_helpersReach_52 ?_
          refine lv_iconst (v := (-1)) S.1 S.2.1 dX3_helpersReach_53 (by decide) ?_
          refine lv_ixor S.1 S.2.1 dX3_helpersReach_54 ?_
          refine iand_to (v := nI (mk (fun j => q j && !decide (j = h)) 8)) S (mk_del q (by omega)) dX3_helpersReach_55 ?_
          refine lv_istore (lv' := [(4, .int (nI (mk (fun j => q j && !decide (j = h)) 8))), (6, .int (nI (h))), (0, .ref (a 0)), (1, .int (nI (n))), (2, .int (nI (y))), (3, .int (b2 (rb))), (5, .int (nI (d)))]) S.1 S.2.1 dX3_helpersReach_56 hl (by decide) rfl (fun ls hl => ?_)
          refine lv_aload_n S.1 S.2.1 dX3_helpersReach_58 rfl (lv_at hl 2 rfl) ?_
          refine gt_X3_0 (v := .ref (a 1)) S hK hw 0 rfl rfl LX3 k3 dX3_helpersReach_59 ?_
          refine lv_iload_n S.1 S.2.1 dX3_helpersReach_62 rfl (lv_at hl 3 rfl) ?_
          refine lv_iload S.1 S.2.1 dX3_helpersReach_63 (lv_at hl 1 rfl) ?_
          refine cl_i (va_runV (As := [.int (nI (n)), .int (nI (h))]) (rest := []) S (c_X2_connects l G a z6 H.size (n) (h) (by omega) (by omega) (by exact iz6)) (cwV 2 S.2.2.2.2 gX3_helpersReach_X2_connects rfl rfl rfl hd_X2_connects ⟨by rw [hR]; exact Nat.le_of_ble_eq_true rfl, by rw [hR]; exact Nat.le_of_ble_eq_true rfl⟩) ⟨PW.blind, va_recv hK.1 hw.1 (ci := 2) (q0 := 1) rfl rfl, fun U hU hW => ⟨rfl, PW.of hK hw hU hW⟩⟩ rfl rfl hl.1 rfl (lv_room (Nat.le_of_ble_eq_true rfl)) dX3_helpersReach_65 ⟨Nat.zero_le _, Nat.zero_le _⟩) hw hA (fun _ => rfl) (fun r9 z10 H locs h11 hw => ?_)
          obtain ⟨rfl, qz10⟩ := h11
          rw [qz10] at hw
          refine brB_eq (b := cnn z6 (n) (h)) S (tgt := 86) dX3_helpersReach_68 (by decide) (fun c12 => ?_) (fun c12 => ?_)
          · skip
            have hb9 : (rb || (cnn z6 n h && cnn z6 h y)) = rb := by simp [c12]
            have hl : lv_has ls 7 [(4, .int (nI (mk (fun j => q j && !decide (j = h)) 8))), (6, .int (nI (h))), (0, .ref (a 0)), (1, .int (nI (n))), (2, .int (nI (y))), (3, .int (b2 ((rb || (cnn z6 n h && cnn z6 h y))))), (5, .int (nI (d)))] := by rw [hb9]; exact hl
            refine lv_iinc (v := (nI (d + 1))) (lv' := [(5, .int (nI (d + 1))), (4, .int (nI (mk (fun j => q j && !decide (j = h)) 8))), (6, .int (nI (h))), (0, .ref (a 0)), (1, .int (nI (n))), (2, .int (nI (y))), (3, .int (b2 ((rb || (cnn z6 n h && cnn z6 h y)))))]) S.1 S.2.1 dX3_helpersReach_86 hl (k := 6) rfl (nI_add _ _) (by decide) rfl (fun ls hl => ?_)
            refine lv_goto (tgt := 22) S.1 S.2.1 dX3_helpersReach_89 (by decide) ?_
            exact ih22 (d + 1) (z6) ((fun j => q j && !decide (j = h))) ((rb || (cnn z6 n h && cnn z6 h y))) _ _ _ (by omega) (by omega) (by show hpS n y (hpK n y (hp0 z n y) d) = _; rw [hp, hpS]; dsimp only; rw [hh, ez6]) (by exact iz6) hw (lv_sub hl [3, 4, 5, 6, 1, 0] rfl)
          · skip
            refine lv_aload_n S.1 S.2.1 dX3_helpersReach_71 rfl (lv_at hl 2 rfl) ?_
            refine gt_X3_0 (v := .ref (a 1)) S hK hw 0 rfl rfl LX3 k3 dX3_helpersReach_72 ?_
            refine lv_iload S.1 S.2.1 dX3_helpersReach_75 (lv_at hl 1 rfl) ?_
            refine lv_iload_n S.1 S.2.1 dX3_helpersReach_77 rfl (lv_at hl 4 rfl) ?_
            refine cl_i (va_runV (As := [.int (nI (h)), .int (nI (y))]) (rest := []) S (c_X2_connects l G a z6 H.size (h) (y) (by omega) (by omega) (by exact iz6)) (cwV 2 S.2.2.2.2 gX3_helpersReach_X2_connects rfl rfl rfl hd_X2_connects ⟨by rw [hR]; exact Nat.le_of_ble_eq_true rfl, by rw [hR]; exact Nat.le_of_ble_eq_true rfl⟩) ⟨PW.blind, va_recv hK.1 hw.1 (ci := 2) (q0 := 1) rfl rfl, fun U hU hW => ⟨rfl, PW.of hK hw hU hW⟩⟩ rfl rfl hl.1 rfl (lv_room (Nat.le_of_ble_eq_true rfl)) dX3_helpersReach_78 ⟨Nat.zero_le _, Nat.zero_le _⟩) hw hA (fun _ => rfl) (fun r13 z14 H locs h15 hw => ?_)
            obtain ⟨rfl, qz14⟩ := h15
            rw [qz14] at hw
            refine brB_eq (b := cnn z6 (h) (y)) S (tgt := 86) dX3_helpersReach_81 (by decide) (fun c16 => ?_) (fun c16 => ?_)
            · skip
              have hb9 : (rb || (cnn z6 n h && cnn z6 h y)) = rb := by simp [c12, c16]
              have hl : lv_has ls 7 [(4, .int (nI (mk (fun j => q j && !decide (j = h)) 8))), (6, .int (nI (h))), (0, .ref (a 0)), (1, .int (nI (n))), (2, .int (nI (y))), (3, .int (b2 ((rb || (cnn z6 n h && cnn z6 h y))))), (5, .int (nI (d)))] := by rw [hb9]; exact hl
              refine lv_iinc (v := (nI (d + 1))) (lv' := [(5, .int (nI (d + 1))), (4, .int (nI (mk (fun j => q j && !decide (j = h)) 8))), (6, .int (nI (h))), (0, .ref (a 0)), (1, .int (nI (n))), (2, .int (nI (y))), (3, .int (b2 ((rb || (cnn z6 n h && cnn z6 h y)))))]) S.1 S.2.1 dX3_helpersReach_86 hl (k := 6) rfl (nI_add _ _) (by decide) rfl (fun ls hl => ?_)
              refine lv_goto (tgt := 22) S.1 S.2.1 dX3_helpersReach_89 (by decide) ?_
              exact ih22 (d + 1) (z6) ((fun j => q j && !decide (j = h))) ((rb || (cnn z6 n h && cnn z6 h y))) _ _ _ (by omega) (by omega) (by show hpS n y (hpK n y (hp0 z n y) d) = _; rw [hp, hpS]; dsimp only; rw [hh, ez6]) (by exact iz6) hw (lv_sub hl [3, 4, 5, 6, 1, 0] rfl)
            · skip
              refine lv_iconst (v := 1) S.1 S.2.1 dX3_helpersReach_84 (by decide) ?_
              refine lv_istore_n (lv' := [(3, .int 1), (4, .int (nI (mk (fun j => q j && !decide (j = h)) 8))), (6, .int (nI (h))), (0, .ref (a 0)), (1, .int (nI (n))), (2, .int (nI (y))), (5, .int (nI (d)))]) S.1 S.2.1 dX3_helpersReach_85 rfl hl (by decide) rfl (fun ls hl => ?_)
              have hb9 : (rb || (cnn z6 n h && cnn z6 h y)) = true := by simp [c12, c16]
              have hl : lv_has ls 7 [(3, .int (b2 ((rb || (cnn z6 n h && cnn z6 h y))))), (4, .int (nI (mk (fun j => q j && !decide (j = h)) 8))), (6, .int (nI (h))), (0, .ref (a 0)), (1, .int (nI (n))), (2, .int (nI (y))), (5, .int (nI (d)))] := by rw [hb9]; exact hl
              refine lv_iinc (v := (nI (d + 1))) (lv' := [(5, .int (nI (d + 1))), (3, .int (b2 ((rb || (cnn z6 n h && cnn z6 h y))))), (4, .int (nI (mk (fun j => q j && !decide (j = h)) 8))), (6, .int (nI (h))), (0, .ref (a 0)), (1, .int (nI (n))), (2, .int (nI (y)))]) S.1 S.2.1 dX3_helpersReach_86 hl (k := 6) rfl (nI_add _ _) (by decide) rfl (fun ls hl => ?_)
              refine lv_goto (tgt := 22) S.1 S.2.1 dX3_helpersReach_89 (by decide) ?_
              exact ih22 (d + 1) (z6) ((fun j => q j && !decide (j = h))) ((rb || (cnn z6 n h && cnn z6 h y))) _ _ _ (by omega) (by omega) (by show hpS n y (hpK n y (hp0 z n y) d) = _; rw [hp, hpS]; dsimp only; rw [hh, ez6]) (by exact iz6) hw (lv_sub hl [4, 5, 6, 1, 2, 0] rfl)
        · skip
          have hn : dv t q = none := oI_none (fun y9 h9 => (dv_in h9).1) c8
          refine lv_iload_n S.1 S.2.1 dX3_helpersReach_45 rfl (lv_at hl 4 rfl) ?_
          exact en_z (v := (b2 (rb))) z6 hQ S hr hlk (b2_narrow _) hw (by have hs := hpK_stop n y (hp0 z n y) (d := d) (by rw [hp]; exact hn) (hm z - d); rw [show d + (hm z - d) = hm z by omega, hp] at hs; rw [hpr, hs]; exact ⟨rfl, by rw [ez6]; exact dz_none hn⟩) dX3_helpersReach_46
  exact K22 (hm z + 1) (0) (z) (fun j => nst z n 1 j && !decide (j = y)) (false) _ _ _ (by omega) (by exact Nat.zero_le _) (by rfl) (by exact iz) hw (lv_sub hl [3, 4, 5, 2, 1, 0] rfl)

theorem hd_X3_send : yX3_send.cls = RX3 ∧ yX3_send.cls ≠ "java/lang/invoke/MethodHandle" ∧ yX3_send.cls ≠ "java/lang/invoke/VarHandle" ∧ (parseMethodDescriptor yX3_send.desc).map (fun d => d.parameters.length) = some 2 := by decide +kernel
set_option maxHeartbeats 4000000 in
set_option maxRecDepth 100000 in
theorem c_X3_send (l : Launch) (G : GA) (a : Nat → Nat) (z : St) (sz : Nat) (n : Nat) (b : Nat) (hn : n < 8) (hb : b < 8) : Met l yX3_send wsX3_send ({ frames := 2, cells := 0, slots := 0, locals := 48 }) (va_Pc [.ref (a 0), .int (nI (n)), .int (nI (b))] (PW G (wp G a z) sz)) (va_Qv (fun (u : St) => u = snM z n b) (fun (u : St) t => va_P G.1 gcl (wp G a u) t.heap) (va_A (wp G a z) sz)) 0 0 (va_A (wp G a z) sz) := by
  refine met_st (cc := cX3_send) (maxL := 8) (ret := none) (fun A => va_Qv (fun (u : St) => u = snM z n b) (fun (u : St) t => va_P G.1 gcl (wp G a u) t.heap) A) (by decide) rfl (Nat.le_of_ble_eq_true rfl) ?_
  intro p e s m args below meth c R Q A H ls hR hQ S hr hlk _ hK hsz hH hAe hA hw hl
  have hl : lv_has ls 8 [(0, .ref (a 0)), (1, .int (nI (n))), (2, .int (nI (b)))] := hl
  have LX1 : ∀ w ∈ u_ws RX1 TX1 10, w.before args s = true := fun w h => S.2.2.2.2 w ((by decide +kernel : ∀ w ∈ u_ws RX1 TX1 10, w ∈ wsX3_send) w h)
  have LX3 : ∀ w ∈ u_ws RX3 TX3 7, w.before args s = true := fun w h => S.2.2.2.2 w ((by decide +kernel : ∀ w ∈ u_ws RX3 TX3 7, w ∈ wsX3_send) w h)
  have k1 : (Cond.fieldLink RX3 21 "GossipMembership$World" "knowledge" "LGossipMembership$Knowledge;").before args s = true := S.2.2.2.2 _ (by decide +kernel : (Cond.fieldLink RX3 21 "GossipMembership$World" "knowledge" "LGossipMembership$Knowledge;") ∈ wsX3_send)
  have k2 : (Cond.fieldLink RX3 117 "GossipMembership$World" "messagesSent" "I").before args s = true := S.2.2.2.2 _ (by decide +kernel : (Cond.fieldLink RX3 117 "GossipMembership$World" "messagesSent" "I") ∈ wsX3_send)
  have k3 : (Cond.fieldLink RX3 114 "GossipMembership$Knowledge" "counters" "[I").before args s = true := S.2.2.2.2 _ (by decide +kernel : (Cond.fieldLink RX3 114 "GossipMembership$Knowledge" "counters" "[I") ∈ wsX3_send)
  have k4 : (Cond.static yX4_pair).before args s = true := S.2.2.2.2 _ (by decide +kernel : (Cond.static yX4_pair) ∈ wsX3_send)
  have k5 : (Cond.initialized yX4_pair.cls).before args s = true := S.2.2.2.2 _ (by decide +kernel : (Cond.initialized yX4_pair.cls) ∈ wsX3_send)
  refine lv_iconst (v := 0) S.1 S.2.1 dX3_send_0 (by decide) ?_
  refine lv_istore_n (lv' := [(3, .int 0), (0, .ref (a 0)), (1, .int (nI (n))), (2, .int (nI (b)))]) S.1 S.2.1 dX3_send_1 rfl hl (by decide) rfl (fun ls hl => ?_)
  refine lv_aload_n S.1 S.2.1 dX3_send_2 rfl (lv_at hl 1 rfl) ?_
  refine gt_X3_1 (v := .ref (a 6)) S hK hw 0 rfl rfl LX3 k1 dX3_send_3 ?_
  refine lv_iload_n S.1 S.2.1 dX3_send_6 rfl (lv_at hl 2 rfl) ?_
  refine lv_iload_n S.1 S.2.1 dX3_send_7 rfl (lv_at hl 3 rfl) ?_
  refine cl_i (va_runV (As := [.int (nI (n)), .int (nI (b))]) (rest := []) S (c_X1_toldState l G a z H.size (n) (b) (by omega) (by omega)) (cwV 2 S.2.2.2.2 gX3_send_X1_toldState rfl rfl rfl hd_X1_toldState ⟨by rw [hR]; exact Nat.le_of_ble_eq_true rfl, by rw [hR]; exact Nat.le_of_ble_eq_true rfl⟩) ⟨PW.blind, va_recv hK.1 hw.1 (ci := 1) (q0 := 6) rfl rfl, fun U hU hW => ⟨rfl, PW.of hK hw hU hW⟩⟩ rfl rfl hl.1 rfl (lv_room (Nat.le_of_ble_eq_true rfl)) dX3_send_8 ⟨Nat.zero_le _, Nat.zero_le _⟩) hw hA (fun _ => rfl) (fun r1 z2 H locs h3 hw => ?_)
  obtain ⟨rfl, qz2⟩ := h3
  rw [qz2] at hw
  refine lv_istore (lv' := [(4, .int (toS z (n) (b))), (3, .int 0), (0, .ref (a 0)), (1, .int (nI (n))), (2, .int (nI (b)))]) S.1 S.2.1 dX3_send_11 hl (by decide) rfl (fun ls hl => ?_)
  have K30 : ∀  (H : Heap) (locs : List Loc) (ls : Array Slot), WD G (wp G a z) A s H locs → lv_has ls 8 [(0, .ref (a 0)), (1, .int (nI (n))), (2, .int (nI (b))), (3, .int 0), (4, .int (toS z n b))] → W p l e R s m args below meth c H locs 0 0 Q (F0 m 30 ls [.int (b2 (snA z n b))]) := by
    intro  H locs ls  hw hl
    refine lv_istore (lv' := [(5, .int (b2 (snA z n b))), (0, .ref (a 0)), (1, .int (nI (n))), (2, .int (nI (b))), (3, .int 0), (4, .int (toS z n b))]) S.1 S.2.1 dX3_send_30 hl (by decide) rfl (fun ls hl => ?_)
    have K160 : ∀ (t : St) (H : Heap) (locs : List Loc) (ls : Array Slot), t = snd z n b → WD G (wp G a t) A s H locs → lv_has ls 8 [(0, .ref (a 0))] → W p l e R s m args below meth c H locs 0 0 Q (F0 m 160 ls []) := by
      intro t H locs ls ht hw hl
      refine lv_aload_n S.1 S.2.1 dX3_send_160 rfl (lv_at hl 0 rfl) ?_
      refine lv_dup S.1 S.2.1 dX3_send_161 rfl ?_
      refine gt_X3_6 (v := .int (t 0 8)) S hK hw 0 rfl rfl LX3 k2 dX3_send_162 ?_
      refine lv_iconst (v := 1) S.1 S.2.1 dX3_send_165 (by decide) ?_
      refine lv_iadd S.1 S.2.1 dX3_send_166 ?_
      refine pt_X3_6 (ws' := (wp G a (st t 0 8 ((t 0 8) + (1))))) S hK hw 0 rfl LX3 k2 rfl (Nat.le_of_ble_eq_true rfl) dX3_send_167 (fun H locs hw => ?_)
      obtain ⟨z4, ez4⟩ : ∃ zz, zz = st t 0 8 ((t 0 8) + (1)) := ⟨_, rfl⟩
      have hw : WD G (wp G a z4) A s H locs := by rw [ez4]; exact hw
      exact en_v z4 hQ S hr hlk hw (by subst ez4; subst ht; rfl) dX3_send_170
    have K61 : ∀ (fu : Nat) (j : Nat) (t : St) (q : Nat → Bool) (H : Heap) (locs : List Loc) (ls : Array Slot), 3 - j < fu → j ≤ 3 → snK (snA z n b) n b (snH z n b, fun _ => false) j = (t, q) → WD G (wp G a t) A s H locs → lv_has ls 8 [(0, .ref (a 0)), (1, .int (nI (n))), (2, .int (nI (b))), (3, .int (nI (mk q 8))), (5, .int (b2 (snA z n b))), (6, .int (nI (j)))] → W p l e R s m args below meth c H locs 0 0 Q (F0 m 61 ls []) := by
      intro fu
      induction fu with
      | zero => exact fun _ _ _ _ _ _ h => absurd h (Nat.not_lt_zero _)
      | succ fu ih61 =>
        intro j t q H locs ls hm61 hj hq hw hl
        refine lv_iload S.1 S.2.1 dX3_send_61 (lv_at hl 5 rfl) ?_
        refine lv_iconst (v := 3) S.1 S.2.1 dX3_send_63 (by decide) ?_
        refine brN_ge (a := j) (b := 3) S (by omega) (by omega) (tgt := 160) dX3_send_64 (by decide) (fun c5 => ?_) (fun c5 => ?_)
        · skip
          have hj9 : j = 3 := by omega
          subst hj9
          exact K160 (t) _ _ _ (by first | (rw [snd, hq]; done) | (have hs := snK_stop (snA z n b) n b (snH z n b, fun _ => false) (d := j) (by rw [hq]; exact hn) (3 - j); rw [show j + (3 - j) = 3 by omega, hq] at hs; rw [snd, hs]; done)) hw (lv_sub hl [0] rfl)
        · skip
          refine lv_aload_n S.1 S.2.1 dX3_send_67 rfl (lv_at hl 0 rfl) ?_
          refine gt_X3_1 (v := .ref (a 6)) S hK hw 0 rfl rfl LX3 k1 dX3_send_68 ?_
          refine lv_iload_n S.1 S.2.1 dX3_send_71 rfl (lv_at hl 1 rfl) ?_
          refine lv_iload_n S.1 S.2.1 dX3_send_72 rfl (lv_at hl 3 rfl) ?_
          refine cl_i (va_runV (As := [.int (nI (n)), .int (nI (mk q 8))]) (rest := []) S (c_X1_mostUrgent l G a t H.size (n) q (by omega)) (cwV 2 S.2.2.2.2 gX3_send_X1_mostUrgent rfl rfl rfl hd_X1_mostUrgent ⟨by rw [hR]; exact Nat.le_of_ble_eq_true rfl, by rw [hR]; exact Nat.le_of_ble_eq_true rfl⟩) ⟨PW.blind, va_recv hK.1 hw.1 (ci := 1) (q0 := 6) rfl rfl, fun U hU hW => ⟨rfl, PW.of hK hw hU hW⟩⟩ rfl rfl hl.1 rfl (lv_room (Nat.le_of_ble_eq_true rfl)) dX3_send_73 ⟨Nat.zero_le _, Nat.zero_le _⟩) hw hA (fun _ => rfl) (fun r6 z7 H locs h8 hw => ?_)
          obtain ⟨rfl, qz7⟩ := h8
          rw [qz7] at hw
          refine lv_istore (lv' := [(7, .int (oI (mu t (n) q 8))), (0, .ref (a 0)), (1, .int (nI (n))), (2, .int (nI (b))), (3, .int (nI (mk q 8))), (5, .int (b2 (snA z n b))), (6, .int (nI (j)))]) S.1 S.2.1 dX3_send_76 hl (by decide) rfl (fun ls hl => ?_)
          refine lv_iload S.1 S.2.1 dX3_send_78 (lv_at hl 0 rfl) ?_
          refine lv_iconst (v := (-1)) S.1 S.2.1 dX3_send_80 (by decide) ?_
          refine lv_icmp_ne (tgt := 87) S.1 S.2.1 dX3_send_81 (by decide) (fun c9 => ?_) (fun c9 => ?_)
          · skip
            obtain ⟨k, hk⟩ := oI_some c9
            have hk8 := mu_lt _ _ _ 8 k hk
            have hl : lv_has ls 8 [(7, .int (nI (k))), (0, .ref (a 0)), (1, .int (nI (n))), (2, .int (nI (b))), (3, .int (nI (mk q 8))), (5, .int (b2 (snA z n b))), (6, .int (nI (j)))] := by rw [hk] at hl; exact hl
            refine lv_iload_n S.1 S.2.1 dX3_send_87 rfl (lv_at hl 4 rfl) ?_
            refine lv_iconst (v := 1) S.1 S.2.1 dX3_send_88 (by decide) ?_
            refine lv_iload S.1 S.2.1 dX3_send_89 (lv_at hl 0 rfl) ?_
            refine lv_ishl S.1 S.2.1 dX3_send_91 ?_
            refine ior_to (v := nI (mk (fun j2 => q j2 || decide (j2 = k)) 8)) S (mk_ins q (by omega)) dX3_send_92 ?_
            refine lv_istore_n (lv' := [(3, .int (nI (mk (fun j2 => q j2 || decide (j2 = k)) 8))), (7, .int (nI (k))), (0, .ref (a 0)), (1, .int (nI (n))), (2, .int (nI (b))), (5, .int (b2 (snA z n b))), (6, .int (nI (j)))]) S.1 S.2.1 dX3_send_93 rfl hl (by decide) rfl (fun ls hl => ?_)
            refine lv_aload_n S.1 S.2.1 dX3_send_94 rfl (lv_at hl 2 rfl) ?_
            refine gt_X3_1 (v := .ref (a 6)) S hK hw 0 rfl rfl LX3 k1 dX3_send_95 ?_
            refine gt_X1_4 (v := .ref (a 11)) S hK hw 6 rfl rfl LX1 k3 dX3_send_98 ?_
            refine lv_iload_n S.1 S.2.1 dX3_send_101 rfl (lv_at hl 3 rfl) ?_
            refine lv_iload S.1 S.2.1 dX3_send_102 (lv_at hl 1 rfl) ?_
            refine pr_n (n := n) (b := k) S hl.1 gX3_send_X4_pair_n91 hK.2.2.2.1 k4 k5 ⟨by rw [hR]; exact Nat.le_of_ble_eq_true rfl, by rw [hR]; exact Nat.le_of_ble_eq_true rfl⟩ (Nat.zero_le _) (Nat.zero_le _) (Nat.le_of_ble_eq_true rfl) dX3_send_104 ?_
            refine lv_dup2_11 S.1 S.2.1 dX3_send_107 rfl rfl ?_
            refine ald_i (v := t 8 (8 * n + k)) (k := 8 * n + k) S hK hw 11 rfl (by omega) (by decide) rfl dX3_send_108 ?_
            refine lv_iconst (v := 1) S.1 S.2.1 dX3_send_109 (by decide) ?_
            refine lv_isub S.1 S.2.1 dX3_send_110 ?_
            refine ast_i (ws' := (wp G a (st t 8 (8 * n + k) ((t 8 (8 * n + k)) - (1))))) (k := 8 * n + k) S hK hw 11 rfl (by omega) (by decide) rfl dX3_send_111 (fun H locs hw => ?_)
            obtain ⟨z10, ez10⟩ : ∃ zz, zz = st t 8 (8 * n + k) ((t 8 (8 * n + k)) - (1)) := ⟨_, rfl⟩
            have hw : WD G (wp G a z10) A s H locs := by rw [ez10]; exact hw
            refine lv_iload S.1 S.2.1 dX3_send_112 (lv_at hl 5 rfl) ?_
            refine brB_eq (b := snA z n b) S (tgt := 123) dX3_send_114 (by decide) (fun c11 => ?_) (fun c11 => ?_)
            · skip
              refine lv_aload_n S.1 S.2.1 dX3_send_123 rfl (lv_at hl 2 rfl) ?_
              refine gt_X3_1 (v := .ref (a 6)) S hK hw 0 rfl rfl LX3 k1 dX3_send_124 ?_
              refine lv_iload_n S.1 S.2.1 dX3_send_127 rfl (lv_at hl 4 rfl) ?_
              refine lv_iload S.1 S.2.1 dX3_send_128 (lv_at hl 1 rfl) ?_
              refine lv_aload_n S.1 S.2.1 dX3_send_130 rfl (lv_at hl 2 rfl) ?_
              refine gt_X3_1 (v := .ref (a 6)) S hK hw 0 rfl rfl LX3 k1 dX3_send_131 ?_
              refine lv_iload_n S.1 S.2.1 dX3_send_134 rfl (lv_at hl 3 rfl) ?_
              refine lv_iload S.1 S.2.1 dX3_send_135 (lv_at hl 1 rfl) ?_
              refine cl_i (va_runV (As := [.int (nI (n)), .int (nI (k))]) (rest := [.int (nI (k)), .int (nI (b)), .ref (a 6)]) S (c_X1_toldState l G a z10 H.size (n) (k) (by omega) (by omega)) (cwV 2 S.2.2.2.2 gX3_send_X1_toldState rfl rfl rfl hd_X1_toldState ⟨by rw [hR]; exact Nat.le_of_ble_eq_true rfl, by rw [hR]; exact Nat.le_of_ble_eq_true rfl⟩) ⟨PW.blind, va_recv hK.1 hw.1 (ci := 1) (q0 := 6) rfl rfl, fun U hU hW => ⟨rfl, PW.of hK hw hU hW⟩⟩ rfl rfl hl.1 rfl (lv_room (Nat.le_of_ble_eq_true rfl)) dX3_send_137 ⟨Nat.zero_le _, Nat.zero_le _⟩) hw hA (fun _ => rfl) (fun r12 z13 H locs h14 hw => ?_)
              obtain ⟨rfl, qz13⟩ := h14
              rw [qz13] at hw
              refine lv_aload_n S.1 S.2.1 dX3_send_140 rfl (lv_at hl 2 rfl) ?_
              refine gt_X3_1 (v := .ref (a 6)) S hK hw 0 rfl rfl LX3 k1 dX3_send_141 ?_
              refine lv_iload_n S.1 S.2.1 dX3_send_144 rfl (lv_at hl 3 rfl) ?_
              refine lv_iload S.1 S.2.1 dX3_send_145 (lv_at hl 1 rfl) ?_
              refine cl_i (va_runV (As := [.int (nI (n)), .int (nI (k))]) (rest := [.int (toS z10 (n) (k)), .int (nI (k)), .int (nI (b)), .ref (a 6)]) S (c_X1_toldIncarnation l G a z10 H.size (n) (k) (by omega) (by omega)) (cwV 2 S.2.2.2.2 gX3_send_X1_toldIncarnation rfl rfl rfl hd_X1_toldIncarnation ⟨by rw [hR]; exact Nat.le_of_ble_eq_true rfl, by rw [hR]; exact Nat.le_of_ble_eq_true rfl⟩) ⟨PW.blind, va_recv hK.1 hw.1 (ci := 1) (q0 := 6) rfl rfl, fun U hU hW => ⟨rfl, PW.of hK hw hU hW⟩⟩ rfl rfl hl.1 rfl (lv_room (Nat.le_of_ble_eq_true rfl)) dX3_send_147 ⟨Nat.zero_le _, Nat.zero_le _⟩) hw hA (fun _ => rfl) (fun r15 z16 H locs h17 hw => ?_)
              obtain ⟨rfl, qz16⟩ := h17
              rw [qz16] at hw
              refine cl_i (va_runV (As := [.int (nI (b)), .int (nI (k)), .int (toS z10 (n) (k)), .int (toI z10 (n) (k))]) (rest := []) S (c_X1_takeIn l G a z10 H.size (b) (k) (toS z10 (n) (k)) (toI z10 (n) (k)) (by omega) (by omega)) (cwV 4 S.2.2.2.2 gX3_send_X1_takeIn rfl rfl rfl hd_X1_takeIn ⟨by rw [hR]; exact Nat.le_of_ble_eq_true rfl, by rw [hR]; exact Nat.le_of_ble_eq_true rfl⟩) ⟨PW.blind, va_recv hK.1 hw.1 (ci := 1) (q0 := 6) rfl rfl, fun U hU hW => ⟨rfl, PW.of hK hw hU hW⟩⟩ rfl rfl hl.1 rfl (lv_room (Nat.le_of_ble_eq_true rfl)) dX3_send_150 ⟨Nat.zero_le _, Nat.zero_le _⟩) hw hA (fun _ => rfl) (fun r18 z19 H locs h20 hw => ?_)
              obtain ⟨rfl, ez19⟩ := h20
              refine lv_pop S.1 S.2.1 dX3_send_153 rfl ?_
              refine lv_iinc (v := (nI (j + 1))) (lv' := [(6, .int (nI (j + 1))), (3, .int (nI (mk (fun j2 => q j2 || decide (j2 = k)) 8))), (7, .int (nI (k))), (0, .ref (a 0)), (1, .int (nI (n))), (2, .int (nI (b))), (5, .int (b2 (snA z n b)))]) S.1 S.2.1 dX3_send_154 hl (k := 6) rfl (nI_add _ _) (by decide) rfl (fun ls hl => ?_)
              refine lv_goto (tgt := 61) S.1 S.2.1 dX3_send_157 (by decide) ?_
              exact ih61 (j + 1) (z19) ((fun j2 => q j2 || decide (j2 = k))) _ _ _ (by omega) (by omega) (by show snS _ n b (snK _ n b _ j) = _; rw [hq, snS]; dsimp only; rw [hk]; subst ez19 ez10; dsimp only; first | (rw [if_pos ⟨by assumption, by assumption⟩]; done) | (rw [if_neg (fun h => absurd h.2 (by assumption))]; done) | (rw [if_neg (fun h => absurd h.1 (by rw [c11]; decide))]; done)) hw (lv_sub hl [3, 4, 5, 1, 6, 0] rfl)
            · skip
              refine lv_iload S.1 S.2.1 dX3_send_117 (lv_at hl 1 rfl) ?_
              refine lv_iload_n S.1 S.2.1 dX3_send_119 rfl (lv_at hl 4 rfl) ?_
              refine brN_eq (a := k) (b := b) S (by omega) (by omega) (tgt := 154) dX3_send_120 (by decide) (fun c21 => ?_) (fun c21 => ?_)
              · skip
                refine lv_iinc (v := (nI (j + 1))) (lv' := [(6, .int (nI (j + 1))), (3, .int (nI (mk (fun j2 => q j2 || decide (j2 = k)) 8))), (7, .int (nI (k))), (0, .ref (a 0)), (1, .int (nI (n))), (2, .int (nI (b))), (5, .int (b2 (snA z n b)))]) S.1 S.2.1 dX3_send_154 hl (k := 6) rfl (nI_add _ _) (by decide) rfl (fun ls hl => ?_)
                refine lv_goto (tgt := 61) S.1 S.2.1 dX3_send_157 (by decide) ?_
                exact ih61 (j + 1) (z10) ((fun j2 => q j2 || decide (j2 = k))) _ _ _ (by omega) (by omega) (by show snS _ n b (snK _ n b _ j) = _; rw [hq, snS]; dsimp only; rw [hk]; subst ez10; dsimp only; first | (rw [if_pos ⟨by assumption, by assumption⟩]; done) | (rw [if_neg (fun h => absurd h.2 (by assumption))]; done) | (rw [if_neg (fun h => absurd h.1 (by rw [c21]; decide))]; done)) hw (lv_sub hl [3, 4, 5, 1, 6, 0] rfl)
              · skip
                refine lv_aload_n S.1 S.2.1 dX3_send_123 rfl (lv_at hl 2 rfl) ?_
                refine gt_X3_1 (v := .ref (a 6)) S hK hw 0 rfl rfl LX3 k1 dX3_send_124 ?_
                refine lv_iload_n S.1 S.2.1 dX3_send_127 rfl (lv_at hl 4 rfl) ?_
                refine lv_iload S.1 S.2.1 dX3_send_128 (lv_at hl 1 rfl) ?_
                refine lv_aload_n S.1 S.2.1 dX3_send_130 rfl (lv_at hl 2 rfl) ?_
                refine gt_X3_1 (v := .ref (a 6)) S hK hw 0 rfl rfl LX3 k1 dX3_send_131 ?_
                refine lv_iload_n S.1 S.2.1 dX3_send_134 rfl (lv_at hl 3 rfl) ?_
                refine lv_iload S.1 S.2.1 dX3_send_135 (lv_at hl 1 rfl) ?_
                refine cl_i (va_runV (As := [.int (nI (n)), .int (nI (k))]) (rest := [.int (nI (k)), .int (nI (b)), .ref (a 6)]) S (c_X1_toldState l G a z10 H.size (n) (k) (by omega) (by omega)) (cwV 2 S.2.2.2.2 gX3_send_X1_toldState rfl rfl rfl hd_X1_toldState ⟨by rw [hR]; exact Nat.le_of_ble_eq_true rfl, by rw [hR]; exact Nat.le_of_ble_eq_true rfl⟩) ⟨PW.blind, va_recv hK.1 hw.1 (ci := 1) (q0 := 6) rfl rfl, fun U hU hW => ⟨rfl, PW.of hK hw hU hW⟩⟩ rfl rfl hl.1 rfl (lv_room (Nat.le_of_ble_eq_true rfl)) dX3_send_137 ⟨Nat.zero_le _, Nat.zero_le _⟩) hw hA (fun _ => rfl) (fun r22 z23 H locs h24 hw => ?_)
                obtain ⟨rfl, qz23⟩ := h24
                rw [qz23] at hw
                refine lv_aload_n S.1 S.2.1 dX3_send_140 rfl (lv_at hl 2 rfl) ?_
                refine gt_X3_1 (v := .ref (a 6)) S hK hw 0 rfl rfl LX3 k1 dX3_send_141 ?_
                refine lv_iload_n S.1 S.2.1 dX3_send_144 rfl (lv_at hl 3 rfl) ?_
                refine lv_iload S.1 S.2.1 dX3_send_145 (lv_at hl 1 rfl) ?_
                refine cl_i (va_runV (As := [.int (nI (n)), .int (nI (k))]) (rest := [.int (toS z10 (n) (k)), .int (nI (k)), .int (nI (b)), .ref (a 6)]) S (c_X1_toldIncarnation l G a z10 H.size (n) (k) (by omega) (by omega)) (cwV 2 S.2.2.2.2 gX3_send_X1_toldIncarnation rfl rfl rfl hd_X1_toldIncarnation ⟨by rw [hR]; exact Nat.le_of_ble_eq_true rfl, by rw [hR]; exact Nat.le_of_ble_eq_true rfl⟩) ⟨PW.blind, va_recv hK.1 hw.1 (ci := 1) (q0 := 6) rfl rfl, fun U hU hW => ⟨rfl, PW.of hK hw hU hW⟩⟩ rfl rfl hl.1 rfl (lv_room (Nat.le_of_ble_eq_true rfl)) dX3_send_147 ⟨Nat.zero_le _, Nat.zero_le _⟩) hw hA (fun _ => rfl) (fun r25 z26 H locs h27 hw => ?_)
                obtain ⟨rfl, qz26⟩ := h27
                rw [qz26] at hw
                refine cl_i (va_runV (As := [.int (nI (b)), .int (nI (k)), .int (toS z10 (n) (k)), .int (toI z10 (n) (k))]) (rest := []) S (c_X1_takeIn l G a z10 H.size (b) (k) (toS z10 (n) (k)) (toI z10 (n) (k)) (by omega) (by omega)) (cwV 4 S.2.2.2.2 gX3_send_X1_takeIn rfl rfl rfl hd_X1_takeIn ⟨by rw [hR]; exact Nat.le_of_ble_eq_true rfl, by rw [hR]; exact Nat.le_of_ble_eq_true rfl⟩) ⟨PW.blind, va_recv hK.1 hw.1 (ci := 1) (q0 := 6) rfl rfl, fun U hU hW => ⟨rfl, PW.of hK hw hU hW⟩⟩ rfl rfl hl.1 rfl (lv_room (Nat.le_of_ble_eq_true rfl)) dX3_send_150 ⟨Nat.zero_le _, Nat.zero_le _⟩) hw hA (fun _ => rfl) (fun r28 z29 H locs h30 hw => ?_)
                obtain ⟨rfl, ez29⟩ := h30
                refine lv_pop S.1 S.2.1 dX3_send_153 rfl ?_
                refine lv_iinc (v := (nI (j + 1))) (lv' := [(6, .int (nI (j + 1))), (3, .int (nI (mk (fun j2 => q j2 || decide (j2 = k)) 8))), (7, .int (nI (k))), (0, .ref (a 0)), (1, .int (nI (n))), (2, .int (nI (b))), (5, .int (b2 (snA z n b)))]) S.1 S.2.1 dX3_send_154 hl (k := 6) rfl (nI_add _ _) (by decide) rfl (fun ls hl => ?_)
                refine lv_goto (tgt := 61) S.1 S.2.1 dX3_send_157 (by decide) ?_
                exact ih61 (j + 1) (z29) ((fun j2 => q j2 || decide (j2 = k))) _ _ _ (by omega) (by omega) (by show snS _ n b (snK _ n b _ j) = _; rw [hq, snS]; dsimp only; rw [hk]; subst ez29 ez10; dsimp only; first | (rw [if_pos ⟨by assumption, by assumption⟩]; done) | (rw [if_neg (fun h => absurd h.2 (by assumption))]; done) | (rw [if_neg (fun h => absurd h.1 (by rw [c21]; decide))]; done)) hw (lv_sub hl [3, 4, 5, 1, 6, 0] rfl)
          · skip
            have hn : mu t n q 8 = none := oI_none (fun y9 h9 => mu_lt _ _ _ 8 y9 h9) c9
            refine lv_goto (tgt := 160) S.1 S.2.1 dX3_send_84 (by decide) ?_
            exact K160 (t) _ _ _ (by first | (rw [snd, hq]; done) | (have hs := snK_stop (snA z n b) n b (snH z n b, fun _ => false) (d := j) (by rw [hq]; exact hn) (3 - j); rw [show j + (3 - j) = 3 by omega, hq] at hs; rw [snd, hs]; done)) hw (lv_sub hl [1] rfl)
    refine lv_iload S.1 S.2.1 dX3_send_32 (lv_at hl 0 rfl) ?_
    refine brB_eq (b := snA z n b) S (tgt := 58) dX3_send_34 (by decide) (fun c31 => ?_) (fun c31 => ?_)
    · skip
      refine lv_iconst (v := 0) S.1 S.2.1 dX3_send_58 (by decide) ?_
      refine lv_istore (lv' := [(6, .int 0), (5, .int (b2 (snA z n b))), (0, .ref (a 0)), (1, .int (nI (n))), (2, .int (nI (b))), (3, .int 0), (4, .int (toS z n b))]) S.1 S.2.1 dX3_send_59 hl (by decide) rfl (fun ls hl => ?_)
      exact K61 (4) (0) (z) (fun _ => false) _ _ _ (by omega) (by omega) (by skip; show (snH z n b, fun _ => false) = (_, _); rw [snH]; first | (rw [if_pos (by assumption)]; done) | (rw [if_neg (by rw [c31]; decide)]; done)) hw (lv_sub hl [2, 3, 4, 5, 1, 0] rfl)
    · skip
      refine lv_aload_n S.1 S.2.1 dX3_send_37 rfl (lv_at hl 1 rfl) ?_
      refine gt_X3_1 (v := .ref (a 6)) S hK hw 0 rfl rfl LX3 k1 dX3_send_38 ?_
      refine lv_iload_n S.1 S.2.1 dX3_send_41 rfl (lv_at hl 3 rfl) ?_
      refine lv_iload_n S.1 S.2.1 dX3_send_42 rfl (lv_at hl 3 rfl) ?_
      refine lv_iload S.1 S.2.1 dX3_send_43 (lv_at hl 5 rfl) ?_
      refine lv_aload_n S.1 S.2.1 dX3_send_45 rfl (lv_at hl 1 rfl) ?_
      refine gt_X3_1 (v := .ref (a 6)) S hK hw 0 rfl rfl LX3 k1 dX3_send_46 ?_
      refine lv_iload_n S.1 S.2.1 dX3_send_49 rfl (lv_at hl 2 rfl) ?_
      refine lv_iload_n S.1 S.2.1 dX3_send_50 rfl (lv_at hl 3 rfl) ?_
      refine cl_i (va_runV (As := [.int (nI (n)), .int (nI (b))]) (rest := [.int (toS z n b), .int (nI (b)), .int (nI (b)), .ref (a 6)]) S (c_X1_toldIncarnation l G a z H.size (n) (b) (by omega) (by omega)) (cwV 2 S.2.2.2.2 gX3_send_X1_toldIncarnation rfl rfl rfl hd_X1_toldIncarnation ⟨by rw [hR]; exact Nat.le_of_ble_eq_true rfl, by rw [hR]; exact Nat.le_of_ble_eq_true rfl⟩) ⟨PW.blind, va_recv hK.1 hw.1 (ci := 1) (q0 := 6) rfl rfl, fun U hU hW => ⟨rfl, PW.of hK hw hU hW⟩⟩ rfl rfl hl.1 rfl (lv_room (Nat.le_of_ble_eq_true rfl)) dX3_send_51 ⟨Nat.zero_le _, Nat.zero_le _⟩) hw hA (fun _ => rfl) (fun r32 z33 H locs h34 hw => ?_)
      obtain ⟨rfl, qz33⟩ := h34
      rw [qz33] at hw
      refine cl_i (va_runV (As := [.int (nI (b)), .int (nI (b)), .int (toS z n b), .int (toI z (n) (b))]) (rest := []) S (c_X1_takeIn l G a z H.size (b) (b) (toS z n b) (toI z (n) (b)) (by omega) (by omega)) (cwV 4 S.2.2.2.2 gX3_send_X1_takeIn rfl rfl rfl hd_X1_takeIn ⟨by rw [hR]; exact Nat.le_of_ble_eq_true rfl, by rw [hR]; exact Nat.le_of_ble_eq_true rfl⟩) ⟨PW.blind, va_recv hK.1 hw.1 (ci := 1) (q0 := 6) rfl rfl, fun U hU hW => ⟨rfl, PW.of hK hw hU hW⟩⟩ rfl rfl hl.1 rfl (lv_room (Nat.le_of_ble_eq_true rfl)) dX3_send_54 ⟨Nat.zero_le _, Nat.zero_le _⟩) hw hA (fun _ => rfl) (fun r35 z36 H locs h37 hw => ?_)
      obtain ⟨rfl, ez36⟩ := h37
      refine lv_pop S.1 S.2.1 dX3_send_57 rfl ?_
      refine lv_iconst (v := 0) S.1 S.2.1 dX3_send_58 (by decide) ?_
      refine lv_istore (lv' := [(6, .int 0), (5, .int (b2 (snA z n b))), (0, .ref (a 0)), (1, .int (nI (n))), (2, .int (nI (b))), (3, .int 0), (4, .int (toS z n b))]) S.1 S.2.1 dX3_send_59 hl (by decide) rfl (fun ls hl => ?_)
      exact K61 (4) (0) (z36) (fun _ => false) _ _ _ (by omega) (by omega) (by subst ez36; show (snH z n b, fun _ => false) = (_, _); rw [snH]; first | (rw [if_pos (by assumption)]; done) | (rw [if_neg (by rw [c31]; decide)]; done)) hw (lv_sub hl [2, 3, 4, 5, 1, 0] rfl)
  refine lv_iload S.1 S.2.1 dX3_send_13 (lv_at hl 0 rfl) ?_
  refine lv_iconst (v := 2) S.1 S.2.1 dX3_send_15 (by decide) ?_
  refine lv_icmp_eq (tgt := 25) S.1 S.2.1 dX3_send_16 (by decide) (fun c38 => ?_) (fun c38 => ?_)
  · skip
    refine lv_iconst (v := 1) S.1 S.2.1 dX3_send_25 (by decide) ?_
    refine lv_goto (tgt := 30) S.1 S.2.1 dX3_send_26 (by decide) ?_
    refine top_to (v := b2 (snA z n b)) S (by simp [snA, b2, c38]) ?_
    exact K30  _ _ _  hw (lv_sub hl [2, 3, 4, 1, 0] rfl)
  · skip
    refine lv_iload S.1 S.2.1 dX3_send_19 (lv_at hl 0 rfl) ?_
    refine lv_iconst (v := 3) S.1 S.2.1 dX3_send_21 (by decide) ?_
    refine lv_icmp_ne (tgt := 29) S.1 S.2.1 dX3_send_22 (by decide) (fun c39 => ?_) (fun c39 => ?_)
    · skip
      refine lv_iconst (v := 0) S.1 S.2.1 dX3_send_29 (by decide) ?_
      refine top_to (v := b2 (snA z n b)) S (by simp [snA, b2, c38, c39]) ?_
      exact K30  _ _ _  hw (lv_sub hl [2, 3, 4, 1, 0] rfl)
    · skip
      refine lv_iconst (v := 1) S.1 S.2.1 dX3_send_25 (by decide) ?_
      refine lv_goto (tgt := 30) S.1 S.2.1 dX3_send_26 (by decide) ?_
      refine top_to (v := b2 (snA z n b)) S (by simp [snA, b2, c38, c39]) ?_
      exact K30  _ _ _  hw (lv_sub hl [2, 3, 4, 1, 0] rfl)

theorem hd_X3_takeTurn : yX3_takeTurn.cls = RX3 ∧ yX3_takeTurn.cls ≠ "java/lang/invoke/MethodHandle" ∧ yX3_takeTurn.cls ≠ "java/lang/invoke/VarHandle" ∧ (parseMethodDescriptor yX3_takeTurn.desc).map (fun d => d.parameters.length) = some 1 := by decide +kernel
set_option maxHeartbeats 4000000 in
set_option maxRecDepth 100000 in
theorem c_X3_takeTurn (l : Launch) (G : GA) (a : Nat → Nat) (z : St) (sz : Nat) (n : Nat) (hn : n < 8) (iz : Inv z) : Met l yX3_takeTurn wsX3_takeTurn ({ frames := 4, cells := 0, slots := 0, locals := 91 }) (va_Pc [.ref (a 0), .int (nI (n))] (PW G (wp G a z) sz)) (va_Qv (fun (u : St) => u = trn z n) (fun (u : St) t => va_P G.1 gcl (wp G a u) t.heap) (va_A (wp G a z) sz)) 0 0 (va_A (wp G a z) sz) := by
  refine met_st (cc := cX3_takeTurn) (maxL := 3) (ret := none) (fun A => va_Qv (fun (u : St) => u = trn z n) (fun (u : St) t => va_P G.1 gcl (wp G a u) t.heap) A) (by decide) rfl (Nat.le_of_ble_eq_true rfl) ?_
  intro p e s m args below meth c R Q A H ls hR hQ S hr hlk _ hK hsz hH hAe hA hw hl
  have hl : lv_has ls 3 [(0, .ref (a 0)), (1, .int (nI (n)))] := hl
  have LX3 : ∀ w ∈ u_ws RX3 TX3 7, w.before args s = true := fun w h => S.2.2.2.2 w ((by decide +kernel : ∀ w ∈ u_ws RX3 TX3 7, w ∈ wsX3_takeTurn) w h)
  have k1 : (Cond.fieldLink RX3 21 "GossipMembership$World" "knowledge" "LGossipMembership$Knowledge;").before args s = true := S.2.2.2.2 _ (by decide +kernel : (Cond.fieldLink RX3 21 "GossipMembership$World" "knowledge" "LGossipMembership$Knowledge;") ∈ wsX3_takeTurn)
  have k2 : (Cond.fieldLink RX3 12 "GossipMembership$World" "network" "LGossipMembership$Network;").before args s = true := S.2.2.2.2 _ (by decide +kernel : (Cond.fieldLink RX3 12 "GossipMembership$World" "network" "LGossipMembership$Network;") ∈ wsX3_takeTurn)
  refine lv_aload_n S.1 S.2.1 dX3_takeTurn_0 rfl (lv_at hl 0 rfl) ?_
  refine lv_iload_n S.1 S.2.1 dX3_takeTurn_1 rfl (lv_at hl 1 rfl) ?_
  refine cl_v (va_runV (As := [.int (nI (n))]) (rest := []) S (c_X3_declareOverdue l G a z H.size (n) (by omega) (by exact iz)) (cwV 1 S.2.2.2.2 gX3_takeTurn_X3_declareOverdue rfl rfl rfl hd_X3_declareOverdue ⟨by rw [hR]; exact Nat.le_of_ble_eq_true rfl, by rw [hR]; exact Nat.le_of_ble_eq_true rfl⟩) ⟨PW.blind, va_recv hK.1 hw.1 (ci := 3) (q0 := 0) rfl rfl, fun U hU hW => ⟨rfl, PW.of hK hw hU hW⟩⟩ rfl rfl hl.1 rfl (lv_room (Nat.le_of_ble_eq_true rfl)) dX3_takeTurn_2 ⟨Nat.zero_le _, Nat.zero_le _⟩) hw hA (fun _ => rfl) (fun z2 H locs h3 hw => ?_)
  have ez2 := h3
  have iz2 : Inv z2 := by rw [ez2]; exact inv_dco iz (n := (n)) (by omega)
  refine lv_aload_n S.1 S.2.1 dX3_takeTurn_5 rfl (lv_at hl 0 rfl) ?_
  refine lv_aload_n S.1 S.2.1 dX3_takeTurn_6 rfl (lv_at hl 0 rfl) ?_
  refine gt_X3_1 (v := .ref (a 6)) S hK hw 0 rfl rfl LX3 k1 dX3_takeTurn_7 ?_
  refine lv_iload_n S.1 S.2.1 dX3_takeTurn_10 rfl (lv_at hl 1 rfl) ?_
  refine lv_iconst (v := 1) S.1 S.2.1 dX3_takeTurn_11 (by decide) ?_
  refine cl_i (va_runV (As := [.int (nI (n)), .int 1]) (rest := [.ref (a 0)]) S (c_X1_nodesInState l G a z2 H.size (n) (1) (by omega)) (cwV 2 S.2.2.2.2 gX3_takeTurn_X1_nodesInState rfl rfl rfl hd_X1_nodesInState ⟨by rw [hR]; exact Nat.le_of_ble_eq_true rfl, by rw [hR]; exact Nat.le_of_ble_eq_true rfl⟩) ⟨PW.blind, va_recv hK.1 hw.1 (ci := 1) (q0 := 6) rfl rfl, fun U hU hW => ⟨rfl, PW.of hK hw hU hW⟩⟩ rfl rfl hl.1 rfl (lv_room (Nat.le_of_ble_eq_true rfl)) dX3_takeTurn_12 ⟨Nat.zero_le _, Nat.zero_le _⟩) hw hA (fun _ => rfl) (fun r4 z5 H locs h6 hw => ?_)
  obtain ⟨rfl, qz5⟩ := h6
  rw [qz5] at hw
  refine lv_aload_n S.1 S.2.1 dX3_takeTurn_15 rfl (lv_at hl 0 rfl) ?_
  refine gt_X3_1 (v := .ref (a 6)) S hK hw 0 rfl rfl LX3 k1 dX3_takeTurn_16 ?_
  refine lv_iload_n S.1 S.2.1 dX3_takeTurn_19 rfl (lv_at hl 1 rfl) ?_
  refine lv_iconst (v := 2) S.1 S.2.1 dX3_takeTurn_20 (by decide) ?_
  refine cl_i (va_runV (As := [.int (nI (n)), .int 2]) (rest := [.int (nI (mk (nst z2 (n) (1)) 8)), .ref (a 0)]) S (c_X1_nodesInState l G a z2 H.size (n) (2) (by omega)) (cwV 2 S.2.2.2.2 gX3_takeTurn_X1_nodesInState rfl rfl rfl hd_X1_nodesInState ⟨by rw [hR]; exact Nat.le_of_ble_eq_true rfl, by rw [hR]; exact Nat.le_of_ble_eq_true rfl⟩) ⟨PW.blind, va_recv hK.1 hw.1 (ci := 1) (q0 := 6) rfl rfl, fun U hU hW => ⟨rfl, PW.of hK hw hU hW⟩⟩ rfl rfl hl.1 rfl (lv_room (Nat.le_of_ble_eq_true rfl)) dX3_takeTurn_21 ⟨Nat.zero_le _, Nat.zero_le _⟩) hw hA (fun _ => rfl) (fun r7 z8 H locs h9 hw => ?_)
  obtain ⟨rfl, qz8⟩ := h9
  rw [qz8] at hw
  refine ior_to (v := nI (mk (prt z2 n) 8)) S (by rw [bit_or _ (mk_256 _) _ (mk_256 _), mk_or]; rfl) dX3_takeTurn_24 ?_
  refine cl_i (va_runV (As := [.int (nI (mk (prt z2 n) 8))]) (rest := []) S (c_X3_drawFrom l G a z2 H.size (prt z2 n) (by exact iz2)) (cwV 1 S.2.2.2.2 gX3_takeTurn_X3_drawFrom rfl rfl rfl hd_X3_drawFrom ⟨by rw [hR]; exact Nat.le_of_ble_eq_true rfl, by rw [hR]; exact Nat.le_of_ble_eq_true rfl⟩) ⟨PW.blind, va_recv hK.1 hw.1 (ci := 3) (q0 := 0) rfl rfl, fun U hU hW => ⟨rfl, PW.of hK hw hU hW⟩⟩ rfl rfl hl.1 rfl (lv_room (Nat.le_of_ble_eq_true rfl)) dX3_takeTurn_25 ⟨Nat.zero_le _, Nat.zero_le _⟩) hw hA (fun _ => rfl) (fun r10 z11 H locs h12 hw => ?_)
  obtain ⟨rfl, ez11⟩ := h12
  have iz11 : Inv z11 := by rw [ez11]; exact inv_dz iz2 (prt z2 n)
  refine lv_istore_n (lv' := [(2, .int (oI (dv z2 (prt z2 n)))), (0, .ref (a 0)), (1, .int (nI (n)))]) S.1 S.2.1 dX3_takeTurn_28 rfl hl (by decide) rfl (fun ls hl => ?_)
  refine lv_iload_n S.1 S.2.1 dX3_takeTurn_29 rfl (lv_at hl 0 rfl) ?_
  refine lv_iconst (v := (-1)) S.1 S.2.1 dX3_takeTurn_30 (by decide) ?_
  refine lv_icmp_ne (tgt := 35) S.1 S.2.1 dX3_takeTurn_31 (by decide) (fun c13 => ?_) (fun c13 => ?_)
  · skip
    obtain ⟨y, hy⟩ := oI_some c13
    have hy8 := dv_in hy
    have hl : lv_has ls 3 [(2, .int (nI (y))), (0, .ref (a 0)), (1, .int (nI (n)))] := by rw [hy] at hl; exact hl
    refine lv_aload_n S.1 S.2.1 dX3_takeTurn_35 rfl (lv_at hl 1 rfl) ?_
    refine gt_X3_0 (v := .ref (a 1)) S hK hw 0 rfl rfl LX3 k2 dX3_takeTurn_36 ?_
    refine lv_iload_n S.1 S.2.1 dX3_takeTurn_39 rfl (lv_at hl 2 rfl) ?_
    refine lv_iload_n S.1 S.2.1 dX3_takeTurn_40 rfl (lv_at hl 0 rfl) ?_
    refine cl_i (va_runV (As := [.int (nI (n)), .int (nI (y))]) (rest := []) S (c_X2_connects l G a z11 H.size (n) (y) (by omega) (by omega) (by exact iz11)) (cwV 2 S.2.2.2.2 gX3_takeTurn_X2_connects rfl rfl rfl hd_X2_connects ⟨by rw [hR]; exact Nat.le_of_ble_eq_true rfl, by rw [hR]; exact Nat.le_of_ble_eq_true rfl⟩) ⟨PW.blind, va_recv hK.1 hw.1 (ci := 2) (q0 := 1) rfl rfl, fun U hU hW => ⟨rfl, PW.of hK hw hU hW⟩⟩ rfl rfl hl.1 rfl (lv_room (Nat.le_of_ble_eq_true rfl)) dX3_takeTurn_41 ⟨Nat.zero_le _, Nat.zero_le _⟩) hw hA (fun _ => rfl) (fun r14 z15 H locs h16 hw => ?_)
    obtain ⟨rfl, qz15⟩ := h16
    rw [qz15] at hw
    refine brB_eq (b := cnn z11 (n) (y)) S (tgt := 62) dX3_takeTurn_44 (by decide) (fun c17 => ?_) (fun c17 => ?_)
    · skip
      refine lv_aload_n S.1 S.2.1 dX3_takeTurn_62 rfl (lv_at hl 1 rfl) ?_
      refine lv_iload_n S.1 S.2.1 dX3_takeTurn_63 rfl (lv_at hl 2 rfl) ?_
      refine lv_iload_n S.1 S.2.1 dX3_takeTurn_64 rfl (lv_at hl 0 rfl) ?_
      refine cl_i (va_runV (As := [.int (nI (n)), .int (nI (y))]) (rest := []) S (c_X3_helpersReach l G a z11 H.size (n) (y) (by omega) (by omega) (by exact iz11)) (cwV 2 S.2.2.2.2 gX3_takeTurn_X3_helpersReach rfl rfl rfl hd_X3_helpersReach ⟨by rw [hR]; exact Nat.le_of_ble_eq_true rfl, by rw [hR]; exact Nat.le_of_ble_eq_true rfl⟩) ⟨PW.blind, va_recv hK.1 hw.1 (ci := 3) (q0 := 0) rfl rfl, fun U hU hW => ⟨rfl, PW.of hK hw hU hW⟩⟩ rfl rfl hl.1 rfl (lv_room (Nat.le_of_ble_eq_true rfl)) dX3_takeTurn_65 ⟨Nat.zero_le _, Nat.zero_le _⟩) hw hA (fun _ => rfl) (fun r18 z19 H locs h20 hw => ?_)
      obtain ⟨rfl, ez19⟩ := h20
      have iz19 : Inv z19 := by rw [ez19]; exact inv_hpK (w := hp0 _ (n) (y)) iz11 (n) (y) _
      refine brB_ne (b := (hpr z11 (n) (y)).2.2) S (tgt := 91) dX3_takeTurn_68 (by decide) (fun c21 => ?_) (fun c21 => ?_)
      · skip
        exact en_v z19 hQ S hr hlk hw (by subst ez19 ez11 ez2; unfold trn; rw [hy]; dsimp only; first | (rw [if_pos (by assumption)]; done) | (rw [if_neg (by rw [c17]; decide), if_pos (by assumption)]; done) | (rw [if_neg (by rw [c17]; decide), if_neg (by rw [c21]; decide)]; done)) dX3_takeTurn_91
      · skip
        refine lv_aload_n S.1 S.2.1 dX3_takeTurn_71 rfl (lv_at hl 1 rfl) ?_
        refine gt_X3_1 (v := .ref (a 6)) S hK hw 0 rfl rfl LX3 k1 dX3_takeTurn_72 ?_
        refine lv_iload_n S.1 S.2.1 dX3_takeTurn_75 rfl (lv_at hl 2 rfl) ?_
        refine lv_iload_n S.1 S.2.1 dX3_takeTurn_76 rfl (lv_at hl 0 rfl) ?_
        refine lv_iconst (v := 2) S.1 S.2.1 dX3_takeTurn_77 (by decide) ?_
        refine lv_aload_n S.1 S.2.1 dX3_takeTurn_78 rfl (lv_at hl 1 rfl) ?_
        refine gt_X3_1 (v := .ref (a 6)) S hK hw 0 rfl rfl LX3 k1 dX3_takeTurn_79 ?_
        refine lv_iload_n S.1 S.2.1 dX3_takeTurn_82 rfl (lv_at hl 2 rfl) ?_
        refine lv_iload_n S.1 S.2.1 dX3_takeTurn_83 rfl (lv_at hl 0 rfl) ?_
        refine cl_i (va_runV (As := [.int (nI (n)), .int (nI (y))]) (rest := [.int 2, .int (nI (y)), .int (nI (n)), .ref (a 6)]) S (c_X1_toldIncarnation l G a z19 H.size (n) (y) (by omega) (by omega)) (cwV 2 S.2.2.2.2 gX3_takeTurn_X1_toldIncarnation rfl rfl rfl hd_X1_toldIncarnation ⟨by rw [hR]; exact Nat.le_of_ble_eq_true rfl, by rw [hR]; exact Nat.le_of_ble_eq_true rfl⟩) ⟨PW.blind, va_recv hK.1 hw.1 (ci := 1) (q0 := 6) rfl rfl, fun U hU hW => ⟨rfl, PW.of hK hw hU hW⟩⟩ rfl rfl hl.1 rfl (lv_room (Nat.le_of_ble_eq_true rfl)) dX3_takeTurn_84 ⟨Nat.zero_le _, Nat.zero_le _⟩) hw hA (fun _ => rfl) (fun r22 z23 H locs h24 hw => ?_)
        obtain ⟨rfl, qz23⟩ := h24
        rw [qz23] at hw
        refine cl_i (va_runV (As := [.int (nI (n)), .int (nI (y)), .int 2, .int (toI z19 (n) (y))]) (rest := []) S (c_X1_takeIn l G a z19 H.size (n) (y) (2) (toI z19 (n) (y)) (by omega) (by omega)) (cwV 4 S.2.2.2.2 gX3_takeTurn_X1_takeIn rfl rfl rfl hd_X1_takeIn ⟨by rw [hR]; exact Nat.le_of_ble_eq_true rfl, by rw [hR]; exact Nat.le_of_ble_eq_true rfl⟩) ⟨PW.blind, va_recv hK.1 hw.1 (ci := 1) (q0 := 6) rfl rfl, fun U hU hW => ⟨rfl, PW.of hK hw hU hW⟩⟩ rfl rfl hl.1 rfl (lv_room (Nat.le_of_ble_eq_true rfl)) dX3_takeTurn_87 ⟨Nat.zero_le _, Nat.zero_le _⟩) hw hA (fun _ => rfl) (fun r25 z26 H locs h27 hw => ?_)
        obtain ⟨rfl, ez26⟩ := h27
        have iz26 : Inv z26 := by rw [ez26]; exact inv_tk iz19 (n := (n)) (b := (y)) (by omega) (by omega) (2) (toI z19 (n) (y))
        refine lv_pop S.1 S.2.1 dX3_takeTurn_90 rfl ?_
        exact en_v z26 hQ S hr hlk hw (by subst ez26 ez19 ez11 ez2; unfold trn; rw [hy]; dsimp only; first | (rw [if_pos (by assumption)]; done) | (rw [if_neg (by rw [c17]; decide), if_pos (by assumption)]; done) | (rw [if_neg (by rw [c17]; decide), if_neg (by rw [c21]; decide)]; done)) dX3_takeTurn_91
    · skip
      refine lv_aload_n S.1 S.2.1 dX3_takeTurn_47 rfl (lv_at hl 1 rfl) ?_
      refine lv_iload_n S.1 S.2.1 dX3_takeTurn_48 rfl (lv_at hl 2 rfl) ?_
      refine lv_iload_n S.1 S.2.1 dX3_takeTurn_49 rfl (lv_at hl 0 rfl) ?_
      refine cl_v (va_runV (As := [.int (nI (n)), .int (nI (y))]) (rest := []) S (c_X3_send l G a z11 H.size (n) (y) (by omega) (by omega)) (cwV 2 S.2.2.2.2 gX3_takeTurn_X3_send rfl rfl rfl hd_X3_send ⟨by rw [hR]; exact Nat.le_of_ble_eq_true rfl, by rw [hR]; exact Nat.le_of_ble_eq_true rfl⟩) ⟨PW.blind, va_recv hK.1 hw.1 (ci := 3) (q0 := 0) rfl rfl, fun U hU hW => ⟨rfl, PW.of hK hw hU hW⟩⟩ rfl rfl hl.1 rfl (lv_room (Nat.le_of_ble_eq_true rfl)) dX3_takeTurn_50 ⟨Nat.zero_le _, Nat.zero_le _⟩) hw hA (fun _ => rfl) (fun z29 H locs h30 hw => ?_)
      have ez29 := h30
      have iz29 : Inv z29 := by rw [ez29]; exact inv_snM iz11 (f := (n)) (t := (y)) (by omega)
      refine lv_aload_n S.1 S.2.1 dX3_takeTurn_53 rfl (lv_at hl 1 rfl) ?_
      refine lv_iload_n S.1 S.2.1 dX3_takeTurn_54 rfl (lv_at hl 0 rfl) ?_
      refine lv_iload_n S.1 S.2.1 dX3_takeTurn_55 rfl (lv_at hl 2 rfl) ?_
      refine cl_v (va_runV (As := [.int (nI (y)), .int (nI (n))]) (rest := []) S (c_X3_send l G a z29 H.size (y) (n) (by omega) (by omega)) (cwV 2 S.2.2.2.2 gX3_takeTurn_X3_send rfl rfl rfl hd_X3_send ⟨by rw [hR]; exact Nat.le_of_ble_eq_true rfl, by rw [hR]; exact Nat.le_of_ble_eq_true rfl⟩) ⟨PW.blind, va_recv hK.1 hw.1 (ci := 3) (q0 := 0) rfl rfl, fun U hU hW => ⟨rfl, PW.of hK hw hU hW⟩⟩ rfl rfl hl.1 rfl (lv_room (Nat.le_of_ble_eq_true rfl)) dX3_takeTurn_56 ⟨Nat.zero_le _, Nat.zero_le _⟩) hw hA (fun _ => rfl) (fun z32 H locs h33 hw => ?_)
      have ez32 := h33
      have iz32 : Inv z32 := by rw [ez32]; exact inv_snM iz29 (f := (y)) (t := (n)) (by omega)
      refine lv_goto (tgt := 91) S.1 S.2.1 dX3_takeTurn_59 (by decide) ?_
      exact en_v z32 hQ S hr hlk hw (by subst ez32 ez29 ez11 ez2; unfold trn; rw [hy]; dsimp only; first | (rw [if_pos (by assumption)]; done) | (rw [if_neg (by rw [c17]; decide), if_pos (by assumption)]; done) | (rw [if_neg (by rw [c17]; decide), if_neg (by rw [c17]; decide)]; done)) dX3_takeTurn_91
  · skip
    have hn := oI_none (fun y9 h9 => (dv_in h9).1) c13
    exact en_v z11 hQ S hr hlk hw (by subst ez11 ez2; unfold trn; rw [hn]; exact dz_none hn) dX3_takeTurn_34

theorem hd_X3_play : yX3_play.cls = RX3 ∧ yX3_play.cls ≠ "java/lang/invoke/MethodHandle" ∧ yX3_play.cls ≠ "java/lang/invoke/VarHandle" ∧ (parseMethodDescriptor yX3_play.desc).map (fun d => d.parameters.length) = some 1 := by decide +kernel
set_option maxHeartbeats 4000000 in
set_option maxRecDepth 100000 in
theorem c_X3_play (l : Launch) (G : GA) (a : Nat → Nat) (z : St) (sz : Nat) (q : Nat) (hq : q < 101) (iz : Inv z) : Met l yX3_play wsX3_play ({ frames := 5, cells := 0, slots := 0, locals := 113 }) (va_Pc [.ref (a 0), .int (nI (q))] (PW G (wp G a z) sz)) (va_Qv (fun (u : St) => u = rds z q) (fun (u : St) t => va_P G.1 gcl (wp G a u) t.heap) (va_A (wp G a z) sz)) 0 0 (va_A (wp G a z) sz) := by
  refine met_st (cc := cX3_play) (maxL := 4) (ret := none) (fun A => va_Qv (fun (u : St) => u = rds z q) (fun (u : St) t => va_P G.1 gcl (wp G a u) t.heap) A) (by decide) rfl (Nat.le_of_ble_eq_true rfl) ?_
  intro p e s m args below meth c R Q A H ls hR hQ S hr hlk _ hK hsz hH hAe hA hw hl
  have hl : lv_has ls 4 [(0, .ref (a 0)), (1, .int (nI (q)))] := hl
  have LX1 : ∀ w ∈ u_ws RX1 TX1 10, w.before args s = true := fun w h => S.2.2.2.2 w ((by decide +kernel : ∀ w ∈ u_ws RX1 TX1 10, w ∈ wsX3_play) w h)
  have LX2 : ∀ w ∈ u_ws RX2 TX2 4, w.before args s = true := fun w h => S.2.2.2.2 w ((by decide +kernel : ∀ w ∈ u_ws RX2 TX2 4, w ∈ wsX3_play) w h)
  have LX3 : ∀ w ∈ u_ws RX3 TX3 7, w.before args s = true := fun w h => S.2.2.2.2 w ((by decide +kernel : ∀ w ∈ u_ws RX3 TX3 7, w ∈ wsX3_play) w h)
  have k1 : (Cond.fieldLink RX3 21 "GossipMembership$World" "knowledge" "LGossipMembership$Knowledge;").before args s = true := S.2.2.2.2 _ (by decide +kernel : (Cond.fieldLink RX3 21 "GossipMembership$World" "knowledge" "LGossipMembership$Knowledge;") ∈ wsX3_play)
  have k2 : (Cond.fieldLink RX3 66 "GossipMembership$Knowledge" "presentRound" "I").before args s = true := S.2.2.2.2 _ (by decide +kernel : (Cond.fieldLink RX3 66 "GossipMembership$Knowledge" "presentRound" "I") ∈ wsX3_play)
  have k3 : (Cond.fieldLink RX3 12 "GossipMembership$World" "network" "LGossipMembership$Network;").before args s = true := S.2.2.2.2 _ (by decide +kernel : (Cond.fieldLink RX3 12 "GossipMembership$World" "network" "LGossipMembership$Network;") ∈ wsX3_play)
  have k4 : (Cond.fieldLink RX3 32 "GossipMembership$Network" "up" "[Z").before args s = true := S.2.2.2.2 _ (by decide +kernel : (Cond.fieldLink RX3 32 "GossipMembership$Network" "up" "[Z") ∈ wsX3_play)
  refine lv_iconst (v := 0) S.1 S.2.1 dX3_play_0 (by decide) ?_
  refine lv_istore_n (lv' := [(2, .int 0), (0, .ref (a 0)), (1, .int (nI (q)))]) S.1 S.2.1 dX3_play_1 rfl hl (by decide) rfl (fun ls hl => ?_)
  have K2 : ∀ (fu : Nat) (d : Nat) (t : St) (H : Heap) (locs : List Loc) (ls : Array Slot), q - d < fu → d ≤ q → t = rds z d → Inv t → WD G (wp G a t) A s H locs → lv_has ls 4 [(0, .ref (a 0)), (1, .int (nI (q))), (2, .int (nI (d)))] → W p l e R s m args below meth c H locs 0 0 Q (F0 m 2 ls []) := by
    intro fu
    induction fu with
    | zero => exact fun _ _ _ _ _ h => absurd h (Nat.not_lt_zero _)
    | succ fu ih2 =>
      intro d t H locs ls hm2 hd ht it hw hl
      refine lv_iload_n S.1 S.2.1 dX3_play_2 rfl (lv_at hl 2 rfl) ?_
      refine lv_iload_n S.1 S.2.1 dX3_play_3 rfl (lv_at hl 1 rfl) ?_
      refine brN_ge (a := d) (b := q) S (by omega) (by omega) (tgt := 57) dX3_play_4 (by decide) (fun c1 => ?_) (fun c1 => ?_)
      · skip
        have hde : d = q := by omega
        exact en_v t hQ S hr hlk hw (by skip; rw [ht, hde]) dX3_play_57
      · skip
        refine lv_aload_n S.1 S.2.1 dX3_play_7 rfl (lv_at hl 0 rfl) ?_
        refine gt_X3_1 (v := .ref (a 6)) S hK hw 0 rfl rfl LX3 k1 dX3_play_8 ?_
        refine lv_dup S.1 S.2.1 dX3_play_11 rfl ?_
        refine gt_X1_7 (v := .int (t 0 0)) S hK hw 6 rfl rfl LX1 k2 dX3_play_12 ?_
        refine lv_iconst (v := 1) S.1 S.2.1 dX3_play_15 (by decide) ?_
        refine lv_iadd S.1 S.2.1 dX3_play_16 ?_
        refine pt_X1_7 (ws' := (wp G a (st t 0 0 ((t 0 0) + (1))))) S hK hw 6 rfl LX1 k2 rfl (Nat.le_of_ble_eq_true rfl) dX3_play_17 (fun H locs hw => ?_)
        obtain ⟨z2, ez2⟩ : ∃ zz, zz = st t 0 0 ((t 0 0) + (1)) := ⟨_, rfl⟩
        have hw : WD G (wp G a z2) A s H locs := by rw [ez2]; exact hw
        have iz2 : Inv z2 := by rw [ez2]; exact inv_o it (by decide) (by decide)
        refine lv_iconst (v := 0) S.1 S.2.1 dX3_play_20 (by decide) ?_
        refine lv_istore_n (lv' := [(3, .int 0), (0, .ref (a 0)), (1, .int (nI (q))), (2, .int (nI (d)))]) S.1 S.2.1 dX3_play_21 rfl hl (by decide) rfl (fun ls hl => ?_)
        have K22 : ∀ (fu : Nat) (k : Nat) (t2 : St) (H : Heap) (locs : List Loc) (ls : Array Slot), 8 - k < fu → k ≤ 8 → t2 = rdK z2 k → Inv t2 → WD G (wp G a t2) A s H locs → lv_has ls 4 [(0, .ref (a 0)), (1, .int (nI (q))), (2, .int (nI (d))), (3, .int (nI (k)))] → W p l e R s m args below meth c H locs 0 0 Q (F0 m 22 ls []) := by
          intro fu
          induction fu with
          | zero => exact fun _ _ _ _ _ h => absurd h (Nat.not_lt_zero _)
          | succ fu ih22 =>
            intro k t2 H locs ls hm22 hk ht2 it2 hw hl
            refine lv_iload_n S.1 S.2.1 dX3_play_22 rfl (lv_at hl 3 rfl) ?_
            refine lv_bipush (v := 8) S.1 S.2.1 dX3_play_23 (by decide) ?_
            refine brN_ge (a := k) (b := 8) S (by omega) (by omega) (tgt := 51) dX3_play_25 (by decide) (fun c3 => ?_) (fun c3 => ?_)
            · skip
              have hk9 : k = 8 := by omega
              subst hk9
              refine lv_iinc (v := (nI (d + 1))) (lv' := [(2, .int (nI (d + 1))), (0, .ref (a 0)), (1, .int (nI (q))), (3, .int (nI (8)))]) S.1 S.2.1 dX3_play_51 hl (k := 2) rfl (nI_add _ _) (by decide) rfl (fun ls hl => ?_)
              refine lv_goto (tgt := 2) S.1 S.2.1 dX3_play_54 (by decide) ?_
              exact ih2 (d + 1) (t2) _ _ _ (by omega) (by omega) (by rw [ht2, ez2, ht]; rfl) (by exact it2) hw (lv_sub hl [1, 2, 0] rfl)
            · skip
              refine lv_aload_n S.1 S.2.1 dX3_play_28 rfl (lv_at hl 0 rfl) ?_
              refine gt_X3_0 (v := .ref (a 1)) S hK hw 0 rfl rfl LX3 k3 dX3_play_29 ?_
              refine gt_X2_0 (v := .ref (a 2)) S hK hw 1 rfl rfl LX2 k4 dX3_play_32 ?_
              refine lv_iload_n S.1 S.2.1 dX3_play_35 rfl (lv_at hl 3 rfl) ?_
              refine ald_z (f := t2 1) (k := k) S hK hw 2 rfl (by omega) (by decide) (it2.1 _ (by omega)) dX3_play_36 ?_
              refine brB_eq (b := decide (t2 1 (k) = 1)) S (tgt := 45) dX3_play_37 (by decide) (fun c4 => ?_) (fun c4 => ?_)
              · skip
                refine lv_iinc (v := (nI (k + 1))) (lv' := [(3, .int (nI (k + 1))), (0, .ref (a 0)), (1, .int (nI (q))), (2, .int (nI (d)))]) S.1 S.2.1 dX3_play_45 hl (k := 3) rfl (nI_add _ _) (by decide) rfl (fun ls hl => ?_)
                refine lv_goto (tgt := 22) S.1 S.2.1 dX3_play_48 (by decide) ?_
                exact ih22 (k + 1) (t2) _ _ _ (by omega) (by omega) (by rw [rdK, ← ht2]; first | (rw [if_pos (of_decide_eq_true (by assumption))]; exact et2; done) | (rw [if_neg (of_decide_eq_false (by assumption))]; done)) (by exact it2) hw (lv_sub hl [1, 2, 3, 0] rfl)
              · skip
                refine lv_aload_n S.1 S.2.1 dX3_play_40 rfl (lv_at hl 0 rfl) ?_
                refine lv_iload_n S.1 S.2.1 dX3_play_41 rfl (lv_at hl 3 rfl) ?_
                refine cl_v (va_runV (As := [.int (nI (k))]) (rest := []) S (c_X3_takeTurn l G a t2 H.size (k) (by omega) (by exact it2)) (cwV 1 S.2.2.2.2 gX3_play_X3_takeTurn rfl rfl rfl hd_X3_takeTurn ⟨by rw [hR]; exact Nat.le_of_ble_eq_true rfl, by rw [hR]; exact Nat.le_of_ble_eq_true rfl⟩) ⟨PW.blind, va_recv hK.1 hw.1 (ci := 3) (q0 := 0) rfl rfl, fun U hU hW => ⟨rfl, PW.of hK hw hU hW⟩⟩ rfl rfl hl.1 rfl (lv_room (Nat.le_of_ble_eq_true rfl)) dX3_play_42 ⟨Nat.zero_le _, Nat.zero_le _⟩) hw hA (fun _ => rfl) (fun z6 H locs h7 hw => ?_)
                have ez6 := h7
                have iz6 : Inv z6 := by rw [ez6]; exact inv_trn it2 (n := (k)) (by omega)
                refine lv_iinc (v := (nI (k + 1))) (lv' := [(3, .int (nI (k + 1))), (0, .ref (a 0)), (1, .int (nI (q))), (2, .int (nI (d)))]) S.1 S.2.1 dX3_play_45 hl (k := 3) rfl (nI_add _ _) (by decide) rfl (fun ls hl => ?_)
                refine lv_goto (tgt := 22) S.1 S.2.1 dX3_play_48 (by decide) ?_
                exact ih22 (k + 1) (z6) _ _ _ (by omega) (by omega) (by rw [rdK, ← ht2]; first | (rw [if_pos (of_decide_eq_true (by assumption))]; exact ez6; done) | (rw [if_neg (of_decide_eq_false (by assumption))]; done)) (by exact iz6) hw (lv_sub hl [1, 2, 3, 0] rfl)
        exact K22 (9) (0) (z2) _ _ _ (by omega) (by omega) (by rfl) (by exact iz2) hw (lv_sub hl [1, 2, 3, 0] rfl)
  exact K2 (q + 1) (0) (z) _ _ _ (by omega) (by exact Nat.zero_le _) (by rfl) (by exact iz) hw (lv_sub hl [1, 2, 0] rfl)
