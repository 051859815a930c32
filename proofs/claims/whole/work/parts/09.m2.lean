theorem hd_X3_drawFrom : yX3_drawFrom.cls = RX3 ∧ yX3_drawFrom.cls ≠ "java/lang/invoke/MethodHandle" ∧ yX3_drawFrom.cls ≠ "java/lang/invoke/VarHandle" ∧ (parseMethodDescriptor yX3_drawFrom.desc).map (fun d => d.parameters.length) = some 1 := by decide +kernel
set_option maxHeartbeats 4000000 in
set_option maxRecDepth 100000 in
theorem c_X3_drawFrom (l : Launch) (G : GA) (a : Nat → Nat) (z : St) (sz : Nat) (f : Nat → Bool) (iz : Inv z) : Met l yX3_drawFrom wsX3_drawFrom ({ frames := 1, cells := 0, slots := 0, locals := 20 }) (va_Pc [.ref (a 0), .int (nI (mk f 8))] (PW G (wp G a z) sz)) (va_Qi (fun (r : Int32) (u : St) => r = oI (dv z f) ∧ u = dz z f) (fun (u : St) t => va_P G.1 gcl (wp G a u) t.heap) (va_A (wp G a z) sz)) 0 0 (va_A (wp G a z) sz) := by
  refine met_st (cc := cX3_drawFrom) (maxL := 5) (ret := (some .int)) (fun A => va_Qi (fun (r : Int32) (u : St) => r = oI (dv z f) ∧ u = dz z f) (fun (u : St) t => va_P G.1 gcl (wp G a u) t.heap) A) (by decide) rfl (Nat.le_of_ble_eq_true rfl) ?_
  intro p e s m args below meth c R Q A H ls hR hQ S hr hlk _ hK hsz hH hAe hA hw hl
  have hl : lv_has ls 5 [(0, .ref (a 0)), (1, .int (nI (mk f 8)))] := hl
  have LX3 : ∀ w ∈ u_ws RX3 TX3 7, w.before args s = true := fun w h => S.2.2.2.2 w ((by decide +kernel : ∀ w ∈ u_ws RX3 TX3 7, w ∈ wsX3_drawFrom) w h)
  have k1 : (Cond.fieldLink RX3 29 "GossipMembership$World" "drawSeed" "I").before args s = true := S.2.2.2.2 _ (by decide +kernel : (Cond.fieldLink RX3 29 "GossipMembership$World" "drawSeed" "I") ∈ wsX3_drawFrom)
  have k2 : (Cond.constantLong RX3 105 (1103515245)).before args s = true := S.2.2.2.2 _ (by decide +kernel : (Cond.constantLong RX3 105 (1103515245)) ∈ wsX3_drawFrom)
  have k3 : (Cond.constantLong RX3 107 (12345)).before args s = true := S.2.2.2.2 _ (by decide +kernel : (Cond.constantLong RX3 107 (12345)) ∈ wsX3_drawFrom)
  have k4 : (Cond.constantLong RX3 109 (2147483648)).before args s = true := S.2.2.2.2 _ (by decide +kernel : (Cond.constantLong RX3 109 (2147483648)) ∈ wsX3_drawFrom)
  obtain ⟨w, hw31, hsd⟩ := nI_of iz.2.2.2.2.2.1
  have hcn := cnt_le f 8
  have hsd9 : sd (z 0 1) = (w * 1103515245 + 12345) % 2147483648 := by rw [hsd, sd, nI_clamp hw31]
  refine lv_iload_n S.1 S.2.1 dX3_drawFrom_0 rfl (lv_at hl 1 rfl) ?_
  refine vp_callSi (va_runS (As := [.int (nI (mk f 8))]) (rest := []) S (c_J6_bitCount_0f7a4 l (nI (mk f 8)) ) (va_cwS 1 S.2.2.2.2 gX3_drawFrom_J6_bitCount_0f7a4 rfl rfl rfl hd_J6_bitCount_0f7a4 ⟨by rw [hR]; exact Nat.le_of_ble_eq_true rfl, by rw [hR]; exact Nat.le_of_ble_eq_true rfl⟩) ⟨blind_T, fun U hU hW => ⟨rfl, trivial⟩⟩ rfl rfl hl.1 rfl (lv_room (Nat.le_of_ble_eq_true rfl)) dX3_drawFrom_1 ⟨Nat.zero_le _, Nat.zero_le _⟩).run (fun r1 h2 => ?_)
  subst h2
  refine top_to S (bc_cnt f) ?_
  refine lv_istore_n (lv' := [(2, .int (nI (cnt f 8))), (0, .ref (a 0)), (1, .int (nI (mk f 8)))]) S.1 S.2.1 dX3_drawFrom_4 rfl hl (by decide) rfl (fun ls hl => ?_)
  refine lv_iload_n S.1 S.2.1 dX3_drawFrom_5 rfl (lv_at hl 0 rfl) ?_
  refine brN0_ne (a := cnt f 8) S (by omega) (tgt := 11) dX3_drawFrom_6 (by decide) (fun c3 => ?_) (fun c3 => ?_)
  · skip
    refine lv_aload_n S.1 S.2.1 dX3_drawFrom_11 rfl (lv_at hl 1 rfl) ?_
    refine lv_aload_n S.1 S.2.1 dX3_drawFrom_12 rfl (lv_at hl 1 rfl) ?_
    refine gt_X3_3 (v := .int (z 0 1)) S hK hw 0 rfl rfl LX3 k1 dX3_drawFrom_13 ?_
    refine lv_i2l (v := lN w) S.1 S.2.1 dX3_drawFrom_16 (by rw [hsd]; exact nI_l hw31) ?_
    refine lv_ldc2 (v := lN 1103515245) S.1 S.2.1 S.2.2.2.1 k2 dX3_drawFrom_17 ?_
    refine lmul_to (v := lN (w * 1103515245)) S (lN_mul _ _) dX3_drawFrom_20 ?_
    refine lv_ldc2 (v := lN 12345) S.1 S.2.1 S.2.2.2.1 k3 dX3_drawFrom_21 ?_
    refine ladd_to (v := lN (w * 1103515245 + 12345)) S (lN_add _ _) dX3_drawFrom_24 ?_
    refine lv_ldc2 (v := lN 2147483648) S.1 S.2.1 S.2.2.2.1 k4 dX3_drawFrom_25 ?_
    refine lrem_to (v := lN ((w * 1103515245 + 12345) % 2147483648)) S (by decide) (pk_lRem (by omega) (by omega) (by omega)) dX3_drawFrom_28 ?_
    refine lv_l2i (v := nI ((w * 1103515245 + 12345) % 2147483648)) S.1 S.2.1 dX3_drawFrom_29 (lN_i _) ?_
    refine pt_X3_3 (ws' := (wp G a (st z 0 1 (nI ((w * 1103515245 + 12345) % 2147483648))))) S hK hw 0 rfl LX3 k1 rfl (Nat.le_of_ble_eq_true rfl) dX3_drawFrom_30 (fun H locs hw => ?_)
    obtain ⟨z4, ez4⟩ : ∃ zz, zz = st z 0 1 (nI ((w * 1103515245 + 12345) % 2147483648)) := ⟨_, rfl⟩
    have hw : WD G (wp G a z4) A s H locs := by rw [ez4]; exact hw
    refine lv_aload_n S.1 S.2.1 dX3_drawFrom_33 rfl (lv_at hl 1 rfl) ?_
    refine gt_X3_3 (v := .int (z4 0 1)) S hK hw 0 rfl rfl LX3 k1 dX3_drawFrom_34 ?_
    refine top_to (v := nI ((w * 1103515245 + 12345) % 2147483648)) S (by rw [ez4, st_s]) ?_
    refine lv_sipush (v := 256) S.1 S.2.1 dX3_drawFrom_37 (by decide) ?_
    refine idiv_to (v := nI ((w * 1103515245 + 12345) % 2147483648 / 256)) S (by decide) (pk_div (a := (w * 1103515245 + 12345) % 2147483648) (d := 256) (by omega) (by omega) (by omega)) dX3_drawFrom_40 ?_
    refine lv_iload_n S.1 S.2.1 dX3_drawFrom_41 rfl (lv_at hl 0 rfl) ?_
    refine irem_to (v := nI ((w * 1103515245 + 12345) % 2147483648 / 256 % cnt f 8)) S (by rw [nI_z (by omega)]; assumption) (pk_rem (a := (w * 1103515245 + 12345) % 2147483648 / 256) (d := cnt f 8) (by omega) (by omega) (by omega)) dX3_drawFrom_42 ?_
    obtain ⟨i, hi⟩ : ∃ i, i = (w * 1103515245 + 12345) % 2147483648 / 256 % cnt f 8 := ⟨_, rfl⟩
    rw [← hi]
    have hi8 : i < cnt f 8 := by rw [hi]; exact Nat.mod_lt _ (by omega)
    refine lv_istore_n (lv' := [(3, .int (nI (i))), (2, .int (nI (cnt f 8))), (0, .ref (a 0)), (1, .int (nI (mk f 8)))]) S.1 S.2.1 dX3_drawFrom_43 rfl hl (by decide) rfl (fun ls hl => ?_)
    refine lv_iconst (v := 0) S.1 S.2.1 dX3_drawFrom_44 (by decide) ?_
    refine lv_istore (lv' := [(4, .int 0), (3, .int (nI (i))), (2, .int (nI (cnt f 8))), (0, .ref (a 0)), (1, .int (nI (mk f 8)))]) S.1 S.2.1 dX3_drawFrom_45 hl (by decide) rfl (fun ls hl => ?_)
    have K47 : ∀ (fu : Nat) (k : Nat) (H : Heap) (locs : List Loc) (ls : Array Slot), 8 - k < fu → k ≤ 8 → cnt f k ≤ i → WD G (wp G a z4) A s H locs → lv_has ls 5 [(0, .ref (a 0)), (1, .int (nI (mk f 8))), (2, .int (nI (cnt f 8))), (3, .int (nI (i - cnt f k))), (4, .int (nI (k)))] → W p l e R s m args below meth c H locs 0 0 Q (F0 m 47 ls []) := by
      intro fu
      induction fu with
      | zero => exact fun _ _ _ _ h => absurd h (Nat.not_lt_zero _)
      | succ fu ih47 =>
        intro k H locs ls hm47 hk hci hw hl
        refine lv_iload S.1 S.2.1 dX3_drawFrom_47 (lv_at hl 4 rfl) ?_
        refine lv_bipush (v := 8) S.1 S.2.1 dX3_drawFrom_49 (by decide) ?_
        refine brN_ge (a := k) (b := 8) S (by omega) (by omega) (tgt := 80) dX3_drawFrom_51 (by decide) (fun c5 => ?_) (fun c5 => ?_)
        · skip
          have hk9 : k = 8 := by omega
          subst hk9
          refine lv_iconst (v := (-1)) S.1 S.2.1 dX3_drawFrom_80 (by decide) ?_
          exact en_i (v := (-1)) z4 hQ S hr hlk hw (by exfalso; omega) dX3_drawFrom_81
        · skip
          have hcs : cnt f (k + 1) = if f k = true then cnt f k + 1 else cnt f k := rfl
          refine lv_iload_n S.1 S.2.1 dX3_drawFrom_54 rfl (lv_at hl 1 rfl) ?_
          refine lv_iload S.1 S.2.1 dX3_drawFrom_55 (lv_at hl 4 rfl) ?_
          refine lv_ishr S.1 S.2.1 dX3_drawFrom_57 ?_
          refine lv_iconst (v := 1) S.1 S.2.1 dX3_drawFrom_58 (by decide) ?_
          refine iand_to (v := b2 (f (k))) S (mk_sh f (by omega)) dX3_drawFrom_59 ?_
          refine lv_iconst (v := 1) S.1 S.2.1 dX3_drawFrom_60 (by decide) ?_
          refine brB1_ne (b := f (k)) S (tgt := 74) dX3_drawFrom_61 (by decide) (fun c6 => ?_) (fun c6 => ?_)
          · skip
            rw [if_neg (by rw [c6]; decide)] at hcs
            rw [← hcs] at hl
            refine lv_iinc (v := (nI (k + 1))) (lv' := [(4, .int (nI (k + 1))), (0, .ref (a 0)), (1, .int (nI (mk f 8))), (2, .int (nI (cnt f 8))), (3, .int (nI (i - cnt f (k + 1))))]) S.1 S.2.1 dX3_drawFrom_74 hl (k := 4) rfl (nI_add _ _) (by decide) rfl (fun ls hl => ?_)
            refine lv_goto (tgt := 47) S.1 S.2.1 dX3_drawFrom_77 (by decide) ?_
            exact ih47 (k + 1) _ _ _ (by omega) (by omega) (by omega) hw (lv_sub hl [1, 2, 3, 4, 0] rfl)
          · skip
            refine lv_iload_n S.1 S.2.1 dX3_drawFrom_64 rfl (lv_at hl 3 rfl) ?_
            refine brN0_ne (a := i - cnt f k) S (by omega) (tgt := 71) dX3_drawFrom_65 (by decide) (fun c7 => ?_) (fun c7 => ?_)
            · skip
              refine lv_iinc (v := (nI (i - cnt f (k + 1)))) (lv' := [(3, .int (nI (i - cnt f (k + 1)))), (0, .ref (a 0)), (1, .int (nI (mk f 8))), (2, .int (nI (cnt f 8))), (4, .int (nI (k)))]) S.1 S.2.1 dX3_drawFrom_71 hl (k := 3) rfl (by rw [hcs, if_pos (by assumption), show i - cnt f k = (i - (cnt f k + 1)) + 1 by omega]; exact pk_m1 _) (by decide) rfl (fun ls hl => ?_)
              rw [if_pos (by assumption)] at hcs
              refine lv_iinc (v := (nI (k + 1))) (lv' := [(4, .int (nI (k + 1))), (3, .int (nI (i - cnt f (k + 1)))), (0, .ref (a 0)), (1, .int (nI (mk f 8))), (2, .int (nI (cnt f 8)))]) S.1 S.2.1 dX3_drawFrom_74 hl (k := 4) rfl (nI_add _ _) (by decide) rfl (fun ls hl => ?_)
              refine lv_goto (tgt := 47) S.1 S.2.1 dX3_drawFrom_77 (by decide) ?_
              exact ih47 (k + 1) _ _ _ (by omega) (by omega) (by omega) hw (lv_sub hl [2, 3, 4, 1, 0] rfl)
            · skip
              refine lv_iload S.1 S.2.1 dX3_drawFrom_68 (lv_at hl 4 rfl) ?_
              exact en_i (v := (nI (k))) z4 hQ S hr hlk hw (by refine ⟨?_, by rw [dz, if_neg c3, hsd9]; exact ez4⟩; rw [dv, if_neg c3, hsd9, ← hi]; have he : cnt f k = i := (by omega); rw [nth_u (by assumption) he 8 (by omega)]; rfl) dX3_drawFrom_70
    exact K47 (9) (0) _ _ _ (by omega) (by omega) (by exact Nat.zero_le _) hw (lv_sub hl [3, 4, 2, 1, 0] rfl)
  · skip
    refine lv_iconst (v := (-1)) S.1 S.2.1 dX3_drawFrom_9 (by decide) ?_
    exact en_i (v := (-1)) z hQ S hr hlk hw (by rw [dv, dz, if_pos c3, if_pos c3]; exact ⟨rfl, rfl⟩) dX3_drawFrom_10
