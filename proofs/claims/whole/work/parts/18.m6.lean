theorem hd_X5_save : yX5_save.cls = RX5 ∧ yX5_save.cls ≠ "java/lang/invoke/MethodHandle" ∧ yX5_save.cls ≠ "java/lang/invoke/VarHandle" ∧ (parseMethodDescriptor yX5_save.desc).map (fun d => d.parameters.length) = some 0 := by decide +kernel
set_option maxHeartbeats 4000000 in
set_option maxRecDepth 100000 in
theorem c_X5_save (l : Launch) (G : GA) (a : Nat → Nat) (z : St) (o : St) (sz : Nat) : Met l yX5_save wsX5_save ({ frames := 0, cells := 0, slots := 0, locals := 0 }) (va_Pc [.ref (a 0)] (PW G (mp G a z o) sz)) (va_Qv (fun (u : St × St) => u.1 = z ∧ RT (sr (st o 0 1 1) 1 (fl z)) u.2 ∧ u.2 0 0 = 0) (fun (u : St × St) t => va_P G.1 gcl (mp G a u.1 u.2) t.heap) (va_A (mp G a z o) sz)) 0 0 (va_A (mp G a z o) sz) := by
  refine met_st (cc := cX5_save) (maxL := 2) (ret := none) (fun A => va_Qv (fun (u : St × St) => u.1 = z ∧ RT (sr (st o 0 1 1) 1 (fl z)) u.2 ∧ u.2 0 0 = 0) (fun (u : St × St) t => va_P G.1 gcl (mp G a u.1 u.2) t.heap) A) (by decide) rfl (Nat.le_of_ble_eq_true rfl) ?_
  intro p e s m args below meth c R Q A H ls hR hQ S hr hlk _ hK hsz hH hAe hA hw hl
  have hl : lv_has ls 2 [(0, .ref (a 0))] := hl
  have LX5 : ∀ w ∈ u_ws RX5 TX5 12, w.before args s = true := fun w h => S.2.2.2.2 w ((by decide +kernel : ∀ w ∈ u_ws RX5 TX5 12, w ∈ wsX5_save) w h)
  have k1 : (Cond.fieldLink RX5 22 "GossipMembershipModel" "thrown" "I").before args s = true := S.2.2.2.2 _ (by decide +kernel : (Cond.fieldLink RX5 22 "GossipMembershipModel" "thrown" "I") ∈ wsX5_save)
  have k2 : (Cond.fieldLink RX5 7 "GossipMembershipModel" "s" "[I").before args s = true := S.2.2.2.2 _ (by decide +kernel : (Cond.fieldLink RX5 7 "GossipMembershipModel" "s" "[I") ∈ wsX5_save)
  have k3 : (Cond.fieldLink RX5 187 "GossipMembershipModel" "hasSaved" "Z").before args s = true := S.2.2.2.2 _ (by decide +kernel : (Cond.fieldLink RX5 187 "GossipMembershipModel" "hasSaved" "Z") ∈ wsX5_save)
  have k4 : (Cond.fieldLink RX5 13 "GossipMembershipModel" "saved" "[I").before args s = true := S.2.2.2.2 _ (by decide +kernel : (Cond.fieldLink RX5 13 "GossipMembershipModel" "saved" "[I") ∈ wsX5_save)
  refine lv_aload_n S.1 S.2.1 dX5_save_0 rfl (lv_at hl 0 rfl) ?_
  refine lv_iconst (v := 0) S.1 S.2.1 dX5_save_1 (by decide) ?_
  refine pt_X5_0 (ws' := (mp G a z (st o 0 0 (0)))) S hK hw 0 rfl LX5 k1 rfl (Nat.le_of_ble_eq_true rfl) dX5_save_2 (fun H locs hw => ?_)
  obtain ⟨o1, eo1⟩ : ∃ zz, zz = st o 0 0 (0) := ⟨_, rfl⟩
  have hw : WD G (mp G a z o1) A s H locs := by rw [eo1]; exact hw
  refine lv_iconst (v := 0) S.1 S.2.1 dX5_save_5 (by decide) ?_
  refine lv_istore_n (lv' := [(1, .int 0), (0, .ref (a 0))]) S.1 S.2.1 dX5_save_6 rfl hl (by decide) rfl (fun ls hl => ?_)
  have K7 : ∀ (fu : Nat) (k : Nat) (w : St) (H : Heap) (locs : List Loc) (ls : Array Slot), 362 - k < fu → k ≤ 362 → (∀ j, j < k → w 1 j = fl z j) → (∀ f j, ¬ f = 1 → w f j = st o 0 0 0 f j) → WD G (mp G a z w) A s H locs → lv_has ls 2 [(0, .ref (a 0)), (1, .int (nI (k)))] → W p l e R s m args below meth c H locs 0 0 Q (F0 m 7 ls []) := by
    intro fu
    induction fu with
    | zero => exact fun _ _ _ _ _ h => absurd h (Nat.not_lt_zero _)
    | succ fu ih7 =>
      intro k w H locs ls hm7 hk h1 h2 hw hl
      refine lv_iload_n S.1 S.2.1 dX5_save_7 rfl (lv_at hl 1 rfl) ?_
      refine lv_aload_n S.1 S.2.1 dX5_save_8 rfl (lv_at hl 0 rfl) ?_
      refine gt_X5_1 (v := .ref (a 1)) S hK hw 0 rfl rfl LX5 k2 dX5_save_9 ?_
      refine va_alen (v := 362) S.1 S.2.1 hK.1 hw.1 1 1 rfl rfl rfl dX5_save_12 ?_
      refine brN_ge (a := k) (b := 362) S (by omega) (by omega) (tgt := 34) dX5_save_13 (by decide) (fun c2 => ?_) (fun c2 => ?_)
      · skip
        have hk9 : k = 362 := by omega
        subst hk9
        refine lv_aload_n S.1 S.2.1 dX5_save_34 rfl (lv_at hl 0 rfl) ?_
        refine lv_iconst (v := 1) S.1 S.2.1 dX5_save_35 (by decide) ?_
        refine pt_X5_3 (ws' := (mp G a z (st w 0 1 (1)))) S hK hw 0 rfl LX5 k3 rfl rfl rfl (Nat.le_of_ble_eq_true rfl) dX5_save_36 (fun H locs hw => ?_)
        obtain ⟨o3, eo3⟩ : ∃ zz, zz = st w 0 1 (1) := ⟨_, rfl⟩
        have hw : WD G (mp G a z o3) A s H locs := by rw [eo3]; exact hw
        have hRT : RT (sr (st o 0 1 1) 1 (fl z)) (sr (st (st o 0 0 0) 0 1 1) 1 (fl z)) := fun f j a1 a2 a3 => by unfold sr; split <;> first | rfl | rw [st_at, st_at, st_at, if_neg a3]
        have hTH : (sr (st (st o 0 0 0) 0 1 1) 1 (fl z)) 0 0 = 0 := by rw [sr_n _ _ _ (by decide), st_k _ _ _ _ _ (by decide), st_s]
        have hw : WD G (mp G a z (sr (st (st o 0 0 0) 0 1 1) 1 (fl z))) A s H locs := wd_mp hw (fun _ _ => rfl) (fun k _ => by rw [sr_n _ _ _ (by decide), eo3]; simp only [st_at, h2 0 k (by decide)]) (fun k hk => by rw [sr_s, eo3, st_f _ _ _ _ _ _ (by decide), h1 k hk]) (fun k _ => by rw [sr_n _ _ _ (by decide), eo3]; simp only [st_f _ _ _ _ _ _ (show (2 : Nat) ≠ 0 by decide), h2 2 k (by decide)]) (fun k _ => by rw [sr_n _ _ _ (by decide), eo3]; simp only [st_f _ _ _ _ _ _ (show (3 : Nat) ≠ 0 by decide), h2 3 k (by decide)])
        exact en_v ((z, (sr (st (st o 0 0 0) 0 1 1) 1 (fl z))) : St × St) hQ S hr hlk hw (by exact ⟨rfl, hRT, hTH⟩) dX5_save_39
      · skip
        refine lv_aload_n S.1 S.2.1 dX5_save_16 rfl (lv_at hl 0 rfl) ?_
        refine gt_X5_2 (v := .ref (a 2)) S hK hw 0 rfl rfl LX5 k4 dX5_save_17 ?_
        refine lv_iload_n S.1 S.2.1 dX5_save_20 rfl (lv_at hl 1 rfl) ?_
        refine lv_aload_n S.1 S.2.1 dX5_save_21 rfl (lv_at hl 0 rfl) ?_
        refine gt_X5_1 (v := .ref (a 1)) S hK hw 0 rfl rfl LX5 k2 dX5_save_22 ?_
        refine lv_iload_n S.1 S.2.1 dX5_save_25 rfl (lv_at hl 1 rfl) ?_
        refine ald_i (v := fl z (k)) (k := k) S hK hw 1 rfl (by omega) (by decide) rfl dX5_save_26 ?_
        refine ast_i (ws' := (mp G a z (st w 1 (k) (fl z (k))))) (k := k) S hK hw 2 rfl (by omega) (by decide) rfl dX5_save_27 (fun H locs hw => ?_)
        obtain ⟨o4, eo4⟩ : ∃ zz, zz = st w 1 (k) (fl z (k)) := ⟨_, rfl⟩
        have hw : WD G (mp G a z o4) A s H locs := by rw [eo4]; exact hw
        refine lv_iinc (v := (nI (k + 1))) (lv' := [(1, .int (nI (k + 1))), (0, .ref (a 0))]) S.1 S.2.1 dX5_save_28 hl (k := 1) rfl (nI_add _ _) (by decide) rfl (fun ls hl => ?_)
        refine lv_goto (tgt := 7) S.1 S.2.1 dX5_save_31 (by decide) ?_
        exact ih7 (k + 1) (o4) _ _ _ (by omega) (by omega) (by exact fun j hj => by rw [eo4, st_at]; by_cases e : j = k <;> simp [e]; exact h1 j (by omega)) (by exact fun f j h => by rw [eo4, st_f _ _ _ _ _ _ h]; exact h2 f j h) hw (lv_sub hl [1, 0] rfl)
  exact K7 (363) (0) (o1) _ _ _ (by omega) (by omega) (by exact fun j hj => absurd hj (Nat.not_lt_zero _)) (by exact fun f j h => by rw [eo1]) hw (lv_sub hl [1, 0] rfl)

theorem hd_X5_restore : yX5_restore.cls = RX5 ∧ yX5_restore.cls ≠ "java/lang/invoke/MethodHandle" ∧ yX5_restore.cls ≠ "java/lang/invoke/VarHandle" ∧ (parseMethodDescriptor yX5_restore.desc).map (fun d => d.parameters.length) = some 0 := by decide +kernel
set_option maxHeartbeats 4000000 in
set_option maxRecDepth 100000 in
theorem c_X5_restore (l : Launch) (G : GA) (a : Nat → Nat) (z : St) (o : St) (sz : Nat) {hs : Bool} {y : St} (hO : o 0 1 = b2 hs) (hy : (hs = true → o 1 = fl y)) : Met l yX5_restore wsX5_restore ({ frames := 0, cells := 0, slots := 0, locals := 0 }) (va_Pc [.ref (a 0)] (PW G (mp G a z o) sz)) (va_Qv (fun (u : St × St) => u.1 = (pRs hs y z).2.2 ∧ RT o u.2 ∧ u.2 0 0 = (pRs hs y z).1) (fun (u : St × St) t => va_P G.1 gcl (mp G a u.1 u.2) t.heap) (va_A (mp G a z o) sz)) 0 0 (va_A (mp G a z o) sz) := by
  refine met_st (cc := cX5_restore) (maxL := 2) (ret := none) (fun A => va_Qv (fun (u : St × St) => u.1 = (pRs hs y z).2.2 ∧ RT o u.2 ∧ u.2 0 0 = (pRs hs y z).1) (fun (u : St × St) t => va_P G.1 gcl (mp G a u.1 u.2) t.heap) A) (by decide) rfl (Nat.le_of_ble_eq_true rfl) ?_
  intro p e s m args below meth c R Q A H ls hR hQ S hr hlk _ hK hsz hH hAe hA hw hl
  have hl : lv_has ls 2 [(0, .ref (a 0))] := hl
  have LX5 : ∀ w ∈ u_ws RX5 TX5 12, w.before args s = true := fun w h => S.2.2.2.2 w ((by decide +kernel : ∀ w ∈ u_ws RX5 TX5 12, w ∈ wsX5_restore) w h)
  have k1 : (Cond.fieldLink RX5 187 "GossipMembershipModel" "hasSaved" "Z").before args s = true := S.2.2.2.2 _ (by decide +kernel : (Cond.fieldLink RX5 187 "GossipMembershipModel" "hasSaved" "Z") ∈ wsX5_restore)
  have k2 : (Cond.fieldLink RX5 22 "GossipMembershipModel" "thrown" "I").before args s = true := S.2.2.2.2 _ (by decide +kernel : (Cond.fieldLink RX5 22 "GossipMembershipModel" "thrown" "I") ∈ wsX5_restore)
  have k3 : (Cond.fieldLink RX5 7 "GossipMembershipModel" "s" "[I").before args s = true := S.2.2.2.2 _ (by decide +kernel : (Cond.fieldLink RX5 7 "GossipMembershipModel" "s" "[I") ∈ wsX5_restore)
  have k4 : (Cond.fieldLink RX5 13 "GossipMembershipModel" "saved" "[I").before args s = true := S.2.2.2.2 _ (by decide +kernel : (Cond.fieldLink RX5 13 "GossipMembershipModel" "saved" "[I") ∈ wsX5_restore)
  refine lv_aload_n S.1 S.2.1 dX5_restore_0 rfl (lv_at hl 0 rfl) ?_
  refine lv_aload_n S.1 S.2.1 dX5_restore_1 rfl (lv_at hl 0 rfl) ?_
  refine gt_X5_3 (v := .int (o 0 1)) S hK hw 0 rfl rfl LX5 k1 dX5_restore_2 ?_
  refine top_to (v := b2 hs) S (by first | exact hO | (rw [eo, st_k _ _ _ _ _ (by decide)]; exact hO)) ?_
  refine brB_eq (b := hs) S (tgt := 12) dX5_restore_5 (by decide) (fun c1 => ?_) (fun c1 => ?_)
  · skip
    refine lv_iconst (v := 1) S.1 S.2.1 dX5_restore_12 (by decide) ?_
    refine pt_X5_0 (ws' := (mp G a z (st o 0 0 (1)))) S hK hw 0 rfl LX5 k2 rfl (Nat.le_of_ble_eq_true rfl) dX5_restore_13 (fun H locs hw => ?_)
    obtain ⟨o2, eo2⟩ : ∃ zz, zz = st o 0 0 (1) := ⟨_, rfl⟩
    have hw : WD G (mp G a z o2) A s H locs := by rw [eo2]; exact hw
    have ro2 : RT o o2 := by rw [eo2]; exact RT.put (RT.rf o) _
    have to2 : o2 0 0 = (1) := by rw [eo2]; exact st_s _ _ _ _
    refine lv_aload_n S.1 S.2.1 dX5_restore_16 rfl (lv_at hl 0 rfl) ?_
    refine gt_X5_3 (v := .int (o2 0 1)) S hK hw 0 rfl rfl LX5 k1 dX5_restore_17 ?_
    refine top_to (v := b2 hs) S (by first | exact hO | (rw [eo2, st_k _ _ _ _ _ (by decide)]; exact hO)) ?_
    refine brB_ne (b := hs) S (tgt := 24) dX5_restore_20 (by decide) (fun c3 => ?_) (fun c3 => ?_)
    · skip
      exact absurd (c1.symm.trans c3) (by decide)
    · skip
      exact en_v ((z, o2) : St × St) hQ S hr hlk hw (by have hp : pRs hs y z = ((1), 0, z) := (by rw [pRs, if_neg (by rw [c3]; decide)]); rw [hp]; exact ⟨rfl, ro2, to2⟩) dX5_restore_23
  · skip
    refine lv_iconst (v := 0) S.1 S.2.1 dX5_restore_8 (by decide) ?_
    refine lv_goto (tgt := 13) S.1 S.2.1 dX5_restore_9 (by decide) ?_
    refine pt_X5_0 (ws' := (mp G a z (st o 0 0 (0)))) S hK hw 0 rfl LX5 k2 rfl (Nat.le_of_ble_eq_true rfl) dX5_restore_13 (fun H locs hw => ?_)
    obtain ⟨o4, eo4⟩ : ∃ zz, zz = st o 0 0 (0) := ⟨_, rfl⟩
    have hw : WD G (mp G a z o4) A s H locs := by rw [eo4]; exact hw
    have ro4 : RT o o4 := by rw [eo4]; exact RT.put (RT.rf o) _
    have to4 : o4 0 0 = (0) := by rw [eo4]; exact st_s _ _ _ _
    refine lv_aload_n S.1 S.2.1 dX5_restore_16 rfl (lv_at hl 0 rfl) ?_
    refine gt_X5_3 (v := .int (o4 0 1)) S hK hw 0 rfl rfl LX5 k1 dX5_restore_17 ?_
    refine top_to (v := b2 hs) S (by first | exact hO | (rw [eo4, st_k _ _ _ _ _ (by decide)]; exact hO)) ?_
    refine brB_ne (b := hs) S (tgt := 24) dX5_restore_20 (by decide) (fun c5 => ?_) (fun c5 => ?_)
    · skip
      have hs9 := c5
      refine lv_iconst (v := 0) S.1 S.2.1 dX5_restore_24 (by decide) ?_
      refine lv_istore_n (lv' := [(1, .int 0), (0, .ref (a 0))]) S.1 S.2.1 dX5_restore_25 rfl hl (by decide) rfl (fun ls hl => ?_)
      have K26 : ∀ (fu : Nat) (k : Nat) (t : St) (H : Heap) (locs : List Loc) (ls : Array Slot), 362 - k < fu → k ≤ 362 → (∀ j, j < k → fl t j = o 1 j) → WD G (mp G a t o4) A s H locs → lv_has ls 2 [(0, .ref (a 0)), (1, .int (nI (k)))] → W p l e R s m args below meth c H locs 0 0 Q (F0 m 26 ls []) := by
        intro fu
        induction fu with
        | zero => exact fun _ _ _ _ _ h => absurd h (Nat.not_lt_zero _)
        | succ fu ih26 =>
          intro k t H locs ls hm26 hk h1 hw hl
          refine lv_iload_n S.1 S.2.1 dX5_restore_26 rfl (lv_at hl 1 rfl) ?_
          refine lv_aload_n S.1 S.2.1 dX5_restore_27 rfl (lv_at hl 0 rfl) ?_
          refine gt_X5_1 (v := .ref (a 1)) S hK hw 0 rfl rfl LX5 k3 dX5_restore_28 ?_
          refine va_alen (v := 362) S.1 S.2.1 hK.1 hw.1 1 1 rfl rfl rfl dX5_restore_31 ?_
          refine brN_ge (a := k) (b := 362) S (by omega) (by omega) (tgt := 53) dX5_restore_32 (by decide) (fun c6 => ?_) (fun c6 => ?_)
          · skip
            have hk9 : k = 362 := by omega
            subst hk9
            have hw : WD G (mp G a y o4) A s H locs := wd_mp hw (fun k hk => by rw [h1 k hk, hy hs9]) (fun _ _ => rfl) (fun _ _ => rfl) (fun _ _ => rfl) (fun _ _ => rfl)
            exact en_v ((y, o4) : St × St) hQ S hr hlk hw (by have hp : pRs hs y z = ((0), 0, y) := (by rw [pRs, if_pos hs9]); rw [hp]; exact ⟨rfl, ro4, to4⟩) dX5_restore_53
          · skip
            refine lv_aload_n S.1 S.2.1 dX5_restore_35 rfl (lv_at hl 0 rfl) ?_
            refine gt_X5_1 (v := .ref (a 1)) S hK hw 0 rfl rfl LX5 k3 dX5_restore_36 ?_
            refine lv_iload_n S.1 S.2.1 dX5_restore_39 rfl (lv_at hl 1 rfl) ?_
            refine lv_aload_n S.1 S.2.1 dX5_restore_40 rfl (lv_at hl 0 rfl) ?_
            refine gt_X5_2 (v := .ref (a 2)) S hK hw 0 rfl rfl LX5 k4 dX5_restore_41 ?_
            refine lv_iload_n S.1 S.2.1 dX5_restore_44 rfl (lv_at hl 1 rfl) ?_
            refine ald_i (v := o4 1 (k)) (k := k) S hK hw 2 rfl (by omega) (by decide) rfl dX5_restore_45 ?_
            refine ast_i (ws' := (mp G a (uf (upd (fl t) (k) (o4 1 (k)))) o4)) (k := k) S hK hw 1 rfl (by omega) (by decide) (mp_set (fl_uf _).symm) dX5_restore_46 (fun H locs hw => ?_)
            obtain ⟨z7, ez7⟩ : ∃ zz, zz = uf (upd (fl t) (k) (o4 1 (k))) := ⟨_, rfl⟩
            have hw : WD G (mp G a z7 o4) A s H locs := by rw [ez7]; exact hw
            refine lv_iinc (v := (nI (k + 1))) (lv' := [(1, .int (nI (k + 1))), (0, .ref (a 0))]) S.1 S.2.1 dX5_restore_47 hl (k := 1) rfl (nI_add _ _) (by decide) rfl (fun ls hl => ?_)
            refine lv_goto (tgt := 26) S.1 S.2.1 dX5_restore_50 (by decide) ?_
            exact ih26 (k + 1) (z7) _ _ _ (by omega) (by omega) (by exact fun j hj => by rw [ez7, fl_uf]; exact if e : j = k then (by rw [upd, if_pos e, eo4, st_f _ _ _ _ _ _ (by decide), e]) else (by rw [upd, if_neg e]; exact h1 j (by omega))) hw (lv_sub hl [1, 0] rfl)
      exact K26 (363) (0) (z) _ _ _ (by omega) (by omega) (by exact fun j hj => absurd hj (Nat.not_lt_zero _)) hw (lv_sub hl [1, 0] rfl)
    · skip
      exact absurd (c1.symm.trans c5) (by decide)

theorem hd_X5_averageCounter : yX5_averageCounter.cls = RX5 ∧ yX5_averageCounter.cls ≠ "java/lang/invoke/MethodHandle" ∧ yX5_averageCounter.cls ≠ "java/lang/invoke/VarHandle" ∧ (parseMethodDescriptor yX5_averageCounter.desc).map (fun d => d.parameters.length) = some 1 := by decide +kernel
set_option maxHeartbeats 4000000 in
set_option maxRecDepth 100000 in
theorem c_X5_averageCounter (l : Launch) (G : GA) (a : Nat → Nat) (z : St) (o : St) (sz : Nat) (v : Int32) : Met l yX5_averageCounter wsX5_averageCounter ({ frames := 2, cells := 0, slots := 0, locals := 42 }) (va_Pc [.ref (a 0), .int (v)] (PW G (mp G a z o) sz)) (va_Qd (fun (r : UInt64) (u : St × St) => (nd v = true → r = avg (smc z (tN v) 8)) ∧ u.1 = z ∧ RT o u.2 ∧ u.2 0 0 = (if nd v = true then 0 else 1)) (fun (u : St × St) t => va_P G.1 gcl (mp G a u.1 u.2) t.heap) (va_A (mp G a z o) sz)) 0 0 (va_A (mp G a z o) sz) := by
  refine met_st (cc := cX5_averageCounter) (maxL := 4) (ret := (some .double)) (fun A => va_Qd (fun (r : UInt64) (u : St × St) => (nd v = true → r = avg (smc z (tN v) 8)) ∧ u.1 = z ∧ RT o u.2 ∧ u.2 0 0 = (if nd v = true then 0 else 1)) (fun (u : St × St) t => va_P G.1 gcl (mp G a u.1 u.2) t.heap) A) (by decide) rfl (Nat.le_of_ble_eq_true rfl) ?_
  intro p e s m args below meth c R Q A H ls hR hQ S hr hlk _ hK hsz hH hAe hA hw hl
  have hl : lv_has ls 4 [(0, .ref (a 0)), (1, .int (v))] := hl
  have LX5 : ∀ w ∈ u_ws RX5 TX5 12, w.before args s = true := fun w h => S.2.2.2.2 w ((by decide +kernel : ∀ w ∈ u_ws RX5 TX5 12, w ∈ wsX5_averageCounter) w h)
  have k1 : (Cond.fieldLink RX5 22 "GossipMembershipModel" "thrown" "I").before args s = true := S.2.2.2.2 _ (by decide +kernel : (Cond.fieldLink RX5 22 "GossipMembershipModel" "thrown" "I") ∈ wsX5_averageCounter)
  have k2 : (Cond.constantDouble RX5 185 (4620693217682128896)).before args s = true := S.2.2.2.2 _ (by decide +kernel : (Cond.constantDouble RX5 185 (4620693217682128896)) ∈ wsX5_averageCounter)
  have k3 : (Cond.fieldLink RX5 7 "GossipMembershipModel" "s" "[I").before args s = true := S.2.2.2.2 _ (by decide +kernel : (Cond.fieldLink RX5 7 "GossipMembershipModel" "s" "[I") ∈ wsX5_averageCounter)
  refine lv_aload_n S.1 S.2.1 dX5_averageCounter_0 rfl (lv_at hl 0 rfl) ?_
  refine lv_iload_n S.1 S.2.1 dX5_averageCounter_1 rfl (lv_at hl 1 rfl) ?_
  refine vp_callSi (va_runS (As := [.int (v)]) (rest := [.ref (a 0)]) S (c_X5_isNode l (v) ) (va_cwS 1 S.2.2.2.2 gX5_averageCounter_X5_isNode rfl rfl rfl hd_X5_isNode ⟨by rw [hR]; exact Nat.le_of_ble_eq_true rfl, by rw [hR]; exact Nat.le_of_ble_eq_true rfl⟩) ⟨blind_T, fun U hU hW => ⟨rfl, trivial⟩⟩ rfl rfl hl.1 rfl (lv_room (Nat.le_of_ble_eq_true rfl)) dX5_averageCounter_2 ⟨Nat.zero_le _, Nat.zero_le _⟩).run (fun r1 h2 => ?_)
  subst h2
  refine brB_eq (b := nd ((v))) S (tgt := 12) dX5_averageCounter_5 (by decide) (fun c3 => ?_) (fun c3 => ?_)
  · skip
    refine lv_iconst (v := 1) S.1 S.2.1 dX5_averageCounter_12 (by decide) ?_
    refine pt_X5_0 (ws' := (mp G a z (st o 0 0 (1)))) S hK hw 0 rfl LX5 k1 rfl (Nat.le_of_ble_eq_true rfl) dX5_averageCounter_13 (fun H locs hw => ?_)
    obtain ⟨o4, eo4⟩ : ∃ zz, zz = st o 0 0 (1) := ⟨_, rfl⟩
    have hw : WD G (mp G a z o4) A s H locs := by rw [eo4]; exact hw
    have ro4 : RT o o4 := by rw [eo4]; exact RT.put (RT.rf o) _
    have to4 : o4 0 0 = (1) := by rw [eo4]; exact st_s _ _ _ _
    refine lv_iconst (v := 0) S.1 S.2.1 dX5_averageCounter_16 (by decide) ?_
    refine lv_istore_n (lv' := [(2, .int 0), (0, .ref (a 0)), (1, .int (v))]) S.1 S.2.1 dX5_averageCounter_17 rfl hl (by decide) rfl (fun ls hl => ?_)
    refine lv_iconst (v := 0) S.1 S.2.1 dX5_averageCounter_18 (by decide) ?_
    refine lv_istore_n (lv' := [(3, .int 0), (2, .int 0), (0, .ref (a 0)), (1, .int (v))]) S.1 S.2.1 dX5_averageCounter_19 rfl hl (by decide) rfl (fun ls hl => ?_)
    refine lv_iload_n S.1 S.2.1 dX5_averageCounter_20 rfl (lv_at hl 0 rfl) ?_
    refine lv_bipush (v := 8) S.1 S.2.1 dX5_averageCounter_21 (by decide) ?_
    refine lv_icmp_ge (tgt := 56) S.1 S.2.1 dX5_averageCounter_23 (by decide) (fun c5 => ?_) (fun c5 => ?_)
    · skip
      exact absurd c5 (by decide)
    · skip
      refine lv_aload_n S.1 S.2.1 dX5_averageCounter_26 rfl (lv_at hl 2 rfl) ?_
      refine gt_X5_0 (v := .int (o4 0 0)) S hK hw 0 rfl rfl LX5 k1 dX5_averageCounter_27 ?_
      refine top_to (v := (1)) S to4 ?_
      refine lv_if_ne (tgt := 56) S.1 S.2.1 dX5_averageCounter_30 (by decide) (fun c6 => ?_) (fun c6 => ?_)
      · skip
        refine lv_iload_n S.1 S.2.1 dX5_averageCounter_56 rfl (lv_at hl 1 rfl) ?_
        refine lv_i2d S.1 S.2.1 dX5_averageCounter_57 ?_
        refine lv_ldc2d (v := 4620693217682128896) S.1 S.2.1 S.2.2.2.1 k2 dX5_averageCounter_58 ?_
        refine lv_ddiv S.1 S.2.1 dX5_averageCounter_61 (avg_n ((0))) ?_
        exact en_d (v := avg ((0))) ((z, o4) : St × St) hQ S hr hlk hw (by have hp : (if nd (v) = true then (0 : Int32) else 1) = (1) := (by simp [c3]); rw [hp]; refine ⟨?_, rfl, ro4, to4⟩; intro h9; first | (exact absurd h9 (by rw [c3]; decide)) | (rw [tN_n hn]; done) | (rw [tN_n hn]; rfl)) dX5_averageCounter_62
      · skip
        exact absurd c6 (by decide)
  · skip
    obtain ⟨n, hn, en9⟩ := nd_of c3
    subst en9
    refine lv_iconst (v := 0) S.1 S.2.1 dX5_averageCounter_8 (by decide) ?_
    refine lv_goto (tgt := 13) S.1 S.2.1 dX5_averageCounter_9 (by decide) ?_
    refine pt_X5_0 (ws' := (mp G a z (st o 0 0 (0)))) S hK hw 0 rfl LX5 k1 rfl (Nat.le_of_ble_eq_true rfl) dX5_averageCounter_13 (fun H locs hw => ?_)
    obtain ⟨o7, eo7⟩ : ∃ zz, zz = st o 0 0 (0) := ⟨_, rfl⟩
    have hw : WD G (mp G a z o7) A s H locs := by rw [eo7]; exact hw
    have ro7 : RT o o7 := by rw [eo7]; exact RT.put (RT.rf o) _
    have to7 : o7 0 0 = (0) := by rw [eo7]; exact st_s _ _ _ _
    refine lv_iconst (v := 0) S.1 S.2.1 dX5_averageCounter_16 (by decide) ?_
    refine lv_istore_n (lv' := [(2, .int 0), (0, .ref (a 0)), (1, .int (nI (n)))]) S.1 S.2.1 dX5_averageCounter_17 rfl hl (by decide) rfl (fun ls hl => ?_)
    refine lv_iconst (v := 0) S.1 S.2.1 dX5_averageCounter_18 (by decide) ?_
    refine lv_istore_n (lv' := [(3, .int 0), (2, .int 0), (0, .ref (a 0)), (1, .int (nI (n)))]) S.1 S.2.1 dX5_averageCounter_19 rfl hl (by decide) rfl (fun ls hl => ?_)
    have K20 : ∀ (fu : Nat) (k : Nat) (H : Heap) (locs : List Loc) (ls : Array Slot), 8 - k < fu → k ≤ 8 → WD G (mp G a z o7) A s H locs → lv_has ls 4 [(0, .ref (a 0)), (1, .int (nI (n))), (2, .int (smc z n k)), (3, .int (nI (k)))] → W p l e R s m args below meth c H locs 0 0 Q (F0 m 20 ls []) := by
      intro fu
      induction fu with
      | zero => exact fun _ _ _ _ h => absurd h (Nat.not_lt_zero _)
      | succ fu ih20 =>
        intro k H locs ls hm20 hk hw hl
        refine lv_iload_n S.1 S.2.1 dX5_averageCounter_20 rfl (lv_at hl 3 rfl) ?_
        refine lv_bipush (v := 8) S.1 S.2.1 dX5_averageCounter_21 (by decide) ?_
        refine brN_ge (a := k) (b := 8) S (by omega) (by omega) (tgt := 56) dX5_averageCounter_23 (by decide) (fun c8 => ?_) (fun c8 => ?_)
        · skip
          have hk9 : k = 8 := by omega
          subst hk9
          refine lv_iload_n S.1 S.2.1 dX5_averageCounter_56 rfl (lv_at hl 2 rfl) ?_
          refine lv_i2d S.1 S.2.1 dX5_averageCounter_57 ?_
          refine lv_ldc2d (v := 4620693217682128896) S.1 S.2.1 S.2.2.2.1 k2 dX5_averageCounter_58 ?_
          refine lv_ddiv S.1 S.2.1 dX5_averageCounter_61 (avg_n ((smc z n 8))) ?_
          exact en_d (v := avg ((smc z n 8))) ((z, o7) : St × St) hQ S hr hlk hw (by have hp : (if nd (nI (n)) = true then (0 : Int32) else 1) = (0) := (by simp [hn, nd_n hn, tN_n hn, c3]); rw [hp]; refine ⟨?_, rfl, ro7, to7⟩; intro h9; first | (exact absurd h9 (by rw [c3]; decide)) | (rw [tN_n hn]; done) | (rw [tN_n hn]; rfl)) dX5_averageCounter_62
        · skip
          refine lv_aload_n S.1 S.2.1 dX5_averageCounter_26 rfl (lv_at hl 0 rfl) ?_
          refine gt_X5_0 (v := .int (o7 0 0)) S hK hw 0 rfl rfl LX5 k1 dX5_averageCounter_27 ?_
          refine top_to (v := (0)) S to7 ?_
          refine lv_if_ne (tgt := 56) S.1 S.2.1 dX5_averageCounter_30 (by decide) (fun c9 => ?_) (fun c9 => ?_)
          · skip
            exact absurd c9 (by decide)
          · skip
            refine lv_iload_n S.1 S.2.1 dX5_averageCounter_33 rfl (lv_at hl 2 rfl) ?_
            refine lv_aload_n S.1 S.2.1 dX5_averageCounter_34 rfl (lv_at hl 0 rfl) ?_
            refine gt_X5_1 (v := .ref (a 1)) S hK hw 0 rfl rfl LX5 k3 dX5_averageCounter_35 ?_
            refine lv_sipush (v := 234) S.1 S.2.1 dX5_averageCounter_38 (by decide) ?_
            refine lv_iload_n S.1 S.2.1 dX5_averageCounter_41 rfl (lv_at hl 1 rfl) ?_
            refine lv_iload_n S.1 S.2.1 dX5_averageCounter_42 rfl (lv_at hl 3 rfl) ?_
            refine pr_m (n := n) (b := k) S hl.1 gX5_averageCounter_X5_pair ⟨by rw [hR]; exact Nat.le_of_ble_eq_true rfl, by rw [hR]; exact Nat.le_of_ble_eq_true rfl⟩ (Nat.zero_le _) (Nat.zero_le _) (Nat.le_of_ble_eq_true rfl) dX5_averageCounter_43 ?_
            refine addN (a := 234) (b := 8 * n + k) S dX5_averageCounter_46 ?_
            refine ald_i (v := z 8 ((8 * n + k))) (k := 234 + (8 * n + k)) S hK hw 1 rfl (by omega) (by decide) (fl_8 z (by omega)) dX5_averageCounter_47 ?_
            refine iadd_to (v := smc z n (k + 1)) S rfl dX5_averageCounter_48 ?_
            refine lv_istore_n (lv' := [(2, .int (smc z n (k + 1))), (0, .ref (a 0)), (1, .int (nI (n))), (3, .int (nI (k)))]) S.1 S.2.1 dX5_averageCounter_49 rfl hl (by decide) rfl (fun ls hl => ?_)
            refine lv_iinc (v := (nI (k + 1))) (lv' := [(3, .int (nI (k + 1))), (2, .int (smc z n (k + 1))), (0, .ref (a 0)), (1, .int (nI (n)))]) S.1 S.2.1 dX5_averageCounter_50 hl (k := 3) rfl (nI_add _ _) (by decide) rfl (fun ls hl => ?_)
            refine lv_goto (tgt := 20) S.1 S.2.1 dX5_averageCounter_53 (by decide) ?_
            exact ih20 (k + 1) _ _ _ (by omega) (by omega) hw (lv_sub hl [2, 3, 1, 0] rfl)
    exact K20 (9) (0) _ _ _ (by omega) (by omega) hw (lv_sub hl [2, 3, 1, 0] rfl)

theorem hd_X5_falseShare : yX5_falseShare.cls = RX5 ∧ yX5_falseShare.cls ≠ "java/lang/invoke/MethodHandle" ∧ yX5_falseShare.cls ≠ "java/lang/invoke/VarHandle" ∧ (parseMethodDescriptor yX5_falseShare.desc).map (fun d => d.parameters.length) = some 0 := by decide +kernel
set_option maxHeartbeats 4000000 in
set_option maxRecDepth 100000 in
theorem c_X5_falseShare (l : Launch) (G : GA) (a : Nat → Nat) (z : St) (o : St) (sz : Nat) : Met l yX5_falseShare wsX5_falseShare ({ frames := 0, cells := 0, slots := 0, locals := 0 }) (va_Pc [.ref (a 0)] (PW G (mp G a z o) sz)) (va_Qf (fun (r : UInt32) (u : St × St) => (¬ z 0 5 = 0 → r = shr (z 0 6) (z 0 5)) ∧ u.1 = z ∧ RT o u.2 ∧ u.2 0 0 = (if z 0 5 = 0 then 1 else 0)) (fun (u : St × St) t => va_P G.1 gcl (mp G a u.1 u.2) t.heap) (va_A (mp G a z o) sz)) 0 0 (va_A (mp G a z o) sz) := by
  refine met_st (cc := cX5_falseShare) (maxL := 1) (ret := (some .float)) (fun A => va_Qf (fun (r : UInt32) (u : St × St) => (¬ z 0 5 = 0 → r = shr (z 0 6) (z 0 5)) ∧ u.1 = z ∧ RT o u.2 ∧ u.2 0 0 = (if z 0 5 = 0 then 1 else 0)) (fun (u : St × St) t => va_P G.1 gcl (mp G a u.1 u.2) t.heap) A) (by decide) rfl (Nat.le_of_ble_eq_true rfl) ?_
  intro p e s m args below meth c R Q A H ls hR hQ S hr hlk _ hK hsz hH hAe hA hw hl
  have hl : lv_has ls 1 [(0, .ref (a 0))] := hl
  have LX5 : ∀ w ∈ u_ws RX5 TX5 12, w.before args s = true := fun w h => S.2.2.2.2 w ((by decide +kernel : ∀ w ∈ u_ws RX5 TX5 12, w ∈ wsX5_falseShare) w h)
  have k1 : (Cond.fieldLink RX5 7 "GossipMembershipModel" "s" "[I").before args s = true := S.2.2.2.2 _ (by decide +kernel : (Cond.fieldLink RX5 7 "GossipMembershipModel" "s" "[I") ∈ wsX5_falseShare)
  have k2 : (Cond.fieldLink RX5 22 "GossipMembershipModel" "thrown" "I").before args s = true := S.2.2.2.2 _ (by decide +kernel : (Cond.fieldLink RX5 22 "GossipMembershipModel" "thrown" "I") ∈ wsX5_falseShare)
  refine lv_aload_n S.1 S.2.1 dX5_falseShare_0 rfl (lv_at hl 0 rfl) ?_
  refine lv_aload_n S.1 S.2.1 dX5_falseShare_1 rfl (lv_at hl 0 rfl) ?_
  refine gt_X5_1 (v := .ref (a 1)) S hK hw 0 rfl rfl LX5 k1 dX5_falseShare_2 ?_
  refine lv_iconst (v := 5) S.1 S.2.1 dX5_falseShare_5 (by decide) ?_
  refine ald_i (v := z 0 (5)) (k := 5) S hK hw 1 rfl (by omega) (by decide) (fl_0 z (by omega)) dX5_falseShare_6 ?_
  refine lv_if_ne (tgt := 14) S.1 S.2.1 dX5_falseShare_7 (by decide) (fun c1 => ?_) (fun c1 => ?_)
  · skip
    refine lv_iconst (v := 0) S.1 S.2.1 dX5_falseShare_14 (by decide) ?_
    refine pt_X5_0 (ws' := (mp G a z (st o 0 0 (0)))) S hK hw 0 rfl LX5 k2 rfl (Nat.le_of_ble_eq_true rfl) dX5_falseShare_15 (fun H locs hw => ?_)
    obtain ⟨o2, eo2⟩ : ∃ zz, zz = st o 0 0 (0) := ⟨_, rfl⟩
    have hw : WD G (mp G a z o2) A s H locs := by rw [eo2]; exact hw
    have ro2 : RT o o2 := by rw [eo2]; exact RT.put (RT.rf o) _
    have to2 : o2 0 0 = (0) := by rw [eo2]; exact st_s _ _ _ _
    refine lv_aload_n S.1 S.2.1 dX5_falseShare_18 rfl (lv_at hl 0 rfl) ?_
    refine gt_X5_0 (v := .int (o2 0 0)) S hK hw 0 rfl rfl LX5 k2 dX5_falseShare_19 ?_
    refine top_to (v := (0)) S to2 ?_
    refine lv_if_ne (tgt := 44) S.1 S.2.1 dX5_falseShare_22 (by decide) (fun c3 => ?_) (fun c3 => ?_)
    · skip
      exact absurd c3 (by decide)
    · skip
      refine lv_aload_n S.1 S.2.1 dX5_falseShare_25 rfl (lv_at hl 0 rfl) ?_
      refine gt_X5_1 (v := .ref (a 1)) S hK hw 0 rfl rfl LX5 k1 dX5_falseShare_26 ?_
      refine lv_bipush (v := 6) S.1 S.2.1 dX5_falseShare_29 (by decide) ?_
      refine ald_i (v := z 0 (6)) (k := 6) S hK hw 1 rfl (by omega) (by decide) (fl_0 z (by omega)) dX5_falseShare_31 ?_
      refine lv_i2f S.1 S.2.1 dX5_falseShare_32 ?_
      refine lv_aload_n S.1 S.2.1 dX5_falseShare_33 rfl (lv_at hl 0 rfl) ?_
      refine gt_X5_1 (v := .ref (a 1)) S hK hw 0 rfl rfl LX5 k1 dX5_falseShare_34 ?_
      refine lv_iconst (v := 5) S.1 S.2.1 dX5_falseShare_37 (by decide) ?_
      refine ald_i (v := z 0 (5)) (k := 5) S hK hw 1 rfl (by omega) (by decide) (fl_0 z (by omega)) dX5_falseShare_38 ?_
      refine lv_i2f S.1 S.2.1 dX5_falseShare_39 ?_
      refine lv_fdiv S.1 S.2.1 dX5_falseShare_40 (shr_n (z 0 6) c1) ?_
      refine lv_goto (tgt := 45) S.1 S.2.1 dX5_falseShare_41 (by decide) ?_
      exact en_f (v := shr (z 0 6) (z 0 5)) ((z, o2) : St × St) hQ S hr hlk hw (by have hp : (if z 0 5 = 0 then (1 : Int32) else 0) = (0) := (by simp [c1]); rw [hp]; refine ⟨?_, rfl, ro2, to2⟩; intro h9; first | rfl | exact absurd c1 h9) dX5_falseShare_45
  · skip
    refine lv_iconst (v := 1) S.1 S.2.1 dX5_falseShare_10 (by decide) ?_
    refine lv_goto (tgt := 15) S.1 S.2.1 dX5_falseShare_11 (by decide) ?_
    refine pt_X5_0 (ws' := (mp G a z (st o 0 0 (1)))) S hK hw 0 rfl LX5 k2 rfl (Nat.le_of_ble_eq_true rfl) dX5_falseShare_15 (fun H locs hw => ?_)
    obtain ⟨o4, eo4⟩ : ∃ zz, zz = st o 0 0 (1) := ⟨_, rfl⟩
    have hw : WD G (mp G a z o4) A s H locs := by rw [eo4]; exact hw
    have ro4 : RT o o4 := by rw [eo4]; exact RT.put (RT.rf o) _
    have to4 : o4 0 0 = (1) := by rw [eo4]; exact st_s _ _ _ _
    refine lv_aload_n S.1 S.2.1 dX5_falseShare_18 rfl (lv_at hl 0 rfl) ?_
    refine gt_X5_0 (v := .int (o4 0 0)) S hK hw 0 rfl rfl LX5 k2 dX5_falseShare_19 ?_
    refine top_to (v := (1)) S to4 ?_
    refine lv_if_ne (tgt := 44) S.1 S.2.1 dX5_falseShare_22 (by decide) (fun c5 => ?_) (fun c5 => ?_)
    · skip
      refine lv_fconst0 S.1 S.2.1 dX5_falseShare_44 ?_
      exact en_f (v := 0) ((z, o4) : St × St) hQ S hr hlk hw (by have hp : (if z 0 5 = 0 then (1 : Int32) else 0) = (1) := (by simp [c1]); rw [hp]; refine ⟨?_, rfl, ro4, to4⟩; intro h9; first | rfl | exact absurd c1 h9) dX5_falseShare_45
    · skip
      exact absurd c5 (by decide)
