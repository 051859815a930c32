theorem cpA {z y : St} {k : Nat} (h1 : ∀ j, j < k → z 1 j = y 1 j ∧ z 2 j = y 2 j ∧ z 3 j = y 3 j) (iy : Inv y) (hk : k < 8) : ∀ j, j < k + 1 → (st (st (st z 1 k (b2 (decide (y 1 k = 1)))) 2 k (b2 (decide (y 2 k = 1)))) 3 k (y 3 k)) 1 j = y 1 j ∧ (st (st (st z 1 k (b2 (decide (y 1 k = 1)))) 2 k (b2 (decide (y 2 k = 1)))) 3 k (y 3 k)) 2 j = y 2 j ∧ (st (st (st z 1 k (b2 (decide (y 1 k = 1)))) 2 k (b2 (decide (y 2 k = 1)))) 3 k (y 3 k)) 3 j = y 3 j := by
  intro j hj
  rw [← b2_of (iy.1 k hk), ← b2_of (iy.2.1 k hk)]
  simp only [st_at]
  by_cases e : j = k
  · subst e; simp
  · simp [e]; exact h1 j (by omega)
theorem cpB {z y t : St} {k : Nat} (h1 : ∀ j, j < k → z 9 j = y 9 j) (e : t = st z 9 k (b2 (decide (y 9 k = 1)))) (iy : Inv y) (hk : k < 64) : ∀ j, j < k + 1 → t 9 j = y 9 j := by
  intro j hj
  rw [e, ← b2_of (iy.2.2.1 k hk)]
  simp only [st_at]
  by_cases e : j = k
  · subst e; simp
  · simp [e]; exact h1 j (by omega)
theorem cp0 {z y t : St} (hN : NC z y t) : ∀ k, k < 10 → y 0 k = (st (st (st (st (st (st (st (st (st (st (sr (sr (sr (sr (sr t 4 (y 4)) 5 (y 5)) 6 (y 6)) 7 (y 7)) 8 (y 8)) 0 2 (y 0 2)) 0 3 (y 0 3)) 0 0 (y 0 0)) 0 9 (y 0 9)) 0 7 (y 0 7)) 0 4 (y 0 4)) 0 1 (y 0 1)) 0 5 (y 0 5)) 0 6 (y 0 6)) 0 8 (y 0 8)) 0 k := by
  intro k hk
  simp only [st_at]
  rcases (show k = 0 ∨ k = 1 ∨ k = 2 ∨ k = 3 ∨ k = 4 ∨ k = 5 ∨ k = 6 ∨ k = 7 ∨ k = 8 ∨ k = 9 by omega) with rfl | rfl | rfl | rfl | rfl | rfl | rfl | rfl | rfl | rfl <;> simp
theorem hd_X2_copyFrom : yX2_copyFrom.cls = RX2 ∧ yX2_copyFrom.cls ≠ "java/lang/invoke/MethodHandle" ∧ yX2_copyFrom.cls ≠ "java/lang/invoke/VarHandle" ∧ (parseMethodDescriptor yX2_copyFrom.desc).map (fun d => d.parameters.length) = some 1 := by decide +kernel
set_option maxHeartbeats 4000000 in
set_option maxRecDepth 100000 in
theorem c_X2_copyFrom (l : Launch) (G : GA) (a : Nat → Nat) (z : St) (y : St) (sz : Nat) (iy : Inv y) : Met l yX2_copyFrom wsX2_copyFrom ({ frames := 0, cells := 0, slots := 0, locals := 0 }) (va_Pc [.ref (a 1), .ref (a 13)] (PW G (w2 G a z y) sz)) (va_Qv (fun (u : St × St) => NC z y u.1 ∧ u.2 = y) (fun (u : St × St) t => va_P G.1 gcl (w2 G a u.1 u.2) t.heap) (va_A (w2 G a z y) sz)) 0 0 (va_A (w2 G a z y) sz) := by
  refine met_st (cc := cX2_copyFrom) (maxL := 3) (ret := none) (fun A => va_Qv (fun (u : St × St) => NC z y u.1 ∧ u.2 = y) (fun (u : St × St) t => va_P G.1 gcl (w2 G a u.1 u.2) t.heap) A) (by decide) rfl (Nat.le_of_ble_eq_true rfl) ?_
  intro p e s m args below meth c R Q A H ls hR hQ S hr hlk _ hK hsz hH hAe hA hw hl
  have hl : lv_has ls 3 [(0, .ref (a 1)), (1, .ref (a 13))] := hl
  have LX2 : ∀ w ∈ u_ws RX2 TX2 4, w.before args s = true := fun w h => S.2.2.2.2 w ((by decide +kernel : ∀ w ∈ u_ws RX2 TX2 4, w ∈ wsX2_copyFrom) w h)
  have k1 : (Cond.fieldLink RX2 22 "GossipMembership$Network" "cutLinks" "[Z").before args s = true := S.2.2.2.2 _ (by decide +kernel : (Cond.fieldLink RX2 22 "GossipMembership$Network" "cutLinks" "[Z") ∈ wsX2_copyFrom)
  have k2 : (Cond.fieldLink RX2 9 "GossipMembership$Network" "up" "[Z").before args s = true := S.2.2.2.2 _ (by decide +kernel : (Cond.fieldLink RX2 9 "GossipMembership$Network" "up" "[Z") ∈ wsX2_copyFrom)
  have k3 : (Cond.fieldLink RX2 15 "GossipMembership$Network" "everUp" "[Z").before args s = true := S.2.2.2.2 _ (by decide +kernel : (Cond.fieldLink RX2 15 "GossipMembership$Network" "everUp" "[Z") ∈ wsX2_copyFrom)
  have k4 : (Cond.fieldLink RX2 18 "GossipMembership$Network" "place" "[I").before args s = true := S.2.2.2.2 _ (by decide +kernel : (Cond.fieldLink RX2 18 "GossipMembership$Network" "place" "[I") ∈ wsX2_copyFrom)
  refine lv_iconst (v := 0) S.1 S.2.1 dX2_copyFrom_0 (by decide) ?_
  refine lv_istore_n (lv' := [(2, .int 0), (0, .ref (a 1)), (1, .ref (a 13))]) S.1 S.2.1 dX2_copyFrom_1 rfl hl (by decide) rfl (fun ls hl => ?_)
  have K2 : ∀ (fu : Nat) (k : Nat) (t : St) (H : Heap) (locs : List Loc) (ls : Array Slot), 8 - k < fu → k ≤ 8 → (∀ j, j < k → t 1 j = y 1 j ∧ t 2 j = y 2 j ∧ t 3 j = y 3 j) → (∀ f, ¬ f = 1 → ¬ f = 2 → ¬ f = 3 → t f = z f) → WD G (w2 G a t y) A s H locs → lv_has ls 3 [(0, .ref (a 1)), (1, .ref (a 13)), (2, .int (nI (k)))] → W p l e R s m args below meth c H locs 0 0 Q (F0 m 2 ls []) := by
    intro fu
    induction fu with
    | zero => exact fun _ _ _ _ _ h => absurd h (Nat.not_lt_zero _)
    | succ fu ih2 =>
      intro k t H locs ls hm2 hk h1 h2 hw hl
      refine lv_iload_n S.1 S.2.1 dX2_copyFrom_2 rfl (lv_at hl 2 rfl) ?_
      refine lv_bipush (v := 8) S.1 S.2.1 dX2_copyFrom_3 (by decide) ?_
      refine brN_ge (a := k) (b := 8) S (by omega) (by omega) (tgt := 50) dX2_copyFrom_5 (by decide) (fun c1 => ?_) (fun c1 => ?_)
      · skip
        have hk9 : k = 8 := by omega
        subst hk9
        refine lv_iconst (v := 0) S.1 S.2.1 dX2_copyFrom_50 (by decide) ?_
        refine lv_istore_n (lv' := [(2, .int 0), (0, .ref (a 1)), (1, .ref (a 13))]) S.1 S.2.1 dX2_copyFrom_51 rfl hl (by decide) rfl (fun ls hl => ?_)
        have K52 : ∀ (fu : Nat) (k : Nat) (t2 : St) (H : Heap) (locs : List Loc) (ls : Array Slot), 64 - k < fu → k ≤ 64 → (∀ j, j < k → t2 9 j = y 9 j) → (∀ f, ¬ f = 9 → t2 f = t f) → WD G (w2 G a t2 y) A s H locs → lv_has ls 3 [(0, .ref (a 1)), (1, .ref (a 13)), (2, .int (nI (k)))] → W p l e R s m args below meth c H locs 0 0 Q (F0 m 52 ls []) := by
          intro fu
          induction fu with
          | zero => exact fun _ _ _ _ _ h => absurd h (Nat.not_lt_zero _)
          | succ fu ih52 =>
            intro k t2 H locs ls hm52 hk h3 h4 hw hl
            refine lv_iload_n S.1 S.2.1 dX2_copyFrom_52 rfl (lv_at hl 2 rfl) ?_
            refine lv_bipush (v := 64) S.1 S.2.1 dX2_copyFrom_53 (by decide) ?_
            refine brN_ge (a := k) (b := 64) S (by omega) (by omega) (tgt := 76) dX2_copyFrom_55 (by decide) (fun c2 => ?_) (fun c2 => ?_)
            · skip
              have hk9 : k = 64 := by omega
              subst hk9
              exact en_v ((t2, y) : St × St) hQ S hr hlk hw (by exact ⟨⟨fun j hj => by show t2 1 j = y 1 j ∧ t2 2 j = y 2 j ∧ t2 3 j = y 3 j; rw [h4 1 (by decide), h4 2 (by decide), h4 3 (by decide)]; exact h1 j hj, h3, fun f e1 e2 e3 e9 => (h4 f e9).trans (h2 f e1 e2 e3)⟩, rfl⟩) dX2_copyFrom_76
            · skip
              refine lv_aload_n S.1 S.2.1 dX2_copyFrom_58 rfl (lv_at hl 0 rfl) ?_
              refine gt_X2_3 (v := .ref (a 5)) S hK hw 1 rfl rfl LX2 k1 dX2_copyFrom_59 ?_
              refine lv_iload_n S.1 S.2.1 dX2_copyFrom_62 rfl (lv_at hl 2 rfl) ?_
              refine lv_aload_n S.1 S.2.1 dX2_copyFrom_63 rfl (lv_at hl 1 rfl) ?_
              refine gt_X2_3 (v := .ref (a 17)) S hK hw 13 rfl rfl LX2 k1 dX2_copyFrom_64 ?_
              refine lv_iload_n S.1 S.2.1 dX2_copyFrom_67 rfl (lv_at hl 2 rfl) ?_
              refine ald_z (f := y 9) (k := k) S hK hw 17 rfl (by omega) (by decide) (iy.2.2.1 _ (by omega)) dX2_copyFrom_68 ?_
              refine ast_z (ws' := (w2 G a (st t2 9 (k) (b2 (decide (y 9 (k) = 1)))) y)) (k := k) S hK hw 5 rfl (by omega) (by decide) (b2_nar _) rfl dX2_copyFrom_69 (fun H locs hw => ?_)
              obtain ⟨z3, ez3⟩ : ∃ zz, zz = st t2 9 (k) (b2 (decide (y 9 (k) = 1))) := ⟨_, rfl⟩
              have hw : WD G (w2 G a z3 y) A s H locs := by rw [ez3]; exact hw
              refine lv_iinc (v := (nI (k + 1))) (lv' := [(2, .int (nI (k + 1))), (0, .ref (a 1)), (1, .ref (a 13))]) S.1 S.2.1 dX2_copyFrom_70 hl (k := 2) rfl (nI_add _ _) (by decide) rfl (fun ls hl => ?_)
              refine lv_goto (tgt := 52) S.1 S.2.1 dX2_copyFrom_73 (by decide) ?_
              exact ih52 (k + 1) (z3) _ _ _ (by omega) (by omega) (by exact cpB h3 ez3 iy (by omega)) (by exact fun f e9 => by subst ez3; rw [st_g _ _ _ _ _ e9]; exact h4 f e9) hw (lv_sub hl [1, 2, 0] rfl)
        exact K52 (65) (0) (t) _ _ _ (by omega) (by omega) (by exact fun j hj => absurd hj (Nat.not_lt_zero _)) (by exact fun _ _ => rfl) hw (lv_sub hl [1, 2, 0] rfl)
      · skip
        refine lv_aload_n S.1 S.2.1 dX2_copyFrom_8 rfl (lv_at hl 0 rfl) ?_
        refine gt_X2_0 (v := .ref (a 2)) S hK hw 1 rfl rfl LX2 k2 dX2_copyFrom_9 ?_
        refine lv_iload_n S.1 S.2.1 dX2_copyFrom_12 rfl (lv_at hl 2 rfl) ?_
        refine lv_aload_n S.1 S.2.1 dX2_copyFrom_13 rfl (lv_at hl 1 rfl) ?_
        refine gt_X2_0 (v := .ref (a 14)) S hK hw 13 rfl rfl LX2 k2 dX2_copyFrom_14 ?_
        refine lv_iload_n S.1 S.2.1 dX2_copyFrom_17 rfl (lv_at hl 2 rfl) ?_
        refine ald_z (f := y 1) (k := k) S hK hw 14 rfl (by omega) (by decide) (iy.1 _ (by omega)) dX2_copyFrom_18 ?_
        refine ast_z (ws' := (w2 G a (st t 1 (k) (b2 (decide (y 1 (k) = 1)))) y)) (k := k) S hK hw 2 rfl (by omega) (by decide) (b2_nar _) rfl dX2_copyFrom_19 (fun H locs hw => ?_)
        obtain ⟨z4, ez4⟩ : ∃ zz, zz = st t 1 (k) (b2 (decide (y 1 (k) = 1))) := ⟨_, rfl⟩
        have hw : WD G (w2 G a z4 y) A s H locs := by rw [ez4]; exact hw
        refine lv_aload_n S.1 S.2.1 dX2_copyFrom_20 rfl (lv_at hl 0 rfl) ?_
        refine gt_X2_1 (v := .ref (a 3)) S hK hw 1 rfl rfl LX2 k3 dX2_copyFrom_21 ?_
        refine lv_iload_n S.1 S.2.1 dX2_copyFrom_24 rfl (lv_at hl 2 rfl) ?_
        refine lv_aload_n S.1 S.2.1 dX2_copyFrom_25 rfl (lv_at hl 1 rfl) ?_
        refine gt_X2_1 (v := .ref (a 15)) S hK hw 13 rfl rfl LX2 k3 dX2_copyFrom_26 ?_
        refine lv_iload_n S.1 S.2.1 dX2_copyFrom_29 rfl (lv_at hl 2 rfl) ?_
        refine ald_z (f := y 2) (k := k) S hK hw 15 rfl (by omega) (by decide) (iy.2.1 _ (by omega)) dX2_copyFrom_30 ?_
        refine ast_z (ws' := (w2 G a (st z4 2 (k) (b2 (decide (y 2 (k) = 1)))) y)) (k := k) S hK hw 3 rfl (by omega) (by decide) (b2_nar _) rfl dX2_copyFrom_31 (fun H locs hw => ?_)
        obtain ⟨z5, ez5⟩ : ∃ zz, zz = st z4 2 (k) (b2 (decide (y 2 (k) = 1))) := ⟨_, rfl⟩
        have hw : WD G (w2 G a z5 y) A s H locs := by rw [ez5]; exact hw
        refine lv_aload_n S.1 S.2.1 dX2_copyFrom_32 rfl (lv_at hl 0 rfl) ?_
        refine gt_X2_2 (v := .ref (a 4)) S hK hw 1 rfl rfl LX2 k4 dX2_copyFrom_33 ?_
        refine lv_iload_n S.1 S.2.1 dX2_copyFrom_36 rfl (lv_at hl 2 rfl) ?_
        refine lv_aload_n S.1 S.2.1 dX2_copyFrom_37 rfl (lv_at hl 1 rfl) ?_
        refine gt_X2_2 (v := .ref (a 16)) S hK hw 13 rfl rfl LX2 k4 dX2_copyFrom_38 ?_
        refine lv_iload_n S.1 S.2.1 dX2_copyFrom_41 rfl (lv_at hl 2 rfl) ?_
        refine ald_i (v := y 3 (k)) (k := k) S hK hw 16 rfl (by omega) (by decide) rfl dX2_copyFrom_42 ?_
        refine ast_i (ws' := (w2 G a (st z5 3 (k) (y 3 (k))) y)) (k := k) S hK hw 4 rfl (by omega) (by decide) rfl dX2_copyFrom_43 (fun H locs hw => ?_)
        obtain ⟨z6, ez6⟩ : ∃ zz, zz = st z5 3 (k) (y 3 (k)) := ⟨_, rfl⟩
        have hw : WD G (w2 G a z6 y) A s H locs := by rw [ez6]; exact hw
        refine lv_iinc (v := (nI (k + 1))) (lv' := [(2, .int (nI (k + 1))), (0, .ref (a 1)), (1, .ref (a 13))]) S.1 S.2.1 dX2_copyFrom_44 hl (k := 2) rfl (nI_add _ _) (by decide) rfl (fun ls hl => ?_)
        refine lv_goto (tgt := 2) S.1 S.2.1 dX2_copyFrom_47 (by decide) ?_
        exact ih2 (k + 1) (z6) _ _ _ (by omega) (by omega) (by subst ez6 ez5 ez4; exact cpA h1 iy (by omega)) (by exact fun f e1 e2 e3 => by subst ez6 ez5 ez4; rw [st_g _ _ _ _ _ e3, st_g _ _ _ _ _ e2, st_g _ _ _ _ _ e1]; exact h2 f e1 e2 e3) hw (lv_sub hl [1, 2, 0] rfl)
  exact K2 (9) (0) (z) _ _ _ (by omega) (by omega) (by exact fun j hj => absurd hj (Nat.not_lt_zero _)) (by exact fun _ _ _ _ => rfl) hw (lv_sub hl [1, 2, 0] rfl)

theorem hd_X1_copyFrom : yX1_copyFrom.cls = RX1 ∧ yX1_copyFrom.cls ≠ "java/lang/invoke/MethodHandle" ∧ yX1_copyFrom.cls ≠ "java/lang/invoke/VarHandle" ∧ (parseMethodDescriptor yX1_copyFrom.desc).map (fun d => d.parameters.length) = some 1 := by decide +kernel
set_option maxHeartbeats 4000000 in
set_option maxRecDepth 100000 in
theorem c_X1_copyFrom (l : Launch) (G : GA) (a : Nat → Nat) (z : St) (y : St) (sz : Nat) : Met l yX1_copyFrom wsX1_copyFrom ({ frames := 1, cells := 0, slots := 0, locals := 60 }) (va_Pc [.ref (a 6), .ref (a 18)] (PW G (w2 G a z y) sz)) (va_Qv (fun (u : St × St) => u.1 = (st (st (st (st (st (sr (sr (sr (sr (sr z 4 (y 4)) 5 (y 5)) 6 (y 6)) 7 (y 7)) 8 (y 8)) 0 2 (y 0 2)) 0 3 (y 0 3)) 0 0 (y 0 0)) 0 9 (y 0 9)) 0 7 (y 0 7)) ∧ u.2 = y) (fun (u : St × St) t => va_P G.1 gcl (w2 G a u.1 u.2) t.heap) (va_A (w2 G a z y) sz)) 0 0 (va_A (w2 G a z y) sz) := by
  refine met_st (cc := cX1_copyFrom) (maxL := 2) (ret := none) (fun A => va_Qv (fun (u : St × St) => u.1 = (st (st (st (st (st (sr (sr (sr (sr (sr z 4 (y 4)) 5 (y 5)) 6 (y 6)) 7 (y 7)) 8 (y 8)) 0 2 (y 0 2)) 0 3 (y 0 3)) 0 0 (y 0 0)) 0 9 (y 0 9)) 0 7 (y 0 7)) ∧ u.2 = y) (fun (u : St × St) t => va_P G.1 gcl (w2 G a u.1 u.2) t.heap) A) (by decide) rfl (Nat.le_of_ble_eq_true rfl) ?_
  intro p e s m args below meth c R Q A H ls hR hQ S hr hlk _ hK hsz hH hAe hA hw hl
  have hl : lv_has ls 2 [(0, .ref (a 6)), (1, .ref (a 18))] := hl
  have LX1 : ∀ w ∈ u_ws RX1 TX1 10, w.before args s = true := fun w h => S.2.2.2.2 w ((by decide +kernel : ∀ w ∈ u_ws RX1 TX1 10, w ∈ wsX1_copyFrom) w h)
  have k1 : (Cond.fieldLink RX1 9 "GossipMembership$Knowledge" "ownIncarnation" "[I").before args s = true := S.2.2.2.2 _ (by decide +kernel : (Cond.fieldLink RX1 9 "GossipMembership$Knowledge" "ownIncarnation" "[I") ∈ wsX1_copyFrom)
  have k2 : (Cond.methodLink RX1 62 arraycopyName).before args s = true := S.2.2.2.2 _ (by decide +kernel : (Cond.methodLink RX1 62 arraycopyName) ∈ wsX1_copyFrom)
  have k3 : (Cond.native arraycopyName).before args s = true := S.2.2.2.2 _ (by decide +kernel : (Cond.native arraycopyName) ∈ wsX1_copyFrom)
  have k4 : (Cond.static arraycopyName).before args s = true := S.2.2.2.2 _ (by decide +kernel : (Cond.static arraycopyName) ∈ wsX1_copyFrom)
  have k5 : (Cond.initialized "java/lang/System").before args s = true := S.2.2.2.2 _ (by decide +kernel : (Cond.initialized "java/lang/System") ∈ wsX1_copyFrom)
  have k6 : (Cond.fieldLink RX1 15 "GossipMembership$Knowledge" "state" "[I").before args s = true := S.2.2.2.2 _ (by decide +kernel : (Cond.fieldLink RX1 15 "GossipMembership$Knowledge" "state" "[I") ∈ wsX1_copyFrom)
  have k7 : (Cond.fieldLink RX1 18 "GossipMembership$Knowledge" "incarnations" "[I").before args s = true := S.2.2.2.2 _ (by decide +kernel : (Cond.fieldLink RX1 18 "GossipMembership$Knowledge" "incarnations" "[I") ∈ wsX1_copyFrom)
  have k8 : (Cond.fieldLink RX1 21 "GossipMembership$Knowledge" "deadlines" "[I").before args s = true := S.2.2.2.2 _ (by decide +kernel : (Cond.fieldLink RX1 21 "GossipMembership$Knowledge" "deadlines" "[I") ∈ wsX1_copyFrom)
  have k9 : (Cond.fieldLink RX1 24 "GossipMembership$Knowledge" "counters" "[I").before args s = true := S.2.2.2.2 _ (by decide +kernel : (Cond.fieldLink RX1 24 "GossipMembership$Knowledge" "counters" "[I") ∈ wsX1_copyFrom)
  have k10 : (Cond.fieldLink RX1 27 "GossipMembership$Knowledge" "patience" "I").before args s = true := S.2.2.2.2 _ (by decide +kernel : (Cond.fieldLink RX1 27 "GossipMembership$Knowledge" "patience" "I") ∈ wsX1_copyFrom)
  have k11 : (Cond.fieldLink RX1 31 "GossipMembership$Knowledge" "fanOut" "I").before args s = true := S.2.2.2.2 _ (by decide +kernel : (Cond.fieldLink RX1 31 "GossipMembership$Knowledge" "fanOut" "I") ∈ wsX1_copyFrom)
  have k12 : (Cond.fieldLink RX1 34 "GossipMembership$Knowledge" "presentRound" "I").before args s = true := S.2.2.2.2 _ (by decide +kernel : (Cond.fieldLink RX1 34 "GossipMembership$Knowledge" "presentRound" "I") ∈ wsX1_copyFrom)
  have k13 : (Cond.fieldLink RX1 37 "GossipMembership$Knowledge" "lastUnquietRound" "I").before args s = true := S.2.2.2.2 _ (by decide +kernel : (Cond.fieldLink RX1 37 "GossipMembership$Knowledge" "lastUnquietRound" "I") ∈ wsX1_copyFrom)
  have k14 : (Cond.fieldLink RX1 44 "GossipMembership$Knowledge" "refuted" "I").before args s = true := S.2.2.2.2 _ (by decide +kernel : (Cond.fieldLink RX1 44 "GossipMembership$Knowledge" "refuted" "I") ∈ wsX1_copyFrom)
  refine lv_aload_n S.1 S.2.1 dX1_copyFrom_0 rfl (lv_at hl 1 rfl) ?_
  refine gt_X1_0 (v := .ref (a 19)) S hK hw 18 rfl rfl LX1 k1 dX1_copyFrom_1 ?_
  refine lv_iconst (v := 0) S.1 S.2.1 dX1_copyFrom_4 (by decide) ?_
  refine lv_aload_n S.1 S.2.1 dX1_copyFrom_5 rfl (lv_at hl 0 rfl) ?_
  refine gt_X1_0 (v := .ref (a 7)) S hK hw 6 rfl rfl LX1 k1 dX1_copyFrom_6 ?_
  refine lv_iconst (v := 0) S.1 S.2.1 dX1_copyFrom_9 (by decide) ?_
  refine lv_bipush (v := 8) S.1 S.2.1 dX1_copyFrom_10 (by decide) ?_
  refine ac_i (ws' := (w2 G a (sr z 4 (y 4)) y)) S hl.1 hK hw k2 k3 k4 k5 19 7 rfl rfl (by decide) rfl rfl (by rw [hR]; exact Nat.le_of_ble_eq_true rfl) (by rw [hR]; exact Nat.le_of_ble_eq_true rfl) dX1_copyFrom_12 (fun H locs hw => ?_)
  obtain ⟨z1, ez1⟩ : ∃ zz, zz = sr z 4 (y 4) := ⟨_, rfl⟩
  have hw : WD G (w2 G a z1 y) A s H locs := by rw [ez1]; exact hw
  refine lv_aload_n S.1 S.2.1 dX1_copyFrom_15 rfl (lv_at hl 1 rfl) ?_
  refine gt_X1_1 (v := .ref (a 20)) S hK hw 18 rfl rfl LX1 k6 dX1_copyFrom_16 ?_
  refine lv_iconst (v := 0) S.1 S.2.1 dX1_copyFrom_19 (by decide) ?_
  refine lv_aload_n S.1 S.2.1 dX1_copyFrom_20 rfl (lv_at hl 0 rfl) ?_
  refine gt_X1_1 (v := .ref (a 8)) S hK hw 6 rfl rfl LX1 k6 dX1_copyFrom_21 ?_
  refine lv_iconst (v := 0) S.1 S.2.1 dX1_copyFrom_24 (by decide) ?_
  refine lv_bipush (v := 64) S.1 S.2.1 dX1_copyFrom_25 (by decide) ?_
  refine ac_i (ws' := (w2 G a (sr z1 5 (y 5)) y)) S hl.1 hK hw k2 k3 k4 k5 20 8 rfl rfl (by decide) rfl rfl (by rw [hR]; exact Nat.le_of_ble_eq_true rfl) (by rw [hR]; exact Nat.le_of_ble_eq_true rfl) dX1_copyFrom_27 (fun H locs hw => ?_)
  obtain ⟨z2, ez2⟩ : ∃ zz, zz = sr z1 5 (y 5) := ⟨_, rfl⟩
  have hw : WD G (w2 G a z2 y) A s H locs := by rw [ez2]; exact hw
  refine lv_aload_n S.1 S.2.1 dX1_copyFrom_30 rfl (lv_at hl 1 rfl) ?_
  refine gt_X1_2 (v := .ref (a 21)) S hK hw 18 rfl rfl LX1 k7 dX1_copyFrom_31 ?_
  refine lv_iconst (v := 0) S.1 S.2.1 dX1_copyFrom_34 (by decide) ?_
  refine lv_aload_n S.1 S.2.1 dX1_copyFrom_35 rfl (lv_at hl 0 rfl) ?_
  refine gt_X1_2 (v := .ref (a 9)) S hK hw 6 rfl rfl LX1 k7 dX1_copyFrom_36 ?_
  refine lv_iconst (v := 0) S.1 S.2.1 dX1_copyFrom_39 (by decide) ?_
  refine lv_bipush (v := 64) S.1 S.2.1 dX1_copyFrom_40 (by decide) ?_
  refine ac_i (ws' := (w2 G a (sr z2 6 (y 6)) y)) S hl.1 hK hw k2 k3 k4 k5 21 9 rfl rfl (by decide) rfl rfl (by rw [hR]; exact Nat.le_of_ble_eq_true rfl) (by rw [hR]; exact Nat.le_of_ble_eq_true rfl) dX1_copyFrom_42 (fun H locs hw => ?_)
  obtain ⟨z3, ez3⟩ : ∃ zz, zz = sr z2 6 (y 6) := ⟨_, rfl⟩
  have hw : WD G (w2 G a z3 y) A s H locs := by rw [ez3]; exact hw
  refine lv_aload_n S.1 S.2.1 dX1_copyFrom_45 rfl (lv_at hl 1 rfl) ?_
  refine gt_X1_3 (v := .ref (a 22)) S hK hw 18 rfl rfl LX1 k8 dX1_copyFrom_46 ?_
  refine lv_iconst (v := 0) S.1 S.2.1 dX1_copyFrom_49 (by decide) ?_
  refine lv_aload_n S.1 S.2.1 dX1_copyFrom_50 rfl (lv_at hl 0 rfl) ?_
  refine gt_X1_3 (v := .ref (a 10)) S hK hw 6 rfl rfl LX1 k8 dX1_copyFrom_51 ?_
  refine lv_iconst (v := 0) S.1 S.2.1 dX1_copyFrom_54 (by decide) ?_
  refine lv_bipush (v := 64) S.1 S.2.1 dX1_copyFrom_55 (by decide) ?_
  refine ac_i (ws' := (w2 G a (sr z3 7 (y 7)) y)) S hl.1 hK hw k2 k3 k4 k5 22 10 rfl rfl (by decide) rfl rfl (by rw [hR]; exact Nat.le_of_ble_eq_true rfl) (by rw [hR]; exact Nat.le_of_ble_eq_true rfl) dX1_copyFrom_57 (fun H locs hw => ?_)
  obtain ⟨z4, ez4⟩ : ∃ zz, zz = sr z3 7 (y 7) := ⟨_, rfl⟩
  have hw : WD G (w2 G a z4 y) A s H locs := by rw [ez4]; exact hw
  refine lv_aload_n S.1 S.2.1 dX1_copyFrom_60 rfl (lv_at hl 1 rfl) ?_
  refine gt_X1_4 (v := .ref (a 23)) S hK hw 18 rfl rfl LX1 k9 dX1_copyFrom_61 ?_
  refine lv_iconst (v := 0) S.1 S.2.1 dX1_copyFrom_64 (by decide) ?_
  refine lv_aload_n S.1 S.2.1 dX1_copyFrom_65 rfl (lv_at hl 0 rfl) ?_
  refine gt_X1_4 (v := .ref (a 11)) S hK hw 6 rfl rfl LX1 k9 dX1_copyFrom_66 ?_
  refine lv_iconst (v := 0) S.1 S.2.1 dX1_copyFrom_69 (by decide) ?_
  refine lv_bipush (v := 64) S.1 S.2.1 dX1_copyFrom_70 (by decide) ?_
  refine ac_i (ws' := (w2 G a (sr z4 8 (y 8)) y)) S hl.1 hK hw k2 k3 k4 k5 23 11 rfl rfl (by decide) rfl rfl (by rw [hR]; exact Nat.le_of_ble_eq_true rfl) (by rw [hR]; exact Nat.le_of_ble_eq_true rfl) dX1_copyFrom_72 (fun H locs hw => ?_)
  obtain ⟨z5, ez5⟩ : ∃ zz, zz = sr z4 8 (y 8) := ⟨_, rfl⟩
  have hw : WD G (w2 G a z5 y) A s H locs := by rw [ez5]; exact hw
  refine lv_aload_n S.1 S.2.1 dX1_copyFrom_75 rfl (lv_at hl 0 rfl) ?_
  refine lv_aload_n S.1 S.2.1 dX1_copyFrom_76 rfl (lv_at hl 1 rfl) ?_
  refine gt_X1_5 (v := .int (y 0 2)) S hK hw 18 rfl rfl LX1 k10 dX1_copyFrom_77 ?_
  refine pt_X1_5 (ws' := (w2 G a (st z5 0 2 (y 0 2)) y)) S hK hw 6 rfl LX1 k10 rfl (Nat.le_of_ble_eq_true rfl) dX1_copyFrom_80 (fun H locs hw => ?_)
  obtain ⟨z6, ez6⟩ : ∃ zz, zz = st z5 0 2 (y 0 2) := ⟨_, rfl⟩
  have hw : WD G (w2 G a z6 y) A s H locs := by rw [ez6]; exact hw
  refine lv_aload_n S.1 S.2.1 dX1_copyFrom_83 rfl (lv_at hl 0 rfl) ?_
  refine lv_aload_n S.1 S.2.1 dX1_copyFrom_84 rfl (lv_at hl 1 rfl) ?_
  refine gt_X1_6 (v := .int (y 0 3)) S hK hw 18 rfl rfl LX1 k11 dX1_copyFrom_85 ?_
  refine pt_X1_6 (ws' := (w2 G a (st z6 0 3 (y 0 3)) y)) S hK hw 6 rfl LX1 k11 rfl (Nat.le_of_ble_eq_true rfl) dX1_copyFrom_88 (fun H locs hw => ?_)
  obtain ⟨z7, ez7⟩ : ∃ zz, zz = st z6 0 3 (y 0 3) := ⟨_, rfl⟩
  have hw : WD G (w2 G a z7 y) A s H locs := by rw [ez7]; exact hw
  refine lv_aload_n S.1 S.2.1 dX1_copyFrom_91 rfl (lv_at hl 0 rfl) ?_
  refine lv_aload_n S.1 S.2.1 dX1_copyFrom_92 rfl (lv_at hl 1 rfl) ?_
  refine gt_X1_7 (v := .int (y 0 0)) S hK hw 18 rfl rfl LX1 k12 dX1_copyFrom_93 ?_
  refine pt_X1_7 (ws' := (w2 G a (st z7 0 0 (y 0 0)) y)) S hK hw 6 rfl LX1 k12 rfl (Nat.le_of_ble_eq_true rfl) dX1_copyFrom_96 (fun H locs hw => ?_)
  obtain ⟨z8, ez8⟩ : ∃ zz, zz = st z7 0 0 (y 0 0) := ⟨_, rfl⟩
  have hw : WD G (w2 G a z8 y) A s H locs := by rw [ez8]; exact hw
  refine lv_aload_n S.1 S.2.1 dX1_copyFrom_99 rfl (lv_at hl 0 rfl) ?_
  refine lv_aload_n S.1 S.2.1 dX1_copyFrom_100 rfl (lv_at hl 1 rfl) ?_
  refine gt_X1_8 (v := .int (y 0 9)) S hK hw 18 rfl rfl LX1 k13 dX1_copyFrom_101 ?_
  refine pt_X1_8 (ws' := (w2 G a (st z8 0 9 (y 0 9)) y)) S hK hw 6 rfl LX1 k13 rfl (Nat.le_of_ble_eq_true rfl) dX1_copyFrom_104 (fun H locs hw => ?_)
  obtain ⟨z9, ez9⟩ : ∃ zz, zz = st z8 0 9 (y 0 9) := ⟨_, rfl⟩
  have hw : WD G (w2 G a z9 y) A s H locs := by rw [ez9]; exact hw
  refine lv_aload_n S.1 S.2.1 dX1_copyFrom_107 rfl (lv_at hl 0 rfl) ?_
  refine lv_aload_n S.1 S.2.1 dX1_copyFrom_108 rfl (lv_at hl 1 rfl) ?_
  refine gt_X1_9 (v := .int (y 0 7)) S hK hw 18 rfl rfl LX1 k14 dX1_copyFrom_109 ?_
  refine pt_X1_9 (ws' := (w2 G a (st z9 0 7 (y 0 7)) y)) S hK hw 6 rfl LX1 k14 rfl (Nat.le_of_ble_eq_true rfl) dX1_copyFrom_112 (fun H locs hw => ?_)
  obtain ⟨z10, ez10⟩ : ∃ zz, zz = st z9 0 7 (y 0 7) := ⟨_, rfl⟩
  have hw : WD G (w2 G a z10 y) A s H locs := by rw [ez10]; exact hw
  exact en_v ((z10, y) : St × St) hQ S hr hlk hw (by subst ez10 ez9 ez8 ez7 ez6 ez5 ez4 ez3 ez2 ez1; exact ⟨rfl, rfl⟩) dX1_copyFrom_115

theorem hd_X3_copyFrom : yX3_copyFrom.cls = RX3 ∧ yX3_copyFrom.cls ≠ "java/lang/invoke/MethodHandle" ∧ yX3_copyFrom.cls ≠ "java/lang/invoke/VarHandle" ∧ (parseMethodDescriptor yX3_copyFrom.desc).map (fun d => d.parameters.length) = some 1 := by decide +kernel
set_option maxHeartbeats 4000000 in
set_option maxRecDepth 100000 in
theorem c_X3_copyFrom (l : Launch) (G : GA) (a : Nat → Nat) (z : St) (y : St) (sz : Nat) (iy : Inv y) : Met l yX3_copyFrom wsX3_copyFrom ({ frames := 2, cells := 0, slots := 0, locals := 81 }) (va_Pc [.ref (a 0), .ref (a 12)] (PW G (w2 G a z y) sz)) (va_Qv (fun (u : St × St) => u.1 = y ∧ u.2 = y) (fun (u : St × St) t => va_P G.1 gcl (w2 G a u.1 u.2) t.heap) (va_A (w2 G a z y) sz)) 0 0 (va_A (w2 G a z y) sz) := by
  refine met_st (cc := cX3_copyFrom) (maxL := 2) (ret := none) (fun A => va_Qv (fun (u : St × St) => u.1 = y ∧ u.2 = y) (fun (u : St × St) t => va_P G.1 gcl (w2 G a u.1 u.2) t.heap) A) (by decide) rfl (Nat.le_of_ble_eq_true rfl) ?_
  intro p e s m args below meth c R Q A H ls hR hQ S hr hlk _ hK hsz hH hAe hA hw hl
  have hl : lv_has ls 2 [(0, .ref (a 0)), (1, .ref (a 12))] := hl
  have LX3 : ∀ w ∈ u_ws RX3 TX3 7, w.before args s = true := fun w h => S.2.2.2.2 w ((by decide +kernel : ∀ w ∈ u_ws RX3 TX3 7, w ∈ wsX3_copyFrom) w h)
  have k1 : (Cond.fieldLink RX3 12 "GossipMembership$World" "network" "LGossipMembership$Network;").before args s = true := S.2.2.2.2 _ (by decide +kernel : (Cond.fieldLink RX3 12 "GossipMembership$World" "network" "LGossipMembership$Network;") ∈ wsX3_copyFrom)
  have k2 : (Cond.fieldLink RX3 21 "GossipMembership$World" "knowledge" "LGossipMembership$Knowledge;").before args s = true := S.2.2.2.2 _ (by decide +kernel : (Cond.fieldLink RX3 21 "GossipMembership$World" "knowledge" "LGossipMembership$Knowledge;") ∈ wsX3_copyFrom)
  have k3 : (Cond.fieldLink RX3 25 "GossipMembership$World" "helpers" "I").before args s = true := S.2.2.2.2 _ (by decide +kernel : (Cond.fieldLink RX3 25 "GossipMembership$World" "helpers" "I") ∈ wsX3_copyFrom)
  have k4 : (Cond.fieldLink RX3 29 "GossipMembership$World" "drawSeed" "I").before args s = true := S.2.2.2.2 _ (by decide +kernel : (Cond.fieldLink RX3 29 "GossipMembership$World" "drawSeed" "I") ∈ wsX3_copyFrom)
  have k5 : (Cond.fieldLink RX3 94 "GossipMembership$World" "declared" "I").before args s = true := S.2.2.2.2 _ (by decide +kernel : (Cond.fieldLink RX3 94 "GossipMembership$World" "declared" "I") ∈ wsX3_copyFrom)
  have k6 : (Cond.fieldLink RX3 97 "GossipMembership$World" "declaredFalsely" "I").before args s = true := S.2.2.2.2 _ (by decide +kernel : (Cond.fieldLink RX3 97 "GossipMembership$World" "declaredFalsely" "I") ∈ wsX3_copyFrom)
  have k7 : (Cond.fieldLink RX3 117 "GossipMembership$World" "messagesSent" "I").before args s = true := S.2.2.2.2 _ (by decide +kernel : (Cond.fieldLink RX3 117 "GossipMembership$World" "messagesSent" "I") ∈ wsX3_copyFrom)
  refine lv_aload_n S.1 S.2.1 dX3_copyFrom_0 rfl (lv_at hl 0 rfl) ?_
  refine gt_X3_0 (v := .ref (a 1)) S hK hw 0 rfl rfl LX3 k1 dX3_copyFrom_1 ?_
  refine lv_aload_n S.1 S.2.1 dX3_copyFrom_4 rfl (lv_at hl 1 rfl) ?_
  refine gt_X3_0 (v := .ref (a 13)) S hK hw 12 rfl rfl LX3 k1 dX3_copyFrom_5 ?_
  refine cl_v (va_runV (As := [.ref (a 13)]) (rest := []) S (c_X2_copyFrom l G a z y H.size  (by exact iy)) (cwV 1 S.2.2.2.2 gX3_copyFrom_X2_copyFrom rfl rfl rfl hd_X2_copyFrom ⟨by rw [hR]; exact Nat.le_of_ble_eq_true rfl, by rw [hR]; exact Nat.le_of_ble_eq_true rfl⟩) ⟨PW.blind, va_recv hK.1 hw.1 (ci := 2) (q0 := 1) rfl rfl, fun U hU hW => ⟨rfl, PW.of hK hw hU hW⟩⟩ rfl rfl hl.1 rfl (lv_room (Nat.le_of_ble_eq_true rfl)) dX3_copyFrom_8 ⟨Nat.zero_le _, Nat.zero_le _⟩) hw hA (fun _ => rfl) (fun z2 H locs h3 hw => ?_)
  obtain ⟨z4, o5⟩ := z2
  try dsimp only at h3 hw
  obtain ⟨hN9, qo5⟩ := h3
  rw [qo5] at hw
  refine lv_aload_n S.1 S.2.1 dX3_copyFrom_11 rfl (lv_at hl 0 rfl) ?_
  refine gt_X3_1 (v := .ref (a 6)) S hK hw 0 rfl rfl LX3 k2 dX3_copyFrom_12 ?_
  refine lv_aload_n S.1 S.2.1 dX3_copyFrom_15 rfl (lv_at hl 1 rfl) ?_
  refine gt_X3_1 (v := .ref (a 18)) S hK hw 12 rfl rfl LX3 k2 dX3_copyFrom_16 ?_
  refine cl_v (va_runV (As := [.ref (a 18)]) (rest := []) S (c_X1_copyFrom l G a z4 y H.size  ) (cwV 1 S.2.2.2.2 gX3_copyFrom_X1_copyFrom rfl rfl rfl hd_X1_copyFrom ⟨by rw [hR]; exact Nat.le_of_ble_eq_true rfl, by rw [hR]; exact Nat.le_of_ble_eq_true rfl⟩) ⟨PW.blind, va_recv hK.1 hw.1 (ci := 1) (q0 := 6) rfl rfl, fun U hU hW => ⟨rfl, PW.of hK hw hU hW⟩⟩ rfl rfl hl.1 rfl (lv_room (Nat.le_of_ble_eq_true rfl)) dX3_copyFrom_19 ⟨Nat.zero_le _, Nat.zero_le _⟩) hw hA (fun _ => rfl) (fun z7 H locs h8 hw => ?_)
  obtain ⟨z9, o10⟩ := z7
  try dsimp only at h8 hw
  obtain ⟨ez9, qo10⟩ := h8
  rw [qo10] at hw
  refine lv_aload_n S.1 S.2.1 dX3_copyFrom_22 rfl (lv_at hl 0 rfl) ?_
  refine lv_aload_n S.1 S.2.1 dX3_copyFrom_23 rfl (lv_at hl 1 rfl) ?_
  refine gt_X3_2 (v := .int (y 0 4)) S hK hw 12 rfl rfl LX3 k3 dX3_copyFrom_24 ?_
  refine pt_X3_2 (ws' := (w2 G a (st z9 0 4 (y 0 4)) y)) S hK hw 0 rfl LX3 k3 rfl (Nat.le_of_ble_eq_true rfl) dX3_copyFrom_27 (fun H locs hw => ?_)
  obtain ⟨z11, ez11⟩ : ∃ zz, zz = st z9 0 4 (y 0 4) := ⟨_, rfl⟩
  have hw : WD G (w2 G a z11 y) A s H locs := by rw [ez11]; exact hw
  refine lv_aload_n S.1 S.2.1 dX3_copyFrom_30 rfl (lv_at hl 0 rfl) ?_
  refine lv_aload_n S.1 S.2.1 dX3_copyFrom_31 rfl (lv_at hl 1 rfl) ?_
  refine gt_X3_3 (v := .int (y 0 1)) S hK hw 12 rfl rfl LX3 k4 dX3_copyFrom_32 ?_
  refine pt_X3_3 (ws' := (w2 G a (st z11 0 1 (y 0 1)) y)) S hK hw 0 rfl LX3 k4 rfl (Nat.le_of_ble_eq_true rfl) dX3_copyFrom_35 (fun H locs hw => ?_)
  obtain ⟨z12, ez12⟩ : ∃ zz, zz = st z11 0 1 (y 0 1) := ⟨_, rfl⟩
  have hw : WD G (w2 G a z12 y) A s H locs := by rw [ez12]; exact hw
  refine lv_aload_n S.1 S.2.1 dX3_copyFrom_38 rfl (lv_at hl 0 rfl) ?_
  refine lv_aload_n S.1 S.2.1 dX3_copyFrom_39 rfl (lv_at hl 1 rfl) ?_
  refine gt_X3_4 (v := .int (y 0 5)) S hK hw 12 rfl rfl LX3 k5 dX3_copyFrom_40 ?_
  refine pt_X3_4 (ws' := (w2 G a (st z12 0 5 (y 0 5)) y)) S hK hw 0 rfl LX3 k5 rfl (Nat.le_of_ble_eq_true rfl) dX3_copyFrom_43 (fun H locs hw => ?_)
  obtain ⟨z13, ez13⟩ : ∃ zz, zz = st z12 0 5 (y 0 5) := ⟨_, rfl⟩
  have hw : WD G (w2 G a z13 y) A s H locs := by rw [ez13]; exact hw
  refine lv_aload_n S.1 S.2.1 dX3_copyFrom_46 rfl (lv_at hl 0 rfl) ?_
  refine lv_aload_n S.1 S.2.1 dX3_copyFrom_47 rfl (lv_at hl 1 rfl) ?_
  refine gt_X3_5 (v := .int (y 0 6)) S hK hw 12 rfl rfl LX3 k6 dX3_copyFrom_48 ?_
  refine pt_X3_5 (ws' := (w2 G a (st z13 0 6 (y 0 6)) y)) S hK hw 0 rfl LX3 k6 rfl (Nat.le_of_ble_eq_true rfl) dX3_copyFrom_51 (fun H locs hw => ?_)
  obtain ⟨z14, ez14⟩ : ∃ zz, zz = st z13 0 6 (y 0 6) := ⟨_, rfl⟩
  have hw : WD G (w2 G a z14 y) A s H locs := by rw [ez14]; exact hw
  refine lv_aload_n S.1 S.2.1 dX3_copyFrom_54 rfl (lv_at hl 0 rfl) ?_
  refine lv_aload_n S.1 S.2.1 dX3_copyFrom_55 rfl (lv_at hl 1 rfl) ?_
  refine gt_X3_6 (v := .int (y 0 8)) S hK hw 12 rfl rfl LX3 k7 dX3_copyFrom_56 ?_
  refine pt_X3_6 (ws' := (w2 G a (st z14 0 8 (y 0 8)) y)) S hK hw 0 rfl LX3 k7 rfl (Nat.le_of_ble_eq_true rfl) dX3_copyFrom_59 (fun H locs hw => ?_)
  obtain ⟨z15, ez15⟩ : ∃ zz, zz = st z14 0 8 (y 0 8) := ⟨_, rfl⟩
  have hw : WD G (w2 G a z15 y) A s H locs := by rw [ez15]; exact hw
  have hw : WD G (w2 G a y y) A s H locs := wd_w2 hw (fun k hk => by rw [ez15, ez14, ez13, ez12, ez11, ez9]; exact cp0 hN9 k hk) (fun k hk => by rw [ez15, ez14, ez13, ez12, ez11, ez9]; exact ((hN9.1 k hk).1).symm) (fun k hk => by rw [ez15, ez14, ez13, ez12, ez11, ez9]; exact ((hN9.1 k hk).2.1).symm) (fun k hk => by rw [ez15, ez14, ez13, ez12, ez11, ez9]; exact ((hN9.1 k hk).2.2).symm) (fun k hk => by rw [ez15, ez14, ez13, ez12, ez11, ez9]; rfl) (fun k hk => by rw [ez15, ez14, ez13, ez12, ez11, ez9]; rfl) (fun k hk => by rw [ez15, ez14, ez13, ez12, ez11, ez9]; rfl) (fun k hk => by rw [ez15, ez14, ez13, ez12, ez11, ez9]; rfl) (fun k hk => by rw [ez15, ez14, ez13, ez12, ez11, ez9]; rfl) (fun k hk => by rw [ez15, ez14, ez13, ez12, ez11, ez9]; exact (hN9.2.1 k hk).symm)
  exact en_v ((y, y) : St × St) hQ S hr hlk hw (by exact ⟨rfl, rfl⟩) dX3_copyFrom_62
