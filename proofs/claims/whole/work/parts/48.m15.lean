set_option maxHeartbeats 4000000 in
set_option maxRecDepth 100000 in
theorem lc_21 {p : Program} {l : Launch} {e : Env} {R : Room} {s : State} {m : MethodId} {args : Array Value} {below : List Frame} {meth : Method} {c : Code} {H : Heap} {locs : List Loc} {cells slots : Nat} {Q : State → Prop} {G : GA} {k1 k2 : ClassId} {A : Nat → Prop} {a a2 : Nat → Nat} {sb u1 u2 L i : Nat} {xs : Nat → Int32} {z y k o : St} {v : Int64} {w : UInt64} {tl : Nat} {hs : Bool} {ls : Array Slot} (S : CallFix p m c cL_law 9 s args lw_tbl RL) (hK : KK G s) (hX : XE l A s) (hL : KL G k1 k2 s) (hA : ∀ q, s.heap.size ≤ q → A q) (hXs : va_X sb L xs s s.heap) (hbl : sb < s.heap.size) (hbA : ¬ A sb) (hLL : L ≤ 2560) (hR : R = room_1) (hc1 : cells + 2 ≤ 3131) (hc2 : slots + 12 ≤ 120514) (hi : i + 4 < L) (hr : Rl z y k o tl hs) (hw : WD G (lwd G k1 k2 a a2 u1 u2 z y k z o v w) A s H locs) (hl : lv_has ls 9 [(0, .ref sb), (1, .ref (a 0)), (2, .ref (a2 0)), (3, .ref u1), (4, .ref u2), (5, .int (nI i))]) (kk : LK p l e R s m args below meth c Q G k1 k2 a a2 sb u1 u2 i A cells slots) : W p l e R s m args below meth c H locs cells slots Q (F0 m 1482 ls []) := by
  refine lv_aload_n S.1 S.2.1 dL_law_1482 rfl (lv_at hl 1 rfl) ?_
  refine lv_aload_n S.1 S.2.1 dL_law_1483 rfl (lv_at hl 0 rfl) ?_
  refine lv_iload S.1 S.2.1 dL_law_1484 (lv_at hl 5 rfl) ?_
  refine lv_iconst (v := 1) S.1 S.2.1 dL_law_1486 (by decide) ?_
  refine addN (a := i) (b := 1) S dL_law_1487 ?_
  refine sld_n (k := i + 1) S hXs hbl hbA hLL hw (by omega) dL_law_1488 ?_
  refine lv_aload_n S.1 S.2.1 dL_law_1489 rfl (lv_at hl 3 rfl) ?_
  have hwc : WD G (gL G k1 a z y k u1 (v)) A s H _ := hw.sub [0, 1, 2, 3, 4, 5, 6, 7, 8, 9, 10, 11, 12, 13, 14, 15, 16, 17, 18, 19, 20, 21, 22, 23, 24, 25, 26, 27] rfl rfl
  have hx9 := xc_le (pAl ((xs (i + 1))) z : PO).1
  refine cx_i (wc := (gL G k1 a z y k u1 (v))) (wr := ([(u2, .inl (k2, (1, .inr (.inr (.inr (.inl (fun _ => w)))))))] ++ mp G a2 z o)) (vx_runSX (hh := [(0, 9, 12, 28)]) (As := [.ref (a 0), .int (xs (i + 1)), .ref (u1)]) (rest := []) S (c_L_alive l G k1 k2 u1 (v) a z y k H.size ((xs (i + 1))) hr.1.1) (vx_cwSW 3 S.2.2.2.2 gL_law_L_alive rfl rfl rfl hd_L_alive ⟨by rw [hR]; exact Nat.le_of_ble_eq_true rfl, by rw [hR]; exact Nat.le_of_ble_eq_true rfl⟩) ⟨PL.blind, fun U hU hW => ⟨rfl, PL.of hK hX hL hwc (va_free hw.2.1 hw.2.2 hA [0, 1, 2, 3, 4, 5, 6, 7, 8, 9, 10, 11, 12, 13, 14, 15, 16, 17, 18, 19, 20, 21, 22, 23, 24, 25, 26, 27] rfl) hU hW⟩⟩ rfl rfl hl.1 rfl (lv_room (Nat.le_of_ble_eq_true rfl)) dL_law_1490 ⟨by rw [hR]; show _ ≤ 3131; omega, by rw [hR]; show _ ≤ 120514; omega⟩) hw hA [0, 1, 2, 3, 4, 5, 6, 7, 8, 9, 10, 11, 12, 13, 14, 15, 16, 17, 18, 19, 20, 21, 22, 23, 24, 25, 26, 27] [28, 29, 30, 31, 32, 33] rfl rfl rfl rfl (by decide) (fun _ => rfl) (fun _ => rfl) (fun ce q9 u9 H locs hpx hw9 g1 g2 g3 => absurd hpx id) (fun r9 u9 H locs hp9 hw9 => ?_)
  obtain ⟨⟨z9, y9, k9⟩, v9⟩ := u9
  obtain ⟨rfl, e9, ev⟩ := hp9
  have e9 : (z9, y9, k9) = ((pAl ((xs (i + 1))) z : PO).2.2, y, k) := e9
  cases e9
  have ev : (pAl ((xs (i + 1))) z : PO).1 = 0 → v9 = ((pAl ((xs (i + 1))) z : PO).2.1).toInt64 := ev
  have hw : WD G (lwd G k1 k2 a a2 u1 u2 (pAl ((xs (i + 1))) z : PO).2.2 y k z o (v9) (w)) A s H locs := hw9.sub [6, 7, 8, 9, 10, 11, 12, 13, 14, 15, 16, 17, 18, 19, 20, 21, 22, 23, 24, 25, 26, 27, 28, 29, 30, 31, 32, 33, 0, 1, 2, 3, 4, 5] rfl rfl
  refine lv_istore (lv' := [(6, .int ((pAl ((xs (i + 1))) z : PO).1)), (0, .ref (sb)), (1, .ref (a 0)), (2, .ref (a2 0)), (3, .ref (u1)), (4, .ref (u2)), (5, .int (nI (i)))]) S.1 S.2.1 dL_law_1493 hl (by decide) rfl (fun ls hl => ?_)
  refine lv_aload_n S.1 S.2.1 dL_law_1495 rfl (lv_at hl 3 rfl) ?_
  refine lv_aload_n S.1 S.2.1 dL_law_1496 rfl (lv_at hl 1 rfl) ?_
  refine lv_iload S.1 S.2.1 dL_law_1497 (lv_at hl 6 rfl) ?_
  refine lv_iconst (v := 1) S.1 S.2.1 dL_law_1499 (by decide) ?_
  refine addN (a := i) (b := 1) S dL_law_1500 ?_
  refine sld_n (k := i + 1) S hXs hbl hbA hLL hw (by omega) dL_law_1501 ?_
  have hwc : WD G (mp G a2 z o) A s H _ := hw.sub [29, 30, 31, 32, 33] rfl rfl
  refine cj_i (wc := (mp G a2 z o)) (wr := (gp G a (pAl ((xs (i + 1))) z : PO).2.2 y k ++ [(u1, .inl (k1, (1, .inr (.inl (fun _ => v9))))), (u2, .inl (k2, (1, .inr (.inr (.inr (.inl (fun _ => w)))))))])) (va_runV (As := [.int (xs (i + 1))]) (rest := []) S (c_X5_alive l G a2 z o H.size ((xs (i + 1))) hr.1.1) (cwV 1 S.2.2.2.2 gL_law_X5_alive rfl rfl rfl hd_X5_alive ⟨by rw [hR]; exact Nat.le_of_ble_eq_true rfl, by rw [hR]; exact Nat.le_of_ble_eq_true rfl⟩) ⟨PW.blind, va_recv hK.1 hwc.1 (ci := 5) (q0 := 0) rfl rfl, fun U hU hW => ⟨rfl, PW.of hK hwc hU hW⟩⟩ rfl rfl hl.1 rfl (lv_room (Nat.le_of_ble_eq_true rfl)) dL_law_1502 ⟨by rw [hR]; show _ ≤ 3131; omega, by rw [hR]; show _ ≤ 120514; omega⟩) hw hA [29, 30, 31, 32, 33] [0, 1, 2, 3, 4, 5, 6, 7, 8, 9, 10, 11, 12, 13, 14, 15, 16, 17, 18, 19, 20, 21, 22, 23, 24, 25, 26, 27, 28] rfl rfl rfl rfl (by decide) (fun _ => rfl) (fun r9 x9 H locs hp9 hw9 => ?_)
  obtain ⟨z9, o9⟩ := x9
  obtain ⟨e0, e1, hrt, ht9⟩ := hp9
  have e1 : (pAl ((xs (i + 1))) z : PO).2.2 = z9 := (e1).symm
  subst e1
  have ht9 : o9 0 0 = (pAl ((xs (i + 1))) z : PO).1 := ht9
  have hw : WD G (lwd G k1 k2 a a2 u1 u2 (pAl ((xs (i + 1))) z : PO).2.2 y k (pAl ((xs (i + 1))) z : PO).2.2 o9 (v9) (w)) A s H locs := hw9
  have e0 : r9 = (pAl ((xs (i + 1))) z : PO).2.1 := e0
  subst e0
  refine lv_istore (lv' := [(7, .int ((pAl ((xs (i + 1))) z : PO).2.1)), (6, .int ((pAl ((xs (i + 1))) z : PO).1)), (0, .ref (sb)), (1, .ref (a 0)), (2, .ref (a2 0)), (3, .ref (u1)), (4, .ref (u2)), (5, .int (nI (i)))]) S.1 S.2.1 dL_law_1505 hl (by decide) rfl (fun ls hl => ?_)
  refine lv_aload_n S.1 S.2.1 dL_law_1507 rfl (lv_at hl 4 rfl) ?_
  have hwc : WD G (mp G a2 (pAl ((xs (i + 1))) z : PO).2.2 o9) A s H _ := hw.sub [29, 30, 31, 32, 33] rfl rfl
  refine cj_i (wc := (mp G a2 (pAl ((xs (i + 1))) z : PO).2.2 o9)) (wr := (gp G a (pAl ((xs (i + 1))) z : PO).2.2 y k ++ [(u1, .inl (k1, (1, .inr (.inl (fun _ => v9))))), (u2, .inl (k2, (1, .inr (.inr (.inr (.inl (fun _ => w)))))))])) (va_runV (As := []) (rest := []) S (c_X5_thrown l G a2 (pAl ((xs (i + 1))) z : PO).2.2 o9 H.size  ) (cwV 0 S.2.2.2.2 gL_law_X5_thrown rfl rfl rfl hd_X5_thrown ⟨by rw [hR]; exact Nat.le_of_ble_eq_true rfl, by rw [hR]; exact Nat.le_of_ble_eq_true rfl⟩) ⟨PW.blind, va_recv hK.1 hwc.1 (ci := 5) (q0 := 0) rfl rfl, fun U hU hW => ⟨rfl, PW.of hK hwc hU hW⟩⟩ rfl rfl hl.1 rfl (lv_room (Nat.le_of_ble_eq_true rfl)) dL_law_1508 ⟨by rw [hR]; show _ ≤ 3131; omega, by rw [hR]; show _ ≤ 120514; omega⟩) hw hA [29, 30, 31, 32, 33] [0, 1, 2, 3, 4, 5, 6, 7, 8, 9, 10, 11, 12, 13, 14, 15, 16, 17, 18, 19, 20, 21, 22, 23, 24, 25, 26, 27, 28] rfl rfl rfl rfl (by decide) (fun _ => rfl) (fun t9 x8 H locs hp9 hw9 => ?_)
  obtain ⟨z8, o8⟩ := x8
  obtain ⟨e1, e2, e3⟩ := hp9
  dsimp only at e2 e3
  have e2 := e2.symm
  have e3 := e3.symm
  subst e2
  subst e3
  have hw : WD G (lwd G k1 k2 a a2 u1 u2 (pAl ((xs (i + 1))) z : PO).2.2 y k (pAl ((xs (i + 1))) z : PO).2.2 o9 (v9) (w)) A s H locs := hw9
  refine top_to (v := (pAl ((xs (i + 1))) z : PO).1) S (e1.trans ht9) ?_
  refine lv_iload S.1 S.2.1 dL_law_1511 (lv_at hl 1 rfl) ?_
  refine lv_icmp_eq (tgt := 1518) S.1 S.2.1 dL_law_1513 (by decide) (fun _ => ?_) (fun c8 => absurd rfl c8)
  refine lv_iload S.1 S.2.1 dL_law_1518 (lv_at hl 1 rfl) ?_
  refine lv_if_ne (tgt := 1535) S.1 S.2.1 dL_law_1520 (by decide) (fun _ => ?_) (fun c8 => ?_)
  · skip
    refine lv_goto (tgt := 1963) S.1 S.2.1 dL_law_1535 (by decide) ?_
    refine W.widen (k := cells + 2) (n := slots + 12) (by omega) (by omega) ?_
    exact kk H locs ls (pAl ((xs (i + 1))) z : PO).2.2 y k o9 (v9) (w) _ _ (hr.go (inv_pAl hr.1.1 _) hrt) hw (lv_sub hl [2, 3, 4, 5, 6, 7] rfl)
  · skip
    have c9 : (pAl ((xs (i + 1))) z : PO).1 = 0 := by first | exact c8 | exact Decidable.not_not.mp c8
    have e9 := ev c9
    subst e9
    have hw : WD G (lwd G k1 k2 a a2 u1 u2 (pAl ((xs (i + 1))) z : PO).2.2 y k (pAl ((xs (i + 1))) z : PO).2.2 o9 (((pAl ((xs (i + 1))) z : PO).2.1).toInt64) (w)) A s H locs := hw
    refine lv_aload_n S.1 S.2.1 dL_law_1523 rfl (lv_at hl 5 rfl) ?_
    refine lv_iconst (v := 0) S.1 S.2.1 dL_law_1524 (by decide) ?_
    refine la_l S hL hw 27 rfl dL_law_1525 ?_
    refine lv_iload S.1 S.2.1 dL_law_1526 (lv_at hl 0 rfl) ?_
    refine lv_i2l S.1 S.2.1 dL_law_1528 rfl ?_
    refine lcmp_s S.1 S.2.1 rfl dL_law_1529 ?_
    refine lv_if_eq (tgt := 1535) S.1 S.2.1 dL_law_1530 (by decide) (fun c1 => ?_) (fun c1 => ?_)
    · skip
      refine lv_goto (tgt := 1963) S.1 S.2.1 dL_law_1535 (by decide) ?_
      refine W.widen (k := cells + 2) (n := slots + 12) (by omega) (by omega) ?_
      exact kk H locs ls (pAl ((xs (i + 1))) z : PO).2.2 y k o9 (((pAl ((xs (i + 1))) z : PO).2.1).toInt64) (w) _ _ (hr.go (inv_pAl hr.1.1 _) hrt) hw (lv_sub hl [2, 3, 4, 5, 6, 7] rfl)
    · skip
      exact absurd c1 (by decide)

set_option maxHeartbeats 4000000 in
set_option maxRecDepth 100000 in
theorem lc_22 {p : Program} {l : Launch} {e : Env} {R : Room} {s : State} {m : MethodId} {args : Array Value} {below : List Frame} {meth : Method} {c : Code} {H : Heap} {locs : List Loc} {cells slots : Nat} {Q : State → Prop} {G : GA} {k1 k2 : ClassId} {A : Nat → Prop} {a a2 : Nat → Nat} {sb u1 u2 L i : Nat} {xs : Nat → Int32} {z y k o : St} {v : Int64} {w : UInt64} {tl : Nat} {hs : Bool} {ls : Array Slot} (S : CallFix p m c cL_law 9 s args lw_tbl RL) (hK : KK G s) (hX : XE l A s) (hL : KL G k1 k2 s) (hA : ∀ q, s.heap.size ≤ q → A q) (hXs : va_X sb L xs s s.heap) (hbl : sb < s.heap.size) (hbA : ¬ A sb) (hLL : L ≤ 2560) (hR : R = room_1) (hc1 : cells + 2 ≤ 3131) (hc2 : slots + 12 ≤ 120514) (hi : i + 4 < L) (hr : Rl z y k o tl hs) (hw : WD G (lwd G k1 k2 a a2 u1 u2 z y k z o v w) A s H locs) (hl : lv_has ls 9 [(0, .ref sb), (1, .ref (a 0)), (2, .ref (a2 0)), (3, .ref u1), (4, .ref u2), (5, .int (nI i))]) (kk : LK p l e R s m args below meth c Q G k1 k2 a a2 sb u1 u2 i A cells slots) : W p l e R s m args below meth c H locs cells slots Q (F0 m 1538 ls []) := by
  refine lv_aload_n S.1 S.2.1 dL_law_1538 rfl (lv_at hl 1 rfl) ?_
  have hwc : WD G (gp G a z y k) A s H _ := hw.sub [0, 1, 2, 3, 4, 5, 6, 7, 8, 9, 10, 11, 12, 13, 14, 15, 16, 17, 18, 19, 20, 21, 22, 23, 24, 25, 26] rfl rfl
  have hx9 := xc_le ((0, b2 (agB z), z) : PO).1
  refine cx_i (wc := (gp G a z y k)) (wr := ([(u1, .inl (k1, (1, .inr (.inl (fun _ => v))))), (u2, .inl (k2, (1, .inr (.inr (.inr (.inl (fun _ => w)))))))] ++ mp G a2 z o)) (vx_runV (As := []) (rest := []) S (c_X4_agree l G a z y k H.size hr.1.1) (cwV 0 S.2.2.2.2 gL_law_X4_agree rfl rfl rfl hd_X4_agree ⟨by rw [hR]; exact Nat.le_of_ble_eq_true rfl, by rw [hR]; exact Nat.le_of_ble_eq_true rfl⟩) ⟨PX.blind, va_recv hK.1 hwc.1 (ci := 4) (q0 := 0) rfl rfl, fun U hU hW => ⟨rfl, PX.of hK hX hwc (va_free hw.2.1 hw.2.2 hA [0, 1, 2, 3, 4, 5, 6, 7, 8, 9, 10, 11, 12, 13, 14, 15, 16, 17, 18, 19, 20, 21, 22, 23, 24, 25, 26] rfl) hU hW⟩⟩ rfl rfl hl.1 rfl (lv_room (Nat.le_of_ble_eq_true rfl)) dL_law_1539 ⟨by rw [hR]; show _ ≤ 3131; omega, by rw [hR]; show _ ≤ 120514; omega⟩) hw hA [0, 1, 2, 3, 4, 5, 6, 7, 8, 9, 10, 11, 12, 13, 14, 15, 16, 17, 18, 19, 20, 21, 22, 23, 24, 25, 26] [27, 28, 29, 30, 31, 32, 33] rfl rfl rfl rfl (by decide) (fun _ => rfl) (fun _ => rfl) (fun ce q9 u9 H locs hpx hw9 g1 g2 g3 => absurd rfl hpx.1) (fun r9 u9 H locs hp9 hw9 => ?_)
  obtain ⟨_, rfl, rfl⟩ := hp9
  have hw : WD G (lwd G k1 k2 a a2 u1 u2 z y k z o (v) (w)) A s H locs := hw9.sub [7, 8, 9, 10, 11, 12, 13, 14, 15, 16, 17, 18, 19, 20, 21, 22, 23, 24, 25, 26, 27, 28, 29, 30, 31, 32, 33, 0, 1, 2, 3, 4, 5, 6] rfl rfl
  refine lv_aload_n S.1 S.2.1 dL_law_1542 rfl (lv_at hl 2 rfl) ?_
  have hwc : WD G (mp G a2 z o) A s H _ := hw.sub [29, 30, 31, 32, 33] rfl rfl
  refine cj_i (wc := (mp G a2 z o)) (wr := (gp G a z y k ++ [(u1, .inl (k1, (1, .inr (.inl (fun _ => v))))), (u2, .inl (k2, (1, .inr (.inr (.inr (.inl (fun _ => w)))))))])) (va_runV (As := []) (rest := [.int (b2 (agB z))]) S (c_X5_agree l G a2 z o H.size  hr.1.1) (cwV 0 S.2.2.2.2 gL_law_X5_agree rfl rfl rfl hd_X5_agree ⟨by rw [hR]; exact Nat.le_of_ble_eq_true rfl, by rw [hR]; exact Nat.le_of_ble_eq_true rfl⟩) ⟨PW.blind, va_recv hK.1 hwc.1 (ci := 5) (q0 := 0) rfl rfl, fun U hU hW => ⟨rfl, PW.of hK hwc hU hW⟩⟩ rfl rfl hl.1 rfl (lv_room (Nat.le_of_ble_eq_true rfl)) dL_law_1543 ⟨by rw [hR]; show _ ≤ 3131; omega, by rw [hR]; show _ ≤ 120514; omega⟩) hw hA [29, 30, 31, 32, 33] [0, 1, 2, 3, 4, 5, 6, 7, 8, 9, 10, 11, 12, 13, 14, 15, 16, 17, 18, 19, 20, 21, 22, 23, 24, 25, 26, 27, 28] rfl rfl rfl rfl (by decide) (fun _ => rfl) (fun r9 x9 H locs hp9 hw9 => ?_)
  obtain ⟨z9, o9⟩ := x9
  obtain ⟨e0, e1, hrt, ht9⟩ := hp9
  have e1 : z = z9 := (e1).symm
  subst e1
  have hw : WD G (lwd G k1 k2 a a2 u1 u2 z y k z o9 (v) (w)) A s H locs := hw9
  have e0 : r9 = b2 (agB z) := e0
  subst e0
  refine lv_icmp_eq (tgt := 1963) S.1 S.2.1 dL_law_1546 (by decide) (fun _ => ?_) (fun c8 => absurd rfl c8)
  refine W.widen (k := cells + 2) (n := slots + 12) (by omega) (by omega) ?_
  exact kk H locs ls z y k o9 (v) (w) _ _ (hr.go hr.1.1 hrt) hw (lv_sub hl [0, 1, 2, 3, 4, 5] rfl)

set_option maxHeartbeats 4000000 in
set_option maxRecDepth 100000 in
theorem lc_23 {p : Program} {l : Launch} {e : Env} {R : Room} {s : State} {m : MethodId} {args : Array Value} {below : List Frame} {meth : Method} {c : Code} {H : Heap} {locs : List Loc} {cells slots : Nat} {Q : State → Prop} {G : GA} {k1 k2 : ClassId} {A : Nat → Prop} {a a2 : Nat → Nat} {sb u1 u2 L i : Nat} {xs : Nat → Int32} {z y k o : St} {v : Int64} {w : UInt64} {tl : Nat} {hs : Bool} {ls : Array Slot} (S : CallFix p m c cL_law 9 s args lw_tbl RL) (hK : KK G s) (hX : XE l A s) (hL : KL G k1 k2 s) (hA : ∀ q, s.heap.size ≤ q → A q) (hXs : va_X sb L xs s s.heap) (hbl : sb < s.heap.size) (hbA : ¬ A sb) (hLL : L ≤ 2560) (hR : R = room_1) (hc1 : cells + 2 ≤ 3131) (hc2 : slots + 12 ≤ 120514) (hi : i + 4 < L) (hr : Rl z y k o tl hs) (hw : WD G (lwd G k1 k2 a a2 u1 u2 z y k z o v w) A s H locs) (hl : lv_has ls 9 [(0, .ref sb), (1, .ref (a 0)), (2, .ref (a2 0)), (3, .ref u1), (4, .ref u2), (5, .int (nI i))]) (kk : LK p l e R s m args below meth c Q G k1 k2 a a2 sb u1 u2 i A cells slots) : W p l e R s m args below meth c H locs cells slots Q (F0 m 1551 ls []) := by
  refine lv_aload_n S.1 S.2.1 dL_law_1551 rfl (lv_at hl 1 rfl) ?_
  have hwc : WD G (gp G a z y k) A s H _ := hw.sub [0, 1, 2, 3, 4, 5, 6, 7, 8, 9, 10, 11, 12, 13, 14, 15, 16, 17, 18, 19, 20, 21, 22, 23, 24, 25, 26] rfl rfl
  have hx9 := xc_le ((0, nI (cdT z 8), z) : PO).1
  refine cx_i (wc := (gp G a z y k)) (wr := ([(u1, .inl (k1, (1, .inr (.inl (fun _ => v))))), (u2, .inl (k2, (1, .inr (.inr (.inr (.inl (fun _ => w)))))))] ++ mp G a2 z o)) (vx_runV (As := []) (rest := []) S (c_X4_disagreements l G a z y k H.size hr.1.1) (cwV 0 S.2.2.2.2 gL_law_X4_disagreements rfl rfl rfl hd_X4_disagreements ⟨by rw [hR]; exact Nat.le_of_ble_eq_true rfl, by rw [hR]; exact Nat.le_of_ble_eq_true rfl⟩) ⟨PX.blind, va_recv hK.1 hwc.1 (ci := 4) (q0 := 0) rfl rfl, fun U hU hW => ⟨rfl, PX.of hK hX hwc (va_free hw.2.1 hw.2.2 hA [0, 1, 2, 3, 4, 5, 6, 7, 8, 9, 10, 11, 12, 13, 14, 15, 16, 17, 18, 19, 20, 21, 22, 23, 24, 25, 26] rfl) hU hW⟩⟩ rfl rfl hl.1 rfl (lv_room (Nat.le_of_ble_eq_true rfl)) dL_law_1552 ⟨by rw [hR]; show _ ≤ 3131; omega, by rw [hR]; show _ ≤ 120514; omega⟩) hw hA [0, 1, 2, 3, 4, 5, 6, 7, 8, 9, 10, 11, 12, 13, 14, 15, 16, 17, 18, 19, 20, 21, 22, 23, 24, 25, 26] [27, 28, 29, 30, 31, 32, 33] rfl rfl rfl rfl (by decide) (fun _ => rfl) (fun _ => rfl) (fun ce q9 u9 H locs hpx hw9 g1 g2 g3 => absurd rfl hpx.1) (fun r9 u9 H locs hp9 hw9 => ?_)
  obtain ⟨_, rfl, rfl⟩ := hp9
  have hw : WD G (lwd G k1 k2 a a2 u1 u2 z y k z o (v) (w)) A s H locs := hw9.sub [7, 8, 9, 10, 11, 12, 13, 14, 15, 16, 17, 18, 19, 20, 21, 22, 23, 24, 25, 26, 27, 28, 29, 30, 31, 32, 33, 0, 1, 2, 3, 4, 5, 6] rfl rfl
  refine lv_aload_n S.1 S.2.1 dL_law_1555 rfl (lv_at hl 2 rfl) ?_
  have hwc : WD G (mp G a2 z o) A s H _ := hw.sub [29, 30, 31, 32, 33] rfl rfl
  refine cj_i (wc := (mp G a2 z o)) (wr := (gp G a z y k ++ [(u1, .inl (k1, (1, .inr (.inl (fun _ => v))))), (u2, .inl (k2, (1, .inr (.inr (.inr (.inl (fun _ => w)))))))])) (va_runV (As := []) (rest := [.int (nI (cdT z 8))]) S (c_X5_disagreements l G a2 z o H.size  hr.1.1) (cwV 0 S.2.2.2.2 gL_law_X5_disagreements rfl rfl rfl hd_X5_disagreements ⟨by rw [hR]; exact Nat.le_of_ble_eq_true rfl, by rw [hR]; exact Nat.le_of_ble_eq_true rfl⟩) ⟨PW.blind, va_recv hK.1 hwc.1 (ci := 5) (q0 := 0) rfl rfl, fun U hU hW => ⟨rfl, PW.of hK hwc hU hW⟩⟩ rfl rfl hl.1 rfl (lv_room (Nat.le_of_ble_eq_true rfl)) dL_law_1556 ⟨by rw [hR]; show _ ≤ 3131; omega, by rw [hR]; show _ ≤ 120514; omega⟩) hw hA [29, 30, 31, 32, 33] [0, 1, 2, 3, 4, 5, 6, 7, 8, 9, 10, 11, 12, 13, 14, 15, 16, 17, 18, 19, 20, 21, 22, 23, 24, 25, 26, 27, 28] rfl rfl rfl rfl (by decide) (fun _ => rfl) (fun r9 x9 H locs hp9 hw9 => ?_)
  obtain ⟨z9, o9⟩ := x9
  obtain ⟨e0, e1, hrt, ht9⟩ := hp9
  have e1 : z = z9 := (e1).symm
  subst e1
  have hw : WD G (lwd G k1 k2 a a2 u1 u2 z y k z o9 (v) (w)) A s H locs := hw9
  have e0 : r9 = nI (cdT z 8) := e0
  subst e0
  refine lv_icmp_eq (tgt := 1963) S.1 S.2.1 dL_law_1559 (by decide) (fun _ => ?_) (fun c8 => absurd rfl c8)
  refine W.widen (k := cells + 2) (n := slots + 12) (by omega) (by omega) ?_
  exact kk H locs ls z y k o9 (v) (w) _ _ (hr.go hr.1.1 hrt) hw (lv_sub hl [0, 1, 2, 3, 4, 5] rfl)

set_option maxHeartbeats 4000000 in
set_option maxRecDepth 100000 in
theorem lc_24 {p : Program} {l : Launch} {e : Env} {R : Room} {s : State} {m : MethodId} {args : Array Value} {below : List Frame} {meth : Method} {c : Code} {H : Heap} {locs : List Loc} {cells slots : Nat} {Q : State → Prop} {G : GA} {k1 k2 : ClassId} {A : Nat → Prop} {a a2 : Nat → Nat} {sb u1 u2 L i : Nat} {xs : Nat → Int32} {z y k o : St} {v : Int64} {w : UInt64} {tl : Nat} {hs : Bool} {ls : Array Slot} (S : CallFix p m c cL_law 9 s args lw_tbl RL) (hK : KK G s) (hX : XE l A s) (hL : KL G k1 k2 s) (hA : ∀ q, s.heap.size ≤ q → A q) (hXs : va_X sb L xs s s.heap) (hbl : sb < s.heap.size) (hbA : ¬ A sb) (hLL : L ≤ 2560) (hR : R = room_1) (hc1 : cells + 2 ≤ 3131) (hc2 : slots + 12 ≤ 120514) (hi : i + 4 < L) (hr : Rl z y k o tl hs) (hw : WD G (lwd G k1 k2 a a2 u1 u2 z y k z o v w) A s H locs) (hl : lv_has ls 9 [(0, .ref sb), (1, .ref (a 0)), (2, .ref (a2 0)), (3, .ref u1), (4, .ref u2), (5, .int (nI i))]) (kk : LK p l e R s m args below meth c Q G k1 k2 a a2 sb u1 u2 i A cells slots) : W p l e R s m args below meth c H locs cells slots Q (F0 m 1564 ls []) := by
  refine lv_aload_n S.1 S.2.1 dL_law_1564 rfl (lv_at hl 1 rfl) ?_
  have hwc : WD G (gp G a z y k) A s H _ := hw.sub [0, 1, 2, 3, 4, 5, 6, 7, 8, 9, 10, 11, 12, 13, 14, 15, 16, 17, 18, 19, 20, 21, 22, 23, 24, 25, 26] rfl rfl
  have hx9 := xc_le ((0, z 0 5, z) : PO).1
  refine cx_i (wc := (gp G a z y k)) (wr := ([(u1, .inl (k1, (1, .inr (.inl (fun _ => v))))), (u2, .inl (k2, (1, .inr (.inr (.inr (.inl (fun _ => w)))))))] ++ mp G a2 z o)) (vx_runV (As := []) (rest := []) S (c_X4_declarations l G a z y k H.size ) (cwV 0 S.2.2.2.2 gL_law_X4_declarations rfl rfl rfl hd_X4_declarations ⟨by rw [hR]; exact Nat.le_of_ble_eq_true rfl, by rw [hR]; exact Nat.le_of_ble_eq_true rfl⟩) ⟨PX.blind, va_recv hK.1 hwc.1 (ci := 4) (q0 := 0) rfl rfl, fun U hU hW => ⟨rfl, PX.of hK hX hwc (va_free hw.2.1 hw.2.2 hA [0, 1, 2, 3, 4, 5, 6, 7, 8, 9, 10, 11, 12, 13, 14, 15, 16, 17, 18, 19, 20, 21, 22, 23, 24, 25, 26] rfl) hU hW⟩⟩ rfl rfl hl.1 rfl (lv_room (Nat.le_of_ble_eq_true rfl)) dL_law_1565 ⟨by rw [hR]; show _ ≤ 3131; omega, by rw [hR]; show _ ≤ 120514; omega⟩) hw hA [0, 1, 2, 3, 4, 5, 6, 7, 8, 9, 10, 11, 12, 13, 14, 15, 16, 17, 18, 19, 20, 21, 22, 23, 24, 25, 26] [27, 28, 29, 30, 31, 32, 33] rfl rfl rfl rfl (by decide) (fun _ => rfl) (fun _ => rfl) (fun ce q9 u9 H locs hpx hw9 g1 g2 g3 => absurd rfl hpx.1) (fun r9 u9 H locs hp9 hw9 => ?_)
  obtain ⟨_, rfl, rfl⟩ := hp9
  have hw : WD G (lwd G k1 k2 a a2 u1 u2 z y k z o (v) (w)) A s H locs := hw9.sub [7, 8, 9, 10, 11, 12, 13, 14, 15, 16, 17, 18, 19, 20, 21, 22, 23, 24, 25, 26, 27, 28, 29, 30, 31, 32, 33, 0, 1, 2, 3, 4, 5, 6] rfl rfl
  refine lv_aload_n S.1 S.2.1 dL_law_1568 rfl (lv_at hl 2 rfl) ?_
  have hwc : WD G (mp G a2 z o) A s H _ := hw.sub [29, 30, 31, 32, 33] rfl rfl
  refine cj_i (wc := (mp G a2 z o)) (wr := (gp G a z y k ++ [(u1, .inl (k1, (1, .inr (.inl (fun _ => v))))), (u2, .inl (k2, (1, .inr (.inr (.inr (.inl (fun _ => w)))))))])) (va_runV (As := []) (rest := [.int (z 0 5)]) S (c_X5_declarations l G a2 z o H.size  ) (cwV 0 S.2.2.2.2 gL_law_X5_declarations rfl rfl rfl hd_X5_declarations ⟨by rw [hR]; exact Nat.le_of_ble_eq_true rfl, by rw [hR]; exact Nat.le_of_ble_eq_true rfl⟩) ⟨PW.blind, va_recv hK.1 hwc.1 (ci := 5) (q0 := 0) rfl rfl, fun U hU hW => ⟨rfl, PW.of hK hwc hU hW⟩⟩ rfl rfl hl.1 rfl (lv_room (Nat.le_of_ble_eq_true rfl)) dL_law_1569 ⟨by rw [hR]; show _ ≤ 3131; omega, by rw [hR]; show _ ≤ 120514; omega⟩) hw hA [29, 30, 31, 32, 33] [0, 1, 2, 3, 4, 5, 6, 7, 8, 9, 10, 11, 12, 13, 14, 15, 16, 17, 18, 19, 20, 21, 22, 23, 24, 25, 26, 27, 28] rfl rfl rfl rfl (by decide) (fun _ => rfl) (fun r9 x9 H locs hp9 hw9 => ?_)
  obtain ⟨z9, o9⟩ := x9
  obtain ⟨e0, e1, hrt, ht9⟩ := hp9
  have e1 : z = z9 := (e1).symm
  subst e1
  have hw : WD G (lwd G k1 k2 a a2 u1 u2 z y k z o9 (v) (w)) A s H locs := hw9
  have e0 : r9 = z 0 5 := e0
  subst e0
  refine lv_icmp_eq (tgt := 1963) S.1 S.2.1 dL_law_1572 (by decide) (fun _ => ?_) (fun c8 => absurd rfl c8)
  refine W.widen (k := cells + 2) (n := slots + 12) (by omega) (by omega) ?_
  exact kk H locs ls z y k o9 (v) (w) _ _ (hr.go hr.1.1 hrt) hw (lv_sub hl [0, 1, 2, 3, 4, 5] rfl)

set_option maxHeartbeats 4000000 in
set_option maxRecDepth 100000 in
theorem lc_25 {p : Program} {l : Launch} {e : Env} {R : Room} {s : State} {m : MethodId} {args : Array Value} {below : List Frame} {meth : Method} {c : Code} {H : Heap} {locs : List Loc} {cells slots : Nat} {Q : State → Prop} {G : GA} {k1 k2 : ClassId} {A : Nat → Prop} {a a2 : Nat → Nat} {sb u1 u2 L i : Nat} {xs : Nat → Int32} {z y k o : St} {v : Int64} {w : UInt64} {tl : Nat} {hs : Bool} {ls : Array Slot} (S : CallFix p m c cL_law 9 s args lw_tbl RL) (hK : KK G s) (hX : XE l A s) (hL : KL G k1 k2 s) (hA : ∀ q, s.heap.size ≤ q → A q) (hXs : va_X sb L xs s s.heap) (hbl : sb < s.heap.size) (hbA : ¬ A sb) (hLL : L ≤ 2560) (hR : R = room_1) (hc1 : cells + 2 ≤ 3131) (hc2 : slots + 12 ≤ 120514) (hi : i + 4 < L) (hr : Rl z y k o tl hs) (hw : WD G (lwd G k1 k2 a a2 u1 u2 z y k z o v w) A s H locs) (hl : lv_has ls 9 [(0, .ref sb), (1, .ref (a 0)), (2, .ref (a2 0)), (3, .ref u1), (4, .ref u2), (5, .int (nI i))]) (kk : LK p l e R s m args below meth c Q G k1 k2 a a2 sb u1 u2 i A cells slots) : W p l e R s m args below meth c H locs cells slots Q (F0 m 1577 ls []) := by
  refine lv_aload_n S.1 S.2.1 dL_law_1577 rfl (lv_at hl 1 rfl) ?_
  have hwc : WD G (gp G a z y k) A s H _ := hw.sub [0, 1, 2, 3, 4, 5, 6, 7, 8, 9, 10, 11, 12, 13, 14, 15, 16, 17, 18, 19, 20, 21, 22, 23, 24, 25, 26] rfl rfl
  have hx9 := xc_le ((0, z 0 6, z) : PO).1
  refine cx_i (wc := (gp G a z y k)) (wr := ([(u1, .inl (k1, (1, .inr (.inl (fun _ => v))))), (u2, .inl (k2, (1, .inr (.inr (.inr (.inl (fun _ => w)))))))] ++ mp G a2 z o)) (vx_runV (As := []) (rest := []) S (c_X4_falseDeclarations l G a z y k H.size ) (cwV 0 S.2.2.2.2 gL_law_X4_falseDeclarations rfl rfl rfl hd_X4_falseDeclarations ⟨by rw [hR]; exact Nat.le_of_ble_eq_true rfl, by rw [hR]; exact Nat.le_of_ble_eq_true rfl⟩) ⟨PX.blind, va_recv hK.1 hwc.1 (ci := 4) (q0 := 0) rfl rfl, fun U hU hW => ⟨rfl, PX.of hK hX hwc (va_free hw.2.1 hw.2.2 hA [0, 1, 2, 3, 4, 5, 6, 7, 8, 9, 10, 11, 12, 13, 14, 15, 16, 17, 18, 19, 20, 21, 22, 23, 24, 25, 26] rfl) hU hW⟩⟩ rfl rfl hl.1 rfl (lv_room (Nat.le_of_ble_eq_true rfl)) dL_law_1578 ⟨by rw [hR]; show _ ≤ 3131; omega, by rw [hR]; show _ ≤ 120514; omega⟩) hw hA [0, 1, 2, 3, 4, 5, 6, 7, 8, 9, 10, 11, 12, 13, 14, 15, 16, 17, 18, 19, 20, 21, 22, 23, 24, 25, 26] [27, 28, 29, 30, 31, 32, 33] rfl rfl rfl rfl (by decide) (fun _ => rfl) (fun _ => rfl) (fun ce q9 u9 H locs hpx hw9 g1 g2 g3 => absurd rfl hpx.1) (fun r9 u9 H locs hp9 hw9 => ?_)
  obtain ⟨_, rfl, rfl⟩ := hp9
  have hw : WD G (lwd G k1 k2 a a2 u1 u2 z y k z o (v) (w)) A s H locs := hw9.sub [7, 8, 9, 10, 11, 12, 13, 14, 15, 16, 17, 18, 19, 20, 21, 22, 23, 24, 25, 26, 27, 28, 29, 30, 31, 32, 33, 0, 1, 2, 3, 4, 5, 6] rfl rfl
  refine lv_aload_n S.1 S.2.1 dL_law_1581 rfl (lv_at hl 2 rfl) ?_
  have hwc : WD G (mp G a2 z o) A s H _ := hw.sub [29, 30, 31, 32, 33] rfl rfl
  refine cj_i (wc := (mp G a2 z o)) (wr := (gp G a z y k ++ [(u1, .inl (k1, (1, .inr (.inl (fun _ => v))))), (u2, .inl (k2, (1, .inr (.inr (.inr (.inl (fun _ => w)))))))])) (va_runV (As := []) (rest := [.int (z 0 6)]) S (c_X5_falseDeclarations l G a2 z o H.size  ) (cwV 0 S.2.2.2.2 gL_law_X5_falseDeclarations rfl rfl rfl hd_X5_falseDeclarations ⟨by rw [hR]; exact Nat.le_of_ble_eq_true rfl, by rw [hR]; exact Nat.le_of_ble_eq_true rfl⟩) ⟨PW.blind, va_recv hK.1 hwc.1 (ci := 5) (q0 := 0) rfl rfl, fun U hU hW => ⟨rfl, PW.of hK hwc hU hW⟩⟩ rfl rfl hl.1 rfl (lv_room (Nat.le_of_ble_eq_true rfl)) dL_law_1582 ⟨by rw [hR]; show _ ≤ 3131; omega, by rw [hR]; show _ ≤ 120514; omega⟩) hw hA [29, 30, 31, 32, 33] [0, 1, 2, 3, 4, 5, 6, 7, 8, 9, 10, 11, 12, 13, 14, 15, 16, 17, 18, 19, 20, 21, 22, 23, 24, 25, 26, 27, 28] rfl rfl rfl rfl (by decide) (fun _ => rfl) (fun r9 x9 H locs hp9 hw9 => ?_)
  obtain ⟨z9, o9⟩ := x9
  obtain ⟨e0, e1, hrt, ht9⟩ := hp9
  have e1 : z = z9 := (e1).symm
  subst e1
  have hw : WD G (lwd G k1 k2 a a2 u1 u2 z y k z o9 (v) (w)) A s H locs := hw9
  have e0 : r9 = z 0 6 := e0
  subst e0
  refine lv_icmp_eq (tgt := 1963) S.1 S.2.1 dL_law_1585 (by decide) (fun _ => ?_) (fun c8 => absurd rfl c8)
  refine W.widen (k := cells + 2) (n := slots + 12) (by omega) (by omega) ?_
  exact kk H locs ls z y k o9 (v) (w) _ _ (hr.go hr.1.1 hrt) hw (lv_sub hl [0, 1, 2, 3, 4, 5] rfl)

set_option maxHeartbeats 4000000 in
set_option maxRecDepth 100000 in
theorem lc_26 {p : Program} {l : Launch} {e : Env} {R : Room} {s : State} {m : MethodId} {args : Array Value} {below : List Frame} {meth : Method} {c : Code} {H : Heap} {locs : List Loc} {cells slots : Nat} {Q : State → Prop} {G : GA} {k1 k2 : ClassId} {A : Nat → Prop} {a a2 : Nat → Nat} {sb u1 u2 L i : Nat} {xs : Nat → Int32} {z y k o : St} {v : Int64} {w : UInt64} {tl : Nat} {hs : Bool} {ls : Array Slot} (S : CallFix p m c cL_law 9 s args lw_tbl RL) (hK : KK G s) (hX : XE l A s) (hL : KL G k1 k2 s) (hA : ∀ q, s.heap.size ≤ q → A q) (hXs : va_X sb L xs s s.heap) (hbl : sb < s.heap.size) (hbA : ¬ A sb) (hLL : L ≤ 2560) (hR : R = room_1) (hc1 : cells + 2 ≤ 3131) (hc2 : slots + 12 ≤ 120514) (hi : i + 4 < L) (hr : Rl z y k o tl hs) (hw : WD G (lwd G k1 k2 a a2 u1 u2 z y k z o v w) A s H locs) (hl : lv_has ls 9 [(0, .ref sb), (1, .ref (a 0)), (2, .ref (a2 0)), (3, .ref u1), (4, .ref u2), (5, .int (nI i))]) (kk : LK p l e R s m args below meth c Q G k1 k2 a a2 sb u1 u2 i A cells slots) : W p l e R s m args below meth c H locs cells slots Q (F0 m 1590 ls []) := by
  refine lv_aload_n S.1 S.2.1 dL_law_1590 rfl (lv_at hl 1 rfl) ?_
  have hwc : WD G (gp G a z y k) A s H _ := hw.sub [0, 1, 2, 3, 4, 5, 6, 7, 8, 9, 10, 11, 12, 13, 14, 15, 16, 17, 18, 19, 20, 21, 22, 23, 24, 25, 26] rfl rfl
  have hx9 := xc_le ((0, z 0 7, z) : PO).1
  refine cx_i (wc := (gp G a z y k)) (wr := ([(u1, .inl (k1, (1, .inr (.inl (fun _ => v))))), (u2, .inl (k2, (1, .inr (.inr (.inr (.inl (fun _ => w)))))))] ++ mp G a2 z o)) (vx_runV (As := []) (rest := []) S (c_X4_refutations l G a z y k H.size ) (cwV 0 S.2.2.2.2 gL_law_X4_refutations rfl rfl rfl hd_X4_refutations ⟨by rw [hR]; exact Nat.le_of_ble_eq_true rfl, by rw [hR]; exact Nat.le_of_ble_eq_true rfl⟩) ⟨PX.blind, va_recv hK.1 hwc.1 (ci := 4) (q0 := 0) rfl rfl, fun U hU hW => ⟨rfl, PX.of hK hX hwc (va_free hw.2.1 hw.2.2 hA [0, 1, 2, 3, 4, 5, 6, 7, 8, 9, 10, 11, 12, 13, 14, 15, 16, 17, 18, 19, 20, 21, 22, 23, 24, 25, 26] rfl) hU hW⟩⟩ rfl rfl hl.1 rfl (lv_room (Nat.le_of_ble_eq_true rfl)) dL_law_1591 ⟨by rw [hR]; show _ ≤ 3131; omega, by rw [hR]; show _ ≤ 120514; omega⟩) hw hA [0, 1, 2, 3, 4, 5, 6, 7, 8, 9, 10, 11, 12, 13, 14, 15, 16, 17, 18, 19, 20, 21, 22, 23, 24, 25, 26] [27, 28, 29, 30, 31, 32, 33] rfl rfl rfl rfl (by decide) (fun _ => rfl) (fun _ => rfl) (fun ce q9 u9 H locs hpx hw9 g1 g2 g3 => absurd rfl hpx.1) (fun r9 u9 H locs hp9 hw9 => ?_)
  obtain ⟨_, rfl, rfl⟩ := hp9
  have hw : WD G (lwd G k1 k2 a a2 u1 u2 z y k z o (v) (w)) A s H locs := hw9.sub [7, 8, 9, 10, 11, 12, 13, 14, 15, 16, 17, 18, 19, 20, 21, 22, 23, 24, 25, 26, 27, 28, 29, 30, 31, 32, 33, 0, 1, 2, 3, 4, 5, 6] rfl rfl
  refine lv_aload_n S.1 S.2.1 dL_law_1594 rfl (lv_at hl 2 rfl) ?_
  have hwc : WD G (mp G a2 z o) A s H _ := hw.sub [29, 30, 31, 32, 33] rfl rfl
  refine cj_i (wc := (mp G a2 z o)) (wr := (gp G a z y k ++ [(u1, .inl (k1, (1, .inr (.inl (fun _ => v))))), (u2, .inl (k2, (1, .inr (.inr (.inr (.inl (fun _ => w)))))))])) (va_runV (As := []) (rest := [.int (z 0 7)]) S (c_X5_refutations l G a2 z o H.size  ) (cwV 0 S.2.2.2.2 gL_law_X5_refutations rfl rfl rfl hd_X5_refutations ⟨by rw [hR]; exact Nat.le_of_ble_eq_true rfl, by rw [hR]; exact Nat.le_of_ble_eq_true rfl⟩) ⟨PW.blind, va_recv hK.1 hwc.1 (ci := 5) (q0 := 0) rfl rfl, fun U hU hW => ⟨rfl, PW.of hK hwc hU hW⟩⟩ rfl rfl hl.1 rfl (lv_room (Nat.le_of_ble_eq_true rfl)) dL_law_1595 ⟨by rw [hR]; show _ ≤ 3131; omega, by rw [hR]; show _ ≤ 120514; omega⟩) hw hA [29, 30, 31, 32, 33] [0, 1, 2, 3, 4, 5, 6, 7, 8, 9, 10, 11, 12, 13, 14, 15, 16, 17, 18, 19, 20, 21, 22, 23, 24, 25, 26, 27, 28] rfl rfl rfl rfl (by decide) (fun _ => rfl) (fun r9 x9 H locs hp9 hw9 => ?_)
  obtain ⟨z9, o9⟩ := x9
  obtain ⟨e0, e1, hrt, ht9⟩ := hp9
  have e1 : z = z9 := (e1).symm
  subst e1
  have hw : WD G (lwd G k1 k2 a a2 u1 u2 z y k z o9 (v) (w)) A s H locs := hw9
  have e0 : r9 = z 0 7 := e0
  subst e0
  refine lv_icmp_eq (tgt := 1963) S.1 S.2.1 dL_law_1598 (by decide) (fun _ => ?_) (fun c8 => absurd rfl c8)
  refine W.widen (k := cells + 2) (n := slots + 12) (by omega) (by omega) ?_
  exact kk H locs ls z y k o9 (v) (w) _ _ (hr.go hr.1.1 hrt) hw (lv_sub hl [0, 1, 2, 3, 4, 5] rfl)

set_option maxHeartbeats 4000000 in
set_option maxRecDepth 100000 in
theorem lc_27 {p : Program} {l : Launch} {e : Env} {R : Room} {s : State} {m : MethodId} {args : Array Value} {below : List Frame} {meth : Method} {c : Code} {H : Heap} {locs : List Loc} {cells slots : Nat} {Q : State → Prop} {G : GA} {k1 k2 : ClassId} {A : Nat → Prop} {a a2 : Nat → Nat} {sb u1 u2 L i : Nat} {xs : Nat → Int32} {z y k o : St} {v : Int64} {w : UInt64} {tl : Nat} {hs : Bool} {ls : Array Slot} (S : CallFix p m c cL_law 9 s args lw_tbl RL) (hK : KK G s) (hX : XE l A s) (hL : KL G k1 k2 s) (hA : ∀ q, s.heap.size ≤ q → A q) (hXs : va_X sb L xs s s.heap) (hbl : sb < s.heap.size) (hbA : ¬ A sb) (hLL : L ≤ 2560) (hR : R = room_1) (hc1 : cells + 2 ≤ 3131) (hc2 : slots + 12 ≤ 120514) (hi : i + 4 < L) (hr : Rl z y k o tl hs) (hw : WD G (lwd G k1 k2 a a2 u1 u2 z y k z o v w) A s H locs) (hl : lv_has ls 9 [(0, .ref sb), (1, .ref (a 0)), (2, .ref (a2 0)), (3, .ref u1), (4, .ref u2), (5, .int (nI i))]) (kk : LK p l e R s m args below meth c Q G k1 k2 a a2 sb u1 u2 i A cells slots) : W p l e R s m args below meth c H locs cells slots Q (F0 m 1603 ls []) := by
  refine lv_aload_n S.1 S.2.1 dL_law_1603 rfl (lv_at hl 1 rfl) ?_
  have hwc : WD G (gp G a z y k) A s H _ := hw.sub [0, 1, 2, 3, 4, 5, 6, 7, 8, 9, 10, 11, 12, 13, 14, 15, 16, 17, 18, 19, 20, 21, 22, 23, 24, 25, 26] rfl rfl
  have hx9 := xc_le ((0, z 0 8, z) : PO).1
  refine cx_i (wc := (gp G a z y k)) (wr := ([(u1, .inl (k1, (1, .inr (.inl (fun _ => v))))), (u2, .inl (k2, (1, .inr (.inr (.inr (.inl (fun _ => w)))))))] ++ mp G a2 z o)) (vx_runV (As := []) (rest := []) S (c_X4_messages l G a z y k H.size ) (cwV 0 S.2.2.2.2 gL_law_X4_messages rfl rfl rfl hd_X4_messages ⟨by rw [hR]; exact Nat.le_of_ble_eq_true rfl, by rw [hR]; exact Nat.le_of_ble_eq_true rfl⟩) ⟨PX.blind, va_recv hK.1 hwc.1 (ci := 4) (q0 := 0) rfl rfl, fun U hU hW => ⟨rfl, PX.of hK hX hwc (va_free hw.2.1 hw.2.2 hA [0, 1, 2, 3, 4, 5, 6, 7, 8, 9, 10, 11, 12, 13, 14, 15, 16, 17, 18, 19, 20, 21, 22, 23, 24, 25, 26] rfl) hU hW⟩⟩ rfl rfl hl.1 rfl (lv_room (Nat.le_of_ble_eq_true rfl)) dL_law_1604 ⟨by rw [hR]; show _ ≤ 3131; omega, by rw [hR]; show _ ≤ 120514; omega⟩) hw hA [0, 1, 2, 3, 4, 5, 6, 7, 8, 9, 10, 11, 12, 13, 14, 15, 16, 17, 18, 19, 20, 21, 22, 23, 24, 25, 26] [27, 28, 29, 30, 31, 32, 33] rfl rfl rfl rfl (by decide) (fun _ => rfl) (fun _ => rfl) (fun ce q9 u9 H locs hpx hw9 g1 g2 g3 => absurd rfl hpx.1) (fun r9 u9 H locs hp9 hw9 => ?_)
  obtain ⟨_, rfl, rfl⟩ := hp9
  have hw : WD G (lwd G k1 k2 a a2 u1 u2 z y k z o (v) (w)) A s H locs := hw9.sub [7, 8, 9, 10, 11, 12, 13, 14, 15, 16, 17, 18, 19, 20, 21, 22, 23, 24, 25, 26, 27, 28, 29, 30, 31, 32, 33, 0, 1, 2, 3, 4, 5, 6] rfl rfl
  refine lv_aload_n S.1 S.2.1 dL_law_1607 rfl (lv_at hl 2 rfl) ?_
  have hwc : WD G (mp G a2 z o) A s H _ := hw.sub [29, 30, 31, 32, 33] rfl rfl
  refine cj_i (wc := (mp G a2 z o)) (wr := (gp G a z y k ++ [(u1, .inl (k1, (1, .inr (.inl (fun _ => v))))), (u2, .inl (k2, (1, .inr (.inr (.inr (.inl (fun _ => w)))))))])) (va_runV (As := []) (rest := [.int (z 0 8)]) S (c_X5_messages l G a2 z o H.size  ) (cwV 0 S.2.2.2.2 gL_law_X5_messages rfl rfl rfl hd_X5_messages ⟨by rw [hR]; exact Nat.le_of_ble_eq_true rfl, by rw [hR]; exact Nat.le_of_ble_eq_true rfl⟩) ⟨PW.blind, va_recv hK.1 hwc.1 (ci := 5) (q0 := 0) rfl rfl, fun U hU hW => ⟨rfl, PW.of hK hwc hU hW⟩⟩ rfl rfl hl.1 rfl (lv_room (Nat.le_of_ble_eq_true rfl)) dL_law_1608 ⟨by rw [hR]; show _ ≤ 3131; omega, by rw [hR]; show _ ≤ 120514; omega⟩) hw hA [29, 30, 31, 32, 33] [0, 1, 2, 3, 4, 5, 6, 7, 8, 9, 10, 11, 12, 13, 14, 15, 16, 17, 18, 19, 20, 21, 22, 23, 24, 25, 26, 27, 28] rfl rfl rfl rfl (by decide) (fun _ => rfl) (fun r9 x9 H locs hp9 hw9 => ?_)
  obtain ⟨z9, o9⟩ := x9
  obtain ⟨e0, e1, hrt, ht9⟩ := hp9
  have e1 : z = z9 := (e1).symm
  subst e1
  have hw : WD G (lwd G k1 k2 a a2 u1 u2 z y k z o9 (v) (w)) A s H locs := hw9
  have e0 : r9 = z 0 8 := e0
  subst e0
  refine lv_icmp_eq (tgt := 1963) S.1 S.2.1 dL_law_1611 (by decide) (fun _ => ?_) (fun c8 => absurd rfl c8)
  refine W.widen (k := cells + 2) (n := slots + 12) (by omega) (by omega) ?_
  exact kk H locs ls z y k o9 (v) (w) _ _ (hr.go hr.1.1 hrt) hw (lv_sub hl [0, 1, 2, 3, 4, 5] rfl)

set_option maxHeartbeats 4000000 in
set_option maxRecDepth 100000 in
theorem lc_28 {p : Program} {l : Launch} {e : Env} {R : Room} {s : State} {m : MethodId} {args : Array Value} {below : List Frame} {meth : Method} {c : Code} {H : Heap} {locs : List Loc} {cells slots : Nat} {Q : State → Prop} {G : GA} {k1 k2 : ClassId} {A : Nat → Prop} {a a2 : Nat → Nat} {sb u1 u2 L i : Nat} {xs : Nat → Int32} {z y k o : St} {v : Int64} {w : UInt64} {tl : Nat} {hs : Bool} {ls : Array Slot} (S : CallFix p m c cL_law 9 s args lw_tbl RL) (hK : KK G s) (hX : XE l A s) (hL : KL G k1 k2 s) (hA : ∀ q, s.heap.size ≤ q → A q) (hXs : va_X sb L xs s s.heap) (hbl : sb < s.heap.size) (hbA : ¬ A sb) (hLL : L ≤ 2560) (hR : R = room_1) (hc1 : cells + 2 ≤ 3131) (hc2 : slots + 12 ≤ 120514) (hi : i + 4 < L) (hr : Rl z y k o tl hs) (hw : WD G (lwd G k1 k2 a a2 u1 u2 z y k z o v w) A s H locs) (hl : lv_has ls 9 [(0, .ref sb), (1, .ref (a 0)), (2, .ref (a2 0)), (3, .ref u1), (4, .ref u2), (5, .int (nI i))]) (kk : LK p l e R s m args below meth c Q G k1 k2 a a2 sb u1 u2 i A cells slots) : W p l e R s m args below meth c H locs cells slots Q (F0 m 1616 ls []) := by
  refine lv_aload_n S.1 S.2.1 dL_law_1616 rfl (lv_at hl 1 rfl) ?_
  have hwc : WD G (gp G a z y k) A s H _ := hw.sub [0, 1, 2, 3, 4, 5, 6, 7, 8, 9, 10, 11, 12, 13, 14, 15, 16, 17, 18, 19, 20, 21, 22, 23, 24, 25, 26] rfl rfl
  have hx9 := xc_le ((0, z 0 0 - z 0 9, z) : PO).1
  refine cx_i (wc := (gp G a z y k)) (wr := ([(u1, .inl (k1, (1, .inr (.inl (fun _ => v))))), (u2, .inl (k2, (1, .inr (.inr (.inr (.inl (fun _ => w)))))))] ++ mp G a2 z o)) (vx_runV (As := []) (rest := []) S (c_X4_quietRounds l G a z y k H.size ) (cwV 0 S.2.2.2.2 gL_law_X4_quietRounds rfl rfl rfl hd_X4_quietRounds ⟨by rw [hR]; exact Nat.le_of_ble_eq_true rfl, by rw [hR]; exact Nat.le_of_ble_eq_true rfl⟩) ⟨PX.blind, va_recv hK.1 hwc.1 (ci := 4) (q0 := 0) rfl rfl, fun U hU hW => ⟨rfl, PX.of hK hX hwc (va_free hw.2.1 hw.2.2 hA [0, 1, 2, 3, 4, 5, 6, 7, 8, 9, 10, 11, 12, 13, 14, 15, 16, 17, 18, 19, 20, 21, 22, 23, 24, 25, 26] rfl) hU hW⟩⟩ rfl rfl hl.1 rfl (lv_room (Nat.le_of_ble_eq_true rfl)) dL_law_1617 ⟨by rw [hR]; show _ ≤ 3131; omega, by rw [hR]; show _ ≤ 120514; omega⟩) hw hA [0, 1, 2, 3, 4, 5, 6, 7, 8, 9, 10, 11, 12, 13, 14, 15, 16, 17, 18, 19, 20, 21, 22, 23, 24, 25, 26] [27, 28, 29, 30, 31, 32, 33] rfl rfl rfl rfl (by decide) (fun _ => rfl) (fun _ => rfl) (fun ce q9 u9 H locs hpx hw9 g1 g2 g3 => absurd rfl hpx.1) (fun r9 u9 H locs hp9 hw9 => ?_)
  obtain ⟨_, rfl, rfl⟩ := hp9
  have hw : WD G (lwd G k1 k2 a a2 u1 u2 z y k z o (v) (w)) A s H locs := hw9.sub [7, 8, 9, 10, 11, 12, 13, 14, 15, 16, 17, 18, 19, 20, 21, 22, 23, 24, 25, 26, 27, 28, 29, 30, 31, 32, 33, 0, 1, 2, 3, 4, 5, 6] rfl rfl
  refine lv_aload_n S.1 S.2.1 dL_law_1620 rfl (lv_at hl 2 rfl) ?_
  have hwc : WD G (mp G a2 z o) A s H _ := hw.sub [29, 30, 31, 32, 33] rfl rfl
  refine cj_i (wc := (mp G a2 z o)) (wr := (gp G a z y k ++ [(u1, .inl (k1, (1, .inr (.inl (fun _ => v))))), (u2, .inl (k2, (1, .inr (.inr (.inr (.inl (fun _ => w)))))))])) (va_runV (As := []) (rest := [.int (z 0 0 - z 0 9)]) S (c_X5_quietRounds l G a2 z o H.size  ) (cwV 0 S.2.2.2.2 gL_law_X5_quietRounds rfl rfl rfl hd_X5_quietRounds ⟨by rw [hR]; exact Nat.le_of_ble_eq_true rfl, by rw [hR]; exact Nat.le_of_ble_eq_true rfl⟩) ⟨PW.blind, va_recv hK.1 hwc.1 (ci := 5) (q0 := 0) rfl rfl, fun U hU hW => ⟨rfl, PW.of hK hwc hU hW⟩⟩ rfl rfl hl.1 rfl (lv_room (Nat.le_of_ble_eq_true rfl)) dL_law_1621 ⟨by rw [hR]; show _ ≤ 3131; omega, by rw [hR]; show _ ≤ 120514; omega⟩) hw hA [29, 30, 31, 32, 33] [0, 1, 2, 3, 4, 5, 6, 7, 8, 9, 10, 11, 12, 13, 14, 15, 16, 17, 18, 19, 20, 21, 22, 23, 24, 25, 26, 27, 28] rfl rfl rfl rfl (by decide) (fun _ => rfl) (fun r9 x9 H locs hp9 hw9 => ?_)
  obtain ⟨z9, o9⟩ := x9
  obtain ⟨e0, e1, hrt, ht9⟩ := hp9
  have e1 : z = z9 := (e1).symm
  subst e1
  have hw : WD G (lwd G k1 k2 a a2 u1 u2 z y k z o9 (v) (w)) A s H locs := hw9
  have e0 : r9 = z 0 0 - z 0 9 := e0
  subst e0
  refine lv_icmp_eq (tgt := 1963) S.1 S.2.1 dL_law_1624 (by decide) (fun _ => ?_) (fun c8 => absurd rfl c8)
  refine W.widen (k := cells + 2) (n := slots + 12) (by omega) (by omega) ?_
  exact kk H locs ls z y k o9 (v) (w) _ _ (hr.go hr.1.1 hrt) hw (lv_sub hl [0, 1, 2, 3, 4, 5] rfl)

