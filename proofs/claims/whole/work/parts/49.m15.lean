set_option maxHeartbeats 4000000 in
set_option maxRecDepth 100000 in
theorem lc_29 {p : Program} {l : Launch} {e : Env} {R : Room} {s : State} {m : MethodId} {args : Array Value} {below : List Frame} {meth : Method} {c : Code} {H : Heap} {locs : List Loc} {cells slots : Nat} {Q : State → Prop} {G : GA} {k1 k2 : ClassId} {A : Nat → Prop} {a a2 : Nat → Nat} {sb u1 u2 L i : Nat} {xs : Nat → Int32} {z y k o : St} {v : Int64} {w : UInt64} {tl : Nat} {hs : Bool} {ls : Array Slot} (S : CallFix p m c cL_law 9 s args lw_tbl RL) (hK : KK G s) (hX : XE l A s) (hL : KL G k1 k2 s) (hA : ∀ q, s.heap.size ≤ q → A q) (hXs : va_X sb L xs s s.heap) (hbl : sb < s.heap.size) (hbA : ¬ A sb) (hLL : L ≤ 2560) (hR : R = room_1) (hc1 : cells + 2 ≤ 3131) (hc2 : slots + 12 ≤ 120514) (hi : i + 4 < L) (hr : Rl z y k o tl hs) (hw : WD G (lwd G k1 k2 a a2 u1 u2 z y k z o v w) A s H locs) (hl : lv_has ls 9 [(0, .ref sb), (1, .ref (a 0)), (2, .ref (a2 0)), (3, .ref u1), (4, .ref u2), (5, .int (nI i))]) (kk : LK p l e R s m args below meth c Q G k1 k2 a a2 sb u1 u2 i A cells slots) : W p l e R s m args below meth c H locs cells slots Q (F0 m 1629 ls []) := by
  refine lv_aload_n S.1 S.2.1 dL_law_1629 rfl (lv_at hl 1 rfl) ?_
  refine lv_aload_n S.1 S.2.1 dL_law_1630 rfl (lv_at hl 0 rfl) ?_
  refine lv_iload S.1 S.2.1 dL_law_1631 (lv_at hl 5 rfl) ?_
  refine lv_iconst (v := 1) S.1 S.2.1 dL_law_1633 (by decide) ?_
  refine addN (a := i) (b := 1) S dL_law_1634 ?_
  refine sld_n (k := i + 1) S hXs hbl hbA hLL hw (by omega) dL_law_1635 ?_
  refine lv_aload_n S.1 S.2.1 dL_law_1636 rfl (lv_at hl 3 rfl) ?_
  have hwc : WD G (gL G k1 a z y k u1 (v)) A s H _ := hw.sub [0, 1, 2, 3, 4, 5, 6, 7, 8, 9, 10, 11, 12, 13, 14, 15, 16, 17, 18, 19, 20, 21, 22, 23, 24, 25, 26, 27] rfl rfl
  have hx9 := xc_le (pAp ((xs (i + 1))) tl z : PO).1
  refine cx_i (wc := (gL G k1 a z y k u1 (v))) (wr := ([(u2, .inl (k2, (1, .inr (.inr (.inr (.inl (fun _ => w)))))))] ++ mp G a2 z o)) (vx_runSX (hh := [(0, 9, 12, 13), (0, 9, 15, 30)]) (As := [.ref (a 0), .int (xs (i + 1)), .ref (u1)]) (rest := []) S (c_L_appendCharacter l G k1 k2 u1 (v) a z y k H.size ((xs (i + 1))) hr.2.1.2.1 hr.1.2.1) (vx_cwSW 3 S.2.2.2.2 gL_law_L_appendCharacter rfl rfl rfl hd_L_appendCharacter ⟨by rw [hR]; exact Nat.le_of_ble_eq_true rfl, by rw [hR]; exact Nat.le_of_ble_eq_true rfl⟩) ⟨PL.blind, fun U hU hW => ⟨rfl, PL.of hK hX hL hwc (va_free hw.2.1 hw.2.2 hA [0, 1, 2, 3, 4, 5, 6, 7, 8, 9, 10, 11, 12, 13, 14, 15, 16, 17, 18, 19, 20, 21, 22, 23, 24, 25, 26, 27] rfl) hU hW⟩⟩ rfl rfl hl.1 rfl (lv_room (Nat.le_of_ble_eq_true rfl)) dL_law_1637 ⟨by rw [hR]; show _ ≤ 3131; omega, by rw [hR]; show _ ≤ 120514; omega⟩) hw hA [0, 1, 2, 3, 4, 5, 6, 7, 8, 9, 10, 11, 12, 13, 14, 15, 16, 17, 18, 19, 20, 21, 22, 23, 24, 25, 26, 27] [28, 29, 30, 31, 32, 33] rfl rfl rfl rfl (by decide) (fun _ => rfl) (fun _ => rfl) (fun ce q9 u9 H locs hpx hw9 g1 g2 g3 => absurd hpx id) (fun r9 u9 H locs hp9 hw9 => ?_)
  obtain ⟨⟨z9, y9, k9⟩, v9⟩ := u9
  obtain ⟨rfl, e9, ev⟩ := hp9
  have e9 : (z9, y9, k9) = ((pAp ((xs (i + 1))) tl z : PO).2.2, y, (kAp ((xs (i + 1))) tl k)) := e9
  cases e9
  have ev : (pAp ((xs (i + 1))) tl z : PO).1 = 0 → v9 = ((pAp ((xs (i + 1))) tl z : PO).2.1).toInt64 := ev
  have hw : WD G (lwd G k1 k2 a a2 u1 u2 (pAp ((xs (i + 1))) tl z : PO).2.2 y (kAp ((xs (i + 1))) tl k) z o (v9) (w)) A s H locs := hw9.sub [6, 7, 8, 9, 10, 11, 12, 13, 14, 15, 16, 17, 18, 19, 20, 21, 22, 23, 24, 25, 26, 27, 28, 29, 30, 31, 32, 33, 0, 1, 2, 3, 4, 5] rfl rfl
  have e5 : (pAp ((xs (i + 1))) tl z : PO).2.2 = z := pAp_z _ _ _
  rw [e5] at hw
  refine lv_istore (lv' := [(6, .int ((pAp ((xs (i + 1))) tl z : PO).1)), (0, .ref (sb)), (1, .ref (a 0)), (2, .ref (a2 0)), (3, .ref (u1)), (4, .ref (u2)), (5, .int (nI (i)))]) S.1 S.2.1 dL_law_1640 hl (by decide) rfl (fun ls hl => ?_)
  refine lv_aload_n S.1 S.2.1 dL_law_1642 rfl (lv_at hl 3 rfl) ?_
  refine lv_aload_n S.1 S.2.1 dL_law_1643 rfl (lv_at hl 1 rfl) ?_
  refine lv_iload S.1 S.2.1 dL_law_1644 (lv_at hl 6 rfl) ?_
  refine lv_iconst (v := 1) S.1 S.2.1 dL_law_1646 (by decide) ?_
  refine addN (a := i) (b := 1) S dL_law_1647 ?_
  refine sld_n (k := i + 1) S hXs hbl hbA hLL hw (by omega) dL_law_1648 ?_
  have hwc : WD G (mp G a2 z o) A s H _ := hw.sub [29, 30, 31, 32, 33] rfl rfl
  refine cj_i (wc := (mp G a2 z o)) (wr := (gp G a z y (kAp ((xs (i + 1))) tl k) ++ [(u1, .inl (k1, (1, .inr (.inl (fun _ => v9))))), (u2, .inl (k2, (1, .inr (.inr (.inr (.inl (fun _ => w)))))))])) (va_runV (As := [.int (xs (i + 1))]) (rest := []) S (c_X5_appendCharacter l G a2 z o H.size ((xs (i + 1))) hr.2.1.2.2 hr.1.2.1) (cwV 1 S.2.2.2.2 gL_law_X5_appendCharacter rfl rfl rfl hd_X5_appendCharacter ⟨by rw [hR]; exact Nat.le_of_ble_eq_true rfl, by rw [hR]; exact Nat.le_of_ble_eq_true rfl⟩) ⟨PW.blind, va_recv hK.1 hwc.1 (ci := 5) (q0 := 0) rfl rfl, fun U hU hW => ⟨rfl, PW.of hK hwc hU hW⟩⟩ rfl rfl hl.1 rfl (lv_room (Nat.le_of_ble_eq_true rfl)) dL_law_1649 ⟨by rw [hR]; show _ ≤ 3131; omega, by rw [hR]; show _ ≤ 120514; omega⟩) hw hA [29, 30, 31, 32, 33] [0, 1, 2, 3, 4, 5, 6, 7, 8, 9, 10, 11, 12, 13, 14, 15, 16, 17, 18, 19, 20, 21, 22, 23, 24, 25, 26, 27, 28] rfl rfl rfl rfl (by decide) (fun _ => rfl) (fun r9 x9 H locs hp9 hw9 => ?_)
  obtain ⟨z9, o9⟩ := x9
  obtain ⟨e0, e1, hrt, ht9⟩ := hp9
  have e1 : z = z9 := (e1).symm
  subst e1
  have ht9 : o9 0 0 = (pAp ((xs (i + 1))) tl z : PO).1 := ht9
  have hw : WD G (lwd G k1 k2 a a2 u1 u2 z y (kAp ((xs (i + 1))) tl k) z o9 (v9) (w)) A s H locs := hw9
  have e0 : r9 = (pAp ((xs (i + 1))) tl z : PO).2.1 := e0
  subst e0
  refine lv_istore (lv' := [(7, .int ((pAp ((xs (i + 1))) tl z : PO).2.1)), (6, .int ((pAp ((xs (i + 1))) tl z : PO).1)), (0, .ref (sb)), (1, .ref (a 0)), (2, .ref (a2 0)), (3, .ref (u1)), (4, .ref (u2)), (5, .int (nI (i)))]) S.1 S.2.1 dL_law_1652 hl (by decide) rfl (fun ls hl => ?_)
  refine lv_aload_n S.1 S.2.1 dL_law_1654 rfl (lv_at hl 4 rfl) ?_
  have hwc : WD G (mp G a2 z o9) A s H _ := hw.sub [29, 30, 31, 32, 33] rfl rfl
  refine cj_i (wc := (mp G a2 z o9)) (wr := (gp G a z y (kAp ((xs (i + 1))) tl k) ++ [(u1, .inl (k1, (1, .inr (.inl (fun _ => v9))))), (u2, .inl (k2, (1, .inr (.inr (.inr (.inl (fun _ => w)))))))])) (va_runV (As := []) (rest := []) S (c_X5_thrown l G a2 z o9 H.size  ) (cwV 0 S.2.2.2.2 gL_law_X5_thrown rfl rfl rfl hd_X5_thrown ⟨by rw [hR]; exact Nat.le_of_ble_eq_true rfl, by rw [hR]; exact Nat.le_of_ble_eq_true rfl⟩) ⟨PW.blind, va_recv hK.1 hwc.1 (ci := 5) (q0 := 0) rfl rfl, fun U hU hW => ⟨rfl, PW.of hK hwc hU hW⟩⟩ rfl rfl hl.1 rfl (lv_room (Nat.le_of_ble_eq_true rfl)) dL_law_1655 ⟨by rw [hR]; show _ ≤ 3131; omega, by rw [hR]; show _ ≤ 120514; omega⟩) hw hA [29, 30, 31, 32, 33] [0, 1, 2, 3, 4, 5, 6, 7, 8, 9, 10, 11, 12, 13, 14, 15, 16, 17, 18, 19, 20, 21, 22, 23, 24, 25, 26, 27, 28] rfl rfl rfl rfl (by decide) (fun _ => rfl) (fun t9 x8 H locs hp9 hw9 => ?_)
  obtain ⟨z8, o8⟩ := x8
  obtain ⟨e1, e2, e3⟩ := hp9
  dsimp only at e2 e3
  have e2 := e2.symm
  have e3 := e3.symm
  subst e2
  subst e3
  have hw : WD G (lwd G k1 k2 a a2 u1 u2 z y (kAp ((xs (i + 1))) tl k) z o9 (v9) (w)) A s H locs := hw9
  refine top_to (v := (pAp ((xs (i + 1))) tl z : PO).1) S (e1.trans ht9) ?_
  refine lv_iload S.1 S.2.1 dL_law_1658 (lv_at hl 1 rfl) ?_
  refine lv_icmp_eq (tgt := 1665) S.1 S.2.1 dL_law_1660 (by decide) (fun _ => ?_) (fun c8 => absurd rfl c8)
  refine lv_iload S.1 S.2.1 dL_law_1665 (lv_at hl 1 rfl) ?_
  refine lv_if_ne (tgt := 1682) S.1 S.2.1 dL_law_1667 (by decide) (fun _ => ?_) (fun c8 => ?_)
  · skip
    refine lv_goto (tgt := 1963) S.1 S.2.1 dL_law_1682 (by decide) ?_
    refine W.widen (k := cells + 2) (n := slots + 12) (by omega) (by omega) ?_
    obtain ⟨tl9, hr9⟩ := hr.app ((xs (i + 1))) hrt
    exact kk H locs ls z y (kAp ((xs (i + 1))) tl k) o9 (v9) (w) _ _ (hr9) hw (lv_sub hl [2, 3, 4, 5, 6, 7] rfl)
  · skip
    have c9 : (pAp ((xs (i + 1))) tl z : PO).1 = 0 := by first | exact c8 | exact Decidable.not_not.mp c8
    have e9 := ev c9
    subst e9
    have hw : WD G (lwd G k1 k2 a a2 u1 u2 z y (kAp ((xs (i + 1))) tl k) z o9 (((pAp ((xs (i + 1))) tl z : PO).2.1).toInt64) (w)) A s H locs := hw
    refine lv_aload_n S.1 S.2.1 dL_law_1670 rfl (lv_at hl 5 rfl) ?_
    refine lv_iconst (v := 0) S.1 S.2.1 dL_law_1671 (by decide) ?_
    refine la_l S hL hw 27 rfl dL_law_1672 ?_
    refine lv_iload S.1 S.2.1 dL_law_1673 (lv_at hl 0 rfl) ?_
    refine lv_i2l S.1 S.2.1 dL_law_1675 rfl ?_
    refine lcmp_s S.1 S.2.1 rfl dL_law_1676 ?_
    refine lv_if_eq (tgt := 1682) S.1 S.2.1 dL_law_1677 (by decide) (fun c1 => ?_) (fun c1 => ?_)
    · skip
      refine lv_goto (tgt := 1963) S.1 S.2.1 dL_law_1682 (by decide) ?_
      refine W.widen (k := cells + 2) (n := slots + 12) (by omega) (by omega) ?_
      obtain ⟨tl9, hr9⟩ := hr.app ((xs (i + 1))) hrt
      exact kk H locs ls z y (kAp ((xs (i + 1))) tl k) o9 (((pAp ((xs (i + 1))) tl z : PO).2.1).toInt64) (w) _ _ (hr9) hw (lv_sub hl [2, 3, 4, 5, 6, 7] rfl)
    · skip
      exact absurd c1 (by decide)

set_option maxHeartbeats 4000000 in
set_option maxRecDepth 100000 in
theorem lc_30 {p : Program} {l : Launch} {e : Env} {R : Room} {s : State} {m : MethodId} {args : Array Value} {below : List Frame} {meth : Method} {c : Code} {H : Heap} {locs : List Loc} {cells slots : Nat} {Q : State → Prop} {G : GA} {k1 k2 : ClassId} {A : Nat → Prop} {a a2 : Nat → Nat} {sb u1 u2 L i : Nat} {xs : Nat → Int32} {z y k o : St} {v : Int64} {w : UInt64} {tl : Nat} {hs : Bool} {ls : Array Slot} (S : CallFix p m c cL_law 9 s args lw_tbl RL) (hK : KK G s) (hX : XE l A s) (hL : KL G k1 k2 s) (hA : ∀ q, s.heap.size ≤ q → A q) (hXs : va_X sb L xs s s.heap) (hbl : sb < s.heap.size) (hbA : ¬ A sb) (hLL : L ≤ 2560) (hR : R = room_1) (hc1 : cells + 2 ≤ 3131) (hc2 : slots + 12 ≤ 120514) (hi : i + 4 < L) (hr : Rl z y k o tl hs) (hw : WD G (lwd G k1 k2 a a2 u1 u2 z y k z o v w) A s H locs) (hl : lv_has ls 9 [(0, .ref sb), (1, .ref (a 0)), (2, .ref (a2 0)), (3, .ref u1), (4, .ref u2), (5, .int (nI i))]) (kk : LK p l e R s m args below meth c Q G k1 k2 a a2 sb u1 u2 i A cells slots) : W p l e R s m args below meth c H locs cells slots Q (F0 m 1685 ls []) := by
  refine lv_aload_n S.1 S.2.1 dL_law_1685 rfl (lv_at hl 1 rfl) ?_
  refine lv_aload_n S.1 S.2.1 dL_law_1686 rfl (lv_at hl 3 rfl) ?_
  have hwc : WD G (gL G k1 a z y k u1 (v)) A s H _ := hw.sub [0, 1, 2, 3, 4, 5, 6, 7, 8, 9, 10, 11, 12, 13, 14, 15, 16, 17, 18, 19, 20, 21, 22, 23, 24, 25, 26, 27] rfl rfl
  have hx9 := xr_le (rT (k 2) tl z).1
  refine cx_i (wc := (gL G k1 a z y k u1 (v))) (wr := ([(u2, .inl (k2, (1, .inr (.inr (.inr (.inl (fun _ => w)))))))] ++ mp G a2 z o)) (vx_runSX (hh := [(0, 8, 11, 13), (0, 8, 14, 30)]) (As := [.ref (a 0), .ref (u1)]) (rest := []) S (c_L_runText l G k1 k2 u1 (v) a z y k H.size  hr.1.1 hr.2.1.2.1 hr.1.2.1 hr.1.2.2) (vx_cwSW 2 S.2.2.2.2 gL_law_L_runText rfl rfl rfl hd_L_runText ⟨by rw [hR]; exact Nat.le_of_ble_eq_true rfl, by rw [hR]; exact Nat.le_of_ble_eq_true rfl⟩) ⟨PL.blind, fun U hU hW => ⟨rfl, PL.of hK hX hL hwc (va_free hw.2.1 hw.2.2 hA [0, 1, 2, 3, 4, 5, 6, 7, 8, 9, 10, 11, 12, 13, 14, 15, 16, 17, 18, 19, 20, 21, 22, 23, 24, 25, 26, 27] rfl) hU hW⟩⟩ rfl rfl hl.1 rfl (lv_room (Nat.le_of_ble_eq_true rfl)) dL_law_1687 ⟨by rw [hR]; show _ ≤ 3131; omega, by rw [hR]; show _ ≤ 120514; omega⟩) hw hA [0, 1, 2, 3, 4, 5, 6, 7, 8, 9, 10, 11, 12, 13, 14, 15, 16, 17, 18, 19, 20, 21, 22, 23, 24, 25, 26, 27] [28, 29, 30, 31, 32, 33] rfl rfl rfl rfl (by decide) (fun _ => rfl) (fun _ => rfl) (fun ce q9 u9 H locs hpx hw9 g1 g2 g3 => absurd hpx id) (fun r9 u9 H locs hp9 hw9 => ?_)
  obtain ⟨⟨z9, y9, k9⟩, v9⟩ := u9
  obtain ⟨rfl, ⟨N9, e9, hN9⟩, ev⟩ := hp9
  have e9 : (z9, y9, k9) = ((rT (k 2) tl z).2.2.1, y, (kR k (rT (k 2) tl z).2.2.2.1 N9)) := e9
  cases e9
  have ev : (rT (k 2) tl z).1 = 0 → v9 = ((rT (k 2) tl z).2.1).toInt64 := ev
  have hw : WD G (lwd G k1 k2 a a2 u1 u2 (rT (k 2) tl z).2.2.1 y (kR k (rT (k 2) tl z).2.2.2.1 N9) z o (v9) (w)) A s H locs := hw9.sub [6, 7, 8, 9, 10, 11, 12, 13, 14, 15, 16, 17, 18, 19, 20, 21, 22, 23, 24, 25, 26, 27, 28, 29, 30, 31, 32, 33, 0, 1, 2, 3, 4, 5] rfl rfl
  refine lv_istore (lv' := [(6, .int ((rT (k 2) tl z).1)), (0, .ref (sb)), (1, .ref (a 0)), (2, .ref (a2 0)), (3, .ref (u1)), (4, .ref (u2)), (5, .int (nI (i)))]) S.1 S.2.1 dL_law_1690 hl (by decide) rfl (fun ls hl => ?_)
  refine lv_aload_n S.1 S.2.1 dL_law_1692 rfl (lv_at hl 3 rfl) ?_
  have hwc : WD G (mp G a2 z o) A s H _ := hw.sub [29, 30, 31, 32, 33] rfl rfl
  refine cj_i (wc := (mp G a2 z o)) (wr := (gp G a (rT (k 2) tl z).2.2.1 y (kR k (rT (k 2) tl z).2.2.2.1 N9) ++ [(u1, .inl (k1, (1, .inr (.inl (fun _ => v9))))), (u2, .inl (k2, (1, .inr (.inr (.inr (.inl (fun _ => w)))))))])) (va_runV (As := []) (rest := []) S (c_X5_runText l G a2 z o H.size  hr.1.1 hr.tp hr.1.2.1) (cwV 0 S.2.2.2.2 gL_law_X5_runText rfl rfl rfl hd_X5_runText ⟨by rw [hR]; exact Nat.le_of_ble_eq_true rfl, by rw [hR]; exact Nat.le_of_ble_eq_true rfl⟩) ⟨PW.blind, va_recv hK.1 hwc.1 (ci := 5) (q0 := 0) rfl rfl, fun U hU hW => ⟨rfl, PW.of hK hwc hU hW⟩⟩ rfl rfl hl.1 rfl (lv_room (Nat.le_of_ble_eq_true rfl)) dL_law_1693 ⟨by rw [hR]; show _ ≤ 3131; omega, by rw [hR]; show _ ≤ 120514; omega⟩) hw hA [29, 30, 31, 32, 33] [0, 1, 2, 3, 4, 5, 6, 7, 8, 9, 10, 11, 12, 13, 14, 15, 16, 17, 18, 19, 20, 21, 22, 23, 24, 25, 26, 27, 28] rfl rfl rfl rfl (by decide) (fun _ => rfl) (fun r9 x9 H locs hp9 hw9 => ?_)
  obtain ⟨z9, o9⟩ := x9
  obtain ⟨e0, e1, hrt, ht9⟩ := hp9
  have e1 : (rT (k 2) tl z).2.2.1 = z9 := (e1).symm
  subst e1
  have ht9 : o9 0 0 = (rT (k 2) tl z).1 := ht9
  have hw : WD G (lwd G k1 k2 a a2 u1 u2 (rT (k 2) tl z).2.2.1 y (kR k (rT (k 2) tl z).2.2.2.1 N9) (rT (k 2) tl z).2.2.1 o9 (v9) (w)) A s H locs := hw9
  have e0 : r9 = (rT (k 2) tl z).2.1 := e0
  subst e0
  refine lv_istore (lv' := [(7, .int ((rT (k 2) tl z).2.1)), (6, .int ((rT (k 2) tl z).1)), (0, .ref (sb)), (1, .ref (a 0)), (2, .ref (a2 0)), (3, .ref (u1)), (4, .ref (u2)), (5, .int (nI (i)))]) S.1 S.2.1 dL_law_1696 hl (by decide) rfl (fun ls hl => ?_)
  refine lv_aload_n S.1 S.2.1 dL_law_1698 rfl (lv_at hl 4 rfl) ?_
  have hwc : WD G (mp G a2 (rT (k 2) tl z).2.2.1 o9) A s H _ := hw.sub [29, 30, 31, 32, 33] rfl rfl
  refine cj_i (wc := (mp G a2 (rT (k 2) tl z).2.2.1 o9)) (wr := (gp G a (rT (k 2) tl z).2.2.1 y (kR k (rT (k 2) tl z).2.2.2.1 N9) ++ [(u1, .inl (k1, (1, .inr (.inl (fun _ => v9))))), (u2, .inl (k2, (1, .inr (.inr (.inr (.inl (fun _ => w)))))))])) (va_runV (As := []) (rest := []) S (c_X5_thrown l G a2 (rT (k 2) tl z).2.2.1 o9 H.size  ) (cwV 0 S.2.2.2.2 gL_law_X5_thrown rfl rfl rfl hd_X5_thrown ⟨by rw [hR]; exact Nat.le_of_ble_eq_true rfl, by rw [hR]; exact Nat.le_of_ble_eq_true rfl⟩) ⟨PW.blind, va_recv hK.1 hwc.1 (ci := 5) (q0 := 0) rfl rfl, fun U hU hW => ⟨rfl, PW.of hK hwc hU hW⟩⟩ rfl rfl hl.1 rfl (lv_room (Nat.le_of_ble_eq_true rfl)) dL_law_1699 ⟨by rw [hR]; show _ ≤ 3131; omega, by rw [hR]; show _ ≤ 120514; omega⟩) hw hA [29, 30, 31, 32, 33] [0, 1, 2, 3, 4, 5, 6, 7, 8, 9, 10, 11, 12, 13, 14, 15, 16, 17, 18, 19, 20, 21, 22, 23, 24, 25, 26, 27, 28] rfl rfl rfl rfl (by decide) (fun _ => rfl) (fun t9 x8 H locs hp9 hw9 => ?_)
  obtain ⟨z8, o8⟩ := x8
  obtain ⟨e1, e2, e3⟩ := hp9
  dsimp only at e2 e3
  have e2 := e2.symm
  have e3 := e3.symm
  subst e2
  subst e3
  have hw : WD G (lwd G k1 k2 a a2 u1 u2 (rT (k 2) tl z).2.2.1 y (kR k (rT (k 2) tl z).2.2.2.1 N9) (rT (k 2) tl z).2.2.1 o9 (v9) (w)) A s H locs := hw9
  refine top_to (v := (rT (k 2) tl z).1) S (e1.trans ht9) ?_
  refine lv_iload S.1 S.2.1 dL_law_1702 (lv_at hl 1 rfl) ?_
  refine lv_icmp_eq (tgt := 1709) S.1 S.2.1 dL_law_1704 (by decide) (fun _ => ?_) (fun c8 => absurd rfl c8)
  refine lv_iload S.1 S.2.1 dL_law_1709 (lv_at hl 1 rfl) ?_
  refine lv_if_ne (tgt := 1726) S.1 S.2.1 dL_law_1711 (by decide) (fun _ => ?_) (fun c8 => ?_)
  · skip
    refine lv_goto (tgt := 1963) S.1 S.2.1 dL_law_1726 (by decide) ?_
    refine W.widen (k := cells + 2) (n := slots + 12) (by omega) (by omega) ?_
    exact kk H locs ls (rT (k 2) tl z).2.2.1 y (kR k (rT (k 2) tl z).2.2.2.1 N9) o9 (v9) (w) _ _ (hr.run (inv_rT hr.1.1 _ _) hN9 hrt) hw (lv_sub hl [2, 3, 4, 5, 6, 7] rfl)
  · skip
    have c9 : (rT (k 2) tl z).1 = 0 := by first | exact c8 | exact Decidable.not_not.mp c8
    have e9 := ev c9
    subst e9
    have hw : WD G (lwd G k1 k2 a a2 u1 u2 (rT (k 2) tl z).2.2.1 y (kR k (rT (k 2) tl z).2.2.2.1 N9) (rT (k 2) tl z).2.2.1 o9 (((rT (k 2) tl z).2.1).toInt64) (w)) A s H locs := hw
    refine lv_aload_n S.1 S.2.1 dL_law_1714 rfl (lv_at hl 5 rfl) ?_
    refine lv_iconst (v := 0) S.1 S.2.1 dL_law_1715 (by decide) ?_
    refine la_l S hL hw 27 rfl dL_law_1716 ?_
    refine lv_iload S.1 S.2.1 dL_law_1717 (lv_at hl 0 rfl) ?_
    refine lv_i2l S.1 S.2.1 dL_law_1719 rfl ?_
    refine lcmp_s S.1 S.2.1 rfl dL_law_1720 ?_
    refine lv_if_eq (tgt := 1726) S.1 S.2.1 dL_law_1721 (by decide) (fun c1 => ?_) (fun c1 => ?_)
    · skip
      refine lv_goto (tgt := 1963) S.1 S.2.1 dL_law_1726 (by decide) ?_
      refine W.widen (k := cells + 2) (n := slots + 12) (by omega) (by omega) ?_
      exact kk H locs ls (rT (k 2) tl z).2.2.1 y (kR k (rT (k 2) tl z).2.2.2.1 N9) o9 (((rT (k 2) tl z).2.1).toInt64) (w) _ _ (hr.run (inv_rT hr.1.1 _ _) hN9 hrt) hw (lv_sub hl [2, 3, 4, 5, 6, 7] rfl)
    · skip
      exact absurd c1 (by decide)

set_option maxHeartbeats 4000000 in
set_option maxRecDepth 100000 in
theorem lc_31 {p : Program} {l : Launch} {e : Env} {R : Room} {s : State} {m : MethodId} {args : Array Value} {below : List Frame} {meth : Method} {c : Code} {H : Heap} {locs : List Loc} {cells slots : Nat} {Q : State → Prop} {G : GA} {k1 k2 : ClassId} {A : Nat → Prop} {a a2 : Nat → Nat} {sb u1 u2 L i : Nat} {xs : Nat → Int32} {z y k o : St} {v : Int64} {w : UInt64} {tl : Nat} {hs : Bool} {ls : Array Slot} (S : CallFix p m c cL_law 9 s args lw_tbl RL) (hK : KK G s) (hX : XE l A s) (hL : KL G k1 k2 s) (hA : ∀ q, s.heap.size ≤ q → A q) (hXs : va_X sb L xs s s.heap) (hbl : sb < s.heap.size) (hbA : ¬ A sb) (hLL : L ≤ 2560) (hR : R = room_1) (hc1 : cells + 2 ≤ 3131) (hc2 : slots + 12 ≤ 120514) (hi : i + 4 < L) (hr : Rl z y k o tl hs) (hw : WD G (lwd G k1 k2 a a2 u1 u2 z y k z o v w) A s H locs) (hl : lv_has ls 9 [(0, .ref sb), (1, .ref (a 0)), (2, .ref (a2 0)), (3, .ref u1), (4, .ref u2), (5, .int (nI i))]) (kk : LK p l e R s m args below meth c Q G k1 k2 a a2 sb u1 u2 i A cells slots) : W p l e R s m args below meth c H locs cells slots Q (F0 m 1729 ls []) := by
  refine lv_aload_n S.1 S.2.1 dL_law_1729 rfl (lv_at hl 1 rfl) ?_
  refine lv_aload_n S.1 S.2.1 dL_law_1730 rfl (lv_at hl 0 rfl) ?_
  refine lv_iload S.1 S.2.1 dL_law_1731 (lv_at hl 5 rfl) ?_
  refine lv_iconst (v := 1) S.1 S.2.1 dL_law_1733 (by decide) ?_
  refine addN (a := i) (b := 1) S dL_law_1734 ?_
  refine sld_n (k := i + 1) S hXs hbl hbA hLL hw (by omega) dL_law_1735 ?_
  refine lv_aload_n S.1 S.2.1 dL_law_1736 rfl (lv_at hl 3 rfl) ?_
  have hwc : WD G (gL G k1 a z y k u1 (v)) A s H _ := hw.sub [0, 1, 2, 3, 4, 5, 6, 7, 8, 9, 10, 11, 12, 13, 14, 15, 16, 17, 18, 19, 20, 21, 22, 23, 24, 25, 26, 27] rfl rfl
  have hx9 := xc_le (pF ((xs (i + 1))) (k 0 1) (k 0 2) z : PO).1
  refine cx_i (wc := (gL G k1 a z y k u1 (v))) (wr := ([(u2, .inl (k2, (1, .inr (.inr (.inr (.inl (fun _ => w)))))))] ++ mp G a2 z o)) (vx_runSX (hh := [(0, 9, 12, 13), (0, 9, 15, 48)]) (As := [.ref (a 0), .int (xs (i + 1)), .ref (u1)]) (rest := []) S (c_L_failure l G k1 k2 u1 (v) a z y k H.size ((xs (i + 1))) ) (vx_cwSW 3 S.2.2.2.2 gL_law_L_failure rfl rfl rfl hd_L_failure ⟨by rw [hR]; exact Nat.le_of_ble_eq_true rfl, by rw [hR]; exact Nat.le_of_ble_eq_true rfl⟩) ⟨PL.blind, fun U hU hW => ⟨rfl, PL.of hK hX hL hwc (va_free hw.2.1 hw.2.2 hA [0, 1, 2, 3, 4, 5, 6, 7, 8, 9, 10, 11, 12, 13, 14, 15, 16, 17, 18, 19, 20, 21, 22, 23, 24, 25, 26, 27] rfl) hU hW⟩⟩ rfl rfl hl.1 rfl (lv_room (Nat.le_of_ble_eq_true rfl)) dL_law_1737 ⟨by rw [hR]; show _ ≤ 3131; omega, by rw [hR]; show _ ≤ 120514; omega⟩) hw hA [0, 1, 2, 3, 4, 5, 6, 7, 8, 9, 10, 11, 12, 13, 14, 15, 16, 17, 18, 19, 20, 21, 22, 23, 24, 25, 26, 27] [28, 29, 30, 31, 32, 33] rfl rfl rfl rfl (by decide) (fun _ => rfl) (fun _ => rfl) (fun ce q9 u9 H locs hpx hw9 g1 g2 g3 => absurd hpx id) (fun r9 u9 H locs hp9 hw9 => ?_)
  obtain ⟨⟨z9, y9, k9⟩, v9⟩ := u9
  obtain ⟨rfl, e9, ev⟩ := hp9
  have e9 : (z9, y9, k9) = ((pF ((xs (i + 1))) (k 0 1) (k 0 2) z : PO).2.2, y, k) := e9
  cases e9
  have ev : (pF ((xs (i + 1))) (k 0 1) (k 0 2) z : PO).1 = 0 → v9 = ((pF ((xs (i + 1))) (k 0 1) (k 0 2) z : PO).2.1).toInt64 := ev
  have hw : WD G (lwd G k1 k2 a a2 u1 u2 (pF ((xs (i + 1))) (k 0 1) (k 0 2) z : PO).2.2 y k z o (v9) (w)) A s H locs := hw9.sub [6, 7, 8, 9, 10, 11, 12, 13, 14, 15, 16, 17, 18, 19, 20, 21, 22, 23, 24, 25, 26, 27, 28, 29, 30, 31, 32, 33, 0, 1, 2, 3, 4, 5] rfl rfl
  have e5 : (pF ((xs (i + 1))) (k 0 1) (k 0 2) z : PO).2.2 = z := pF_z _ _ _ _
  rw [e5] at hw
  refine lv_istore (lv' := [(6, .int ((pF ((xs (i + 1))) (k 0 1) (k 0 2) z : PO).1)), (0, .ref (sb)), (1, .ref (a 0)), (2, .ref (a2 0)), (3, .ref (u1)), (4, .ref (u2)), (5, .int (nI (i)))]) S.1 S.2.1 dL_law_1740 hl (by decide) rfl (fun ls hl => ?_)
  refine lv_aload_n S.1 S.2.1 dL_law_1742 rfl (lv_at hl 3 rfl) ?_
  refine lv_aload_n S.1 S.2.1 dL_law_1743 rfl (lv_at hl 1 rfl) ?_
  refine lv_iload S.1 S.2.1 dL_law_1744 (lv_at hl 6 rfl) ?_
  refine lv_iconst (v := 1) S.1 S.2.1 dL_law_1746 (by decide) ?_
  refine addN (a := i) (b := 1) S dL_law_1747 ?_
  refine sld_n (k := i + 1) S hXs hbl hbA hLL hw (by omega) dL_law_1748 ?_
  have hwc : WD G (mp G a2 z o) A s H _ := hw.sub [29, 30, 31, 32, 33] rfl rfl
  refine cj_i (wc := (mp G a2 z o)) (wr := (gp G a z y k ++ [(u1, .inl (k1, (1, .inr (.inl (fun _ => v9))))), (u2, .inl (k2, (1, .inr (.inr (.inr (.inl (fun _ => w)))))))])) (va_runV (As := [.int (xs (i + 1))]) (rest := []) S (c_X5_failure l G a2 z o H.size ((xs (i + 1))) ) (cwV 1 S.2.2.2.2 gL_law_X5_failure rfl rfl rfl hd_X5_failure ⟨by rw [hR]; exact Nat.le_of_ble_eq_true rfl, by rw [hR]; exact Nat.le_of_ble_eq_true rfl⟩) ⟨PW.blind, va_recv hK.1 hwc.1 (ci := 5) (q0 := 0) rfl rfl, fun U hU hW => ⟨rfl, PW.of hK hwc hU hW⟩⟩ rfl rfl hl.1 rfl (lv_room (Nat.le_of_ble_eq_true rfl)) dL_law_1749 ⟨by rw [hR]; show _ ≤ 3131; omega, by rw [hR]; show _ ≤ 120514; omega⟩) hw hA [29, 30, 31, 32, 33] [0, 1, 2, 3, 4, 5, 6, 7, 8, 9, 10, 11, 12, 13, 14, 15, 16, 17, 18, 19, 20, 21, 22, 23, 24, 25, 26, 27, 28] rfl rfl rfl rfl (by decide) (fun _ => rfl) (fun r9 x9 H locs hp9 hw9 => ?_)
  obtain ⟨z9, o9⟩ := x9
  obtain ⟨e0, e1, hrt, ht9⟩ := hp9
  have e1 : z = z9 := (e1.trans (pF_z _ _ _ _)).symm
  subst e1
  have ht9 : o9 0 0 = (pF ((xs (i + 1))) (k 0 1) (k 0 2) z : PO).1 := ht9.trans (congrArg (fun x => x.1) (hr.fail _))
  have hw : WD G (lwd G k1 k2 a a2 u1 u2 z y k z o9 (v9) (w)) A s H locs := hw9
  have e0 : r9 = (pF ((xs (i + 1))) (k 0 1) (k 0 2) z : PO).2.1 := e0.trans (congrArg (fun x => x.2.1) (hr.fail _))
  subst e0
  refine lv_istore (lv' := [(7, .int ((pF ((xs (i + 1))) (k 0 1) (k 0 2) z : PO).2.1)), (6, .int ((pF ((xs (i + 1))) (k 0 1) (k 0 2) z : PO).1)), (0, .ref (sb)), (1, .ref (a 0)), (2, .ref (a2 0)), (3, .ref (u1)), (4, .ref (u2)), (5, .int (nI (i)))]) S.1 S.2.1 dL_law_1752 hl (by decide) rfl (fun ls hl => ?_)
  refine lv_aload_n S.1 S.2.1 dL_law_1754 rfl (lv_at hl 4 rfl) ?_
  have hwc : WD G (mp G a2 z o9) A s H _ := hw.sub [29, 30, 31, 32, 33] rfl rfl
  refine cj_i (wc := (mp G a2 z o9)) (wr := (gp G a z y k ++ [(u1, .inl (k1, (1, .inr (.inl (fun _ => v9))))), (u2, .inl (k2, (1, .inr (.inr (.inr (.inl (fun _ => w)))))))])) (va_runV (As := []) (rest := []) S (c_X5_thrown l G a2 z o9 H.size  ) (cwV 0 S.2.2.2.2 gL_law_X5_thrown rfl rfl rfl hd_X5_thrown ⟨by rw [hR]; exact Nat.le_of_ble_eq_true rfl, by rw [hR]; exact Nat.le_of_ble_eq_true rfl⟩) ⟨PW.blind, va_recv hK.1 hwc.1 (ci := 5) (q0 := 0) rfl rfl, fun U hU hW => ⟨rfl, PW.of hK hwc hU hW⟩⟩ rfl rfl hl.1 rfl (lv_room (Nat.le_of_ble_eq_true rfl)) dL_law_1755 ⟨by rw [hR]; show _ ≤ 3131; omega, by rw [hR]; show _ ≤ 120514; omega⟩) hw hA [29, 30, 31, 32, 33] [0, 1, 2, 3, 4, 5, 6, 7, 8, 9, 10, 11, 12, 13, 14, 15, 16, 17, 18, 19, 20, 21, 22, 23, 24, 25, 26, 27, 28] rfl rfl rfl rfl (by decide) (fun _ => rfl) (fun t9 x8 H locs hp9 hw9 => ?_)
  obtain ⟨z8, o8⟩ := x8
  obtain ⟨e1, e2, e3⟩ := hp9
  dsimp only at e2 e3
  have e2 := e2.symm
  have e3 := e3.symm
  subst e2
  subst e3
  have hw : WD G (lwd G k1 k2 a a2 u1 u2 z y k z o9 (v9) (w)) A s H locs := hw9
  refine top_to (v := (pF ((xs (i + 1))) (k 0 1) (k 0 2) z : PO).1) S (e1.trans ht9) ?_
  refine lv_iload S.1 S.2.1 dL_law_1758 (lv_at hl 1 rfl) ?_
  refine lv_icmp_eq (tgt := 1765) S.1 S.2.1 dL_law_1760 (by decide) (fun _ => ?_) (fun c8 => absurd rfl c8)
  refine lv_iload S.1 S.2.1 dL_law_1765 (lv_at hl 1 rfl) ?_
  refine lv_if_ne (tgt := 1782) S.1 S.2.1 dL_law_1767 (by decide) (fun _ => ?_) (fun c8 => ?_)
  · skip
    refine lv_goto (tgt := 1963) S.1 S.2.1 dL_law_1782 (by decide) ?_
    refine W.widen (k := cells + 2) (n := slots + 12) (by omega) (by omega) ?_
    exact kk H locs ls z y k o9 (v9) (w) _ _ (hr.go hr.1.1 hrt) hw (lv_sub hl [2, 3, 4, 5, 6, 7] rfl)
  · skip
    have c9 : (pF ((xs (i + 1))) (k 0 1) (k 0 2) z : PO).1 = 0 := by first | exact c8 | exact Decidable.not_not.mp c8
    have e9 := ev c9
    subst e9
    have hw : WD G (lwd G k1 k2 a a2 u1 u2 z y k z o9 (((pF ((xs (i + 1))) (k 0 1) (k 0 2) z : PO).2.1).toInt64) (w)) A s H locs := hw
    refine lv_aload_n S.1 S.2.1 dL_law_1770 rfl (lv_at hl 5 rfl) ?_
    refine lv_iconst (v := 0) S.1 S.2.1 dL_law_1771 (by decide) ?_
    refine la_l S hL hw 27 rfl dL_law_1772 ?_
    refine lv_iload S.1 S.2.1 dL_law_1773 (lv_at hl 0 rfl) ?_
    refine lv_i2l S.1 S.2.1 dL_law_1775 rfl ?_
    refine lcmp_s S.1 S.2.1 rfl dL_law_1776 ?_
    refine lv_if_eq (tgt := 1782) S.1 S.2.1 dL_law_1777 (by decide) (fun c1 => ?_) (fun c1 => ?_)
    · skip
      refine lv_goto (tgt := 1963) S.1 S.2.1 dL_law_1782 (by decide) ?_
      refine W.widen (k := cells + 2) (n := slots + 12) (by omega) (by omega) ?_
      exact kk H locs ls z y k o9 (((pF ((xs (i + 1))) (k 0 1) (k 0 2) z : PO).2.1).toInt64) (w) _ _ (hr.go hr.1.1 hrt) hw (lv_sub hl [2, 3, 4, 5, 6, 7] rfl)
    · skip
      exact absurd c1 (by decide)

set_option maxHeartbeats 4000000 in
set_option maxRecDepth 100000 in
theorem lc_32 {p : Program} {l : Launch} {e : Env} {R : Room} {s : State} {m : MethodId} {args : Array Value} {below : List Frame} {meth : Method} {c : Code} {H : Heap} {locs : List Loc} {cells slots : Nat} {Q : State → Prop} {G : GA} {k1 k2 : ClassId} {A : Nat → Prop} {a a2 : Nat → Nat} {sb u1 u2 L i : Nat} {xs : Nat → Int32} {z y k o : St} {v : Int64} {w : UInt64} {tl : Nat} {hs : Bool} {ls : Array Slot} (S : CallFix p m c cL_law 9 s args lw_tbl RL) (hK : KK G s) (hX : XE l A s) (hL : KL G k1 k2 s) (hA : ∀ q, s.heap.size ≤ q → A q) (hXs : va_X sb L xs s s.heap) (hbl : sb < s.heap.size) (hbA : ¬ A sb) (hLL : L ≤ 2560) (hR : R = room_1) (hc1 : cells + 2 ≤ 3131) (hc2 : slots + 12 ≤ 120514) (hi : i + 4 < L) (hr : Rl z y k o tl hs) (hw : WD G (lwd G k1 k2 a a2 u1 u2 z y k z o v w) A s H locs) (hl : lv_has ls 9 [(0, .ref sb), (1, .ref (a 0)), (2, .ref (a2 0)), (3, .ref u1), (4, .ref u2), (5, .int (nI i))]) (kk : LK p l e R s m args below meth c Q G k1 k2 a a2 sb u1 u2 i A cells slots) : W p l e R s m args below meth c H locs cells slots Q (F0 m 1785 ls []) := by
  refine lv_aload_n S.1 S.2.1 dL_law_1785 rfl (lv_at hl 1 rfl) ?_
  refine lv_aload_n S.1 S.2.1 dL_law_1786 rfl (lv_at hl 0 rfl) ?_
  refine lv_iload S.1 S.2.1 dL_law_1787 (lv_at hl 5 rfl) ?_
  refine lv_iconst (v := 1) S.1 S.2.1 dL_law_1789 (by decide) ?_
  refine addN (a := i) (b := 1) S dL_law_1790 ?_
  refine sld_n (k := i + 1) S hXs hbl hbA hLL hw (by omega) dL_law_1791 ?_
  refine lv_aload S.1 S.2.1 dL_law_1792 (lv_at hl 4 rfl) ?_
  have hwc : WD G (gD G k2 a z y k u2 (w)) A s H _ := hw.sub [0, 1, 2, 3, 4, 5, 6, 7, 8, 9, 10, 11, 12, 13, 14, 15, 16, 17, 18, 19, 20, 21, 22, 23, 24, 25, 26, 28] rfl rfl
  have hx9 := xc_le (pAv ((xs (i + 1))) z : PO).1
  refine cx_i (wc := (gD G k2 a z y k u2 (w))) (wr := ([(u1, .inl (k1, (1, .inr (.inl (fun _ => v)))))] ++ mp G a2 z o)) (vx_runSX (hh := [(0, 8, 11, 28)]) (As := [.ref (a 0), .int (xs (i + 1)), .ref (u2)]) (rest := []) S (c_L_averageCounter l G k1 k2 u2 (w) a z y k H.size ((xs (i + 1))) hr.1.1) (vx_cwSW 3 S.2.2.2.2 gL_law_L_averageCounter rfl rfl rfl hd_L_averageCounter ⟨by rw [hR]; exact Nat.le_of_ble_eq_true rfl, by rw [hR]; exact Nat.le_of_ble_eq_true rfl⟩) ⟨PL.blind, fun U hU hW => ⟨rfl, PL.of hK hX hL hwc (va_free hw.2.1 hw.2.2 hA [0, 1, 2, 3, 4, 5, 6, 7, 8, 9, 10, 11, 12, 13, 14, 15, 16, 17, 18, 19, 20, 21, 22, 23, 24, 25, 26, 28] rfl) hU hW⟩⟩ rfl rfl hl.1 rfl (lv_room (Nat.le_of_ble_eq_true rfl)) dL_law_1794 ⟨by rw [hR]; show _ ≤ 3131; omega, by rw [hR]; show _ ≤ 120514; omega⟩) hw hA [0, 1, 2, 3, 4, 5, 6, 7, 8, 9, 10, 11, 12, 13, 14, 15, 16, 17, 18, 19, 20, 21, 22, 23, 24, 25, 26, 28] [27, 29, 30, 31, 32, 33] rfl rfl rfl rfl (by decide) (fun _ => rfl) (fun _ => rfl) (fun ce q9 u9 H locs hpx hw9 g1 g2 g3 => absurd hpx id) (fun r9 u9 H locs hp9 hw9 => ?_)
  obtain ⟨⟨z9, y9, k9⟩, v9⟩ := u9
  obtain ⟨rfl, e9, ev⟩ := hp9
  have e9 : (z9, y9, k9) = ((pAv ((xs (i + 1))) z : PO).2.2, y, k) := e9
  cases e9
  have ev : (pAv ((xs (i + 1))) z : PO).1 = 0 → v9 = avg (smc z (tN (xs (i + 1))) 8) := ev
  have hw : WD G (lwd G k1 k2 a a2 u1 u2 (pAv ((xs (i + 1))) z : PO).2.2 y k z o (v) (v9)) A s H locs := hw9.sub [6, 7, 8, 9, 10, 11, 12, 13, 14, 15, 16, 17, 18, 19, 20, 21, 22, 23, 24, 25, 26, 27, 28, 29, 30, 31, 32, 0, 33, 1, 2, 3, 4, 5] rfl rfl
  have e5 : (pAv ((xs (i + 1))) z : PO).2.2 = z := pAv_z _ _
  rw [e5] at hw
  refine lv_istore (lv' := [(6, .int ((pAv ((xs (i + 1))) z : PO).1)), (0, .ref (sb)), (1, .ref (a 0)), (2, .ref (a2 0)), (3, .ref (u1)), (4, .ref (u2)), (5, .int (nI (i)))]) S.1 S.2.1 dL_law_1797 hl (by decide) rfl (fun ls hl => ?_)
  refine lv_aload_n S.1 S.2.1 dL_law_1799 rfl (lv_at hl 3 rfl) ?_
  refine lv_aload_n S.1 S.2.1 dL_law_1800 rfl (lv_at hl 1 rfl) ?_
  refine lv_iload S.1 S.2.1 dL_law_1801 (lv_at hl 6 rfl) ?_
  refine lv_iconst (v := 1) S.1 S.2.1 dL_law_1803 (by decide) ?_
  refine addN (a := i) (b := 1) S dL_law_1804 ?_
  refine sld_n (k := i + 1) S hXs hbl hbA hLL hw (by omega) dL_law_1805 ?_
  have hwc : WD G (mp G a2 z o) A s H _ := hw.sub [29, 30, 31, 32, 33] rfl rfl
  refine cj_d (wc := (mp G a2 z o)) (wr := (gp G a z y k ++ [(u1, .inl (k1, (1, .inr (.inl (fun _ => v))))), (u2, .inl (k2, (1, .inr (.inr (.inr (.inl (fun _ => v9)))))))])) (va_runV (As := [.int (xs (i + 1))]) (rest := []) S (c_X5_averageCounter l G a2 z o H.size ((xs (i + 1))) ) (cwV 1 S.2.2.2.2 gL_law_X5_averageCounter rfl rfl rfl hd_X5_averageCounter ⟨by rw [hR]; exact Nat.le_of_ble_eq_true rfl, by rw [hR]; exact Nat.le_of_ble_eq_true rfl⟩) ⟨PW.blind, va_recv hK.1 hwc.1 (ci := 5) (q0 := 0) rfl rfl, fun U hU hW => ⟨rfl, PW.of hK hwc hU hW⟩⟩ rfl rfl hl.1 rfl (lv_room (Nat.le_of_ble_eq_true rfl)) dL_law_1806 ⟨by rw [hR]; show _ ≤ 3131; omega, by rw [hR]; show _ ≤ 120514; omega⟩) hw hA [29, 30, 31, 32, 33] [0, 1, 2, 3, 4, 5, 6, 7, 8, 9, 10, 11, 12, 13, 14, 15, 16, 17, 18, 19, 20, 21, 22, 23, 24, 25, 26, 27, 28] rfl rfl rfl rfl (by decide) (fun _ => rfl) (fun r9 x9 H locs hp9 hw9 => ?_)
  obtain ⟨z9, o9⟩ := x9
  obtain ⟨hr9, e1, hrt, ht9⟩ := hp9
  have e1 : z = z9 := (e1).symm
  subst e1
  have ht9 : o9 0 0 = (pAv ((xs (i + 1))) z : PO).1 := ht9.trans (pAv_1 _ _).symm
  have hw : WD G (lwd G k1 k2 a a2 u1 u2 z y k z o9 (v) (v9)) A s H locs := hw9
  refine lv_dstore (lv' := [(7, .double (r9)), (6, .int ((pAv ((xs (i + 1))) z : PO).1)), (0, .ref (sb)), (1, .ref (a 0)), (2, .ref (a2 0)), (3, .ref (u1)), (4, .ref (u2)), (5, .int (nI (i)))]) S.1 S.2.1 dL_law_1809 hl (by decide) rfl (fun ls hl => ?_)
  refine lv_aload_n S.1 S.2.1 dL_law_1811 rfl (lv_at hl 4 rfl) ?_
  have hwc : WD G (mp G a2 z o9) A s H _ := hw.sub [29, 30, 31, 32, 33] rfl rfl
  refine cj_i (wc := (mp G a2 z o9)) (wr := (gp G a z y k ++ [(u1, .inl (k1, (1, .inr (.inl (fun _ => v))))), (u2, .inl (k2, (1, .inr (.inr (.inr (.inl (fun _ => v9)))))))])) (va_runV (As := []) (rest := []) S (c_X5_thrown l G a2 z o9 H.size  ) (cwV 0 S.2.2.2.2 gL_law_X5_thrown rfl rfl rfl hd_X5_thrown ⟨by rw [hR]; exact Nat.le_of_ble_eq_true rfl, by rw [hR]; exact Nat.le_of_ble_eq_true rfl⟩) ⟨PW.blind, va_recv hK.1 hwc.1 (ci := 5) (q0 := 0) rfl rfl, fun U hU hW => ⟨rfl, PW.of hK hwc hU hW⟩⟩ rfl rfl hl.1 rfl (lv_room (Nat.le_of_ble_eq_true rfl)) dL_law_1812 ⟨by rw [hR]; show _ ≤ 3131; omega, by rw [hR]; show _ ≤ 120514; omega⟩) hw hA [29, 30, 31, 32, 33] [0, 1, 2, 3, 4, 5, 6, 7, 8, 9, 10, 11, 12, 13, 14, 15, 16, 17, 18, 19, 20, 21, 22, 23, 24, 25, 26, 27, 28] rfl rfl rfl rfl (by decide) (fun _ => rfl) (fun t9 x8 H locs hp9 hw9 => ?_)
  obtain ⟨z8, o8⟩ := x8
  obtain ⟨e1, e2, e3⟩ := hp9
  dsimp only at e2 e3
  have e2 := e2.symm
  have e3 := e3.symm
  subst e2
  subst e3
  have hw : WD G (lwd G k1 k2 a a2 u1 u2 z y k z o9 (v) (v9)) A s H locs := hw9
  refine top_to (v := (pAv ((xs (i + 1))) z : PO).1) S (e1.trans ht9) ?_
  refine lv_iload S.1 S.2.1 dL_law_1815 (lv_at hl 1 rfl) ?_
  refine lv_icmp_eq (tgt := 1822) S.1 S.2.1 dL_law_1817 (by decide) (fun _ => ?_) (fun c8 => absurd rfl c8)
  refine lv_iload S.1 S.2.1 dL_law_1822 (lv_at hl 1 rfl) ?_
  refine lv_if_ne (tgt := 1859) S.1 S.2.1 dL_law_1824 (by decide) (fun _ => ?_) (fun c8 => ?_)
  · skip
    refine lv_goto (tgt := 1963) S.1 S.2.1 dL_law_1859 (by decide) ?_
    refine W.widen (k := cells + 2) (n := slots + 12) (by omega) (by omega) ?_
    exact kk H locs ls z y k o9 (v) (v9) _ _ (hr.go hr.1.1 hrt) hw (lv_sub hl [2, 3, 4, 5, 6, 7] rfl)
  · skip
    have c9 : (pAv ((xs (i + 1))) z : PO).1 = 0 := by first | exact c8 | exact Decidable.not_not.mp c8
    have e9 := ev c9
    subst e9
    have e8 := hr9 (pAv_0 c9)
    subst e8
    have hw : WD G (lwd G k1 k2 a a2 u1 u2 z y k z o9 (v) (avg (smc z (tN (xs (i + 1))) 8))) A s H locs := hw
    refine lv_aload S.1 S.2.1 dL_law_1827 (lv_at hl 6 rfl) ?_
    refine lv_iconst (v := 0) S.1 S.2.1 dL_law_1829 (by decide) ?_
    refine da_l S hL hw 28 rfl dL_law_1830 ?_
    refine lv_dload S.1 S.2.1 dL_law_1831 (lv_at hl 0 rfl) ?_
    refine dcmp_s S.1 S.2.1 rfl (avg_v _) dL_law_1833 ?_
    refine lv_if_eq (tgt := 1859) S.1 S.2.1 dL_law_1834 (by decide) (fun c1 => ?_) (fun c1 => ?_)
    · skip
      refine lv_goto (tgt := 1963) S.1 S.2.1 dL_law_1859 (by decide) ?_
      refine W.widen (k := cells + 2) (n := slots + 12) (by omega) (by omega) ?_
      exact kk H locs ls z y k o9 (v) (avg (smc z (tN (xs (i + 1))) 8)) _ _ (hr.go hr.1.1 hrt) hw (lv_sub hl [2, 3, 4, 5, 6, 7] rfl)
    · skip
      exact absurd c1 (by decide)

set_option maxHeartbeats 4000000 in
set_option maxRecDepth 100000 in
theorem lc_33 {p : Program} {l : Launch} {e : Env} {R : Room} {s : State} {m : MethodId} {args : Array Value} {below : List Frame} {meth : Method} {c : Code} {H : Heap} {locs : List Loc} {cells slots : Nat} {Q : State → Prop} {G : GA} {k1 k2 : ClassId} {A : Nat → Prop} {a a2 : Nat → Nat} {sb u1 u2 L i : Nat} {xs : Nat → Int32} {z y k o : St} {v : Int64} {w : UInt64} {tl : Nat} {hs : Bool} {ls : Array Slot} (S : CallFix p m c cL_law 9 s args lw_tbl RL) (hK : KK G s) (hX : XE l A s) (hL : KL G k1 k2 s) (hA : ∀ q, s.heap.size ≤ q → A q) (hXs : va_X sb L xs s s.heap) (hbl : sb < s.heap.size) (hbA : ¬ A sb) (hLL : L ≤ 2560) (hR : R = room_1) (hc1 : cells + 2 ≤ 3131) (hc2 : slots + 12 ≤ 120514) (hi : i + 4 < L) (hr : Rl z y k o tl hs) (hw : WD G (lwd G k1 k2 a a2 u1 u2 z y k z o v w) A s H locs) (hl : lv_has ls 9 [(0, .ref sb), (1, .ref (a 0)), (2, .ref (a2 0)), (3, .ref u1), (4, .ref u2), (5, .int (nI i))]) (kk : LK p l e R s m args below meth c Q G k1 k2 a a2 sb u1 u2 i A cells slots) : W p l e R s m args below meth c H locs cells slots Q (F0 m 1862 ls []) := by
  refine lv_aload_n S.1 S.2.1 dL_law_1862 rfl (lv_at hl 1 rfl) ?_
  refine lv_aload S.1 S.2.1 dL_law_1863 (lv_at hl 4 rfl) ?_
  have hwc : WD G (gD G k2 a z y k u2 (w)) A s H _ := hw.sub [0, 1, 2, 3, 4, 5, 6, 7, 8, 9, 10, 11, 12, 13, 14, 15, 16, 17, 18, 19, 20, 21, 22, 23, 24, 25, 26, 28] rfl rfl
  have hx9 := xc_le (pFs z : PO).1
  refine cx_i (wc := (gD G k2 a z y k u2 (w))) (wr := ([(u1, .inl (k1, (1, .inr (.inl (fun _ => v)))))] ++ mp G a2 z o)) (vx_runSX (hh := [(0, 8, 11, 101)]) (As := [.ref (a 0), .ref (u2)]) (rest := []) S (c_L_falseShare l G k1 k2 u2 (w) a z y k H.size  ) (vx_cwSW 2 S.2.2.2.2 gL_law_L_falseShare rfl rfl rfl hd_L_falseShare ⟨by rw [hR]; exact Nat.le_of_ble_eq_true rfl, by rw [hR]; exact Nat.le_of_ble_eq_true rfl⟩) ⟨PL.blind, fun U hU hW => ⟨rfl, PL.of hK hX hL hwc (va_free hw.2.1 hw.2.2 hA [0, 1, 2, 3, 4, 5, 6, 7, 8, 9, 10, 11, 12, 13, 14, 15, 16, 17, 18, 19, 20, 21, 22, 23, 24, 25, 26, 28] rfl) hU hW⟩⟩ rfl rfl hl.1 rfl (lv_room (Nat.le_of_ble_eq_true rfl)) dL_law_1865 ⟨by rw [hR]; show _ ≤ 3131; omega, by rw [hR]; show _ ≤ 120514; omega⟩) hw hA [0, 1, 2, 3, 4, 5, 6, 7, 8, 9, 10, 11, 12, 13, 14, 15, 16, 17, 18, 19, 20, 21, 22, 23, 24, 25, 26, 28] [27, 29, 30, 31, 32, 33] rfl rfl rfl rfl (by decide) (fun _ => rfl) (fun _ => rfl) (fun ce q9 u9 H locs hpx hw9 g1 g2 g3 => absurd hpx id) (fun r9 u9 H locs hp9 hw9 => ?_)
  obtain ⟨⟨z9, y9, k9⟩, v9⟩ := u9
  obtain ⟨rfl, e9, ev⟩ := hp9
  have e9 : (z9, y9, k9) = ((pFs z : PO).2.2, y, k) := e9
  cases e9
  have ev : (pFs z : PO).1 = 0 → v9 = FP.f2d (shr (z 0 6) (z 0 5)) := ev
  have hw : WD G (lwd G k1 k2 a a2 u1 u2 (pFs z : PO).2.2 y k z o (v) (v9)) A s H locs := hw9.sub [6, 7, 8, 9, 10, 11, 12, 13, 14, 15, 16, 17, 18, 19, 20, 21, 22, 23, 24, 25, 26, 27, 28, 29, 30, 31, 32, 0, 33, 1, 2, 3, 4, 5] rfl rfl
  have e5 : (pFs z : PO).2.2 = z := pFs_z _
  rw [e5] at hw
  refine lv_istore (lv' := [(6, .int ((pFs z : PO).1)), (0, .ref (sb)), (1, .ref (a 0)), (2, .ref (a2 0)), (3, .ref (u1)), (4, .ref (u2)), (5, .int (nI (i)))]) S.1 S.2.1 dL_law_1868 hl (by decide) rfl (fun ls hl => ?_)
  refine lv_aload_n S.1 S.2.1 dL_law_1870 rfl (lv_at hl 3 rfl) ?_
  have hwc : WD G (mp G a2 z o) A s H _ := hw.sub [29, 30, 31, 32, 33] rfl rfl
  refine cj_f (wc := (mp G a2 z o)) (wr := (gp G a z y k ++ [(u1, .inl (k1, (1, .inr (.inl (fun _ => v))))), (u2, .inl (k2, (1, .inr (.inr (.inr (.inl (fun _ => v9)))))))])) (va_runV (As := []) (rest := []) S (c_X5_falseShare l G a2 z o H.size  ) (cwV 0 S.2.2.2.2 gL_law_X5_falseShare rfl rfl rfl hd_X5_falseShare ⟨by rw [hR]; exact Nat.le_of_ble_eq_true rfl, by rw [hR]; exact Nat.le_of_ble_eq_true rfl⟩) ⟨PW.blind, va_recv hK.1 hwc.1 (ci := 5) (q0 := 0) rfl rfl, fun U hU hW => ⟨rfl, PW.of hK hwc hU hW⟩⟩ rfl rfl hl.1 rfl (lv_room (Nat.le_of_ble_eq_true rfl)) dL_law_1871 ⟨by rw [hR]; show _ ≤ 3131; omega, by rw [hR]; show _ ≤ 120514; omega⟩) hw hA [29, 30, 31, 32, 33] [0, 1, 2, 3, 4, 5, 6, 7, 8, 9, 10, 11, 12, 13, 14, 15, 16, 17, 18, 19, 20, 21, 22, 23, 24, 25, 26, 27, 28] rfl rfl rfl rfl (by decide) (fun _ => rfl) (fun r9 x9 H locs hp9 hw9 => ?_)
  obtain ⟨z9, o9⟩ := x9
  obtain ⟨hr9, e1, hrt, ht9⟩ := hp9
  have e1 : z = z9 := (e1).symm
  subst e1
  have ht9 : o9 0 0 = (pFs z : PO).1 := ht9.trans (pFs_1 _).symm
  have hw : WD G (lwd G k1 k2 a a2 u1 u2 z y k z o9 (v) (v9)) A s H locs := hw9
  refine lv_fstore (lv' := [(7, .float (r9)), (6, .int ((pFs z : PO).1)), (0, .ref (sb)), (1, .ref (a 0)), (2, .ref (a2 0)), (3, .ref (u1)), (4, .ref (u2)), (5, .int (nI (i)))]) S.1 S.2.1 dL_law_1874 hl (by decide) rfl (fun ls hl => ?_)
  refine lv_aload_n S.1 S.2.1 dL_law_1876 rfl (lv_at hl 4 rfl) ?_
  have hwc : WD G (mp G a2 z o9) A s H _ := hw.sub [29, 30, 31, 32, 33] rfl rfl
  refine cj_i (wc := (mp G a2 z o9)) (wr := (gp G a z y k ++ [(u1, .inl (k1, (1, .inr (.inl (fun _ => v))))), (u2, .inl (k2, (1, .inr (.inr (.inr (.inl (fun _ => v9)))))))])) (va_runV (As := []) (rest := []) S (c_X5_thrown l G a2 z o9 H.size  ) (cwV 0 S.2.2.2.2 gL_law_X5_thrown rfl rfl rfl hd_X5_thrown ⟨by rw [hR]; exact Nat.le_of_ble_eq_true rfl, by rw [hR]; exact Nat.le_of_ble_eq_true rfl⟩) ⟨PW.blind, va_recv hK.1 hwc.1 (ci := 5) (q0 := 0) rfl rfl, fun U hU hW => ⟨rfl, PW.of hK hwc hU hW⟩⟩ rfl rfl hl.1 rfl (lv_room (Nat.le_of_ble_eq_true rfl)) dL_law_1877 ⟨by rw [hR]; show _ ≤ 3131; omega, by rw [hR]; show _ ≤ 120514; omega⟩) hw hA [29, 30, 31, 32, 33] [0, 1, 2, 3, 4, 5, 6, 7, 8, 9, 10, 11, 12, 13, 14, 15, 16, 17, 18, 19, 20, 21, 22, 23, 24, 25, 26, 27, 28] rfl rfl rfl rfl (by decide) (fun _ => rfl) (fun t9 x8 H locs hp9 hw9 => ?_)
  obtain ⟨z8, o8⟩ := x8
  obtain ⟨e1, e2, e3⟩ := hp9
  dsimp only at e2 e3
  have e2 := e2.symm
  have e3 := e3.symm
  subst e2
  subst e3
  have hw : WD G (lwd G k1 k2 a a2 u1 u2 z y k z o9 (v) (v9)) A s H locs := hw9
  refine top_to (v := (pFs z : PO).1) S (e1.trans ht9) ?_
  refine lv_iload S.1 S.2.1 dL_law_1880 (lv_at hl 1 rfl) ?_
  refine lv_icmp_eq (tgt := 1887) S.1 S.2.1 dL_law_1882 (by decide) (fun _ => ?_) (fun c8 => absurd rfl c8)
  refine lv_iload S.1 S.2.1 dL_law_1887 (lv_at hl 1 rfl) ?_
  refine lv_if_ne (tgt := 1925) S.1 S.2.1 dL_law_1889 (by decide) (fun _ => ?_) (fun c8 => ?_)
  · skip
    refine lv_goto (tgt := 1963) S.1 S.2.1 dL_law_1925 (by decide) ?_
    refine W.widen (k := cells + 2) (n := slots + 12) (by omega) (by omega) ?_
    exact kk H locs ls z y k o9 (v) (v9) _ _ (hr.go hr.1.1 hrt) hw (lv_sub hl [2, 3, 4, 5, 6, 7] rfl)
  · skip
    have c9 : (pFs z : PO).1 = 0 := by first | exact c8 | exact Decidable.not_not.mp c8
    have e9 := ev c9
    subst e9
    have e8 := hr9 (fs_n c9)
    subst e8
    have hw : WD G (lwd G k1 k2 a a2 u1 u2 z y k z o9 (v) (FP.f2d (shr (z 0 6) (z 0 5)))) A s H locs := hw
    refine lv_aload S.1 S.2.1 dL_law_1892 (lv_at hl 6 rfl) ?_
    refine lv_iconst (v := 0) S.1 S.2.1 dL_law_1894 (by decide) ?_
    refine da_l S hL hw 28 rfl dL_law_1895 ?_
    refine lv_fload S.1 S.2.1 dL_law_1896 (lv_at hl 0 rfl) ?_
    refine lv_f2d S.1 S.2.1 dL_law_1898 (shd_n (shr_v _ (fs_n c9))) ?_
    refine dcmp_s S.1 S.2.1 rfl (shd_v (shr_v _ (fs_n c9))) dL_law_1899 ?_
    refine lv_if_eq (tgt := 1925) S.1 S.2.1 dL_law_1900 (by decide) (fun c1 => ?_) (fun c1 => ?_)
    · skip
      refine lv_goto (tgt := 1963) S.1 S.2.1 dL_law_1925 (by decide) ?_
      refine W.widen (k := cells + 2) (n := slots + 12) (by omega) (by omega) ?_
      exact kk H locs ls z y k o9 (v) (FP.f2d (shr (z 0 6) (z 0 5))) _ _ (hr.go hr.1.1 hrt) hw (lv_sub hl [2, 3, 4, 5, 6, 7] rfl)
    · skip
      exact absurd c1 (by decide)

set_option maxHeartbeats 4000000 in
set_option maxRecDepth 100000 in
theorem lc_34 {p : Program} {l : Launch} {e : Env} {R : Room} {s : State} {m : MethodId} {args : Array Value} {below : List Frame} {meth : Method} {c : Code} {H : Heap} {locs : List Loc} {cells slots : Nat} {Q : State → Prop} {G : GA} {k1 k2 : ClassId} {A : Nat → Prop} {a a2 : Nat → Nat} {sb u1 u2 L i : Nat} {xs : Nat → Int32} {z y k o : St} {v : Int64} {w : UInt64} {tl : Nat} {hs : Bool} {ls : Array Slot} (S : CallFix p m c cL_law 9 s args lw_tbl RL) (hK : KK G s) (hX : XE l A s) (hL : KL G k1 k2 s) (hA : ∀ q, s.heap.size ≤ q → A q) (hXs : va_X sb L xs s s.heap) (hbl : sb < s.heap.size) (hbA : ¬ A sb) (hLL : L ≤ 2560) (hR : R = room_1) (hc1 : cells + 2 ≤ 3131) (hc2 : slots + 12 ≤ 120514) (hi : i + 4 < L) (hr : Rl z y k o tl hs) (hw : WD G (lwd G k1 k2 a a2 u1 u2 z y k z o v w) A s H locs) (hl : lv_has ls 9 [(0, .ref sb), (1, .ref (a 0)), (2, .ref (a2 0)), (3, .ref u1), (4, .ref u2), (5, .int (nI i))]) (kk : LK p l e R s m args below meth c Q G k1 k2 a a2 sb u1 u2 i A cells slots) : W p l e R s m args below meth c H locs cells slots Q (F0 m 1928 ls []) := by
  refine lv_aload_n S.1 S.2.1 dL_law_1928 rfl (lv_at hl 1 rfl) ?_
  have hwc : WD G (gp G a z y k) A s H _ := hw.sub [0, 1, 2, 3, 4, 5, 6, 7, 8, 9, 10, 11, 12, 13, 14, 15, 16, 17, 18, 19, 20, 21, 22, 23, 24, 25, 26] rfl rfl
  have hx9 := xc_le ((0, 0, z) : PO).1
  refine cx_v (wc := (gp G a z y k)) (wr := ([(u1, .inl (k1, (1, .inr (.inl (fun _ => v))))), (u2, .inl (k2, (1, .inr (.inr (.inr (.inl (fun _ => w)))))))] ++ mp G a2 z o)) (vx_runV (As := []) (rest := []) S (c_X4_save l G a z y k H.size hr.1.1) (cwV 0 S.2.2.2.2 gL_law_X4_save rfl rfl rfl hd_X4_save ⟨by rw [hR]; exact Nat.le_of_ble_eq_true rfl, by rw [hR]; exact Nat.le_of_ble_eq_true rfl⟩) ⟨PX.blind, va_recv hK.1 hwc.1 (ci := 4) (q0 := 0) rfl rfl, fun U hU hW => ⟨rfl, PX.of hK hX hwc (va_free hw.2.1 hw.2.2 hA [0, 1, 2, 3, 4, 5, 6, 7, 8, 9, 10, 11, 12, 13, 14, 15, 16, 17, 18, 19, 20, 21, 22, 23, 24, 25, 26] rfl) hU hW⟩⟩ rfl rfl hl.1 rfl (lv_room (Nat.le_of_ble_eq_true rfl)) dL_law_1929 ⟨by rw [hR]; show _ ≤ 3131; omega, by rw [hR]; show _ ≤ 120514; omega⟩) hw hA [0, 1, 2, 3, 4, 5, 6, 7, 8, 9, 10, 11, 12, 13, 14, 15, 16, 17, 18, 19, 20, 21, 22, 23, 24, 25, 26] [27, 28, 29, 30, 31, 32, 33] rfl rfl rfl rfl (by decide) (fun _ => rfl) (fun _ => rfl) (fun ce q9 u9 H locs hpx hw9 g1 g2 g3 => absurd rfl hpx.1) (fun u9 H locs hp9 hw9 => ?_)
  obtain ⟨_, rfl⟩ := hp9
  have hw : WD G (lwd G k1 k2 a a2 u1 u2 z z (st k 0 0 1) z o (v) (w)) A s H locs := hw9.sub [7, 8, 9, 10, 11, 12, 13, 14, 15, 16, 17, 18, 19, 20, 21, 22, 23, 24, 25, 26, 27, 28, 29, 30, 31, 32, 33, 0, 1, 2, 3, 4, 5, 6] rfl rfl
  refine lv_aload_n S.1 S.2.1 dL_law_1932 rfl (lv_at hl 2 rfl) ?_
  have hwc : WD G (mp G a2 z o) A s H _ := hw.sub [29, 30, 31, 32, 33] rfl rfl
  refine cj_v (wc := (mp G a2 z o)) (wr := (gp G a z z (st k 0 0 1) ++ [(u1, .inl (k1, (1, .inr (.inl (fun _ => v))))), (u2, .inl (k2, (1, .inr (.inr (.inr (.inl (fun _ => w)))))))])) (va_runV (As := []) (rest := []) S (c_X5_save l G a2 z o H.size  ) (cwV 0 S.2.2.2.2 gL_law_X5_save rfl rfl rfl hd_X5_save ⟨by rw [hR]; exact Nat.le_of_ble_eq_true rfl, by rw [hR]; exact Nat.le_of_ble_eq_true rfl⟩) ⟨PW.blind, va_recv hK.1 hwc.1 (ci := 5) (q0 := 0) rfl rfl, fun U hU hW => ⟨rfl, PW.of hK hwc hU hW⟩⟩ rfl rfl hl.1 rfl (lv_room (Nat.le_of_ble_eq_true rfl)) dL_law_1933 ⟨by rw [hR]; show _ ≤ 3131; omega, by rw [hR]; show _ ≤ 120514; omega⟩) hw hA [29, 30, 31, 32, 33] [0, 1, 2, 3, 4, 5, 6, 7, 8, 9, 10, 11, 12, 13, 14, 15, 16, 17, 18, 19, 20, 21, 22, 23, 24, 25, 26, 27, 28] rfl rfl rfl rfl (by decide) (fun _ => rfl) (fun x9 H locs hp9 hw9 => ?_)
  obtain ⟨z9, o9⟩ := x9
  obtain ⟨e1, hrt, ht9⟩ := hp9
  have e1 : z = z9 := (e1).symm
  subst e1
  have hw : WD G (lwd G k1 k2 a a2 u1 u2 z z (st k 0 0 1) z o9 (v) (w)) A s H locs := hw9
  refine lv_goto (tgt := 1963) S.1 S.2.1 dL_law_1936 (by decide) ?_
  refine W.widen (k := cells + 2) (n := slots + 12) (by omega) (by omega) ?_
  exact kk H locs ls z z (st k 0 0 1) o9 (v) (w) _ _ (hr.save hrt) hw (lv_sub hl [0, 1, 2, 3, 4, 5] rfl)

set_option maxHeartbeats 4000000 in
set_option maxRecDepth 100000 in
theorem lc_35 {p : Program} {l : Launch} {e : Env} {R : Room} {s : State} {m : MethodId} {args : Array Value} {below : List Frame} {meth : Method} {c : Code} {H : Heap} {locs : List Loc} {cells slots : Nat} {Q : State → Prop} {G : GA} {k1 k2 : ClassId} {A : Nat → Prop} {a a2 : Nat → Nat} {sb u1 u2 L i : Nat} {xs : Nat → Int32} {z y k o : St} {v : Int64} {w : UInt64} {tl : Nat} {hs : Bool} {ls : Array Slot} (S : CallFix p m c cL_law 9 s args lw_tbl RL) (hK : KK G s) (hX : XE l A s) (hL : KL G k1 k2 s) (hA : ∀ q, s.heap.size ≤ q → A q) (hXs : va_X sb L xs s s.heap) (hbl : sb < s.heap.size) (hbA : ¬ A sb) (hLL : L ≤ 2560) (hR : R = room_1) (hc1 : cells + 2 ≤ 3131) (hc2 : slots + 12 ≤ 120514) (hi : i + 4 < L) (hr : Rl z y k o tl hs) (hw : WD G (lwd G k1 k2 a a2 u1 u2 z y k z o v w) A s H locs) (hl : lv_has ls 9 [(0, .ref sb), (1, .ref (a 0)), (2, .ref (a2 0)), (3, .ref u1), (4, .ref u2), (5, .int (nI i))]) (kk : LK p l e R s m args below meth c Q G k1 k2 a a2 sb u1 u2 i A cells slots) : W p l e R s m args below meth c H locs cells slots Q (F0 m 1939 ls []) := by
  refine lv_aload_n S.1 S.2.1 dL_law_1939 rfl (lv_at hl 1 rfl) ?_
  have hwc : WD G (gp G a z y k) A s H _ := hw.sub [0, 1, 2, 3, 4, 5, 6, 7, 8, 9, 10, 11, 12, 13, 14, 15, 16, 17, 18, 19, 20, 21, 22, 23, 24, 25, 26] rfl rfl
  have hx9 := xc_le (pRs hs y z : PO).1
  refine cx_i (wc := (gp G a z y k)) (wr := ([(u1, .inl (k1, (1, .inr (.inl (fun _ => v))))), (u2, .inl (k2, (1, .inr (.inr (.inr (.inl (fun _ => w)))))))] ++ mp G a2 z o)) (vx_runSX (hh := [(0, 4, 7, 30)]) (As := [.ref (a 0)]) (rest := []) S (c_L_restore l G a z y k H.size  hr.2.2.1.1 (fun e => (hr.2.2.2.1 e).1)) (vx_cwSW 1 S.2.2.2.2 gL_law_L_restore rfl rfl rfl hd_L_restore ⟨by rw [hR]; exact Nat.le_of_ble_eq_true rfl, by rw [hR]; exact Nat.le_of_ble_eq_true rfl⟩) ⟨PX.blind, fun U hU hW => ⟨rfl, PX.of hK hX hwc (va_free hw.2.1 hw.2.2 hA [0, 1, 2, 3, 4, 5, 6, 7, 8, 9, 10, 11, 12, 13, 14, 15, 16, 17, 18, 19, 20, 21, 22, 23, 24, 25, 26] rfl) hU hW⟩⟩ rfl rfl hl.1 rfl (lv_room (Nat.le_of_ble_eq_true rfl)) dL_law_1940 ⟨by rw [hR]; show _ ≤ 3131; omega, by rw [hR]; show _ ≤ 120514; omega⟩) hw hA [0, 1, 2, 3, 4, 5, 6, 7, 8, 9, 10, 11, 12, 13, 14, 15, 16, 17, 18, 19, 20, 21, 22, 23, 24, 25, 26] [27, 28, 29, 30, 31, 32, 33] rfl rfl rfl rfl (by decide) (fun _ => rfl) (fun _ => rfl) (fun ce q9 u9 H locs hpx hw9 g1 g2 g3 => absurd hpx id) (fun r9 u9 H locs hp9 hw9 => ?_)
  obtain ⟨z9, y9, k9⟩ := u9
  obtain ⟨rfl, e9⟩ := hp9
  have e9 : (z9, y9, k9) = ((pRs hs y z : PO).2.2, y, k) := e9
  cases e9
  have hw : WD G (lwd G k1 k2 a a2 u1 u2 (pRs hs y z : PO).2.2 y k z o (v) (w)) A s H locs := hw9.sub [7, 8, 9, 10, 11, 12, 13, 14, 15, 16, 17, 18, 19, 20, 21, 22, 23, 24, 25, 26, 27, 28, 29, 30, 31, 32, 33, 0, 1, 2, 3, 4, 5, 6] rfl rfl
  refine lv_istore (lv' := [(6, .int ((pRs hs y z : PO).1)), (0, .ref (sb)), (1, .ref (a 0)), (2, .ref (a2 0)), (3, .ref (u1)), (4, .ref (u2)), (5, .int (nI (i)))]) S.1 S.2.1 dL_law_1943 hl (by decide) rfl (fun ls hl => ?_)
  refine lv_aload_n S.1 S.2.1 dL_law_1945 rfl (lv_at hl 3 rfl) ?_
  have hwc : WD G (mp G a2 z o) A s H _ := hw.sub [29, 30, 31, 32, 33] rfl rfl
  refine cj_v (wc := (mp G a2 z o)) (wr := (gp G a (pRs hs y z : PO).2.2 y k ++ [(u1, .inl (k1, (1, .inr (.inl (fun _ => v))))), (u2, .inl (k2, (1, .inr (.inr (.inr (.inl (fun _ => w)))))))])) (va_runV (As := []) (rest := []) S (c_X5_restore l G a2 z o H.size  hr.2.2.1.2 (fun e => (hr.2.2.2.1 e).2)) (cwV 0 S.2.2.2.2 gL_law_X5_restore rfl rfl rfl hd_X5_restore ⟨by rw [hR]; exact Nat.le_of_ble_eq_true rfl, by rw [hR]; exact Nat.le_of_ble_eq_true rfl⟩) ⟨PW.blind, va_recv hK.1 hwc.1 (ci := 5) (q0 := 0) rfl rfl, fun U hU hW => ⟨rfl, PW.of hK hwc hU hW⟩⟩ rfl rfl hl.1 rfl (lv_room (Nat.le_of_ble_eq_true rfl)) dL_law_1946 ⟨by rw [hR]; show _ ≤ 3131; omega, by rw [hR]; show _ ≤ 120514; omega⟩) hw hA [29, 30, 31, 32, 33] [0, 1, 2, 3, 4, 5, 6, 7, 8, 9, 10, 11, 12, 13, 14, 15, 16, 17, 18, 19, 20, 21, 22, 23, 24, 25, 26, 27, 28] rfl rfl rfl rfl (by decide) (fun _ => rfl) (fun x9 H locs hp9 hw9 => ?_)
  obtain ⟨z9, o9⟩ := x9
  obtain ⟨e1, hrt, ht9⟩ := hp9
  have e1 : (pRs hs y z : PO).2.2 = z9 := (e1).symm
  subst e1
  have ht9 : o9 0 0 = (pRs hs y z : PO).1 := ht9
  have hw : WD G (lwd G k1 k2 a a2 u1 u2 (pRs hs y z : PO).2.2 y k (pRs hs y z : PO).2.2 o9 (v) (w)) A s H locs := hw9
  refine lv_aload_n S.1 S.2.1 dL_law_1949 rfl (lv_at hl 3 rfl) ?_
  have hwc : WD G (mp G a2 (pRs hs y z : PO).2.2 o9) A s H _ := hw.sub [29, 30, 31, 32, 33] rfl rfl
  refine cj_i (wc := (mp G a2 (pRs hs y z : PO).2.2 o9)) (wr := (gp G a (pRs hs y z : PO).2.2 y k ++ [(u1, .inl (k1, (1, .inr (.inl (fun _ => v))))), (u2, .inl (k2, (1, .inr (.inr (.inr (.inl (fun _ => w)))))))])) (va_runV (As := []) (rest := []) S (c_X5_thrown l G a2 (pRs hs y z : PO).2.2 o9 H.size  ) (cwV 0 S.2.2.2.2 gL_law_X5_thrown rfl rfl rfl hd_X5_thrown ⟨by rw [hR]; exact Nat.le_of_ble_eq_true rfl, by rw [hR]; exact Nat.le_of_ble_eq_true rfl⟩) ⟨PW.blind, va_recv hK.1 hwc.1 (ci := 5) (q0 := 0) rfl rfl, fun U hU hW => ⟨rfl, PW.of hK hwc hU hW⟩⟩ rfl rfl hl.1 rfl (lv_room (Nat.le_of_ble_eq_true rfl)) dL_law_1950 ⟨by rw [hR]; show _ ≤ 3131; omega, by rw [hR]; show _ ≤ 120514; omega⟩) hw hA [29, 30, 31, 32, 33] [0, 1, 2, 3, 4, 5, 6, 7, 8, 9, 10, 11, 12, 13, 14, 15, 16, 17, 18, 19, 20, 21, 22, 23, 24, 25, 26, 27, 28] rfl rfl rfl rfl (by decide) (fun _ => rfl) (fun t9 x8 H locs hp9 hw9 => ?_)
  obtain ⟨z8, o8⟩ := x8
  obtain ⟨e1, e2, e3⟩ := hp9
  dsimp only at e2 e3
  have e2 := e2.symm
  have e3 := e3.symm
  subst e2
  subst e3
  have hw : WD G (lwd G k1 k2 a a2 u1 u2 (pRs hs y z : PO).2.2 y k (pRs hs y z : PO).2.2 o9 (v) (w)) A s H locs := hw9
  refine top_to (v := (pRs hs y z : PO).1) S (e1.trans ht9) ?_
  refine lv_iload S.1 S.2.1 dL_law_1953 (lv_at hl 0 rfl) ?_
  refine lv_icmp_eq (tgt := 1960) S.1 S.2.1 dL_law_1955 (by decide) (fun _ => ?_) (fun c8 => absurd rfl c8)
  refine lv_goto (tgt := 1963) S.1 S.2.1 dL_law_1960 (by decide) ?_
  refine W.widen (k := cells + 2) (n := slots + 12) (by omega) (by omega) ?_
  exact kk H locs ls (pRs hs y z : PO).2.2 y k o9 (v) (w) _ _ (hr.res hrt) hw (lv_sub hl [1, 2, 3, 4, 5, 6] rfl)
