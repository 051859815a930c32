set_option maxHeartbeats 4000000 in
set_option maxRecDepth 100000 in
theorem lc_11 {p : Program} {l : Launch} {e : Env} {R : Room} {s : State} {m : MethodId} {args : Array Value} {below : List Frame} {meth : Method} {c : Code} {H : Heap} {locs : List Loc} {cells slots : Nat} {Q : State → Prop} {G : GA} {k1 k2 : ClassId} {A : Nat → Prop} {a a2 : Nat → Nat} {sb u1 u2 L i : Nat} {xs : Nat → Int32} {z y k o : St} {v : Int64} {w : UInt64} {tl : Nat} {hs : Bool} {ls : Array Slot} (S : CallFix p m c cL_law 9 s args lw_tbl RL) (hK : KK G s) (hX : XE l A s) (hL : KL G k1 k2 s) (hA : ∀ q, s.heap.size ≤ q → A q) (hXs : va_X sb L xs s s.heap) (hbl : sb < s.heap.size) (hbA : ¬ A sb) (hLL : L ≤ 2560) (hR : R = room_1) (hc1 : cells + 2 ≤ 3131) (hc2 : slots + 12 ≤ 120514) (hi : i + 4 < L) (hr : Rl z y k o tl hs) (hw : WD G (lwd G k1 k2 a a2 u1 u2 z y k z o v w) A s H locs) (hl : lv_has ls 9 [(0, .ref sb), (1, .ref (a 0)), (2, .ref (a2 0)), (3, .ref u1), (4, .ref u2), (5, .int (nI i))]) (kk : LK p l e R s m args below meth c Q G k1 k2 a a2 sb u1 u2 i A cells slots) : W p l e R s m args below meth c H locs cells slots Q (F0 m 848 ls []) := by
  refine lv_aload_n S.1 S.2.1 dL_law_848 rfl (lv_at hl 1 rfl) ?_
  have hwc : WD G (gp G a z y k) A s H _ := hw.sub [0, 1, 2, 3, 4, 5, 6, 7, 8, 9, 10, 11, 12, 13, 14, 15, 16, 17, 18, 19, 20, 21, 22, 23, 24, 25, 26] rfl rfl
  have hx9 := xc_le ((0, z 0 0, z) : PO).1
  refine cx_i (wc := (gp G a z y k)) (wr := ([(u1, .inl (k1, (1, .inr (.inl (fun _ => v))))), (u2, .inl (k2, (1, .inr (.inr (.inr (.inl (fun _ => w)))))))] ++ mp G a2 z o)) (vx_runV (As := []) (rest := []) S (c_X4_round l G a z y k H.size ) (cwV 0 S.2.2.2.2 gL_law_X4_round rfl rfl rfl hd_X4_round ⟨by rw [hR]; exact Nat.le_of_ble_eq_true rfl, by rw [hR]; exact Nat.le_of_ble_eq_true rfl⟩) ⟨PX.blind, va_recv hK.1 hwc.1 (ci := 4) (q0 := 0) rfl rfl, fun U hU hW => ⟨rfl, PX.of hK hX hwc (va_free hw.2.1 hw.2.2 hA [0, 1, 2, 3, 4, 5, 6, 7, 8, 9, 10, 11, 12, 13, 14, 15, 16, 17, 18, 19, 20, 21, 22, 23, 24, 25, 26] rfl) hU hW⟩⟩ rfl rfl hl.1 rfl (lv_room (Nat.le_of_ble_eq_true rfl)) dL_law_849 ⟨by rw [hR]; show _ ≤ 3131; omega, by rw [hR]; show _ ≤ 120514; omega⟩) hw hA [0, 1, 2, 3, 4, 5, 6, 7, 8, 9, 10, 11, 12, 13, 14, 15, 16, 17, 18, 19, 20, 21, 22, 23, 24, 25, 26] [27, 28, 29, 30, 31, 32, 33] rfl rfl rfl rfl (by decide) (fun _ => rfl) (fun _ => rfl) (fun ce q9 u9 H locs hpx hw9 g1 g2 g3 => absurd rfl hpx.1) (fun r9 u9 H locs hp9 hw9 => ?_)
  obtain ⟨_, rfl, rfl⟩ := hp9
  have hw : WD G (lwd G k1 k2 a a2 u1 u2 z y k z o (v) (w)) A s H locs := hw9.sub [7, 8, 9, 10, 11, 12, 13, 14, 15, 16, 17, 18, 19, 20, 21, 22, 23, 24, 25, 26, 27, 28, 29, 30, 31, 32, 33, 0, 1, 2, 3, 4, 5, 6] rfl rfl
  refine lv_aload_n S.1 S.2.1 dL_law_852 rfl (lv_at hl 2 rfl) ?_
  have hwc : WD G (mp G a2 z o) A s H _ := hw.sub [29, 30, 31, 32, 33] rfl rfl
  refine cj_i (wc := (mp G a2 z o)) (wr := (gp G a z y k ++ [(u1, .inl (k1, (1, .inr (.inl (fun _ => v))))), (u2, .inl (k2, (1, .inr (.inr (.inr (.inl (fun _ => w)))))))])) (va_runV (As := []) (rest := [.int (z 0 0)]) S (c_X5_round l G a2 z o H.size  ) (cwV 0 S.2.2.2.2 gL_law_X5_round rfl rfl rfl hd_X5_round ⟨by rw [hR]; exact Nat.le_of_ble_eq_true rfl, by rw [hR]; exact Nat.le_of_ble_eq_true rfl⟩) ⟨PW.blind, va_recv hK.1 hwc.1 (ci := 5) (q0 := 0) rfl rfl, fun U hU hW => ⟨rfl, PW.of hK hwc hU hW⟩⟩ rfl rfl hl.1 rfl (lv_room (Nat.le_of_ble_eq_true rfl)) dL_law_853 ⟨by rw [hR]; show _ ≤ 3131; omega, by rw [hR]; show _ ≤ 120514; omega⟩) hw hA [29, 30, 31, 32, 33] [0, 1, 2, 3, 4, 5, 6, 7, 8, 9, 10, 11, 12, 13, 14, 15, 16, 17, 18, 19, 20, 21, 22, 23, 24, 25, 26, 27, 28] rfl rfl rfl rfl (by decide) (fun _ => rfl) (fun r9 x9 H locs hp9 hw9 => ?_)
  obtain ⟨z9, o9⟩ := x9
  obtain ⟨e0, e1, hrt, ht9⟩ := hp9
  have e1 : z = z9 := (e1).symm
  subst e1
  have hw : WD G (lwd G k1 k2 a a2 u1 u2 z y k z o9 (v) (w)) A s H locs := hw9
  have e0 : r9 = z 0 0 := e0
  subst e0
  refine lv_icmp_eq (tgt := 1963) S.1 S.2.1 dL_law_856 (by decide) (fun _ => ?_) (fun c8 => absurd rfl c8)
  refine W.widen (k := cells + 2) (n := slots + 12) (by omega) (by omega) ?_
  exact kk H locs ls z y k o9 (v) (w) _ _ (hr.go hr.1.1 hrt) hw (lv_sub hl [0, 1, 2, 3, 4, 5] rfl)

set_option maxHeartbeats 4000000 in
set_option maxRecDepth 100000 in
theorem lc_12 {p : Program} {l : Launch} {e : Env} {R : Room} {s : State} {m : MethodId} {args : Array Value} {below : List Frame} {meth : Method} {c : Code} {H : Heap} {locs : List Loc} {cells slots : Nat} {Q : State → Prop} {G : GA} {k1 k2 : ClassId} {A : Nat → Prop} {a a2 : Nat → Nat} {sb u1 u2 L i : Nat} {xs : Nat → Int32} {z y k o : St} {v : Int64} {w : UInt64} {tl : Nat} {hs : Bool} {ls : Array Slot} (S : CallFix p m c cL_law 9 s args lw_tbl RL) (hK : KK G s) (hX : XE l A s) (hL : KL G k1 k2 s) (hA : ∀ q, s.heap.size ≤ q → A q) (hXs : va_X sb L xs s s.heap) (hbl : sb < s.heap.size) (hbA : ¬ A sb) (hLL : L ≤ 2560) (hR : R = room_1) (hc1 : cells + 2 ≤ 3131) (hc2 : slots + 12 ≤ 120514) (hi : i + 4 < L) (hr : Rl z y k o tl hs) (hw : WD G (lwd G k1 k2 a a2 u1 u2 z y k z o v w) A s H locs) (hl : lv_has ls 9 [(0, .ref sb), (1, .ref (a 0)), (2, .ref (a2 0)), (3, .ref u1), (4, .ref u2), (5, .int (nI i))]) (kk : LK p l e R s m args below meth c Q G k1 k2 a a2 sb u1 u2 i A cells slots) : W p l e R s m args below meth c H locs cells slots Q (F0 m 861 ls []) := by
  refine lv_aload_n S.1 S.2.1 dL_law_861 rfl (lv_at hl 1 rfl) ?_
  refine lv_aload_n S.1 S.2.1 dL_law_862 rfl (lv_at hl 0 rfl) ?_
  refine lv_iload S.1 S.2.1 dL_law_863 (lv_at hl 5 rfl) ?_
  refine lv_iconst (v := 1) S.1 S.2.1 dL_law_865 (by decide) ?_
  refine addN (a := i) (b := 1) S dL_law_866 ?_
  refine sld_n (k := i + 1) S hXs hbl hbA hLL hw (by omega) dL_law_867 ?_
  refine lv_aload_n S.1 S.2.1 dL_law_868 rfl (lv_at hl 3 rfl) ?_
  have hwc : WD G (gL G k1 a z y k u1 (v)) A s H _ := hw.sub [0, 1, 2, 3, 4, 5, 6, 7, 8, 9, 10, 11, 12, 13, 14, 15, 16, 17, 18, 19, 20, 21, 22, 23, 24, 25, 26, 27] rfl rfl
  have hx9 := xc_le (pUp ((xs (i + 1))) z : PO).1
  refine cx_i (wc := (gL G k1 a z y k u1 (v))) (wr := ([(u2, .inl (k2, (1, .inr (.inr (.inr (.inl (fun _ => w)))))))] ++ mp G a2 z o)) (vx_runSX (hh := [(0, 16, 19, 28)]) (As := [.ref (a 0), .int (xs (i + 1)), .ref (u1)]) (rest := []) S (c_L_isUp l G k1 k2 u1 (v) a z y k H.size ((xs (i + 1))) hr.1.1) (vx_cwSW 3 S.2.2.2.2 gL_law_L_isUp rfl rfl rfl hd_L_isUp ⟨by rw [hR]; exact Nat.le_of_ble_eq_true rfl, by rw [hR]; exact Nat.le_of_ble_eq_true rfl⟩) ⟨PL.blind, fun U hU hW => ⟨rfl, PL.of hK hX hL hwc (va_free hw.2.1 hw.2.2 hA [0, 1, 2, 3, 4, 5, 6, 7, 8, 9, 10, 11, 12, 13, 14, 15, 16, 17, 18, 19, 20, 21, 22, 23, 24, 25, 26, 27] rfl) hU hW⟩⟩ rfl rfl hl.1 rfl (lv_room (Nat.le_of_ble_eq_true rfl)) dL_law_869 ⟨by rw [hR]; show _ ≤ 3131; omega, by rw [hR]; show _ ≤ 120514; omega⟩) hw hA [0, 1, 2, 3, 4, 5, 6, 7, 8, 9, 10, 11, 12, 13, 14, 15, 16, 17, 18, 19, 20, 21, 22, 23, 24, 25, 26, 27] [28, 29, 30, 31, 32, 33] rfl rfl rfl rfl (by decide) (fun _ => rfl) (fun _ => rfl) (fun ce q9 u9 H locs hpx hw9 g1 g2 g3 => absurd hpx id) (fun r9 u9 H locs hp9 hw9 => ?_)
  obtain ⟨⟨z9, y9, k9⟩, v9⟩ := u9
  obtain ⟨rfl, e9, ev⟩ := hp9
  have e9 : (z9, y9, k9) = ((pUp ((xs (i + 1))) z : PO).2.2, y, k) := e9
  cases e9
  have ev : (pUp ((xs (i + 1))) z : PO).1 = 0 → v9 = bl (pUp ((xs (i + 1))) z : PO).2.1 := ev
  have hw : WD G (lwd G k1 k2 a a2 u1 u2 (pUp ((xs (i + 1))) z : PO).2.2 y k z o (v9) (w)) A s H locs := hw9.sub [6, 7, 8, 9, 10, 11, 12, 13, 14, 15, 16, 17, 18, 19, 20, 21, 22, 23, 24, 25, 26, 27, 28, 29, 30, 31, 32, 33, 0, 1, 2, 3, 4, 5] rfl rfl
  refine lv_istore (lv' := [(6, .int ((pUp ((xs (i + 1))) z : PO).1)), (0, .ref (sb)), (1, .ref (a 0)), (2, .ref (a2 0)), (3, .ref (u1)), (4, .ref (u2)), (5, .int (nI (i)))]) S.1 S.2.1 dL_law_872 hl (by decide) rfl (fun ls hl => ?_)
  refine lv_aload_n S.1 S.2.1 dL_law_874 rfl (lv_at hl 3 rfl) ?_
  refine lv_aload_n S.1 S.2.1 dL_law_875 rfl (lv_at hl 1 rfl) ?_
  refine lv_iload S.1 S.2.1 dL_law_876 (lv_at hl 6 rfl) ?_
  refine lv_iconst (v := 1) S.1 S.2.1 dL_law_878 (by decide) ?_
  refine addN (a := i) (b := 1) S dL_law_879 ?_
  refine sld_n (k := i + 1) S hXs hbl hbA hLL hw (by omega) dL_law_880 ?_
  have hwc : WD G (mp G a2 z o) A s H _ := hw.sub [29, 30, 31, 32, 33] rfl rfl
  refine cj_i (wc := (mp G a2 z o)) (wr := (gp G a (pUp ((xs (i + 1))) z : PO).2.2 y k ++ [(u1, .inl (k1, (1, .inr (.inl (fun _ => v9))))), (u2, .inl (k2, (1, .inr (.inr (.inr (.inl (fun _ => w)))))))])) (va_runV (As := [.int (xs (i + 1))]) (rest := []) S (c_X5_isUp l G a2 z o H.size ((xs (i + 1))) hr.1.1) (cwV 1 S.2.2.2.2 gL_law_X5_isUp rfl rfl rfl hd_X5_isUp ⟨by rw [hR]; exact Nat.le_of_ble_eq_true rfl, by rw [hR]; exact Nat.le_of_ble_eq_true rfl⟩) ⟨PW.blind, va_recv hK.1 hwc.1 (ci := 5) (q0 := 0) rfl rfl, fun U hU hW => ⟨rfl, PW.of hK hwc hU hW⟩⟩ rfl rfl hl.1 rfl (lv_room (Nat.le_of_ble_eq_true rfl)) dL_law_881 ⟨by rw [hR]; show _ ≤ 3131; omega, by rw [hR]; show _ ≤ 120514; omega⟩) hw hA [29, 30, 31, 32, 33] [0, 1, 2, 3, 4, 5, 6, 7, 8, 9, 10, 11, 12, 13, 14, 15, 16, 17, 18, 19, 20, 21, 22, 23, 24, 25, 26, 27, 28] rfl rfl rfl rfl (by decide) (fun _ => rfl) (fun r9 x9 H locs hp9 hw9 => ?_)
  obtain ⟨z9, o9⟩ := x9
  obtain ⟨e0, e1, hrt, ht9⟩ := hp9
  have e1 : (pUp ((xs (i + 1))) z : PO).2.2 = z9 := (e1).symm
  subst e1
  have ht9 : o9 0 0 = (pUp ((xs (i + 1))) z : PO).1 := ht9
  have hw : WD G (lwd G k1 k2 a a2 u1 u2 (pUp ((xs (i + 1))) z : PO).2.2 y k (pUp ((xs (i + 1))) z : PO).2.2 o9 (v9) (w)) A s H locs := hw9
  have e0 : r9 = (pUp ((xs (i + 1))) z : PO).2.1 := e0
  subst e0
  refine lv_istore (lv' := [(7, .int ((pUp ((xs (i + 1))) z : PO).2.1)), (6, .int ((pUp ((xs (i + 1))) z : PO).1)), (0, .ref (sb)), (1, .ref (a 0)), (2, .ref (a2 0)), (3, .ref (u1)), (4, .ref (u2)), (5, .int (nI (i)))]) S.1 S.2.1 dL_law_884 hl (by decide) rfl (fun ls hl => ?_)
  refine lv_aload_n S.1 S.2.1 dL_law_886 rfl (lv_at hl 4 rfl) ?_
  have hwc : WD G (mp G a2 (pUp ((xs (i + 1))) z : PO).2.2 o9) A s H _ := hw.sub [29, 30, 31, 32, 33] rfl rfl
  refine cj_i (wc := (mp G a2 (pUp ((xs (i + 1))) z : PO).2.2 o9)) (wr := (gp G a (pUp ((xs (i + 1))) z : PO).2.2 y k ++ [(u1, .inl (k1, (1, .inr (.inl (fun _ => v9))))), (u2, .inl (k2, (1, .inr (.inr (.inr (.inl (fun _ => w)))))))])) (va_runV (As := []) (rest := []) S (c_X5_thrown l G a2 (pUp ((xs (i + 1))) z : PO).2.2 o9 H.size  ) (cwV 0 S.2.2.2.2 gL_law_X5_thrown rfl rfl rfl hd_X5_thrown ⟨by rw [hR]; exact Nat.le_of_ble_eq_true rfl, by rw [hR]; exact Nat.le_of_ble_eq_true rfl⟩) ⟨PW.blind, va_recv hK.1 hwc.1 (ci := 5) (q0 := 0) rfl rfl, fun U hU hW => ⟨rfl, PW.of hK hwc hU hW⟩⟩ rfl rfl hl.1 rfl (lv_room (Nat.le_of_ble_eq_true rfl)) dL_law_887 ⟨by rw [hR]; show _ ≤ 3131; omega, by rw [hR]; show _ ≤ 120514; omega⟩) hw hA [29, 30, 31, 32, 33] [0, 1, 2, 3, 4, 5, 6, 7, 8, 9, 10, 11, 12, 13, 14, 15, 16, 17, 18, 19, 20, 21, 22, 23, 24, 25, 26, 27, 28] rfl rfl rfl rfl (by decide) (fun _ => rfl) (fun t9 x8 H locs hp9 hw9 => ?_)
  obtain ⟨z8, o8⟩ := x8
  obtain ⟨e1, e2, e3⟩ := hp9
  dsimp only at e2 e3
  have e2 := e2.symm
  have e3 := e3.symm
  subst e2
  subst e3
  have hw : WD G (lwd G k1 k2 a a2 u1 u2 (pUp ((xs (i + 1))) z : PO).2.2 y k (pUp ((xs (i + 1))) z : PO).2.2 o9 (v9) (w)) A s H locs := hw9
  refine top_to (v := (pUp ((xs (i + 1))) z : PO).1) S (e1.trans ht9) ?_
  refine lv_iload S.1 S.2.1 dL_law_890 (lv_at hl 1 rfl) ?_
  refine lv_icmp_eq (tgt := 897) S.1 S.2.1 dL_law_892 (by decide) (fun _ => ?_) (fun c8 => absurd rfl c8)
  refine lv_iload S.1 S.2.1 dL_law_897 (lv_at hl 1 rfl) ?_
  refine lv_if_ne (tgt := 921) S.1 S.2.1 dL_law_899 (by decide) (fun _ => ?_) (fun c8 => ?_)
  · skip
    refine lv_goto (tgt := 1963) S.1 S.2.1 dL_law_921 (by decide) ?_
    refine W.widen (k := cells + 2) (n := slots + 12) (by omega) (by omega) ?_
    exact kk H locs ls (pUp ((xs (i + 1))) z : PO).2.2 y k o9 (v9) (w) _ _ (hr.go (inv_pUp hr.1.1 _) hrt) hw (lv_sub hl [2, 3, 4, 5, 6, 7] rfl)
  · skip
    have c9 : (pUp ((xs (i + 1))) z : PO).1 = 0 := by first | exact c8 | exact Decidable.not_not.mp c8
    have e9 := ev c9
    subst e9
    have hw : WD G (lwd G k1 k2 a a2 u1 u2 (pUp ((xs (i + 1))) z : PO).2.2 y k (pUp ((xs (i + 1))) z : PO).2.2 o9 (bl (pUp ((xs (i + 1))) z : PO).2.1) (w)) A s H locs := hw
    refine lv_aload_n S.1 S.2.1 dL_law_902 rfl (lv_at hl 5 rfl) ?_
    refine lv_iconst (v := 0) S.1 S.2.1 dL_law_903 (by decide) ?_
    refine la_l S hL hw 27 rfl dL_law_904 ?_
    refine lv_iload S.1 S.2.1 dL_law_905 (lv_at hl 0 rfl) ?_
    refine lv_if_eq (tgt := 914) S.1 S.2.1 dL_law_907 (by decide) (fun zc => ?_) (fun zc => ?_)
    · skip
      refine lv_lconst S.1 S.2.1 dL_law_914 rfl ?_
      refine lcmp_s S.1 S.2.1 (bl_0 zc) dL_law_915 ?_
      refine lv_if_eq (tgt := 921) S.1 S.2.1 dL_law_916 (by decide) (fun c1 => ?_) (fun c1 => ?_)
      · skip
        refine lv_goto (tgt := 1963) S.1 S.2.1 dL_law_921 (by decide) ?_
        refine W.widen (k := cells + 2) (n := slots + 12) (by omega) (by omega) ?_
        exact kk H locs ls (pUp ((xs (i + 1))) z : PO).2.2 y k o9 (bl (pUp ((xs (i + 1))) z : PO).2.1) (w) _ _ (hr.go (inv_pUp hr.1.1 _) hrt) hw (lv_sub hl [2, 3, 4, 5, 6, 7] rfl)
      · skip
        exact absurd c1 (by decide)
    · skip
      refine lv_lconst S.1 S.2.1 dL_law_910 rfl ?_
      refine lv_goto (tgt := 915) S.1 S.2.1 dL_law_911 (by decide) ?_
      refine lcmp_s S.1 S.2.1 (bl_1 zc) dL_law_915 ?_
      refine lv_if_eq (tgt := 921) S.1 S.2.1 dL_law_916 (by decide) (fun c2 => ?_) (fun c2 => ?_)
      · skip
        refine lv_goto (tgt := 1963) S.1 S.2.1 dL_law_921 (by decide) ?_
        refine W.widen (k := cells + 2) (n := slots + 12) (by omega) (by omega) ?_
        exact kk H locs ls (pUp ((xs (i + 1))) z : PO).2.2 y k o9 (bl (pUp ((xs (i + 1))) z : PO).2.1) (w) _ _ (hr.go (inv_pUp hr.1.1 _) hrt) hw (lv_sub hl [2, 3, 4, 5, 6, 7] rfl)
      · skip
        exact absurd c2 (by decide)

set_option maxHeartbeats 4000000 in
set_option maxRecDepth 100000 in
theorem lc_13 {p : Program} {l : Launch} {e : Env} {R : Room} {s : State} {m : MethodId} {args : Array Value} {below : List Frame} {meth : Method} {c : Code} {H : Heap} {locs : List Loc} {cells slots : Nat} {Q : State → Prop} {G : GA} {k1 k2 : ClassId} {A : Nat → Prop} {a a2 : Nat → Nat} {sb u1 u2 L i : Nat} {xs : Nat → Int32} {z y k o : St} {v : Int64} {w : UInt64} {tl : Nat} {hs : Bool} {ls : Array Slot} (S : CallFix p m c cL_law 9 s args lw_tbl RL) (hK : KK G s) (hX : XE l A s) (hL : KL G k1 k2 s) (hA : ∀ q, s.heap.size ≤ q → A q) (hXs : va_X sb L xs s s.heap) (hbl : sb < s.heap.size) (hbA : ¬ A sb) (hLL : L ≤ 2560) (hR : R = room_1) (hc1 : cells + 2 ≤ 3131) (hc2 : slots + 12 ≤ 120514) (hi : i + 4 < L) (hr : Rl z y k o tl hs) (hw : WD G (lwd G k1 k2 a a2 u1 u2 z y k z o v w) A s H locs) (hl : lv_has ls 9 [(0, .ref sb), (1, .ref (a 0)), (2, .ref (a2 0)), (3, .ref u1), (4, .ref u2), (5, .int (nI i))]) (kk : LK p l e R s m args below meth c Q G k1 k2 a a2 sb u1 u2 i A cells slots) : W p l e R s m args below meth c H locs cells slots Q (F0 m 924 ls []) := by
  refine lv_aload_n S.1 S.2.1 dL_law_924 rfl (lv_at hl 1 rfl) ?_
  refine lv_aload_n S.1 S.2.1 dL_law_925 rfl (lv_at hl 0 rfl) ?_
  refine lv_iload S.1 S.2.1 dL_law_926 (lv_at hl 5 rfl) ?_
  refine lv_iconst (v := 1) S.1 S.2.1 dL_law_928 (by decide) ?_
  refine addN (a := i) (b := 1) S dL_law_929 ?_
  refine sld_n (k := i + 1) S hXs hbl hbA hLL hw (by omega) dL_law_930 ?_
  refine lv_aload_n S.1 S.2.1 dL_law_931 rfl (lv_at hl 3 rfl) ?_
  have hwc : WD G (gL G k1 a z y k u1 (v)) A s H _ := hw.sub [0, 1, 2, 3, 4, 5, 6, 7, 8, 9, 10, 11, 12, 13, 14, 15, 16, 17, 18, 19, 20, 21, 22, 23, 24, 25, 26, 27] rfl rfl
  have hx9 := xc_le (pA1 3 ((xs (i + 1))) z : PO).1
  refine cx_i (wc := (gL G k1 a z y k u1 (v))) (wr := ([(u2, .inl (k2, (1, .inr (.inr (.inr (.inl (fun _ => w)))))))] ++ mp G a2 z o)) (vx_runSX (hh := [(0, 9, 12, 28)]) (As := [.ref (a 0), .int (xs (i + 1)), .ref (u1)]) (rest := []) S (c_L_partition l G k1 k2 u1 (v) a z y k H.size ((xs (i + 1))) hr.1.1) (vx_cwSW 3 S.2.2.2.2 gL_law_L_partition rfl rfl rfl hd_L_partition ⟨by rw [hR]; exact Nat.le_of_ble_eq_true rfl, by rw [hR]; exact Nat.le_of_ble_eq_true rfl⟩) ⟨PL.blind, fun U hU hW => ⟨rfl, PL.of hK hX hL hwc (va_free hw.2.1 hw.2.2 hA [0, 1, 2, 3, 4, 5, 6, 7, 8, 9, 10, 11, 12, 13, 14, 15, 16, 17, 18, 19, 20, 21, 22, 23, 24, 25, 26, 27] rfl) hU hW⟩⟩ rfl rfl hl.1 rfl (lv_room (Nat.le_of_ble_eq_true rfl)) dL_law_932 ⟨by rw [hR]; show _ ≤ 3131; omega, by rw [hR]; show _ ≤ 120514; omega⟩) hw hA [0, 1, 2, 3, 4, 5, 6, 7, 8, 9, 10, 11, 12, 13, 14, 15, 16, 17, 18, 19, 20, 21, 22, 23, 24, 25, 26, 27] [28, 29, 30, 31, 32, 33] rfl rfl rfl rfl (by decide) (fun _ => rfl) (fun _ => rfl) (fun ce q9 u9 H locs hpx hw9 g1 g2 g3 => absurd hpx id) (fun r9 u9 H locs hp9 hw9 => ?_)
  obtain ⟨⟨z9, y9, k9⟩, v9⟩ := u9
  obtain ⟨rfl, e9, ev⟩ := hp9
  have e9 : (z9, y9, k9) = ((pA1 3 ((xs (i + 1))) z : PO).2.2, y, k) := e9
  cases e9
  have ev : (pA1 3 ((xs (i + 1))) z : PO).1 = 0 → v9 = ((pA1 3 ((xs (i + 1))) z : PO).2.1).toInt64 := ev
  have hw : WD G (lwd G k1 k2 a a2 u1 u2 (pA1 3 ((xs (i + 1))) z : PO).2.2 y k z o (v9) (w)) A s H locs := hw9.sub [6, 7, 8, 9, 10, 11, 12, 13, 14, 15, 16, 17, 18, 19, 20, 21, 22, 23, 24, 25, 26, 27, 28, 29, 30, 31, 32, 33, 0, 1, 2, 3, 4, 5] rfl rfl
  refine lv_istore (lv' := [(6, .int ((pA1 3 ((xs (i + 1))) z : PO).1)), (0, .ref (sb)), (1, .ref (a 0)), (2, .ref (a2 0)), (3, .ref (u1)), (4, .ref (u2)), (5, .int (nI (i)))]) S.1 S.2.1 dL_law_935 hl (by decide) rfl (fun ls hl => ?_)
  refine lv_aload_n S.1 S.2.1 dL_law_937 rfl (lv_at hl 3 rfl) ?_
  refine lv_aload_n S.1 S.2.1 dL_law_938 rfl (lv_at hl 1 rfl) ?_
  refine lv_iload S.1 S.2.1 dL_law_939 (lv_at hl 6 rfl) ?_
  refine lv_iconst (v := 1) S.1 S.2.1 dL_law_941 (by decide) ?_
  refine addN (a := i) (b := 1) S dL_law_942 ?_
  refine sld_n (k := i + 1) S hXs hbl hbA hLL hw (by omega) dL_law_943 ?_
  have hwc : WD G (mp G a2 z o) A s H _ := hw.sub [29, 30, 31, 32, 33] rfl rfl
  refine cj_i (wc := (mp G a2 z o)) (wr := (gp G a (pA1 3 ((xs (i + 1))) z : PO).2.2 y k ++ [(u1, .inl (k1, (1, .inr (.inl (fun _ => v9))))), (u2, .inl (k2, (1, .inr (.inr (.inr (.inl (fun _ => w)))))))])) (va_runV (As := [.int (xs (i + 1))]) (rest := []) S (c_X5_partition l G a2 z o H.size ((xs (i + 1))) hr.1.1) (cwV 1 S.2.2.2.2 gL_law_X5_partition rfl rfl rfl hd_X5_partition ⟨by rw [hR]; exact Nat.le_of_ble_eq_true rfl, by rw [hR]; exact Nat.le_of_ble_eq_true rfl⟩) ⟨PW.blind, va_recv hK.1 hwc.1 (ci := 5) (q0 := 0) rfl rfl, fun U hU hW => ⟨rfl, PW.of hK hwc hU hW⟩⟩ rfl rfl hl.1 rfl (lv_room (Nat.le_of_ble_eq_true rfl)) dL_law_944 ⟨by rw [hR]; show _ ≤ 3131; omega, by rw [hR]; show _ ≤ 120514; omega⟩) hw hA [29, 30, 31, 32, 33] [0, 1, 2, 3, 4, 5, 6, 7, 8, 9, 10, 11, 12, 13, 14, 15, 16, 17, 18, 19, 20, 21, 22, 23, 24, 25, 26, 27, 28] rfl rfl rfl rfl (by decide) (fun _ => rfl) (fun r9 x9 H locs hp9 hw9 => ?_)
  obtain ⟨z9, o9⟩ := x9
  obtain ⟨e0, e1, hrt, ht9⟩ := hp9
  have e1 : (pA1 3 ((xs (i + 1))) z : PO).2.2 = z9 := (e1).symm
  subst e1
  have ht9 : o9 0 0 = (pA1 3 ((xs (i + 1))) z : PO).1 := ht9
  have hw : WD G (lwd G k1 k2 a a2 u1 u2 (pA1 3 ((xs (i + 1))) z : PO).2.2 y k (pA1 3 ((xs (i + 1))) z : PO).2.2 o9 (v9) (w)) A s H locs := hw9
  have e0 : r9 = (pA1 3 ((xs (i + 1))) z : PO).2.1 := e0
  subst e0
  refine lv_istore (lv' := [(7, .int ((pA1 3 ((xs (i + 1))) z : PO).2.1)), (6, .int ((pA1 3 ((xs (i + 1))) z : PO).1)), (0, .ref (sb)), (1, .ref (a 0)), (2, .ref (a2 0)), (3, .ref (u1)), (4, .ref (u2)), (5, .int (nI (i)))]) S.1 S.2.1 dL_law_947 hl (by decide) rfl (fun ls hl => ?_)
  refine lv_aload_n S.1 S.2.1 dL_law_949 rfl (lv_at hl 4 rfl) ?_
  have hwc : WD G (mp G a2 (pA1 3 ((xs (i + 1))) z : PO).2.2 o9) A s H _ := hw.sub [29, 30, 31, 32, 33] rfl rfl
  refine cj_i (wc := (mp G a2 (pA1 3 ((xs (i + 1))) z : PO).2.2 o9)) (wr := (gp G a (pA1 3 ((xs (i + 1))) z : PO).2.2 y k ++ [(u1, .inl (k1, (1, .inr (.inl (fun _ => v9))))), (u2, .inl (k2, (1, .inr (.inr (.inr (.inl (fun _ => w)))))))])) (va_runV (As := []) (rest := []) S (c_X5_thrown l G a2 (pA1 3 ((xs (i + 1))) z : PO).2.2 o9 H.size  ) (cwV 0 S.2.2.2.2 gL_law_X5_thrown rfl rfl rfl hd_X5_thrown ⟨by rw [hR]; exact Nat.le_of_ble_eq_true rfl, by rw [hR]; exact Nat.le_of_ble_eq_true rfl⟩) ⟨PW.blind, va_recv hK.1 hwc.1 (ci := 5) (q0 := 0) rfl rfl, fun U hU hW => ⟨rfl, PW.of hK hwc hU hW⟩⟩ rfl rfl hl.1 rfl (lv_room (Nat.le_of_ble_eq_true rfl)) dL_law_950 ⟨by rw [hR]; show _ ≤ 3131; omega, by rw [hR]; show _ ≤ 120514; omega⟩) hw hA [29, 30, 31, 32, 33] [0, 1, 2, 3, 4, 5, 6, 7, 8, 9, 10, 11, 12, 13, 14, 15, 16, 17, 18, 19, 20, 21, 22, 23, 24, 25, 26, 27, 28] rfl rfl rfl rfl (by decide) (fun _ => rfl) (fun t9 x8 H locs hp9 hw9 => ?_)
  obtain ⟨z8, o8⟩ := x8
  obtain ⟨e1, e2, e3⟩ := hp9
  dsimp only at e2 e3
  have e2 := e2.symm
  have e3 := e3.symm
  subst e2
  subst e3
  have hw : WD G (lwd G k1 k2 a a2 u1 u2 (pA1 3 ((xs (i + 1))) z : PO).2.2 y k (pA1 3 ((xs (i + 1))) z : PO).2.2 o9 (v9) (w)) A s H locs := hw9
  refine top_to (v := (pA1 3 ((xs (i + 1))) z : PO).1) S (e1.trans ht9) ?_
  refine lv_iload S.1 S.2.1 dL_law_953 (lv_at hl 1 rfl) ?_
  refine lv_icmp_eq (tgt := 960) S.1 S.2.1 dL_law_955 (by decide) (fun _ => ?_) (fun c8 => absurd rfl c8)
  refine lv_iload S.1 S.2.1 dL_law_960 (lv_at hl 1 rfl) ?_
  refine lv_if_ne (tgt := 977) S.1 S.2.1 dL_law_962 (by decide) (fun _ => ?_) (fun c8 => ?_)
  · skip
    refine lv_goto (tgt := 1963) S.1 S.2.1 dL_law_977 (by decide) ?_
    refine W.widen (k := cells + 2) (n := slots + 12) (by omega) (by omega) ?_
    exact kk H locs ls (pA1 3 ((xs (i + 1))) z : PO).2.2 y k o9 (v9) (w) _ _ (hr.go (inv_pA1 hr.1.1 _ _) hrt) hw (lv_sub hl [2, 3, 4, 5, 6, 7] rfl)
  · skip
    have c9 : (pA1 3 ((xs (i + 1))) z : PO).1 = 0 := by first | exact c8 | exact Decidable.not_not.mp c8
    have e9 := ev c9
    subst e9
    have hw : WD G (lwd G k1 k2 a a2 u1 u2 (pA1 3 ((xs (i + 1))) z : PO).2.2 y k (pA1 3 ((xs (i + 1))) z : PO).2.2 o9 (((pA1 3 ((xs (i + 1))) z : PO).2.1).toInt64) (w)) A s H locs := hw
    refine lv_aload_n S.1 S.2.1 dL_law_965 rfl (lv_at hl 5 rfl) ?_
    refine lv_iconst (v := 0) S.1 S.2.1 dL_law_966 (by decide) ?_
    refine la_l S hL hw 27 rfl dL_law_967 ?_
    refine lv_iload S.1 S.2.1 dL_law_968 (lv_at hl 0 rfl) ?_
    refine lv_i2l S.1 S.2.1 dL_law_970 rfl ?_
    refine lcmp_s S.1 S.2.1 rfl dL_law_971 ?_
    refine lv_if_eq (tgt := 977) S.1 S.2.1 dL_law_972 (by decide) (fun c1 => ?_) (fun c1 => ?_)
    · skip
      refine lv_goto (tgt := 1963) S.1 S.2.1 dL_law_977 (by decide) ?_
      refine W.widen (k := cells + 2) (n := slots + 12) (by omega) (by omega) ?_
      exact kk H locs ls (pA1 3 ((xs (i + 1))) z : PO).2.2 y k o9 (((pA1 3 ((xs (i + 1))) z : PO).2.1).toInt64) (w) _ _ (hr.go (inv_pA1 hr.1.1 _ _) hrt) hw (lv_sub hl [2, 3, 4, 5, 6, 7] rfl)
    · skip
      exact absurd c1 (by decide)

set_option maxHeartbeats 4000000 in
set_option maxRecDepth 100000 in
theorem lc_14 {p : Program} {l : Launch} {e : Env} {R : Room} {s : State} {m : MethodId} {args : Array Value} {below : List Frame} {meth : Method} {c : Code} {H : Heap} {locs : List Loc} {cells slots : Nat} {Q : State → Prop} {G : GA} {k1 k2 : ClassId} {A : Nat → Prop} {a a2 : Nat → Nat} {sb u1 u2 L i : Nat} {xs : Nat → Int32} {z y k o : St} {v : Int64} {w : UInt64} {tl : Nat} {hs : Bool} {ls : Array Slot} (S : CallFix p m c cL_law 9 s args lw_tbl RL) (hK : KK G s) (hX : XE l A s) (hL : KL G k1 k2 s) (hA : ∀ q, s.heap.size ≤ q → A q) (hXs : va_X sb L xs s s.heap) (hbl : sb < s.heap.size) (hbA : ¬ A sb) (hLL : L ≤ 2560) (hR : R = room_1) (hc1 : cells + 2 ≤ 3131) (hc2 : slots + 12 ≤ 120514) (hi : i + 4 < L) (hr : Rl z y k o tl hs) (hw : WD G (lwd G k1 k2 a a2 u1 u2 z y k z o v w) A s H locs) (hl : lv_has ls 9 [(0, .ref sb), (1, .ref (a 0)), (2, .ref (a2 0)), (3, .ref u1), (4, .ref u2), (5, .int (nI i))]) (kk : LK p l e R s m args below meth c Q G k1 k2 a a2 sb u1 u2 i A cells slots) : W p l e R s m args below meth c H locs cells slots Q (F0 m 980 ls []) := by
  refine lv_aload_n S.1 S.2.1 dL_law_980 rfl (lv_at hl 1 rfl) ?_
  refine lv_aload_n S.1 S.2.1 dL_law_981 rfl (lv_at hl 0 rfl) ?_
  refine lv_iload S.1 S.2.1 dL_law_982 (lv_at hl 5 rfl) ?_
  refine lv_iconst (v := 1) S.1 S.2.1 dL_law_984 (by decide) ?_
  refine addN (a := i) (b := 1) S dL_law_985 ?_
  refine sld_n (k := i + 1) S hXs hbl hbA hLL hw (by omega) dL_law_986 ?_
  refine lv_aload_n S.1 S.2.1 dL_law_987 rfl (lv_at hl 3 rfl) ?_
  have hwc : WD G (gL G k1 a z y k u1 (v)) A s H _ := hw.sub [0, 1, 2, 3, 4, 5, 6, 7, 8, 9, 10, 11, 12, 13, 14, 15, 16, 17, 18, 19, 20, 21, 22, 23, 24, 25, 26, 27] rfl rfl
  have hx9 := xc_le (pA1 4 ((xs (i + 1))) z : PO).1
  refine cx_i (wc := (gL G k1 a z y k u1 (v))) (wr := ([(u2, .inl (k2, (1, .inr (.inr (.inr (.inl (fun _ => w)))))))] ++ mp G a2 z o)) (vx_runSX (hh := [(0, 9, 12, 28)]) (As := [.ref (a 0), .int (xs (i + 1)), .ref (u1)]) (rest := []) S (c_L_incarnation l G k1 k2 u1 (v) a z y k H.size ((xs (i + 1))) hr.1.1) (vx_cwSW 3 S.2.2.2.2 gL_law_L_incarnation rfl rfl rfl hd_L_incarnation ⟨by rw [hR]; exact Nat.le_of_ble_eq_true rfl, by rw [hR]; exact Nat.le_of_ble_eq_true rfl⟩) ⟨PL.blind, fun U hU hW => ⟨rfl, PL.of hK hX hL hwc (va_free hw.2.1 hw.2.2 hA [0, 1, 2, 3, 4, 5, 6, 7, 8, 9, 10, 11, 12, 13, 14, 15, 16, 17, 18, 19, 20, 21, 22, 23, 24, 25, 26, 27] rfl) hU hW⟩⟩ rfl rfl hl.1 rfl (lv_room (Nat.le_of_ble_eq_true rfl)) dL_law_988 ⟨by rw [hR]; show _ ≤ 3131; omega, by rw [hR]; show _ ≤ 120514; omega⟩) hw hA [0, 1, 2, 3, 4, 5, 6, 7, 8, 9, 10, 11, 12, 13, 14, 15, 16, 17, 18, 19, 20, 21, 22, 23, 24, 25, 26, 27] [28, 29, 30, 31, 32, 33] rfl rfl rfl rfl (by decide) (fun _ => rfl) (fun _ => rfl) (fun ce q9 u9 H locs hpx hw9 g1 g2 g3 => absurd hpx id) (fun r9 u9 H locs hp9 hw9 => ?_)
  obtain ⟨⟨z9, y9, k9⟩, v9⟩ := u9
  obtain ⟨rfl, e9, ev⟩ := hp9
  have e9 : (z9, y9, k9) = ((pA1 4 ((xs (i + 1))) z : PO).2.2, y, k) := e9
  cases e9
  have ev : (pA1 4 ((xs (i + 1))) z : PO).1 = 0 → v9 = ((pA1 4 ((xs (i + 1))) z : PO).2.1).toInt64 := ev
  have hw : WD G (lwd G k1 k2 a a2 u1 u2 (pA1 4 ((xs (i + 1))) z : PO).2.2 y k z o (v9) (w)) A s H locs := hw9.sub [6, 7, 8, 9, 10, 11, 12, 13, 14, 15, 16, 17, 18, 19, 20, 21, 22, 23, 24, 25, 26, 27, 28, 29, 30, 31, 32, 33, 0, 1, 2, 3, 4, 5] rfl rfl
  refine lv_istore (lv' := [(6, .int ((pA1 4 ((xs (i + 1))) z : PO).1)), (0, .ref (sb)), (1, .ref (a 0)), (2, .ref (a2 0)), (3, .ref (u1)), (4, .ref (u2)), (5, .int (nI (i)))]) S.1 S.2.1 dL_law_991 hl (by decide) rfl (fun ls hl => ?_)
  refine lv_aload_n S.1 S.2.1 dL_law_993 rfl (lv_at hl 3 rfl) ?_
  refine lv_aload_n S.1 S.2.1 dL_law_994 rfl (lv_at hl 1 rfl) ?_
  refine lv_iload S.1 S.2.1 dL_law_995 (lv_at hl 6 rfl) ?_
  refine lv_iconst (v := 1) S.1 S.2.1 dL_law_997 (by decide) ?_
  refine addN (a := i) (b := 1) S dL_law_998 ?_
  refine sld_n (k := i + 1) S hXs hbl hbA hLL hw (by omega) dL_law_999 ?_
  have hwc : WD G (mp G a2 z o) A s H _ := hw.sub [29, 30, 31, 32, 33] rfl rfl
  refine cj_i (wc := (mp G a2 z o)) (wr := (gp G a (pA1 4 ((xs (i + 1))) z : PO).2.2 y k ++ [(u1, .inl (k1, (1, .inr (.inl (fun _ => v9))))), (u2, .inl (k2, (1, .inr (.inr (.inr (.inl (fun _ => w)))))))])) (va_runV (As := [.int (xs (i + 1))]) (rest := []) S (c_X5_incarnation l G a2 z o H.size ((xs (i + 1))) hr.1.1) (cwV 1 S.2.2.2.2 gL_law_X5_incarnation rfl rfl rfl hd_X5_incarnation ⟨by rw [hR]; exact Nat.le_of_ble_eq_true rfl, by rw [hR]; exact Nat.le_of_ble_eq_true rfl⟩) ⟨PW.blind, va_recv hK.1 hwc.1 (ci := 5) (q0 := 0) rfl rfl, fun U hU hW => ⟨rfl, PW.of hK hwc hU hW⟩⟩ rfl rfl hl.1 rfl (lv_room (Nat.le_of_ble_eq_true rfl)) dL_law_1000 ⟨by rw [hR]; show _ ≤ 3131; omega, by rw [hR]; show _ ≤ 120514; omega⟩) hw hA [29, 30, 31, 32, 33] [0, 1, 2, 3, 4, 5, 6, 7, 8, 9, 10, 11, 12, 13, 14, 15, 16, 17, 18, 19, 20, 21, 22, 23, 24, 25, 26, 27, 28] rfl rfl rfl rfl (by decide) (fun _ => rfl) (fun r9 x9 H locs hp9 hw9 => ?_)
  obtain ⟨z9, o9⟩ := x9
  obtain ⟨e0, e1, hrt, ht9⟩ := hp9
  have e1 : (pA1 4 ((xs (i + 1))) z : PO).2.2 = z9 := (e1).symm
  subst e1
  have ht9 : o9 0 0 = (pA1 4 ((xs (i + 1))) z : PO).1 := ht9
  have hw : WD G (lwd G k1 k2 a a2 u1 u2 (pA1 4 ((xs (i + 1))) z : PO).2.2 y k (pA1 4 ((xs (i + 1))) z : PO).2.2 o9 (v9) (w)) A s H locs := hw9
  have e0 : r9 = (pA1 4 ((xs (i + 1))) z : PO).2.1 := e0
  subst e0
  refine lv_istore (lv' := [(7, .int ((pA1 4 ((xs (i + 1))) z : PO).2.1)), (6, .int ((pA1 4 ((xs (i + 1))) z : PO).1)), (0, .ref (sb)), (1, .ref (a 0)), (2, .ref (a2 0)), (3, .ref (u1)), (4, .ref (u2)), (5, .int (nI (i)))]) S.1 S.2.1 dL_law_1003 hl (by decide) rfl (fun ls hl => ?_)
  refine lv_aload_n S.1 S.2.1 dL_law_1005 rfl (lv_at hl 4 rfl) ?_
  have hwc : WD G (mp G a2 (pA1 4 ((xs (i + 1))) z : PO).2.2 o9) A s H _ := hw.sub [29, 30, 31, 32, 33] rfl rfl
  refine cj_i (wc := (mp G a2 (pA1 4 ((xs (i + 1))) z : PO).2.2 o9)) (wr := (gp G a (pA1 4 ((xs (i + 1))) z : PO).2.2 y k ++ [(u1, .inl (k1, (1, .inr (.inl (fun _ => v9))))), (u2, .inl (k2, (1, .inr (.inr (.inr (.inl (fun _ => w)))))))])) (va_runV (As := []) (rest := []) S (c_X5_thrown l G a2 (pA1 4 ((xs (i + 1))) z : PO).2.2 o9 H.size  ) (cwV 0 S.2.2.2.2 gL_law_X5_thrown rfl rfl rfl hd_X5_thrown ⟨by rw [hR]; exact Nat.le_of_ble_eq_true rfl, by rw [hR]; exact Nat.le_of_ble_eq_true rfl⟩) ⟨PW.blind, va_recv hK.1 hwc.1 (ci := 5) (q0 := 0) rfl rfl, fun U hU hW => ⟨rfl, PW.of hK hwc hU hW⟩⟩ rfl rfl hl.1 rfl (lv_room (Nat.le_of_ble_eq_true rfl)) dL_law_1006 ⟨by rw [hR]; show _ ≤ 3131; omega, by rw [hR]; show _ ≤ 120514; omega⟩) hw hA [29, 30, 31, 32, 33] [0, 1, 2, 3, 4, 5, 6, 7, 8, 9, 10, 11, 12, 13, 14, 15, 16, 17, 18, 19, 20, 21, 22, 23, 24, 25, 26, 27, 28] rfl rfl rfl rfl (by decide) (fun _ => rfl) (fun t9 x8 H locs hp9 hw9 => ?_)
  obtain ⟨z8, o8⟩ := x8
  obtain ⟨e1, e2, e3⟩ := hp9
  dsimp only at e2 e3
  have e2 := e2.symm
  have e3 := e3.symm
  subst e2
  subst e3
  have hw : WD G (lwd G k1 k2 a a2 u1 u2 (pA1 4 ((xs (i + 1))) z : PO).2.2 y k (pA1 4 ((xs (i + 1))) z : PO).2.2 o9 (v9) (w)) A s H locs := hw9
  refine top_to (v := (pA1 4 ((xs (i + 1))) z : PO).1) S (e1.trans ht9) ?_
  refine lv_iload S.1 S.2.1 dL_law_1009 (lv_at hl 1 rfl) ?_
  refine lv_icmp_eq (tgt := 1016) S.1 S.2.1 dL_law_1011 (by decide) (fun _ => ?_) (fun c8 => absurd rfl c8)
  refine lv_iload S.1 S.2.1 dL_law_1016 (lv_at hl 1 rfl) ?_
  refine lv_if_ne (tgt := 1033) S.1 S.2.1 dL_law_1018 (by decide) (fun _ => ?_) (fun c8 => ?_)
  · skip
    refine lv_goto (tgt := 1963) S.1 S.2.1 dL_law_1033 (by decide) ?_
    refine W.widen (k := cells + 2) (n := slots + 12) (by omega) (by omega) ?_
    exact kk H locs ls (pA1 4 ((xs (i + 1))) z : PO).2.2 y k o9 (v9) (w) _ _ (hr.go (inv_pA1 hr.1.1 _ _) hrt) hw (lv_sub hl [2, 3, 4, 5, 6, 7] rfl)
  · skip
    have c9 : (pA1 4 ((xs (i + 1))) z : PO).1 = 0 := by first | exact c8 | exact Decidable.not_not.mp c8
    have e9 := ev c9
    subst e9
    have hw : WD G (lwd G k1 k2 a a2 u1 u2 (pA1 4 ((xs (i + 1))) z : PO).2.2 y k (pA1 4 ((xs (i + 1))) z : PO).2.2 o9 (((pA1 4 ((xs (i + 1))) z : PO).2.1).toInt64) (w)) A s H locs := hw
    refine lv_aload_n S.1 S.2.1 dL_law_1021 rfl (lv_at hl 5 rfl) ?_
    refine lv_iconst (v := 0) S.1 S.2.1 dL_law_1022 (by decide) ?_
    refine la_l S hL hw 27 rfl dL_law_1023 ?_
    refine lv_iload S.1 S.2.1 dL_law_1024 (lv_at hl 0 rfl) ?_
    refine lv_i2l S.1 S.2.1 dL_law_1026 rfl ?_
    refine lcmp_s S.1 S.2.1 rfl dL_law_1027 ?_
    refine lv_if_eq (tgt := 1033) S.1 S.2.1 dL_law_1028 (by decide) (fun c1 => ?_) (fun c1 => ?_)
    · skip
      refine lv_goto (tgt := 1963) S.1 S.2.1 dL_law_1033 (by decide) ?_
      refine W.widen (k := cells + 2) (n := slots + 12) (by omega) (by omega) ?_
      exact kk H locs ls (pA1 4 ((xs (i + 1))) z : PO).2.2 y k o9 (((pA1 4 ((xs (i + 1))) z : PO).2.1).toInt64) (w) _ _ (hr.go (inv_pA1 hr.1.1 _ _) hrt) hw (lv_sub hl [2, 3, 4, 5, 6, 7] rfl)
    · skip
      exact absurd c1 (by decide)

set_option maxHeartbeats 4000000 in
set_option maxRecDepth 100000 in
theorem lc_15 {p : Program} {l : Launch} {e : Env} {R : Room} {s : State} {m : MethodId} {args : Array Value} {below : List Frame} {meth : Method} {c : Code} {H : Heap} {locs : List Loc} {cells slots : Nat} {Q : State → Prop} {G : GA} {k1 k2 : ClassId} {A : Nat → Prop} {a a2 : Nat → Nat} {sb u1 u2 L i : Nat} {xs : Nat → Int32} {z y k o : St} {v : Int64} {w : UInt64} {tl : Nat} {hs : Bool} {ls : Array Slot} (S : CallFix p m c cL_law 9 s args lw_tbl RL) (hK : KK G s) (hX : XE l A s) (hL : KL G k1 k2 s) (hA : ∀ q, s.heap.size ≤ q → A q) (hXs : va_X sb L xs s s.heap) (hbl : sb < s.heap.size) (hbA : ¬ A sb) (hLL : L ≤ 2560) (hR : R = room_1) (hc1 : cells + 2 ≤ 3131) (hc2 : slots + 12 ≤ 120514) (hi : i + 4 < L) (hr : Rl z y k o tl hs) (hw : WD G (lwd G k1 k2 a a2 u1 u2 z y k z o v w) A s H locs) (hl : lv_has ls 9 [(0, .ref sb), (1, .ref (a 0)), (2, .ref (a2 0)), (3, .ref u1), (4, .ref u2), (5, .int (nI i))]) (kk : LK p l e R s m args below meth c Q G k1 k2 a a2 sb u1 u2 i A cells slots) : W p l e R s m args below meth c H locs cells slots Q (F0 m 1036 ls []) := by
  refine lv_aload_n S.1 S.2.1 dL_law_1036 rfl (lv_at hl 1 rfl) ?_
  refine lv_aload_n S.1 S.2.1 dL_law_1037 rfl (lv_at hl 0 rfl) ?_
  refine lv_iload S.1 S.2.1 dL_law_1038 (lv_at hl 5 rfl) ?_
  refine lv_iconst (v := 1) S.1 S.2.1 dL_law_1040 (by decide) ?_
  refine addN (a := i) (b := 1) S dL_law_1041 ?_
  refine sld_n (k := i + 1) S hXs hbl hbA hLL hw (by omega) dL_law_1042 ?_
  refine lv_aload_n S.1 S.2.1 dL_law_1043 rfl (lv_at hl 0 rfl) ?_
  refine lv_iload S.1 S.2.1 dL_law_1044 (lv_at hl 5 rfl) ?_
  refine lv_iconst (v := 2) S.1 S.2.1 dL_law_1046 (by decide) ?_
  refine addN (a := i) (b := 2) S dL_law_1047 ?_
  refine sld_n (k := i + 2) S hXs hbl hbA hLL hw (by omega) dL_law_1048 ?_
  refine lv_aload_n S.1 S.2.1 dL_law_1049 rfl (lv_at hl 3 rfl) ?_
  have hwc : WD G (gL G k1 a z y k u1 (v)) A s H _ := hw.sub [0, 1, 2, 3, 4, 5, 6, 7, 8, 9, 10, 11, 12, 13, 14, 15, 16, 17, 18, 19, 20, 21, 22, 23, 24, 25, 26, 27] rfl rfl
  have hx9 := xc_le (pRe ((xs (i + 1))) ((xs (i + 2))) z : PO).1
  refine cx_i (wc := (gL G k1 a z y k u1 (v))) (wr := ([(u2, .inl (k2, (1, .inr (.inr (.inr (.inl (fun _ => w)))))))] ++ mp G a2 z o)) (vx_runSX (hh := [(0, 17, 20, 28)]) (As := [.ref (a 0), .int (xs (i + 1)), .int (xs (i + 2)), .ref (u1)]) (rest := []) S (c_L_reaches l G k1 k2 u1 (v) a z y k H.size ((xs (i + 1))) ((xs (i + 2))) hr.1.1) (vx_cwSW 4 S.2.2.2.2 gL_law_L_reaches rfl rfl rfl hd_L_reaches ⟨by rw [hR]; exact Nat.le_of_ble_eq_true rfl, by rw [hR]; exact Nat.le_of_ble_eq_true rfl⟩) ⟨PL.blind, fun U hU hW => ⟨rfl, PL.of hK hX hL hwc (va_free hw.2.1 hw.2.2 hA [0, 1, 2, 3, 4, 5, 6, 7, 8, 9, 10, 11, 12, 13, 14, 15, 16, 17, 18, 19, 20, 21, 22, 23, 24, 25, 26, 27] rfl) hU hW⟩⟩ rfl rfl hl.1 rfl (lv_room (Nat.le_of_ble_eq_true rfl)) dL_law_1050 ⟨by rw [hR]; show _ ≤ 3131; omega, by rw [hR]; show _ ≤ 120514; omega⟩) hw hA [0, 1, 2, 3, 4, 5, 6, 7, 8, 9, 10, 11, 12, 13, 14, 15, 16, 17, 18, 19, 20, 21, 22, 23, 24, 25, 26, 27] [28, 29, 30, 31, 32, 33] rfl rfl rfl rfl (by decide) (fun _ => rfl) (fun _ => rfl) (fun ce q9 u9 H locs hpx hw9 g1 g2 g3 => absurd hpx id) (fun r9 u9 H locs hp9 hw9 => ?_)
  obtain ⟨⟨z9, y9, k9⟩, v9⟩ := u9
  obtain ⟨rfl, e9, ev⟩ := hp9
  have e9 : (z9, y9, k9) = ((pRe ((xs (i + 1))) ((xs (i + 2))) z : PO).2.2, y, k) := e9
  cases e9
  have ev : (pRe ((xs (i + 1))) ((xs (i + 2))) z : PO).1 = 0 → v9 = bl (pRe ((xs (i + 1))) ((xs (i + 2))) z : PO).2.1 := ev
  have hw : WD G (lwd G k1 k2 a a2 u1 u2 (pRe ((xs (i + 1))) ((xs (i + 2))) z : PO).2.2 y k z o (v9) (w)) A s H locs := hw9.sub [6, 7, 8, 9, 10, 11, 12, 13, 14, 15, 16, 17, 18, 19, 20, 21, 22, 23, 24, 25, 26, 27, 28, 29, 30, 31, 32, 33, 0, 1, 2, 3, 4, 5] rfl rfl
  refine lv_istore (lv' := [(6, .int ((pRe ((xs (i + 1))) ((xs (i + 2))) z : PO).1)), (0, .ref (sb)), (1, .ref (a 0)), (2, .ref (a2 0)), (3, .ref (u1)), (4, .ref (u2)), (5, .int (nI (i)))]) S.1 S.2.1 dL_law_1053 hl (by decide) rfl (fun ls hl => ?_)
  refine lv_aload_n S.1 S.2.1 dL_law_1055 rfl (lv_at hl 3 rfl) ?_
  refine lv_aload_n S.1 S.2.1 dL_law_1056 rfl (lv_at hl 1 rfl) ?_
  refine lv_iload S.1 S.2.1 dL_law_1057 (lv_at hl 6 rfl) ?_
  refine lv_iconst (v := 1) S.1 S.2.1 dL_law_1059 (by decide) ?_
  refine addN (a := i) (b := 1) S dL_law_1060 ?_
  refine sld_n (k := i + 1) S hXs hbl hbA hLL hw (by omega) dL_law_1061 ?_
  refine lv_aload_n S.1 S.2.1 dL_law_1062 rfl (lv_at hl 1 rfl) ?_
  refine lv_iload S.1 S.2.1 dL_law_1063 (lv_at hl 6 rfl) ?_
  refine lv_iconst (v := 2) S.1 S.2.1 dL_law_1065 (by decide) ?_
  refine addN (a := i) (b := 2) S dL_law_1066 ?_
  refine sld_n (k := i + 2) S hXs hbl hbA hLL hw (by omega) dL_law_1067 ?_
  have hwc : WD G (mp G a2 z o) A s H _ := hw.sub [29, 30, 31, 32, 33] rfl rfl
  refine cj_i (wc := (mp G a2 z o)) (wr := (gp G a (pRe ((xs (i + 1))) ((xs (i + 2))) z : PO).2.2 y k ++ [(u1, .inl (k1, (1, .inr (.inl (fun _ => v9))))), (u2, .inl (k2, (1, .inr (.inr (.inr (.inl (fun _ => w)))))))])) (va_runV (As := [.int (xs (i + 1)), .int (xs (i + 2))]) (rest := []) S (c_X5_reaches l G a2 z o H.size ((xs (i + 1))) ((xs (i + 2))) hr.1.1) (cwV 2 S.2.2.2.2 gL_law_X5_reaches rfl rfl rfl hd_X5_reaches ⟨by rw [hR]; exact Nat.le_of_ble_eq_true rfl, by rw [hR]; exact Nat.le_of_ble_eq_true rfl⟩) ⟨PW.blind, va_recv hK.1 hwc.1 (ci := 5) (q0 := 0) rfl rfl, fun U hU hW => ⟨rfl, PW.of hK hwc hU hW⟩⟩ rfl rfl hl.1 rfl (lv_room (Nat.le_of_ble_eq_true rfl)) dL_law_1068 ⟨by rw [hR]; show _ ≤ 3131; omega, by rw [hR]; show _ ≤ 120514; omega⟩) hw hA [29, 30, 31, 32, 33] [0, 1, 2, 3, 4, 5, 6, 7, 8, 9, 10, 11, 12, 13, 14, 15, 16, 17, 18, 19, 20, 21, 22, 23, 24, 25, 26, 27, 28] rfl rfl rfl rfl (by decide) (fun _ => rfl) (fun r9 x9 H locs hp9 hw9 => ?_)
  obtain ⟨z9, o9⟩ := x9
  obtain ⟨e0, e1, hrt, ht9⟩ := hp9
  have e1 : (pRe ((xs (i + 1))) ((xs (i + 2))) z : PO).2.2 = z9 := (e1).symm
  subst e1
  have ht9 : o9 0 0 = (pRe ((xs (i + 1))) ((xs (i + 2))) z : PO).1 := ht9
  have hw : WD G (lwd G k1 k2 a a2 u1 u2 (pRe ((xs (i + 1))) ((xs (i + 2))) z : PO).2.2 y k (pRe ((xs (i + 1))) ((xs (i + 2))) z : PO).2.2 o9 (v9) (w)) A s H locs := hw9
  have e0 : r9 = (pRe ((xs (i + 1))) ((xs (i + 2))) z : PO).2.1 := e0
  subst e0
  refine lv_istore (lv' := [(7, .int ((pRe ((xs (i + 1))) ((xs (i + 2))) z : PO).2.1)), (6, .int ((pRe ((xs (i + 1))) ((xs (i + 2))) z : PO).1)), (0, .ref (sb)), (1, .ref (a 0)), (2, .ref (a2 0)), (3, .ref (u1)), (4, .ref (u2)), (5, .int (nI (i)))]) S.1 S.2.1 dL_law_1071 hl (by decide) rfl (fun ls hl => ?_)
  refine lv_aload_n S.1 S.2.1 dL_law_1073 rfl (lv_at hl 4 rfl) ?_
  have hwc : WD G (mp G a2 (pRe ((xs (i + 1))) ((xs (i + 2))) z : PO).2.2 o9) A s H _ := hw.sub [29, 30, 31, 32, 33] rfl rfl
  refine cj_i (wc := (mp G a2 (pRe ((xs (i + 1))) ((xs (i + 2))) z : PO).2.2 o9)) (wr := (gp G a (pRe ((xs (i + 1))) ((xs (i + 2))) z : PO).2.2 y k ++ [(u1, .inl (k1, (1, .inr (.inl (fun _ => v9))))), (u2, .inl (k2, (1, .inr (.inr (.inr (.inl (fun _ => w)))))))])) (va_runV (As := []) (rest := []) S (c_X5_thrown l G a2 (pRe ((xs (i + 1))) ((xs (i + 2))) z : PO).2.2 o9 H.size  ) (cwV 0 S.2.2.2.2 gL_law_X5_thrown rfl rfl rfl hd_X5_thrown ⟨by rw [hR]; exact Nat.le_of_ble_eq_true rfl, by rw [hR]; exact Nat.le_of_ble_eq_true rfl⟩) ⟨PW.blind, va_recv hK.1 hwc.1 (ci := 5) (q0 := 0) rfl rfl, fun U hU hW => ⟨rfl, PW.of hK hwc hU hW⟩⟩ rfl rfl hl.1 rfl (lv_room (Nat.le_of_ble_eq_true rfl)) dL_law_1074 ⟨by rw [hR]; show _ ≤ 3131; omega, by rw [hR]; show _ ≤ 120514; omega⟩) hw hA [29, 30, 31, 32, 33] [0, 1, 2, 3, 4, 5, 6, 7, 8, 9, 10, 11, 12, 13, 14, 15, 16, 17, 18, 19, 20, 21, 22, 23, 24, 25, 26, 27, 28] rfl rfl rfl rfl (by decide) (fun _ => rfl) (fun t9 x8 H locs hp9 hw9 => ?_)
  obtain ⟨z8, o8⟩ := x8
  obtain ⟨e1, e2, e3⟩ := hp9
  dsimp only at e2 e3
  have e2 := e2.symm
  have e3 := e3.symm
  subst e2
  subst e3
  have hw : WD G (lwd G k1 k2 a a2 u1 u2 (pRe ((xs (i + 1))) ((xs (i + 2))) z : PO).2.2 y k (pRe ((xs (i + 1))) ((xs (i + 2))) z : PO).2.2 o9 (v9) (w)) A s H locs := hw9
  refine top_to (v := (pRe ((xs (i + 1))) ((xs (i + 2))) z : PO).1) S (e1.trans ht9) ?_
  refine lv_iload S.1 S.2.1 dL_law_1077 (lv_at hl 1 rfl) ?_
  refine lv_icmp_eq (tgt := 1084) S.1 S.2.1 dL_law_1079 (by decide) (fun _ => ?_) (fun c8 => absurd rfl c8)
  refine lv_iload S.1 S.2.1 dL_law_1084 (lv_at hl 1 rfl) ?_
  refine lv_if_ne (tgt := 1108) S.1 S.2.1 dL_law_1086 (by decide) (fun _ => ?_) (fun c8 => ?_)
  · skip
    refine lv_goto (tgt := 1963) S.1 S.2.1 dL_law_1108 (by decide) ?_
    refine W.widen (k := cells + 2) (n := slots + 12) (by omega) (by omega) ?_
    exact kk H locs ls (pRe ((xs (i + 1))) ((xs (i + 2))) z : PO).2.2 y k o9 (v9) (w) _ _ (hr.go (inv_pRe hr.1.1 _ _) hrt) hw (lv_sub hl [2, 3, 4, 5, 6, 7] rfl)
  · skip
    have c9 : (pRe ((xs (i + 1))) ((xs (i + 2))) z : PO).1 = 0 := by first | exact c8 | exact Decidable.not_not.mp c8
    have e9 := ev c9
    subst e9
    have hw : WD G (lwd G k1 k2 a a2 u1 u2 (pRe ((xs (i + 1))) ((xs (i + 2))) z : PO).2.2 y k (pRe ((xs (i + 1))) ((xs (i + 2))) z : PO).2.2 o9 (bl (pRe ((xs (i + 1))) ((xs (i + 2))) z : PO).2.1) (w)) A s H locs := hw
    refine lv_aload_n S.1 S.2.1 dL_law_1089 rfl (lv_at hl 5 rfl) ?_
    refine lv_iconst (v := 0) S.1 S.2.1 dL_law_1090 (by decide) ?_
    refine la_l S hL hw 27 rfl dL_law_1091 ?_
    refine lv_iload S.1 S.2.1 dL_law_1092 (lv_at hl 0 rfl) ?_
    refine lv_if_eq (tgt := 1101) S.1 S.2.1 dL_law_1094 (by decide) (fun zc => ?_) (fun zc => ?_)
    · skip
      refine lv_lconst S.1 S.2.1 dL_law_1101 rfl ?_
      refine lcmp_s S.1 S.2.1 (bl_0 zc) dL_law_1102 ?_
      refine lv_if_eq (tgt := 1108) S.1 S.2.1 dL_law_1103 (by decide) (fun c1 => ?_) (fun c1 => ?_)
      · skip
        refine lv_goto (tgt := 1963) S.1 S.2.1 dL_law_1108 (by decide) ?_
        refine W.widen (k := cells + 2) (n := slots + 12) (by omega) (by omega) ?_
        exact kk H locs ls (pRe ((xs (i + 1))) ((xs (i + 2))) z : PO).2.2 y k o9 (bl (pRe ((xs (i + 1))) ((xs (i + 2))) z : PO).2.1) (w) _ _ (hr.go (inv_pRe hr.1.1 _ _) hrt) hw (lv_sub hl [2, 3, 4, 5, 6, 7] rfl)
      · skip
        exact absurd c1 (by decide)
    · skip
      refine lv_lconst S.1 S.2.1 dL_law_1097 rfl ?_
      refine lv_goto (tgt := 1102) S.1 S.2.1 dL_law_1098 (by decide) ?_
      refine lcmp_s S.1 S.2.1 (bl_1 zc) dL_law_1102 ?_
      refine lv_if_eq (tgt := 1108) S.1 S.2.1 dL_law_1103 (by decide) (fun c2 => ?_) (fun c2 => ?_)
      · skip
        refine lv_goto (tgt := 1963) S.1 S.2.1 dL_law_1108 (by decide) ?_
        refine W.widen (k := cells + 2) (n := slots + 12) (by omega) (by omega) ?_
        exact kk H locs ls (pRe ((xs (i + 1))) ((xs (i + 2))) z : PO).2.2 y k o9 (bl (pRe ((xs (i + 1))) ((xs (i + 2))) z : PO).2.1) (w) _ _ (hr.go (inv_pRe hr.1.1 _ _) hrt) hw (lv_sub hl [2, 3, 4, 5, 6, 7] rfl)
      · skip
        exact absurd c2 (by decide)

set_option maxHeartbeats 4000000 in
set_option maxRecDepth 100000 in
theorem lc_16 {p : Program} {l : Launch} {e : Env} {R : Room} {s : State} {m : MethodId} {args : Array Value} {below : List Frame} {meth : Method} {c : Code} {H : Heap} {locs : List Loc} {cells slots : Nat} {Q : State → Prop} {G : GA} {k1 k2 : ClassId} {A : Nat → Prop} {a a2 : Nat → Nat} {sb u1 u2 L i : Nat} {xs : Nat → Int32} {z y k o : St} {v : Int64} {w : UInt64} {tl : Nat} {hs : Bool} {ls : Array Slot} (S : CallFix p m c cL_law 9 s args lw_tbl RL) (hK : KK G s) (hX : XE l A s) (hL : KL G k1 k2 s) (hA : ∀ q, s.heap.size ≤ q → A q) (hXs : va_X sb L xs s s.heap) (hbl : sb < s.heap.size) (hbA : ¬ A sb) (hLL : L ≤ 2560) (hR : R = room_1) (hc1 : cells + 2 ≤ 3131) (hc2 : slots + 12 ≤ 120514) (hi : i + 4 < L) (hr : Rl z y k o tl hs) (hw : WD G (lwd G k1 k2 a a2 u1 u2 z y k z o v w) A s H locs) (hl : lv_has ls 9 [(0, .ref sb), (1, .ref (a 0)), (2, .ref (a2 0)), (3, .ref u1), (4, .ref u2), (5, .int (nI i))]) (kk : LK p l e R s m args below meth c Q G k1 k2 a a2 sb u1 u2 i A cells slots) : W p l e R s m args below meth c H locs cells slots Q (F0 m 1111 ls []) := by
  refine lv_aload_n S.1 S.2.1 dL_law_1111 rfl (lv_at hl 1 rfl) ?_
  refine lv_aload_n S.1 S.2.1 dL_law_1112 rfl (lv_at hl 0 rfl) ?_
  refine lv_iload S.1 S.2.1 dL_law_1113 (lv_at hl 5 rfl) ?_
  refine lv_iconst (v := 1) S.1 S.2.1 dL_law_1115 (by decide) ?_
  refine addN (a := i) (b := 1) S dL_law_1116 ?_
  refine sld_n (k := i + 1) S hXs hbl hbA hLL hw (by omega) dL_law_1117 ?_
  refine lv_aload_n S.1 S.2.1 dL_law_1118 rfl (lv_at hl 0 rfl) ?_
  refine lv_iload S.1 S.2.1 dL_law_1119 (lv_at hl 5 rfl) ?_
  refine lv_iconst (v := 2) S.1 S.2.1 dL_law_1121 (by decide) ?_
  refine addN (a := i) (b := 2) S dL_law_1122 ?_
  refine sld_n (k := i + 2) S hXs hbl hbA hLL hw (by omega) dL_law_1123 ?_
  refine lv_aload_n S.1 S.2.1 dL_law_1124 rfl (lv_at hl 3 rfl) ?_
  have hwc : WD G (gL G k1 a z y k u1 (v)) A s H _ := hw.sub [0, 1, 2, 3, 4, 5, 6, 7, 8, 9, 10, 11, 12, 13, 14, 15, 16, 17, 18, 19, 20, 21, 22, 23, 24, 25, 26, 27] rfl rfl
  have hx9 := xc_le (pV 5 ((xs (i + 1))) ((xs (i + 2))) z : PO).1
  refine cx_i (wc := (gL G k1 a z y k u1 (v))) (wr := ([(u2, .inl (k2, (1, .inr (.inr (.inr (.inl (fun _ => w)))))))] ++ mp G a2 z o)) (vx_runSX (hh := [(0, 10, 13, 28), (0, 10, 17, 13)]) (As := [.ref (a 0), .int (xs (i + 1)), .int (xs (i + 2)), .ref (u1)]) (rest := []) S (c_L_view l G k1 k2 u1 (v) a z y k H.size ((xs (i + 1))) ((xs (i + 2))) hr.1.1) (vx_cwSW 4 S.2.2.2.2 gL_law_L_view rfl rfl rfl hd_L_view ⟨by rw [hR]; exact Nat.le_of_ble_eq_true rfl, by rw [hR]; exact Nat.le_of_ble_eq_true rfl⟩) ⟨PL.blind, fun U hU hW => ⟨rfl, PL.of hK hX hL hwc (va_free hw.2.1 hw.2.2 hA [0, 1, 2, 3, 4, 5, 6, 7, 8, 9, 10, 11, 12, 13, 14, 15, 16, 17, 18, 19, 20, 21, 22, 23, 24, 25, 26, 27] rfl) hU hW⟩⟩ rfl rfl hl.1 rfl (lv_room (Nat.le_of_ble_eq_true rfl)) dL_law_1125 ⟨by rw [hR]; show _ ≤ 3131; omega, by rw [hR]; show _ ≤ 120514; omega⟩) hw hA [0, 1, 2, 3, 4, 5, 6, 7, 8, 9, 10, 11, 12, 13, 14, 15, 16, 17, 18, 19, 20, 21, 22, 23, 24, 25, 26, 27] [28, 29, 30, 31, 32, 33] rfl rfl rfl rfl (by decide) (fun _ => rfl) (fun _ => rfl) (fun ce q9 u9 H locs hpx hw9 g1 g2 g3 => absurd hpx id) (fun r9 u9 H locs hp9 hw9 => ?_)
  obtain ⟨⟨z9, y9, k9⟩, v9⟩ := u9
  obtain ⟨rfl, e9, ev⟩ := hp9
  have e9 : (z9, y9, k9) = ((pV 5 ((xs (i + 1))) ((xs (i + 2))) z : PO).2.2, y, k) := e9
  cases e9
  have ev : (pV 5 ((xs (i + 1))) ((xs (i + 2))) z : PO).1 = 0 → v9 = ((pV 5 ((xs (i + 1))) ((xs (i + 2))) z : PO).2.1).toInt64 := ev
  have hw : WD G (lwd G k1 k2 a a2 u1 u2 (pV 5 ((xs (i + 1))) ((xs (i + 2))) z : PO).2.2 y k z o (v9) (w)) A s H locs := hw9.sub [6, 7, 8, 9, 10, 11, 12, 13, 14, 15, 16, 17, 18, 19, 20, 21, 22, 23, 24, 25, 26, 27, 28, 29, 30, 31, 32, 33, 0, 1, 2, 3, 4, 5] rfl rfl
  refine lv_istore (lv' := [(6, .int ((pV 5 ((xs (i + 1))) ((xs (i + 2))) z : PO).1)), (0, .ref (sb)), (1, .ref (a 0)), (2, .ref (a2 0)), (3, .ref (u1)), (4, .ref (u2)), (5, .int (nI (i)))]) S.1 S.2.1 dL_law_1128 hl (by decide) rfl (fun ls hl => ?_)
  refine lv_aload_n S.1 S.2.1 dL_law_1130 rfl (lv_at hl 3 rfl) ?_
  refine lv_aload_n S.1 S.2.1 dL_law_1131 rfl (lv_at hl 1 rfl) ?_
  refine lv_iload S.1 S.2.1 dL_law_1132 (lv_at hl 6 rfl) ?_
  refine lv_iconst (v := 1) S.1 S.2.1 dL_law_1134 (by decide) ?_
  refine addN (a := i) (b := 1) S dL_law_1135 ?_
  refine sld_n (k := i + 1) S hXs hbl hbA hLL hw (by omega) dL_law_1136 ?_
  refine lv_aload_n S.1 S.2.1 dL_law_1137 rfl (lv_at hl 1 rfl) ?_
  refine lv_iload S.1 S.2.1 dL_law_1138 (lv_at hl 6 rfl) ?_
  refine lv_iconst (v := 2) S.1 S.2.1 dL_law_1140 (by decide) ?_
  refine addN (a := i) (b := 2) S dL_law_1141 ?_
  refine sld_n (k := i + 2) S hXs hbl hbA hLL hw (by omega) dL_law_1142 ?_
  have hwc : WD G (mp G a2 z o) A s H _ := hw.sub [29, 30, 31, 32, 33] rfl rfl
  refine cj_i (wc := (mp G a2 z o)) (wr := (gp G a (pV 5 ((xs (i + 1))) ((xs (i + 2))) z : PO).2.2 y k ++ [(u1, .inl (k1, (1, .inr (.inl (fun _ => v9))))), (u2, .inl (k2, (1, .inr (.inr (.inr (.inl (fun _ => w)))))))])) (va_runV (As := [.int (xs (i + 1)), .int (xs (i + 2))]) (rest := []) S (c_X5_view l G a2 z o H.size ((xs (i + 1))) ((xs (i + 2))) hr.1.1) (cwV 2 S.2.2.2.2 gL_law_X5_view rfl rfl rfl hd_X5_view ⟨by rw [hR]; exact Nat.le_of_ble_eq_true rfl, by rw [hR]; exact Nat.le_of_ble_eq_true rfl⟩) ⟨PW.blind, va_recv hK.1 hwc.1 (ci := 5) (q0 := 0) rfl rfl, fun U hU hW => ⟨rfl, PW.of hK hwc hU hW⟩⟩ rfl rfl hl.1 rfl (lv_room (Nat.le_of_ble_eq_true rfl)) dL_law_1143 ⟨by rw [hR]; show _ ≤ 3131; omega, by rw [hR]; show _ ≤ 120514; omega⟩) hw hA [29, 30, 31, 32, 33] [0, 1, 2, 3, 4, 5, 6, 7, 8, 9, 10, 11, 12, 13, 14, 15, 16, 17, 18, 19, 20, 21, 22, 23, 24, 25, 26, 27, 28] rfl rfl rfl rfl (by decide) (fun _ => rfl) (fun r9 x9 H locs hp9 hw9 => ?_)
  obtain ⟨z9, o9⟩ := x9
  obtain ⟨e0, e1, hrt, ht9⟩ := hp9
  have e1 : (pV 5 ((xs (i + 1))) ((xs (i + 2))) z : PO).2.2 = z9 := (e1).symm
  subst e1
  have ht9 : o9 0 0 = (pV 5 ((xs (i + 1))) ((xs (i + 2))) z : PO).1 := ht9
  have hw : WD G (lwd G k1 k2 a a2 u1 u2 (pV 5 ((xs (i + 1))) ((xs (i + 2))) z : PO).2.2 y k (pV 5 ((xs (i + 1))) ((xs (i + 2))) z : PO).2.2 o9 (v9) (w)) A s H locs := hw9
  have e0 : r9 = (pV 5 ((xs (i + 1))) ((xs (i + 2))) z : PO).2.1 := e0
  subst e0
  refine lv_istore (lv' := [(7, .int ((pV 5 ((xs (i + 1))) ((xs (i + 2))) z : PO).2.1)), (6, .int ((pV 5 ((xs (i + 1))) ((xs (i + 2))) z : PO).1)), (0, .ref (sb)), (1, .ref (a 0)), (2, .ref (a2 0)), (3, .ref (u1)), (4, .ref (u2)), (5, .int (nI (i)))]) S.1 S.2.1 dL_law_1146 hl (by decide) rfl (fun ls hl => ?_)
  refine lv_aload_n S.1 S.2.1 dL_law_1148 rfl (lv_at hl 4 rfl) ?_
  have hwc : WD G (mp G a2 (pV 5 ((xs (i + 1))) ((xs (i + 2))) z : PO).2.2 o9) A s H _ := hw.sub [29, 30, 31, 32, 33] rfl rfl
  refine cj_i (wc := (mp G a2 (pV 5 ((xs (i + 1))) ((xs (i + 2))) z : PO).2.2 o9)) (wr := (gp G a (pV 5 ((xs (i + 1))) ((xs (i + 2))) z : PO).2.2 y k ++ [(u1, .inl (k1, (1, .inr (.inl (fun _ => v9))))), (u2, .inl (k2, (1, .inr (.inr (.inr (.inl (fun _ => w)))))))])) (va_runV (As := []) (rest := []) S (c_X5_thrown l G a2 (pV 5 ((xs (i + 1))) ((xs (i + 2))) z : PO).2.2 o9 H.size  ) (cwV 0 S.2.2.2.2 gL_law_X5_thrown rfl rfl rfl hd_X5_thrown ⟨by rw [hR]; exact Nat.le_of_ble_eq_true rfl, by rw [hR]; exact Nat.le_of_ble_eq_true rfl⟩) ⟨PW.blind, va_recv hK.1 hwc.1 (ci := 5) (q0 := 0) rfl rfl, fun U hU hW => ⟨rfl, PW.of hK hwc hU hW⟩⟩ rfl rfl hl.1 rfl (lv_room (Nat.le_of_ble_eq_true rfl)) dL_law_1149 ⟨by rw [hR]; show _ ≤ 3131; omega, by rw [hR]; show _ ≤ 120514; omega⟩) hw hA [29, 30, 31, 32, 33] [0, 1, 2, 3, 4, 5, 6, 7, 8, 9, 10, 11, 12, 13, 14, 15, 16, 17, 18, 19, 20, 21, 22, 23, 24, 25, 26, 27, 28] rfl rfl rfl rfl (by decide) (fun _ => rfl) (fun t9 x8 H locs hp9 hw9 => ?_)
  obtain ⟨z8, o8⟩ := x8
  obtain ⟨e1, e2, e3⟩ := hp9
  dsimp only at e2 e3
  have e2 := e2.symm
  have e3 := e3.symm
  subst e2
  subst e3
  have hw : WD G (lwd G k1 k2 a a2 u1 u2 (pV 5 ((xs (i + 1))) ((xs (i + 2))) z : PO).2.2 y k (pV 5 ((xs (i + 1))) ((xs (i + 2))) z : PO).2.2 o9 (v9) (w)) A s H locs := hw9
  refine top_to (v := (pV 5 ((xs (i + 1))) ((xs (i + 2))) z : PO).1) S (e1.trans ht9) ?_
  refine lv_iload S.1 S.2.1 dL_law_1152 (lv_at hl 1 rfl) ?_
  refine lv_icmp_eq (tgt := 1159) S.1 S.2.1 dL_law_1154 (by decide) (fun _ => ?_) (fun c8 => absurd rfl c8)
  refine lv_iload S.1 S.2.1 dL_law_1159 (lv_at hl 1 rfl) ?_
  refine lv_if_ne (tgt := 1176) S.1 S.2.1 dL_law_1161 (by decide) (fun _ => ?_) (fun c8 => ?_)
  · skip
    refine lv_goto (tgt := 1963) S.1 S.2.1 dL_law_1176 (by decide) ?_
    refine W.widen (k := cells + 2) (n := slots + 12) (by omega) (by omega) ?_
    exact kk H locs ls (pV 5 ((xs (i + 1))) ((xs (i + 2))) z : PO).2.2 y k o9 (v9) (w) _ _ (hr.go (inv_pV hr.1.1 _ _ _) hrt) hw (lv_sub hl [2, 3, 4, 5, 6, 7] rfl)
  · skip
    have c9 : (pV 5 ((xs (i + 1))) ((xs (i + 2))) z : PO).1 = 0 := by first | exact c8 | exact Decidable.not_not.mp c8
    have e9 := ev c9
    subst e9
    have hw : WD G (lwd G k1 k2 a a2 u1 u2 (pV 5 ((xs (i + 1))) ((xs (i + 2))) z : PO).2.2 y k (pV 5 ((xs (i + 1))) ((xs (i + 2))) z : PO).2.2 o9 (((pV 5 ((xs (i + 1))) ((xs (i + 2))) z : PO).2.1).toInt64) (w)) A s H locs := hw
    refine lv_aload_n S.1 S.2.1 dL_law_1164 rfl (lv_at hl 5 rfl) ?_
    refine lv_iconst (v := 0) S.1 S.2.1 dL_law_1165 (by decide) ?_
    refine la_l S hL hw 27 rfl dL_law_1166 ?_
    refine lv_iload S.1 S.2.1 dL_law_1167 (lv_at hl 0 rfl) ?_
    refine lv_i2l S.1 S.2.1 dL_law_1169 rfl ?_
    refine lcmp_s S.1 S.2.1 rfl dL_law_1170 ?_
    refine lv_if_eq (tgt := 1176) S.1 S.2.1 dL_law_1171 (by decide) (fun c1 => ?_) (fun c1 => ?_)
    · skip
      refine lv_goto (tgt := 1963) S.1 S.2.1 dL_law_1176 (by decide) ?_
      refine W.widen (k := cells + 2) (n := slots + 12) (by omega) (by omega) ?_
      exact kk H locs ls (pV 5 ((xs (i + 1))) ((xs (i + 2))) z : PO).2.2 y k o9 (((pV 5 ((xs (i + 1))) ((xs (i + 2))) z : PO).2.1).toInt64) (w) _ _ (hr.go (inv_pV hr.1.1 _ _ _) hrt) hw (lv_sub hl [2, 3, 4, 5, 6, 7] rfl)
    · skip
      exact absurd c1 (by decide)

set_option maxHeartbeats 4000000 in
set_option maxRecDepth 100000 in
theorem lc_17 {p : Program} {l : Launch} {e : Env} {R : Room} {s : State} {m : MethodId} {args : Array Value} {below : List Frame} {meth : Method} {c : Code} {H : Heap} {locs : List Loc} {cells slots : Nat} {Q : State → Prop} {G : GA} {k1 k2 : ClassId} {A : Nat → Prop} {a a2 : Nat → Nat} {sb u1 u2 L i : Nat} {xs : Nat → Int32} {z y k o : St} {v : Int64} {w : UInt64} {tl : Nat} {hs : Bool} {ls : Array Slot} (S : CallFix p m c cL_law 9 s args lw_tbl RL) (hK : KK G s) (hX : XE l A s) (hL : KL G k1 k2 s) (hA : ∀ q, s.heap.size ≤ q → A q) (hXs : va_X sb L xs s s.heap) (hbl : sb < s.heap.size) (hbA : ¬ A sb) (hLL : L ≤ 2560) (hR : R = room_1) (hc1 : cells + 2 ≤ 3131) (hc2 : slots + 12 ≤ 120514) (hi : i + 4 < L) (hr : Rl z y k o tl hs) (hw : WD G (lwd G k1 k2 a a2 u1 u2 z y k z o v w) A s H locs) (hl : lv_has ls 9 [(0, .ref sb), (1, .ref (a 0)), (2, .ref (a2 0)), (3, .ref u1), (4, .ref u2), (5, .int (nI i))]) (kk : LK p l e R s m args below meth c Q G k1 k2 a a2 sb u1 u2 i A cells slots) : W p l e R s m args below meth c H locs cells slots Q (F0 m 1179 ls []) := by
  refine lv_aload_n S.1 S.2.1 dL_law_1179 rfl (lv_at hl 1 rfl) ?_
  refine lv_aload_n S.1 S.2.1 dL_law_1180 rfl (lv_at hl 0 rfl) ?_
  refine lv_iload S.1 S.2.1 dL_law_1181 (lv_at hl 5 rfl) ?_
  refine lv_iconst (v := 1) S.1 S.2.1 dL_law_1183 (by decide) ?_
  refine addN (a := i) (b := 1) S dL_law_1184 ?_
  refine sld_n (k := i + 1) S hXs hbl hbA hLL hw (by omega) dL_law_1185 ?_
  refine lv_aload_n S.1 S.2.1 dL_law_1186 rfl (lv_at hl 0 rfl) ?_
  refine lv_iload S.1 S.2.1 dL_law_1187 (lv_at hl 5 rfl) ?_
  refine lv_iconst (v := 2) S.1 S.2.1 dL_law_1189 (by decide) ?_
  refine addN (a := i) (b := 2) S dL_law_1190 ?_
  refine sld_n (k := i + 2) S hXs hbl hbA hLL hw (by omega) dL_law_1191 ?_
  refine lv_aload_n S.1 S.2.1 dL_law_1192 rfl (lv_at hl 3 rfl) ?_
  have hwc : WD G (gL G k1 a z y k u1 (v)) A s H _ := hw.sub [0, 1, 2, 3, 4, 5, 6, 7, 8, 9, 10, 11, 12, 13, 14, 15, 16, 17, 18, 19, 20, 21, 22, 23, 24, 25, 26, 27] rfl rfl
  have hx9 := xc_le (pV 6 ((xs (i + 1))) ((xs (i + 2))) z : PO).1
  refine cx_i (wc := (gL G k1 a z y k u1 (v))) (wr := ([(u2, .inl (k2, (1, .inr (.inr (.inr (.inl (fun _ => w)))))))] ++ mp G a2 z o)) (vx_runSX (hh := [(0, 10, 13, 28), (0, 10, 17, 13)]) (As := [.ref (a 0), .int (xs (i + 1)), .int (xs (i + 2)), .ref (u1)]) (rest := []) S (c_L_viewIncarnation l G k1 k2 u1 (v) a z y k H.size ((xs (i + 1))) ((xs (i + 2))) hr.1.1) (vx_cwSW 4 S.2.2.2.2 gL_law_L_viewIncarnation rfl rfl rfl hd_L_viewIncarnation ⟨by rw [hR]; exact Nat.le_of_ble_eq_true rfl, by rw [hR]; exact Nat.le_of_ble_eq_true rfl⟩) ⟨PL.blind, fun U hU hW => ⟨rfl, PL.of hK hX hL hwc (va_free hw.2.1 hw.2.2 hA [0, 1, 2, 3, 4, 5, 6, 7, 8, 9, 10, 11, 12, 13, 14, 15, 16, 17, 18, 19, 20, 21, 22, 23, 24, 25, 26, 27] rfl) hU hW⟩⟩ rfl rfl hl.1 rfl (lv_room (Nat.le_of_ble_eq_true rfl)) dL_law_1193 ⟨by rw [hR]; show _ ≤ 3131; omega, by rw [hR]; show _ ≤ 120514; omega⟩) hw hA [0, 1, 2, 3, 4, 5, 6, 7, 8, 9, 10, 11, 12, 13, 14, 15, 16, 17, 18, 19, 20, 21, 22, 23, 24, 25, 26, 27] [28, 29, 30, 31, 32, 33] rfl rfl rfl rfl (by decide) (fun _ => rfl) (fun _ => rfl) (fun ce q9 u9 H locs hpx hw9 g1 g2 g3 => absurd hpx id) (fun r9 u9 H locs hp9 hw9 => ?_)
  obtain ⟨⟨z9, y9, k9⟩, v9⟩ := u9
  obtain ⟨rfl, e9, ev⟩ := hp9
  have e9 : (z9, y9, k9) = ((pV 6 ((xs (i + 1))) ((xs (i + 2))) z : PO).2.2, y, k) := e9
  cases e9
  have ev : (pV 6 ((xs (i + 1))) ((xs (i + 2))) z : PO).1 = 0 → v9 = ((pV 6 ((xs (i + 1))) ((xs (i + 2))) z : PO).2.1).toInt64 := ev
  have hw : WD G (lwd G k1 k2 a a2 u1 u2 (pV 6 ((xs (i + 1))) ((xs (i + 2))) z : PO).2.2 y k z o (v9) (w)) A s H locs := hw9.sub [6, 7, 8, 9, 10, 11, 12, 13, 14, 15, 16, 17, 18, 19, 20, 21, 22, 23, 24, 25, 26, 27, 28, 29, 30, 31, 32, 33, 0, 1, 2, 3, 4, 5] rfl rfl
  refine lv_istore (lv' := [(6, .int ((pV 6 ((xs (i + 1))) ((xs (i + 2))) z : PO).1)), (0, .ref (sb)), (1, .ref (a 0)), (2, .ref (a2 0)), (3, .ref (u1)), (4, .ref (u2)), (5, .int (nI (i)))]) S.1 S.2.1 dL_law_1196 hl (by decide) rfl (fun ls hl => ?_)
  refine lv_aload_n S.1 S.2.1 dL_law_1198 rfl (lv_at hl 3 rfl) ?_
  refine lv_aload_n S.1 S.2.1 dL_law_1199 rfl (lv_at hl 1 rfl) ?_
  refine lv_iload S.1 S.2.1 dL_law_1200 (lv_at hl 6 rfl) ?_
  refine lv_iconst (v := 1) S.1 S.2.1 dL_law_1202 (by decide) ?_
  refine addN (a := i) (b := 1) S dL_law_1203 ?_
  refine sld_n (k := i + 1) S hXs hbl hbA hLL hw (by omega) dL_law_1204 ?_
  refine lv_aload_n S.1 S.2.1 dL_law_1205 rfl (lv_at hl 1 rfl) ?_
  refine lv_iload S.1 S.2.1 dL_law_1206 (lv_at hl 6 rfl) ?_
  refine lv_iconst (v := 2) S.1 S.2.1 dL_law_1208 (by decide) ?_
  refine addN (a := i) (b := 2) S dL_law_1209 ?_
  refine sld_n (k := i + 2) S hXs hbl hbA hLL hw (by omega) dL_law_1210 ?_
  have hwc : WD G (mp G a2 z o) A s H _ := hw.sub [29, 30, 31, 32, 33] rfl rfl
  refine cj_i (wc := (mp G a2 z o)) (wr := (gp G a (pV 6 ((xs (i + 1))) ((xs (i + 2))) z : PO).2.2 y k ++ [(u1, .inl (k1, (1, .inr (.inl (fun _ => v9))))), (u2, .inl (k2, (1, .inr (.inr (.inr (.inl (fun _ => w)))))))])) (va_runV (As := [.int (xs (i + 1)), .int (xs (i + 2))]) (rest := []) S (c_X5_viewIncarnation l G a2 z o H.size ((xs (i + 1))) ((xs (i + 2))) hr.1.1) (cwV 2 S.2.2.2.2 gL_law_X5_viewIncarnation rfl rfl rfl hd_X5_viewIncarnation ⟨by rw [hR]; exact Nat.le_of_ble_eq_true rfl, by rw [hR]; exact Nat.le_of_ble_eq_true rfl⟩) ⟨PW.blind, va_recv hK.1 hwc.1 (ci := 5) (q0 := 0) rfl rfl, fun U hU hW => ⟨rfl, PW.of hK hwc hU hW⟩⟩ rfl rfl hl.1 rfl (lv_room (Nat.le_of_ble_eq_true rfl)) dL_law_1211 ⟨by rw [hR]; show _ ≤ 3131; omega, by rw [hR]; show _ ≤ 120514; omega⟩) hw hA [29, 30, 31, 32, 33] [0, 1, 2, 3, 4, 5, 6, 7, 8, 9, 10, 11, 12, 13, 14, 15, 16, 17, 18, 19, 20, 21, 22, 23, 24, 25, 26, 27, 28] rfl rfl rfl rfl (by decide) (fun _ => rfl) (fun r9 x9 H locs hp9 hw9 => ?_)
  obtain ⟨z9, o9⟩ := x9
  obtain ⟨e0, e1, hrt, ht9⟩ := hp9
  have e1 : (pV 6 ((xs (i + 1))) ((xs (i + 2))) z : PO).2.2 = z9 := (e1).symm
  subst e1
  have ht9 : o9 0 0 = (pV 6 ((xs (i + 1))) ((xs (i + 2))) z : PO).1 := ht9
  have hw : WD G (lwd G k1 k2 a a2 u1 u2 (pV 6 ((xs (i + 1))) ((xs (i + 2))) z : PO).2.2 y k (pV 6 ((xs (i + 1))) ((xs (i + 2))) z : PO).2.2 o9 (v9) (w)) A s H locs := hw9
  have e0 : r9 = (pV 6 ((xs (i + 1))) ((xs (i + 2))) z : PO).2.1 := e0
  subst e0
  refine lv_istore (lv' := [(7, .int ((pV 6 ((xs (i + 1))) ((xs (i + 2))) z : PO).2.1)), (6, .int ((pV 6 ((xs (i + 1))) ((xs (i + 2))) z : PO).1)), (0, .ref (sb)), (1, .ref (a 0)), (2, .ref (a2 0)), (3, .ref (u1)), (4, .ref (u2)), (5, .int (nI (i)))]) S.1 S.2.1 dL_law_1214 hl (by decide) rfl (fun ls hl => ?_)
  refine lv_aload_n S.1 S.2.1 dL_law_1216 rfl (lv_at hl 4 rfl) ?_
  have hwc : WD G (mp G a2 (pV 6 ((xs (i + 1))) ((xs (i + 2))) z : PO).2.2 o9) A s H _ := hw.sub [29, 30, 31, 32, 33] rfl rfl
  refine cj_i (wc := (mp G a2 (pV 6 ((xs (i + 1))) ((xs (i + 2))) z : PO).2.2 o9)) (wr := (gp G a (pV 6 ((xs (i + 1))) ((xs (i + 2))) z : PO).2.2 y k ++ [(u1, .inl (k1, (1, .inr (.inl (fun _ => v9))))), (u2, .inl (k2, (1, .inr (.inr (.inr (.inl (fun _ => w)))))))])) (va_runV (As := []) (rest := []) S (c_X5_thrown l G a2 (pV 6 ((xs (i + 1))) ((xs (i + 2))) z : PO).2.2 o9 H.size  ) (cwV 0 S.2.2.2.2 gL_law_X5_thrown rfl rfl rfl hd_X5_thrown ⟨by rw [hR]; exact Nat.le_of_ble_eq_true rfl, by rw [hR]; exact Nat.le_of_ble_eq_true rfl⟩) ⟨PW.blind, va_recv hK.1 hwc.1 (ci := 5) (q0 := 0) rfl rfl, fun U hU hW => ⟨rfl, PW.of hK hwc hU hW⟩⟩ rfl rfl hl.1 rfl (lv_room (Nat.le_of_ble_eq_true rfl)) dL_law_1217 ⟨by rw [hR]; show _ ≤ 3131; omega, by rw [hR]; show _ ≤ 120514; omega⟩) hw hA [29, 30, 31, 32, 33] [0, 1, 2, 3, 4, 5, 6, 7, 8, 9, 10, 11, 12, 13, 14, 15, 16, 17, 18, 19, 20, 21, 22, 23, 24, 25, 26, 27, 28] rfl rfl rfl rfl (by decide) (fun _ => rfl) (fun t9 x8 H locs hp9 hw9 => ?_)
  obtain ⟨z8, o8⟩ := x8
  obtain ⟨e1, e2, e3⟩ := hp9
  dsimp only at e2 e3
  have e2 := e2.symm
  have e3 := e3.symm
  subst e2
  subst e3
  have hw : WD G (lwd G k1 k2 a a2 u1 u2 (pV 6 ((xs (i + 1))) ((xs (i + 2))) z : PO).2.2 y k (pV 6 ((xs (i + 1))) ((xs (i + 2))) z : PO).2.2 o9 (v9) (w)) A s H locs := hw9
  refine top_to (v := (pV 6 ((xs (i + 1))) ((xs (i + 2))) z : PO).1) S (e1.trans ht9) ?_
  refine lv_iload S.1 S.2.1 dL_law_1220 (lv_at hl 1 rfl) ?_
  refine lv_icmp_eq (tgt := 1227) S.1 S.2.1 dL_law_1222 (by decide) (fun _ => ?_) (fun c8 => absurd rfl c8)
  refine lv_iload S.1 S.2.1 dL_law_1227 (lv_at hl 1 rfl) ?_
  refine lv_if_ne (tgt := 1244) S.1 S.2.1 dL_law_1229 (by decide) (fun _ => ?_) (fun c8 => ?_)
  · skip
    refine lv_goto (tgt := 1963) S.1 S.2.1 dL_law_1244 (by decide) ?_
    refine W.widen (k := cells + 2) (n := slots + 12) (by omega) (by omega) ?_
    exact kk H locs ls (pV 6 ((xs (i + 1))) ((xs (i + 2))) z : PO).2.2 y k o9 (v9) (w) _ _ (hr.go (inv_pV hr.1.1 _ _ _) hrt) hw (lv_sub hl [2, 3, 4, 5, 6, 7] rfl)
  · skip
    have c9 : (pV 6 ((xs (i + 1))) ((xs (i + 2))) z : PO).1 = 0 := by first | exact c8 | exact Decidable.not_not.mp c8
    have e9 := ev c9
    subst e9
    have hw : WD G (lwd G k1 k2 a a2 u1 u2 (pV 6 ((xs (i + 1))) ((xs (i + 2))) z : PO).2.2 y k (pV 6 ((xs (i + 1))) ((xs (i + 2))) z : PO).2.2 o9 (((pV 6 ((xs (i + 1))) ((xs (i + 2))) z : PO).2.1).toInt64) (w)) A s H locs := hw
    refine lv_aload_n S.1 S.2.1 dL_law_1232 rfl (lv_at hl 5 rfl) ?_
    refine lv_iconst (v := 0) S.1 S.2.1 dL_law_1233 (by decide) ?_
    refine la_l S hL hw 27 rfl dL_law_1234 ?_
    refine lv_iload S.1 S.2.1 dL_law_1235 (lv_at hl 0 rfl) ?_
    refine lv_i2l S.1 S.2.1 dL_law_1237 rfl ?_
    refine lcmp_s S.1 S.2.1 rfl dL_law_1238 ?_
    refine lv_if_eq (tgt := 1244) S.1 S.2.1 dL_law_1239 (by decide) (fun c1 => ?_) (fun c1 => ?_)
    · skip
      refine lv_goto (tgt := 1963) S.1 S.2.1 dL_law_1244 (by decide) ?_
      refine W.widen (k := cells + 2) (n := slots + 12) (by omega) (by omega) ?_
      exact kk H locs ls (pV 6 ((xs (i + 1))) ((xs (i + 2))) z : PO).2.2 y k o9 (((pV 6 ((xs (i + 1))) ((xs (i + 2))) z : PO).2.1).toInt64) (w) _ _ (hr.go (inv_pV hr.1.1 _ _ _) hrt) hw (lv_sub hl [2, 3, 4, 5, 6, 7] rfl)
    · skip
      exact absurd c1 (by decide)

set_option maxHeartbeats 4000000 in
set_option maxRecDepth 100000 in
theorem lc_18 {p : Program} {l : Launch} {e : Env} {R : Room} {s : State} {m : MethodId} {args : Array Value} {below : List Frame} {meth : Method} {c : Code} {H : Heap} {locs : List Loc} {cells slots : Nat} {Q : State → Prop} {G : GA} {k1 k2 : ClassId} {A : Nat → Prop} {a a2 : Nat → Nat} {sb u1 u2 L i : Nat} {xs : Nat → Int32} {z y k o : St} {v : Int64} {w : UInt64} {tl : Nat} {hs : Bool} {ls : Array Slot} (S : CallFix p m c cL_law 9 s args lw_tbl RL) (hK : KK G s) (hX : XE l A s) (hL : KL G k1 k2 s) (hA : ∀ q, s.heap.size ≤ q → A q) (hXs : va_X sb L xs s s.heap) (hbl : sb < s.heap.size) (hbA : ¬ A sb) (hLL : L ≤ 2560) (hR : R = room_1) (hc1 : cells + 2 ≤ 3131) (hc2 : slots + 12 ≤ 120514) (hi : i + 4 < L) (hr : Rl z y k o tl hs) (hw : WD G (lwd G k1 k2 a a2 u1 u2 z y k z o v w) A s H locs) (hl : lv_has ls 9 [(0, .ref sb), (1, .ref (a 0)), (2, .ref (a2 0)), (3, .ref u1), (4, .ref u2), (5, .int (nI i))]) (kk : LK p l e R s m args below meth c Q G k1 k2 a a2 sb u1 u2 i A cells slots) : W p l e R s m args below meth c H locs cells slots Q (F0 m 1247 ls []) := by
  refine lv_aload_n S.1 S.2.1 dL_law_1247 rfl (lv_at hl 1 rfl) ?_
  refine lv_aload_n S.1 S.2.1 dL_law_1248 rfl (lv_at hl 0 rfl) ?_
  refine lv_iload S.1 S.2.1 dL_law_1249 (lv_at hl 5 rfl) ?_
  refine lv_iconst (v := 1) S.1 S.2.1 dL_law_1251 (by decide) ?_
  refine addN (a := i) (b := 1) S dL_law_1252 ?_
  refine sld_n (k := i + 1) S hXs hbl hbA hLL hw (by omega) dL_law_1253 ?_
  refine lv_aload_n S.1 S.2.1 dL_law_1254 rfl (lv_at hl 0 rfl) ?_
  refine lv_iload S.1 S.2.1 dL_law_1255 (lv_at hl 5 rfl) ?_
  refine lv_iconst (v := 2) S.1 S.2.1 dL_law_1257 (by decide) ?_
  refine addN (a := i) (b := 2) S dL_law_1258 ?_
  refine sld_n (k := i + 2) S hXs hbl hbA hLL hw (by omega) dL_law_1259 ?_
  refine lv_aload_n S.1 S.2.1 dL_law_1260 rfl (lv_at hl 3 rfl) ?_
  have hwc : WD G (gL G k1 a z y k u1 (v)) A s H _ := hw.sub [0, 1, 2, 3, 4, 5, 6, 7, 8, 9, 10, 11, 12, 13, 14, 15, 16, 17, 18, 19, 20, 21, 22, 23, 24, 25, 26, 27] rfl rfl
  have hx9 := xc_le (pD ((xs (i + 1))) ((xs (i + 2))) z : PO).1
  refine cx_i (wc := (gL G k1 a z y k u1 (v))) (wr := ([(u2, .inl (k2, (1, .inr (.inr (.inr (.inl (fun _ => w)))))))] ++ mp G a2 z o)) (vx_runSX (hh := [(0, 10, 13, 28), (0, 10, 17, 13), (0, 10, 21, 48)]) (As := [.ref (a 0), .int (xs (i + 1)), .int (xs (i + 2)), .ref (u1)]) (rest := []) S (c_L_deadline l G k1 k2 u1 (v) a z y k H.size ((xs (i + 1))) ((xs (i + 2))) hr.1.1) (vx_cwSW 4 S.2.2.2.2 gL_law_L_deadline rfl rfl rfl hd_L_deadline ⟨by rw [hR]; exact Nat.le_of_ble_eq_true rfl, by rw [hR]; exact Nat.le_of_ble_eq_true rfl⟩) ⟨PL.blind, fun U hU hW => ⟨rfl, PL.of hK hX hL hwc (va_free hw.2.1 hw.2.2 hA [0, 1, 2, 3, 4, 5, 6, 7, 8, 9, 10, 11, 12, 13, 14, 15, 16, 17, 18, 19, 20, 21, 22, 23, 24, 25, 26, 27] rfl) hU hW⟩⟩ rfl rfl hl.1 rfl (lv_room (Nat.le_of_ble_eq_true rfl)) dL_law_1261 ⟨by rw [hR]; show _ ≤ 3131; omega, by rw [hR]; show _ ≤ 120514; omega⟩) hw hA [0, 1, 2, 3, 4, 5, 6, 7, 8, 9, 10, 11, 12, 13, 14, 15, 16, 17, 18, 19, 20, 21, 22, 23, 24, 25, 26, 27] [28, 29, 30, 31, 32, 33] rfl rfl rfl rfl (by decide) (fun _ => rfl) (fun _ => rfl) (fun ce q9 u9 H locs hpx hw9 g1 g2 g3 => absurd hpx id) (fun r9 u9 H locs hp9 hw9 => ?_)
  obtain ⟨⟨z9, y9, k9⟩, v9⟩ := u9
  obtain ⟨rfl, e9, ev⟩ := hp9
  have e9 : (z9, y9, k9) = ((pD ((xs (i + 1))) ((xs (i + 2))) z : PO).2.2, y, k) := e9
  cases e9
  have ev : (pD ((xs (i + 1))) ((xs (i + 2))) z : PO).1 = 0 → v9 = ((pD ((xs (i + 1))) ((xs (i + 2))) z : PO).2.1).toInt64 := ev
  have hw : WD G (lwd G k1 k2 a a2 u1 u2 (pD ((xs (i + 1))) ((xs (i + 2))) z : PO).2.2 y k z o (v9) (w)) A s H locs := hw9.sub [6, 7, 8, 9, 10, 11, 12, 13, 14, 15, 16, 17, 18, 19, 20, 21, 22, 23, 24, 25, 26, 27, 28, 29, 30, 31, 32, 33, 0, 1, 2, 3, 4, 5] rfl rfl
  refine lv_istore (lv' := [(6, .int ((pD ((xs (i + 1))) ((xs (i + 2))) z : PO).1)), (0, .ref (sb)), (1, .ref (a 0)), (2, .ref (a2 0)), (3, .ref (u1)), (4, .ref (u2)), (5, .int (nI (i)))]) S.1 S.2.1 dL_law_1264 hl (by decide) rfl (fun ls hl => ?_)
  refine lv_aload_n S.1 S.2.1 dL_law_1266 rfl (lv_at hl 3 rfl) ?_
  refine lv_aload_n S.1 S.2.1 dL_law_1267 rfl (lv_at hl 1 rfl) ?_
  refine lv_iload S.1 S.2.1 dL_law_1268 (lv_at hl 6 rfl) ?_
  refine lv_iconst (v := 1) S.1 S.2.1 dL_law_1270 (by decide) ?_
  refine addN (a := i) (b := 1) S dL_law_1271 ?_
  refine sld_n (k := i + 1) S hXs hbl hbA hLL hw (by omega) dL_law_1272 ?_
  refine lv_aload_n S.1 S.2.1 dL_law_1273 rfl (lv_at hl 1 rfl) ?_
  refine lv_iload S.1 S.2.1 dL_law_1274 (lv_at hl 6 rfl) ?_
  refine lv_iconst (v := 2) S.1 S.2.1 dL_law_1276 (by decide) ?_
  refine addN (a := i) (b := 2) S dL_law_1277 ?_
  refine sld_n (k := i + 2) S hXs hbl hbA hLL hw (by omega) dL_law_1278 ?_
  have hwc : WD G (mp G a2 z o) A s H _ := hw.sub [29, 30, 31, 32, 33] rfl rfl
  refine cj_i (wc := (mp G a2 z o)) (wr := (gp G a (pD ((xs (i + 1))) ((xs (i + 2))) z : PO).2.2 y k ++ [(u1, .inl (k1, (1, .inr (.inl (fun _ => v9))))), (u2, .inl (k2, (1, .inr (.inr (.inr (.inl (fun _ => w)))))))])) (va_runV (As := [.int (xs (i + 1)), .int (xs (i + 2))]) (rest := []) S (c_X5_deadline l G a2 z o H.size ((xs (i + 1))) ((xs (i + 2))) hr.1.1) (cwV 2 S.2.2.2.2 gL_law_X5_deadline rfl rfl rfl hd_X5_deadline ⟨by rw [hR]; exact Nat.le_of_ble_eq_true rfl, by rw [hR]; exact Nat.le_of_ble_eq_true rfl⟩) ⟨PW.blind, va_recv hK.1 hwc.1 (ci := 5) (q0 := 0) rfl rfl, fun U hU hW => ⟨rfl, PW.of hK hwc hU hW⟩⟩ rfl rfl hl.1 rfl (lv_room (Nat.le_of_ble_eq_true rfl)) dL_law_1279 ⟨by rw [hR]; show _ ≤ 3131; omega, by rw [hR]; show _ ≤ 120514; omega⟩) hw hA [29, 30, 31, 32, 33] [0, 1, 2, 3, 4, 5, 6, 7, 8, 9, 10, 11, 12, 13, 14, 15, 16, 17, 18, 19, 20, 21, 22, 23, 24, 25, 26, 27, 28] rfl rfl rfl rfl (by decide) (fun _ => rfl) (fun r9 x9 H locs hp9 hw9 => ?_)
  obtain ⟨z9, o9⟩ := x9
  obtain ⟨e0, e1, hrt, ht9⟩ := hp9
  have e1 : (pD ((xs (i + 1))) ((xs (i + 2))) z : PO).2.2 = z9 := (e1).symm
  subst e1
  have ht9 : o9 0 0 = (pD ((xs (i + 1))) ((xs (i + 2))) z : PO).1 := ht9
  have hw : WD G (lwd G k1 k2 a a2 u1 u2 (pD ((xs (i + 1))) ((xs (i + 2))) z : PO).2.2 y k (pD ((xs (i + 1))) ((xs (i + 2))) z : PO).2.2 o9 (v9) (w)) A s H locs := hw9
  have e0 : r9 = (pD ((xs (i + 1))) ((xs (i + 2))) z : PO).2.1 := e0
  subst e0
  refine lv_istore (lv' := [(7, .int ((pD ((xs (i + 1))) ((xs (i + 2))) z : PO).2.1)), (6, .int ((pD ((xs (i + 1))) ((xs (i + 2))) z : PO).1)), (0, .ref (sb)), (1, .ref (a 0)), (2, .ref (a2 0)), (3, .ref (u1)), (4, .ref (u2)), (5, .int (nI (i)))]) S.1 S.2.1 dL_law_1282 hl (by decide) rfl (fun ls hl => ?_)
  refine lv_aload_n S.1 S.2.1 dL_law_1284 rfl (lv_at hl 4 rfl) ?_
  have hwc : WD G (mp G a2 (pD ((xs (i + 1))) ((xs (i + 2))) z : PO).2.2 o9) A s H _ := hw.sub [29, 30, 31, 32, 33] rfl rfl
  refine cj_i (wc := (mp G a2 (pD ((xs (i + 1))) ((xs (i + 2))) z : PO).2.2 o9)) (wr := (gp G a (pD ((xs (i + 1))) ((xs (i + 2))) z : PO).2.2 y k ++ [(u1, .inl (k1, (1, .inr (.inl (fun _ => v9))))), (u2, .inl (k2, (1, .inr (.inr (.inr (.inl (fun _ => w)))))))])) (va_runV (As := []) (rest := []) S (c_X5_thrown l G a2 (pD ((xs (i + 1))) ((xs (i + 2))) z : PO).2.2 o9 H.size  ) (cwV 0 S.2.2.2.2 gL_law_X5_thrown rfl rfl rfl hd_X5_thrown ⟨by rw [hR]; exact Nat.le_of_ble_eq_true rfl, by rw [hR]; exact Nat.le_of_ble_eq_true rfl⟩) ⟨PW.blind, va_recv hK.1 hwc.1 (ci := 5) (q0 := 0) rfl rfl, fun U hU hW => ⟨rfl, PW.of hK hwc hU hW⟩⟩ rfl rfl hl.1 rfl (lv_room (Nat.le_of_ble_eq_true rfl)) dL_law_1285 ⟨by rw [hR]; show _ ≤ 3131; omega, by rw [hR]; show _ ≤ 120514; omega⟩) hw hA [29, 30, 31, 32, 33] [0, 1, 2, 3, 4, 5, 6, 7, 8, 9, 10, 11, 12, 13, 14, 15, 16, 17, 18, 19, 20, 21, 22, 23, 24, 25, 26, 27, 28] rfl rfl rfl rfl (by decide) (fun _ => rfl) (fun t9 x8 H locs hp9 hw9 => ?_)
  obtain ⟨z8, o8⟩ := x8
  obtain ⟨e1, e2, e3⟩ := hp9
  dsimp only at e2 e3
  have e2 := e2.symm
  have e3 := e3.symm
  subst e2
  subst e3
  have hw : WD G (lwd G k1 k2 a a2 u1 u2 (pD ((xs (i + 1))) ((xs (i + 2))) z : PO).2.2 y k (pD ((xs (i + 1))) ((xs (i + 2))) z : PO).2.2 o9 (v9) (w)) A s H locs := hw9
  refine top_to (v := (pD ((xs (i + 1))) ((xs (i + 2))) z : PO).1) S (e1.trans ht9) ?_
  refine lv_iload S.1 S.2.1 dL_law_1288 (lv_at hl 1 rfl) ?_
  refine lv_icmp_eq (tgt := 1295) S.1 S.2.1 dL_law_1290 (by decide) (fun _ => ?_) (fun c8 => absurd rfl c8)
  refine lv_iload S.1 S.2.1 dL_law_1295 (lv_at hl 1 rfl) ?_
  refine lv_if_ne (tgt := 1312) S.1 S.2.1 dL_law_1297 (by decide) (fun _ => ?_) (fun c8 => ?_)
  · skip
    refine lv_goto (tgt := 1963) S.1 S.2.1 dL_law_1312 (by decide) ?_
    refine W.widen (k := cells + 2) (n := slots + 12) (by omega) (by omega) ?_
    exact kk H locs ls (pD ((xs (i + 1))) ((xs (i + 2))) z : PO).2.2 y k o9 (v9) (w) _ _ (hr.go (inv_pD hr.1.1 _ _) hrt) hw (lv_sub hl [2, 3, 4, 5, 6, 7] rfl)
  · skip
    have c9 : (pD ((xs (i + 1))) ((xs (i + 2))) z : PO).1 = 0 := by first | exact c8 | exact Decidable.not_not.mp c8
    have e9 := ev c9
    subst e9
    have hw : WD G (lwd G k1 k2 a a2 u1 u2 (pD ((xs (i + 1))) ((xs (i + 2))) z : PO).2.2 y k (pD ((xs (i + 1))) ((xs (i + 2))) z : PO).2.2 o9 (((pD ((xs (i + 1))) ((xs (i + 2))) z : PO).2.1).toInt64) (w)) A s H locs := hw
    refine lv_aload_n S.1 S.2.1 dL_law_1300 rfl (lv_at hl 5 rfl) ?_
    refine lv_iconst (v := 0) S.1 S.2.1 dL_law_1301 (by decide) ?_
    refine la_l S hL hw 27 rfl dL_law_1302 ?_
    refine lv_iload S.1 S.2.1 dL_law_1303 (lv_at hl 0 rfl) ?_
    refine lv_i2l S.1 S.2.1 dL_law_1305 rfl ?_
    refine lcmp_s S.1 S.2.1 rfl dL_law_1306 ?_
    refine lv_if_eq (tgt := 1312) S.1 S.2.1 dL_law_1307 (by decide) (fun c1 => ?_) (fun c1 => ?_)
    · skip
      refine lv_goto (tgt := 1963) S.1 S.2.1 dL_law_1312 (by decide) ?_
      refine W.widen (k := cells + 2) (n := slots + 12) (by omega) (by omega) ?_
      exact kk H locs ls (pD ((xs (i + 1))) ((xs (i + 2))) z : PO).2.2 y k o9 (((pD ((xs (i + 1))) ((xs (i + 2))) z : PO).2.1).toInt64) (w) _ _ (hr.go (inv_pD hr.1.1 _ _) hrt) hw (lv_sub hl [2, 3, 4, 5, 6, 7] rfl)
    · skip
      exact absurd c1 (by decide)

set_option maxHeartbeats 4000000 in
set_option maxRecDepth 100000 in
theorem lc_19 {p : Program} {l : Launch} {e : Env} {R : Room} {s : State} {m : MethodId} {args : Array Value} {below : List Frame} {meth : Method} {c : Code} {H : Heap} {locs : List Loc} {cells slots : Nat} {Q : State → Prop} {G : GA} {k1 k2 : ClassId} {A : Nat → Prop} {a a2 : Nat → Nat} {sb u1 u2 L i : Nat} {xs : Nat → Int32} {z y k o : St} {v : Int64} {w : UInt64} {tl : Nat} {hs : Bool} {ls : Array Slot} (S : CallFix p m c cL_law 9 s args lw_tbl RL) (hK : KK G s) (hX : XE l A s) (hL : KL G k1 k2 s) (hA : ∀ q, s.heap.size ≤ q → A q) (hXs : va_X sb L xs s s.heap) (hbl : sb < s.heap.size) (hbA : ¬ A sb) (hLL : L ≤ 2560) (hR : R = room_1) (hc1 : cells + 2 ≤ 3131) (hc2 : slots + 12 ≤ 120514) (hi : i + 4 < L) (hr : Rl z y k o tl hs) (hw : WD G (lwd G k1 k2 a a2 u1 u2 z y k z o v w) A s H locs) (hl : lv_has ls 9 [(0, .ref sb), (1, .ref (a 0)), (2, .ref (a2 0)), (3, .ref u1), (4, .ref u2), (5, .int (nI i))]) (kk : LK p l e R s m args below meth c Q G k1 k2 a a2 sb u1 u2 i A cells slots) : W p l e R s m args below meth c H locs cells slots Q (F0 m 1315 ls []) := by
  refine lv_aload_n S.1 S.2.1 dL_law_1315 rfl (lv_at hl 1 rfl) ?_
  refine lv_aload_n S.1 S.2.1 dL_law_1316 rfl (lv_at hl 0 rfl) ?_
  refine lv_iload S.1 S.2.1 dL_law_1317 (lv_at hl 5 rfl) ?_
  refine lv_iconst (v := 1) S.1 S.2.1 dL_law_1319 (by decide) ?_
  refine addN (a := i) (b := 1) S dL_law_1320 ?_
  refine sld_n (k := i + 1) S hXs hbl hbA hLL hw (by omega) dL_law_1321 ?_
  refine lv_aload_n S.1 S.2.1 dL_law_1322 rfl (lv_at hl 0 rfl) ?_
  refine lv_iload S.1 S.2.1 dL_law_1323 (lv_at hl 5 rfl) ?_
  refine lv_iconst (v := 2) S.1 S.2.1 dL_law_1325 (by decide) ?_
  refine addN (a := i) (b := 2) S dL_law_1326 ?_
  refine sld_n (k := i + 2) S hXs hbl hbA hLL hw (by omega) dL_law_1327 ?_
  refine lv_aload_n S.1 S.2.1 dL_law_1328 rfl (lv_at hl 3 rfl) ?_
  have hwc : WD G (gL G k1 a z y k u1 (v)) A s H _ := hw.sub [0, 1, 2, 3, 4, 5, 6, 7, 8, 9, 10, 11, 12, 13, 14, 15, 16, 17, 18, 19, 20, 21, 22, 23, 24, 25, 26, 27] rfl rfl
  have hx9 := xc_le (pCt ((xs (i + 1))) ((xs (i + 2))) z : PO).1
  refine cx_i (wc := (gL G k1 a z y k u1 (v))) (wr := ([(u2, .inl (k2, (1, .inr (.inr (.inr (.inl (fun _ => w)))))))] ++ mp G a2 z o)) (vx_runSX (hh := [(0, 10, 13, 28)]) (As := [.ref (a 0), .int (xs (i + 1)), .int (xs (i + 2)), .ref (u1)]) (rest := []) S (c_L_counter l G k1 k2 u1 (v) a z y k H.size ((xs (i + 1))) ((xs (i + 2))) hr.1.1) (vx_cwSW 4 S.2.2.2.2 gL_law_L_counter rfl rfl rfl hd_L_counter ⟨by rw [hR]; exact Nat.le_of_ble_eq_true rfl, by rw [hR]; exact Nat.le_of_ble_eq_true rfl⟩) ⟨PL.blind, fun U hU hW => ⟨rfl, PL.of hK hX hL hwc (va_free hw.2.1 hw.2.2 hA [0, 1, 2, 3, 4, 5, 6, 7, 8, 9, 10, 11, 12, 13, 14, 15, 16, 17, 18, 19, 20, 21, 22, 23, 24, 25, 26, 27] rfl) hU hW⟩⟩ rfl rfl hl.1 rfl (lv_room (Nat.le_of_ble_eq_true rfl)) dL_law_1329 ⟨by rw [hR]; show _ ≤ 3131; omega, by rw [hR]; show _ ≤ 120514; omega⟩) hw hA [0, 1, 2, 3, 4, 5, 6, 7, 8, 9, 10, 11, 12, 13, 14, 15, 16, 17, 18, 19, 20, 21, 22, 23, 24, 25, 26, 27] [28, 29, 30, 31, 32, 33] rfl rfl rfl rfl (by decide) (fun _ => rfl) (fun _ => rfl) (fun ce q9 u9 H locs hpx hw9 g1 g2 g3 => absurd hpx id) (fun r9 u9 H locs hp9 hw9 => ?_)
  obtain ⟨⟨z9, y9, k9⟩, v9⟩ := u9
  obtain ⟨rfl, e9, ev⟩ := hp9
  have e9 : (z9, y9, k9) = ((pCt ((xs (i + 1))) ((xs (i + 2))) z : PO).2.2, y, k) := e9
  cases e9
  have ev : (pCt ((xs (i + 1))) ((xs (i + 2))) z : PO).1 = 0 → v9 = ((pCt ((xs (i + 1))) ((xs (i + 2))) z : PO).2.1).toInt64 := ev
  have hw : WD G (lwd G k1 k2 a a2 u1 u2 (pCt ((xs (i + 1))) ((xs (i + 2))) z : PO).2.2 y k z o (v9) (w)) A s H locs := hw9.sub [6, 7, 8, 9, 10, 11, 12, 13, 14, 15, 16, 17, 18, 19, 20, 21, 22, 23, 24, 25, 26, 27, 28, 29, 30, 31, 32, 33, 0, 1, 2, 3, 4, 5] rfl rfl
  refine lv_istore (lv' := [(6, .int ((pCt ((xs (i + 1))) ((xs (i + 2))) z : PO).1)), (0, .ref (sb)), (1, .ref (a 0)), (2, .ref (a2 0)), (3, .ref (u1)), (4, .ref (u2)), (5, .int (nI (i)))]) S.1 S.2.1 dL_law_1332 hl (by decide) rfl (fun ls hl => ?_)
  refine lv_aload_n S.1 S.2.1 dL_law_1334 rfl (lv_at hl 3 rfl) ?_
  refine lv_aload_n S.1 S.2.1 dL_law_1335 rfl (lv_at hl 1 rfl) ?_
  refine lv_iload S.1 S.2.1 dL_law_1336 (lv_at hl 6 rfl) ?_
  refine lv_iconst (v := 1) S.1 S.2.1 dL_law_1338 (by decide) ?_
  refine addN (a := i) (b := 1) S dL_law_1339 ?_
  refine sld_n (k := i + 1) S hXs hbl hbA hLL hw (by omega) dL_law_1340 ?_
  refine lv_aload_n S.1 S.2.1 dL_law_1341 rfl (lv_at hl 1 rfl) ?_
  refine lv_iload S.1 S.2.1 dL_law_1342 (lv_at hl 6 rfl) ?_
  refine lv_iconst (v := 2) S.1 S.2.1 dL_law_1344 (by decide) ?_
  refine addN (a := i) (b := 2) S dL_law_1345 ?_
  refine sld_n (k := i + 2) S hXs hbl hbA hLL hw (by omega) dL_law_1346 ?_
  have hwc : WD G (mp G a2 z o) A s H _ := hw.sub [29, 30, 31, 32, 33] rfl rfl
  refine cj_i (wc := (mp G a2 z o)) (wr := (gp G a (pCt ((xs (i + 1))) ((xs (i + 2))) z : PO).2.2 y k ++ [(u1, .inl (k1, (1, .inr (.inl (fun _ => v9))))), (u2, .inl (k2, (1, .inr (.inr (.inr (.inl (fun _ => w)))))))])) (va_runV (As := [.int (xs (i + 1)), .int (xs (i + 2))]) (rest := []) S (c_X5_counter l G a2 z o H.size ((xs (i + 1))) ((xs (i + 2))) hr.1.1) (cwV 2 S.2.2.2.2 gL_law_X5_counter rfl rfl rfl hd_X5_counter ⟨by rw [hR]; exact Nat.le_of_ble_eq_true rfl, by rw [hR]; exact Nat.le_of_ble_eq_true rfl⟩) ⟨PW.blind, va_recv hK.1 hwc.1 (ci := 5) (q0 := 0) rfl rfl, fun U hU hW => ⟨rfl, PW.of hK hwc hU hW⟩⟩ rfl rfl hl.1 rfl (lv_room (Nat.le_of_ble_eq_true rfl)) dL_law_1347 ⟨by rw [hR]; show _ ≤ 3131; omega, by rw [hR]; show _ ≤ 120514; omega⟩) hw hA [29, 30, 31, 32, 33] [0, 1, 2, 3, 4, 5, 6, 7, 8, 9, 10, 11, 12, 13, 14, 15, 16, 17, 18, 19, 20, 21, 22, 23, 24, 25, 26, 27, 28] rfl rfl rfl rfl (by decide) (fun _ => rfl) (fun r9 x9 H locs hp9 hw9 => ?_)
  obtain ⟨z9, o9⟩ := x9
  obtain ⟨e0, e1, hrt, ht9⟩ := hp9
  have e1 : (pCt ((xs (i + 1))) ((xs (i + 2))) z : PO).2.2 = z9 := (e1).symm
  subst e1
  have ht9 : o9 0 0 = (pCt ((xs (i + 1))) ((xs (i + 2))) z : PO).1 := ht9
  have hw : WD G (lwd G k1 k2 a a2 u1 u2 (pCt ((xs (i + 1))) ((xs (i + 2))) z : PO).2.2 y k (pCt ((xs (i + 1))) ((xs (i + 2))) z : PO).2.2 o9 (v9) (w)) A s H locs := hw9
  have e0 : r9 = (pCt ((xs (i + 1))) ((xs (i + 2))) z : PO).2.1 := e0
  subst e0
  refine lv_istore (lv' := [(7, .int ((pCt ((xs (i + 1))) ((xs (i + 2))) z : PO).2.1)), (6, .int ((pCt ((xs (i + 1))) ((xs (i + 2))) z : PO).1)), (0, .ref (sb)), (1, .ref (a 0)), (2, .ref (a2 0)), (3, .ref (u1)), (4, .ref (u2)), (5, .int (nI (i)))]) S.1 S.2.1 dL_law_1350 hl (by decide) rfl (fun ls hl => ?_)
  refine lv_aload_n S.1 S.2.1 dL_law_1352 rfl (lv_at hl 4 rfl) ?_
  have hwc : WD G (mp G a2 (pCt ((xs (i + 1))) ((xs (i + 2))) z : PO).2.2 o9) A s H _ := hw.sub [29, 30, 31, 32, 33] rfl rfl
  refine cj_i (wc := (mp G a2 (pCt ((xs (i + 1))) ((xs (i + 2))) z : PO).2.2 o9)) (wr := (gp G a (pCt ((xs (i + 1))) ((xs (i + 2))) z : PO).2.2 y k ++ [(u1, .inl (k1, (1, .inr (.inl (fun _ => v9))))), (u2, .inl (k2, (1, .inr (.inr (.inr (.inl (fun _ => w)))))))])) (va_runV (As := []) (rest := []) S (c_X5_thrown l G a2 (pCt ((xs (i + 1))) ((xs (i + 2))) z : PO).2.2 o9 H.size  ) (cwV 0 S.2.2.2.2 gL_law_X5_thrown rfl rfl rfl hd_X5_thrown ⟨by rw [hR]; exact Nat.le_of_ble_eq_true rfl, by rw [hR]; exact Nat.le_of_ble_eq_true rfl⟩) ⟨PW.blind, va_recv hK.1 hwc.1 (ci := 5) (q0 := 0) rfl rfl, fun U hU hW => ⟨rfl, PW.of hK hwc hU hW⟩⟩ rfl rfl hl.1 rfl (lv_room (Nat.le_of_ble_eq_true rfl)) dL_law_1353 ⟨by rw [hR]; show _ ≤ 3131; omega, by rw [hR]; show _ ≤ 120514; omega⟩) hw hA [29, 30, 31, 32, 33] [0, 1, 2, 3, 4, 5, 6, 7, 8, 9, 10, 11, 12, 13, 14, 15, 16, 17, 18, 19, 20, 21, 22, 23, 24, 25, 26, 27, 28] rfl rfl rfl rfl (by decide) (fun _ => rfl) (fun t9 x8 H locs hp9 hw9 => ?_)
  obtain ⟨z8, o8⟩ := x8
  obtain ⟨e1, e2, e3⟩ := hp9
  dsimp only at e2 e3
  have e2 := e2.symm
  have e3 := e3.symm
  subst e2
  subst e3
  have hw : WD G (lwd G k1 k2 a a2 u1 u2 (pCt ((xs (i + 1))) ((xs (i + 2))) z : PO).2.2 y k (pCt ((xs (i + 1))) ((xs (i + 2))) z : PO).2.2 o9 (v9) (w)) A s H locs := hw9
  refine top_to (v := (pCt ((xs (i + 1))) ((xs (i + 2))) z : PO).1) S (e1.trans ht9) ?_
  refine lv_iload S.1 S.2.1 dL_law_1356 (lv_at hl 1 rfl) ?_
  refine lv_icmp_eq (tgt := 1363) S.1 S.2.1 dL_law_1358 (by decide) (fun _ => ?_) (fun c8 => absurd rfl c8)
  refine lv_iload S.1 S.2.1 dL_law_1363 (lv_at hl 1 rfl) ?_
  refine lv_if_ne (tgt := 1380) S.1 S.2.1 dL_law_1365 (by decide) (fun _ => ?_) (fun c8 => ?_)
  · skip
    refine lv_goto (tgt := 1963) S.1 S.2.1 dL_law_1380 (by decide) ?_
    refine W.widen (k := cells + 2) (n := slots + 12) (by omega) (by omega) ?_
    exact kk H locs ls (pCt ((xs (i + 1))) ((xs (i + 2))) z : PO).2.2 y k o9 (v9) (w) _ _ (hr.go (inv_pCt hr.1.1 _ _) hrt) hw (lv_sub hl [2, 3, 4, 5, 6, 7] rfl)
  · skip
    have c9 : (pCt ((xs (i + 1))) ((xs (i + 2))) z : PO).1 = 0 := by first | exact c8 | exact Decidable.not_not.mp c8
    have e9 := ev c9
    subst e9
    have hw : WD G (lwd G k1 k2 a a2 u1 u2 (pCt ((xs (i + 1))) ((xs (i + 2))) z : PO).2.2 y k (pCt ((xs (i + 1))) ((xs (i + 2))) z : PO).2.2 o9 (((pCt ((xs (i + 1))) ((xs (i + 2))) z : PO).2.1).toInt64) (w)) A s H locs := hw
    refine lv_aload_n S.1 S.2.1 dL_law_1368 rfl (lv_at hl 5 rfl) ?_
    refine lv_iconst (v := 0) S.1 S.2.1 dL_law_1369 (by decide) ?_
    refine la_l S hL hw 27 rfl dL_law_1370 ?_
    refine lv_iload S.1 S.2.1 dL_law_1371 (lv_at hl 0 rfl) ?_
    refine lv_i2l S.1 S.2.1 dL_law_1373 rfl ?_
    refine lcmp_s S.1 S.2.1 rfl dL_law_1374 ?_
    refine lv_if_eq (tgt := 1380) S.1 S.2.1 dL_law_1375 (by decide) (fun c1 => ?_) (fun c1 => ?_)
    · skip
      refine lv_goto (tgt := 1963) S.1 S.2.1 dL_law_1380 (by decide) ?_
      refine W.widen (k := cells + 2) (n := slots + 12) (by omega) (by omega) ?_
      exact kk H locs ls (pCt ((xs (i + 1))) ((xs (i + 2))) z : PO).2.2 y k o9 (((pCt ((xs (i + 1))) ((xs (i + 2))) z : PO).2.1).toInt64) (w) _ _ (hr.go (inv_pCt hr.1.1 _ _) hrt) hw (lv_sub hl [2, 3, 4, 5, 6, 7] rfl)
    · skip
      exact absurd c1 (by decide)

set_option maxHeartbeats 4000000 in
set_option maxRecDepth 100000 in
theorem lc_20 {p : Program} {l : Launch} {e : Env} {R : Room} {s : State} {m : MethodId} {args : Array Value} {below : List Frame} {meth : Method} {c : Code} {H : Heap} {locs : List Loc} {cells slots : Nat} {Q : State → Prop} {G : GA} {k1 k2 : ClassId} {A : Nat → Prop} {a a2 : Nat → Nat} {sb u1 u2 L i : Nat} {xs : Nat → Int32} {z y k o : St} {v : Int64} {w : UInt64} {tl : Nat} {hs : Bool} {ls : Array Slot} (S : CallFix p m c cL_law 9 s args lw_tbl RL) (hK : KK G s) (hX : XE l A s) (hL : KL G k1 k2 s) (hA : ∀ q, s.heap.size ≤ q → A q) (hXs : va_X sb L xs s s.heap) (hbl : sb < s.heap.size) (hbA : ¬ A sb) (hLL : L ≤ 2560) (hR : R = room_1) (hc1 : cells + 2 ≤ 3131) (hc2 : slots + 12 ≤ 120514) (hi : i + 4 < L) (hr : Rl z y k o tl hs) (hw : WD G (lwd G k1 k2 a a2 u1 u2 z y k z o v w) A s H locs) (hl : lv_has ls 9 [(0, .ref sb), (1, .ref (a 0)), (2, .ref (a2 0)), (3, .ref u1), (4, .ref u2), (5, .int (nI i))]) (kk : LK p l e R s m args below meth c Q G k1 k2 a a2 sb u1 u2 i A cells slots) : W p l e R s m args below meth c H locs cells slots Q (F0 m 1383 ls []) := by
  refine lv_aload_n S.1 S.2.1 dL_law_1383 rfl (lv_at hl 1 rfl) ?_
  refine lv_aload_n S.1 S.2.1 dL_law_1384 rfl (lv_at hl 0 rfl) ?_
  refine lv_iload S.1 S.2.1 dL_law_1385 (lv_at hl 5 rfl) ?_
  refine lv_iconst (v := 1) S.1 S.2.1 dL_law_1387 (by decide) ?_
  refine addN (a := i) (b := 1) S dL_law_1388 ?_
  refine sld_n (k := i + 1) S hXs hbl hbA hLL hw (by omega) dL_law_1389 ?_
  refine lv_aload_n S.1 S.2.1 dL_law_1390 rfl (lv_at hl 0 rfl) ?_
  refine lv_iload S.1 S.2.1 dL_law_1391 (lv_at hl 5 rfl) ?_
  refine lv_iconst (v := 2) S.1 S.2.1 dL_law_1393 (by decide) ?_
  refine addN (a := i) (b := 2) S dL_law_1394 ?_
  refine sld_n (k := i + 2) S hXs hbl hbA hLL hw (by omega) dL_law_1395 ?_
  refine lv_aload_n S.1 S.2.1 dL_law_1396 rfl (lv_at hl 0 rfl) ?_
  refine lv_iload S.1 S.2.1 dL_law_1397 (lv_at hl 5 rfl) ?_
  refine lv_iconst (v := 3) S.1 S.2.1 dL_law_1399 (by decide) ?_
  refine addN (a := i) (b := 3) S dL_law_1400 ?_
  refine sld_n (k := i + 3) S hXs hbl hbA hLL hw (by omega) dL_law_1401 ?_
  refine lv_aload_n S.1 S.2.1 dL_law_1402 rfl (lv_at hl 0 rfl) ?_
  refine lv_iload S.1 S.2.1 dL_law_1403 (lv_at hl 5 rfl) ?_
  refine lv_iconst (v := 4) S.1 S.2.1 dL_law_1405 (by decide) ?_
  refine addN (a := i) (b := 4) S dL_law_1406 ?_
  refine sld_n (k := i + 4) S hXs hbl hbA hLL hw (by omega) dL_law_1407 ?_
  refine lv_aload_n S.1 S.2.1 dL_law_1408 rfl (lv_at hl 3 rfl) ?_
  have hwc : WD G (gL G k1 a z y k u1 (v)) A s H _ := hw.sub [0, 1, 2, 3, 4, 5, 6, 7, 8, 9, 10, 11, 12, 13, 14, 15, 16, 17, 18, 19, 20, 21, 22, 23, 24, 25, 26, 27] rfl rfl
  have hx9 := xc_le (pT ((xs (i + 1))) ((xs (i + 2))) ((xs (i + 3))) ((xs (i + 4))) z : PO).1
  refine cx_i (wc := (gL G k1 a z y k u1 (v))) (wr := ([(u2, .inl (k2, (1, .inr (.inr (.inr (.inl (fun _ => w)))))))] ++ mp G a2 z o)) (vx_runSX (hh := [(0, 21, 24, 28), (0, 21, 28, 30), (0, 21, 32, 13)]) (As := [.ref (a 0), .int (xs (i + 1)), .int (xs (i + 2)), .int (xs (i + 3)), .int (xs (i + 4)), .ref (u1)]) (rest := []) S (c_L_tell l G k1 k2 u1 (v) a z y k H.size ((xs (i + 1))) ((xs (i + 2))) ((xs (i + 3))) ((xs (i + 4))) hr.1.1) (vx_cwSW 6 S.2.2.2.2 gL_law_L_tell rfl rfl rfl hd_L_tell ⟨by rw [hR]; exact Nat.le_of_ble_eq_true rfl, by rw [hR]; exact Nat.le_of_ble_eq_true rfl⟩) ⟨PL.blind, fun U hU hW => ⟨rfl, PL.of hK hX hL hwc (va_free hw.2.1 hw.2.2 hA [0, 1, 2, 3, 4, 5, 6, 7, 8, 9, 10, 11, 12, 13, 14, 15, 16, 17, 18, 19, 20, 21, 22, 23, 24, 25, 26, 27] rfl) hU hW⟩⟩ rfl rfl hl.1 rfl (lv_room (Nat.le_of_ble_eq_true rfl)) dL_law_1409 ⟨by rw [hR]; show _ ≤ 3131; omega, by rw [hR]; show _ ≤ 120514; omega⟩) hw hA [0, 1, 2, 3, 4, 5, 6, 7, 8, 9, 10, 11, 12, 13, 14, 15, 16, 17, 18, 19, 20, 21, 22, 23, 24, 25, 26, 27] [28, 29, 30, 31, 32, 33] rfl rfl rfl rfl (by decide) (fun _ => rfl) (fun _ => rfl) (fun ce q9 u9 H locs hpx hw9 g1 g2 g3 => absurd hpx id) (fun r9 u9 H locs hp9 hw9 => ?_)
  obtain ⟨⟨z9, y9, k9⟩, v9⟩ := u9
  obtain ⟨rfl, e9, ev⟩ := hp9
  have e9 : (z9, y9, k9) = ((pT ((xs (i + 1))) ((xs (i + 2))) ((xs (i + 3))) ((xs (i + 4))) z : PO).2.2, y, k) := e9
  cases e9
  have ev : (pT ((xs (i + 1))) ((xs (i + 2))) ((xs (i + 3))) ((xs (i + 4))) z : PO).1 = 0 → v9 = bl (pT ((xs (i + 1))) ((xs (i + 2))) ((xs (i + 3))) ((xs (i + 4))) z : PO).2.1 := ev
  have hw : WD G (lwd G k1 k2 a a2 u1 u2 (pT ((xs (i + 1))) ((xs (i + 2))) ((xs (i + 3))) ((xs (i + 4))) z : PO).2.2 y k z o (v9) (w)) A s H locs := hw9.sub [6, 7, 8, 9, 10, 11, 12, 13, 14, 15, 16, 17, 18, 19, 20, 21, 22, 23, 24, 25, 26, 27, 28, 29, 30, 31, 32, 33, 0, 1, 2, 3, 4, 5] rfl rfl
  refine lv_istore (lv' := [(6, .int ((pT ((xs (i + 1))) ((xs (i + 2))) ((xs (i + 3))) ((xs (i + 4))) z : PO).1)), (0, .ref (sb)), (1, .ref (a 0)), (2, .ref (a2 0)), (3, .ref (u1)), (4, .ref (u2)), (5, .int (nI (i)))]) S.1 S.2.1 dL_law_1412 hl (by decide) rfl (fun ls hl => ?_)
  refine lv_aload_n S.1 S.2.1 dL_law_1414 rfl (lv_at hl 3 rfl) ?_
  refine lv_aload_n S.1 S.2.1 dL_law_1415 rfl (lv_at hl 1 rfl) ?_
  refine lv_iload S.1 S.2.1 dL_law_1416 (lv_at hl 6 rfl) ?_
  refine lv_iconst (v := 1) S.1 S.2.1 dL_law_1418 (by decide) ?_
  refine addN (a := i) (b := 1) S dL_law_1419 ?_
  refine sld_n (k := i + 1) S hXs hbl hbA hLL hw (by omega) dL_law_1420 ?_
  refine lv_aload_n S.1 S.2.1 dL_law_1421 rfl (lv_at hl 1 rfl) ?_
  refine lv_iload S.1 S.2.1 dL_law_1422 (lv_at hl 6 rfl) ?_
  refine lv_iconst (v := 2) S.1 S.2.1 dL_law_1424 (by decide) ?_
  refine addN (a := i) (b := 2) S dL_law_1425 ?_
  refine sld_n (k := i + 2) S hXs hbl hbA hLL hw (by omega) dL_law_1426 ?_
  refine lv_aload_n S.1 S.2.1 dL_law_1427 rfl (lv_at hl 1 rfl) ?_
  refine lv_iload S.1 S.2.1 dL_law_1428 (lv_at hl 6 rfl) ?_
  refine lv_iconst (v := 3) S.1 S.2.1 dL_law_1430 (by decide) ?_
  refine addN (a := i) (b := 3) S dL_law_1431 ?_
  refine sld_n (k := i + 3) S hXs hbl hbA hLL hw (by omega) dL_law_1432 ?_
  refine lv_aload_n S.1 S.2.1 dL_law_1433 rfl (lv_at hl 1 rfl) ?_
  refine lv_iload S.1 S.2.1 dL_law_1434 (lv_at hl 6 rfl) ?_
  refine lv_iconst (v := 4) S.1 S.2.1 dL_law_1436 (by decide) ?_
  refine addN (a := i) (b := 4) S dL_law_1437 ?_
  refine sld_n (k := i + 4) S hXs hbl hbA hLL hw (by omega) dL_law_1438 ?_
  have hwc : WD G (mp G a2 z o) A s H _ := hw.sub [29, 30, 31, 32, 33] rfl rfl
  refine cj_i (wc := (mp G a2 z o)) (wr := (gp G a (pT ((xs (i + 1))) ((xs (i + 2))) ((xs (i + 3))) ((xs (i + 4))) z : PO).2.2 y k ++ [(u1, .inl (k1, (1, .inr (.inl (fun _ => v9))))), (u2, .inl (k2, (1, .inr (.inr (.inr (.inl (fun _ => w)))))))])) (va_runV (As := [.int (xs (i + 1)), .int (xs (i + 2)), .int (xs (i + 3)), .int (xs (i + 4))]) (rest := []) S (c_X5_tell l G a2 z o H.size ((xs (i + 1))) ((xs (i + 2))) ((xs (i + 3))) ((xs (i + 4))) hr.1.1) (cwV 4 S.2.2.2.2 gL_law_X5_tell rfl rfl rfl hd_X5_tell ⟨by rw [hR]; exact Nat.le_of_ble_eq_true rfl, by rw [hR]; exact Nat.le_of_ble_eq_true rfl⟩) ⟨PW.blind, va_recv hK.1 hwc.1 (ci := 5) (q0 := 0) rfl rfl, fun U hU hW => ⟨rfl, PW.of hK hwc hU hW⟩⟩ rfl rfl hl.1 rfl (lv_room (Nat.le_of_ble_eq_true rfl)) dL_law_1439 ⟨by rw [hR]; show _ ≤ 3131; omega, by rw [hR]; show _ ≤ 120514; omega⟩) hw hA [29, 30, 31, 32, 33] [0, 1, 2, 3, 4, 5, 6, 7, 8, 9, 10, 11, 12, 13, 14, 15, 16, 17, 18, 19, 20, 21, 22, 23, 24, 25, 26, 27, 28] rfl rfl rfl rfl (by decide) (fun _ => rfl) (fun r9 x9 H locs hp9 hw9 => ?_)
  obtain ⟨z9, o9⟩ := x9
  obtain ⟨e0, e1, hrt, ht9⟩ := hp9
  have e1 : (pT ((xs (i + 1))) ((xs (i + 2))) ((xs (i + 3))) ((xs (i + 4))) z : PO).2.2 = z9 := (e1).symm
  subst e1
  have ht9 : o9 0 0 = (pT ((xs (i + 1))) ((xs (i + 2))) ((xs (i + 3))) ((xs (i + 4))) z : PO).1 := ht9
  have hw : WD G (lwd G k1 k2 a a2 u1 u2 (pT ((xs (i + 1))) ((xs (i + 2))) ((xs (i + 3))) ((xs (i + 4))) z : PO).2.2 y k (pT ((xs (i + 1))) ((xs (i + 2))) ((xs (i + 3))) ((xs (i + 4))) z : PO).2.2 o9 (v9) (w)) A s H locs := hw9
  have e0 : r9 = (pT ((xs (i + 1))) ((xs (i + 2))) ((xs (i + 3))) ((xs (i + 4))) z : PO).2.1 := e0
  subst e0
  refine lv_istore (lv' := [(7, .int ((pT ((xs (i + 1))) ((xs (i + 2))) ((xs (i + 3))) ((xs (i + 4))) z : PO).2.1)), (6, .int ((pT ((xs (i + 1))) ((xs (i + 2))) ((xs (i + 3))) ((xs (i + 4))) z : PO).1)), (0, .ref (sb)), (1, .ref (a 0)), (2, .ref (a2 0)), (3, .ref (u1)), (4, .ref (u2)), (5, .int (nI (i)))]) S.1 S.2.1 dL_law_1442 hl (by decide) rfl (fun ls hl => ?_)
  refine lv_aload_n S.1 S.2.1 dL_law_1444 rfl (lv_at hl 4 rfl) ?_
  have hwc : WD G (mp G a2 (pT ((xs (i + 1))) ((xs (i + 2))) ((xs (i + 3))) ((xs (i + 4))) z : PO).2.2 o9) A s H _ := hw.sub [29, 30, 31, 32, 33] rfl rfl
  refine cj_i (wc := (mp G a2 (pT ((xs (i + 1))) ((xs (i + 2))) ((xs (i + 3))) ((xs (i + 4))) z : PO).2.2 o9)) (wr := (gp G a (pT ((xs (i + 1))) ((xs (i + 2))) ((xs (i + 3))) ((xs (i + 4))) z : PO).2.2 y k ++ [(u1, .inl (k1, (1, .inr (.inl (fun _ => v9))))), (u2, .inl (k2, (1, .inr (.inr (.inr (.inl (fun _ => w)))))))])) (va_runV (As := []) (rest := []) S (c_X5_thrown l G a2 (pT ((xs (i + 1))) ((xs (i + 2))) ((xs (i + 3))) ((xs (i + 4))) z : PO).2.2 o9 H.size  ) (cwV 0 S.2.2.2.2 gL_law_X5_thrown rfl rfl rfl hd_X5_thrown ⟨by rw [hR]; exact Nat.le_of_ble_eq_true rfl, by rw [hR]; exact Nat.le_of_ble_eq_true rfl⟩) ⟨PW.blind, va_recv hK.1 hwc.1 (ci := 5) (q0 := 0) rfl rfl, fun U hU hW => ⟨rfl, PW.of hK hwc hU hW⟩⟩ rfl rfl hl.1 rfl (lv_room (Nat.le_of_ble_eq_true rfl)) dL_law_1445 ⟨by rw [hR]; show _ ≤ 3131; omega, by rw [hR]; show _ ≤ 120514; omega⟩) hw hA [29, 30, 31, 32, 33] [0, 1, 2, 3, 4, 5, 6, 7, 8, 9, 10, 11, 12, 13, 14, 15, 16, 17, 18, 19, 20, 21, 22, 23, 24, 25, 26, 27, 28] rfl rfl rfl rfl (by decide) (fun _ => rfl) (fun t9 x8 H locs hp9 hw9 => ?_)
  obtain ⟨z8, o8⟩ := x8
  obtain ⟨e1, e2, e3⟩ := hp9
  dsimp only at e2 e3
  have e2 := e2.symm
  have e3 := e3.symm
  subst e2
  subst e3
  have hw : WD G (lwd G k1 k2 a a2 u1 u2 (pT ((xs (i + 1))) ((xs (i + 2))) ((xs (i + 3))) ((xs (i + 4))) z : PO).2.2 y k (pT ((xs (i + 1))) ((xs (i + 2))) ((xs (i + 3))) ((xs (i + 4))) z : PO).2.2 o9 (v9) (w)) A s H locs := hw9
  refine top_to (v := (pT ((xs (i + 1))) ((xs (i + 2))) ((xs (i + 3))) ((xs (i + 4))) z : PO).1) S (e1.trans ht9) ?_
  refine lv_iload S.1 S.2.1 dL_law_1448 (lv_at hl 1 rfl) ?_
  refine lv_icmp_eq (tgt := 1455) S.1 S.2.1 dL_law_1450 (by decide) (fun _ => ?_) (fun c8 => absurd rfl c8)
  refine lv_iload S.1 S.2.1 dL_law_1455 (lv_at hl 1 rfl) ?_
  refine lv_if_ne (tgt := 1479) S.1 S.2.1 dL_law_1457 (by decide) (fun _ => ?_) (fun c8 => ?_)
  · skip
    refine lv_goto (tgt := 1963) S.1 S.2.1 dL_law_1479 (by decide) ?_
    refine W.widen (k := cells + 2) (n := slots + 12) (by omega) (by omega) ?_
    exact kk H locs ls (pT ((xs (i + 1))) ((xs (i + 2))) ((xs (i + 3))) ((xs (i + 4))) z : PO).2.2 y k o9 (v9) (w) _ _ (hr.go (inv_pT hr.1.1 _ _ _ _) hrt) hw (lv_sub hl [2, 3, 4, 5, 6, 7] rfl)
  · skip
    have c9 : (pT ((xs (i + 1))) ((xs (i + 2))) ((xs (i + 3))) ((xs (i + 4))) z : PO).1 = 0 := by first | exact c8 | exact Decidable.not_not.mp c8
    have e9 := ev c9
    subst e9
    have hw : WD G (lwd G k1 k2 a a2 u1 u2 (pT ((xs (i + 1))) ((xs (i + 2))) ((xs (i + 3))) ((xs (i + 4))) z : PO).2.2 y k (pT ((xs (i + 1))) ((xs (i + 2))) ((xs (i + 3))) ((xs (i + 4))) z : PO).2.2 o9 (bl (pT ((xs (i + 1))) ((xs (i + 2))) ((xs (i + 3))) ((xs (i + 4))) z : PO).2.1) (w)) A s H locs := hw
    refine lv_aload_n S.1 S.2.1 dL_law_1460 rfl (lv_at hl 5 rfl) ?_
    refine lv_iconst (v := 0) S.1 S.2.1 dL_law_1461 (by decide) ?_
    refine la_l S hL hw 27 rfl dL_law_1462 ?_
    refine lv_iload S.1 S.2.1 dL_law_1463 (lv_at hl 0 rfl) ?_
    refine lv_if_eq (tgt := 1472) S.1 S.2.1 dL_law_1465 (by decide) (fun zc => ?_) (fun zc => ?_)
    · skip
      refine lv_lconst S.1 S.2.1 dL_law_1472 rfl ?_
      refine lcmp_s S.1 S.2.1 (bl_0 zc) dL_law_1473 ?_
      refine lv_if_eq (tgt := 1479) S.1 S.2.1 dL_law_1474 (by decide) (fun c1 => ?_) (fun c1 => ?_)
      · skip
        refine lv_goto (tgt := 1963) S.1 S.2.1 dL_law_1479 (by decide) ?_
        refine W.widen (k := cells + 2) (n := slots + 12) (by omega) (by omega) ?_
        exact kk H locs ls (pT ((xs (i + 1))) ((xs (i + 2))) ((xs (i + 3))) ((xs (i + 4))) z : PO).2.2 y k o9 (bl (pT ((xs (i + 1))) ((xs (i + 2))) ((xs (i + 3))) ((xs (i + 4))) z : PO).2.1) (w) _ _ (hr.go (inv_pT hr.1.1 _ _ _ _) hrt) hw (lv_sub hl [2, 3, 4, 5, 6, 7] rfl)
      · skip
        exact absurd c1 (by decide)
    · skip
      refine lv_lconst S.1 S.2.1 dL_law_1468 rfl ?_
      refine lv_goto (tgt := 1473) S.1 S.2.1 dL_law_1469 (by decide) ?_
      refine lcmp_s S.1 S.2.1 (bl_1 zc) dL_law_1473 ?_
      refine lv_if_eq (tgt := 1479) S.1 S.2.1 dL_law_1474 (by decide) (fun c2 => ?_) (fun c2 => ?_)
      · skip
        refine lv_goto (tgt := 1963) S.1 S.2.1 dL_law_1479 (by decide) ?_
        refine W.widen (k := cells + 2) (n := slots + 12) (by omega) (by omega) ?_
        exact kk H locs ls (pT ((xs (i + 1))) ((xs (i + 2))) ((xs (i + 3))) ((xs (i + 4))) z : PO).2.2 y k o9 (bl (pT ((xs (i + 1))) ((xs (i + 2))) ((xs (i + 3))) ((xs (i + 4))) z : PO).2.1) (w) _ _ (hr.go (inv_pT hr.1.1 _ _ _ _) hrt) hw (lv_sub hl [2, 3, 4, 5, 6, 7] rfl)
      · skip
        exact absurd c2 (by decide)

