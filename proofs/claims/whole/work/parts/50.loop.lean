/-! the law's loop -/
theorem lt_5 {i L : Nat} (hL : L ≤ 2560) (hi : i ≤ 2564) (h : ¬ Int32.ofNat L - 5 < nI i) : i + 4 < L := by
  have e1 : (Int32.ofNat L).toInt = (L : Int) := nI_toInt (n := L) (by omega)
  have e2 : (nI i).toInt = (i : Int) := nI_toInt (by omega)
  have e3 : (Int32.ofNat L - 5).toInt = (L : Int) - 5 := by
    rw [Int32.toInt_sub, e1]
    have e4 : (5 : Int32).toInt = 5 := rfl
    rw [e4]
    exact Int.bmod_eq_of_le (by omega) (by omega)
  rw [i_lt, e2, e3] at h
  omega
set_option maxHeartbeats 4000000 in
set_option maxRecDepth 100000 in
theorem law_sw {p : Program} {l : Launch} {e : Env} {R : Room} {s : State} {m : MethodId} {args : Array Value} {below : List Frame} {meth : Method} {c : Code} {H : Heap} {locs : List Loc} {cells slots : Nat} {Q : State → Prop} {G : GA} {k1 k2 : ClassId} {A : Nat → Prop} {a a2 : Nat → Nat} {sb u1 u2 L i : Nat} {xs : Nat → Int32} {z y k o : St} {v : Int64} {w : UInt64} {tl : Nat} {hs : Bool} {ls : Array Slot} (S : CallFix p m c cL_law 9 s args lw_tbl RL) (hK : KK G s) (hX : XE l A s) (hL : KL G k1 k2 s) (hA : ∀ q, s.heap.size ≤ q → A q) (hXs : va_X sb L xs s s.heap) (hbl : sb < s.heap.size) (hbA : ¬ A sb) (hLL : L ≤ 2560) (hR : R = room_1) (hAf : ∀ q, A q → s.heap.size ≤ q) (hfin : ∀ (H : Heap) (ls : Array Slot), W p l e R s m args below meth c H [] 3131 120514 Q (F0 m 1970 ls [.int 1])) (hc1 : cells + 2 ≤ 3131) (hc2 : slots + 12 ≤ 120514) (hi : i + 4 < L) (hr : Rl z y k o tl hs) (hw : WD G (lwd G k1 k2 a a2 u1 u2 z y k z o v w) A s H locs) (hl : lv_has ls 9 [(0, .ref sb), (1, .ref (a 0)), (2, .ref (a2 0)), (3, .ref u1), (4, .ref u2), (5, .int (nI i))]) (kk : LK p l e R s m args below meth c Q G k1 k2 a a2 sb u1 u2 i A cells slots) (x : Int32) : W p l e R s m args below meth c H locs cells slots Q (F0 m 44 ls [.int x]) := by
  by_cases h0 : x = 0
  · rw [h0]
    refine lv_tableIn (tgt := 204) S.1 S.2.1 dL_law_44 (by decide) (by decide) rfl (by decide) ?_
    exact lc_0 S hK hX hL hA hXs hbl hbA hLL hR hc1 hc2 hi hr hw hl kk
  by_cases h1 : x = 1
  · rw [h1]
    refine lv_tableIn (tgt := 260) S.1 S.2.1 dL_law_44 (by decide) (by decide) rfl (by decide) ?_
    exact lc_1 S hK hX hL hA hXs hbl hbA hLL hR hc1 hc2 hi hr hw hl kk
  by_cases h2 : x = 2
  · rw [h2]
    refine lv_tableIn (tgt := 316) S.1 S.2.1 dL_law_44 (by decide) (by decide) rfl (by decide) ?_
    exact lc_2 S hK hX hL hA hXs hbl hbA hLL hR hc1 hc2 hi hr hw hl kk
  by_cases h3 : x = 3
  · rw [h3]
    refine lv_tableIn (tgt := 372) S.1 S.2.1 dL_law_44 (by decide) (by decide) rfl (by decide) ?_
    exact lc_3 S hK hX hL hA hXs hbl hbA hLL hR hc1 hc2 hi hr hw hl kk
  by_cases h4 : x = 4
  · rw [h4]
    refine lv_tableIn (tgt := 428) S.1 S.2.1 dL_law_44 (by decide) (by decide) rfl (by decide) ?_
    exact lc_4 S hK hX hL hA hXs hbl hbA hLL hR hc1 hc2 hi hr hw hl kk
  by_cases h5 : x = 5
  · rw [h5]
    refine lv_tableIn (tgt := 441) S.1 S.2.1 dL_law_44 (by decide) (by decide) rfl (by decide) ?_
    exact lc_5 S hK hX hL hA hXs hbl hbA hLL hR hc1 hc2 hi hr hw hl kk
  by_cases h6 : x = 6
  · rw [h6]
    refine lv_tableIn (tgt := 509) S.1 S.2.1 dL_law_44 (by decide) (by decide) rfl (by decide) ?_
    exact lc_6 S hK hX hL hA hXs hbl hbA hLL hR hc1 hc2 hi hr hw hl kk
  by_cases h7 : x = 7
  · rw [h7]
    refine lv_tableIn (tgt := 565) S.1 S.2.1 dL_law_44 (by decide) (by decide) rfl (by decide) ?_
    exact lc_7 S hK hX hL hA hXs hbl hbA hLL hR hc1 hc2 hi hr hw hl kk
  by_cases h8 : x = 8
  · rw [h8]
    refine lv_tableIn (tgt := 633) S.1 S.2.1 dL_law_44 (by decide) (by decide) rfl (by decide) ?_
    exact lc_8 S hK hX hL hA hXs hbl hbA hLL hR hc1 hc2 hi hr hw hl kk
  by_cases h9 : x = 9
  · rw [h9]
    refine lv_tableIn (tgt := 736) S.1 S.2.1 dL_law_44 (by decide) (by decide) rfl (by decide) ?_
    exact lc_9 S hK hX hL hA hXs hbl hbA hLL hR hc1 hc2 hi hr hw hl kk
  by_cases h10 : x = 10
  · rw [h10]
    refine lv_tableIn (tgt := 792) S.1 S.2.1 dL_law_44 (by decide) (by decide) rfl (by decide) ?_
    exact lc_10 S hK hX hL hA hXs hbl hbA hLL hR hc1 hc2 hi hr hw hl kk
  by_cases h11 : x = 11
  · rw [h11]
    refine lv_tableIn (tgt := 848) S.1 S.2.1 dL_law_44 (by decide) (by decide) rfl (by decide) ?_
    exact lc_11 S hK hX hL hA hXs hbl hbA hLL hR hc1 hc2 hi hr hw hl kk
  by_cases h12 : x = 12
  · rw [h12]
    refine lv_tableIn (tgt := 861) S.1 S.2.1 dL_law_44 (by decide) (by decide) rfl (by decide) ?_
    exact lc_12 S hK hX hL hA hXs hbl hbA hLL hR hc1 hc2 hi hr hw hl kk
  by_cases h13 : x = 13
  · rw [h13]
    refine lv_tableIn (tgt := 924) S.1 S.2.1 dL_law_44 (by decide) (by decide) rfl (by decide) ?_
    exact lc_13 S hK hX hL hA hXs hbl hbA hLL hR hc1 hc2 hi hr hw hl kk
  by_cases h14 : x = 14
  · rw [h14]
    refine lv_tableIn (tgt := 980) S.1 S.2.1 dL_law_44 (by decide) (by decide) rfl (by decide) ?_
    exact lc_14 S hK hX hL hA hXs hbl hbA hLL hR hc1 hc2 hi hr hw hl kk
  by_cases h15 : x = 15
  · rw [h15]
    refine lv_tableIn (tgt := 1036) S.1 S.2.1 dL_law_44 (by decide) (by decide) rfl (by decide) ?_
    exact lc_15 S hK hX hL hA hXs hbl hbA hLL hR hc1 hc2 hi hr hw hl kk
  by_cases h16 : x = 16
  · rw [h16]
    refine lv_tableIn (tgt := 1111) S.1 S.2.1 dL_law_44 (by decide) (by decide) rfl (by decide) ?_
    exact lc_16 S hK hX hL hA hXs hbl hbA hLL hR hc1 hc2 hi hr hw hl kk
  by_cases h17 : x = 17
  · rw [h17]
    refine lv_tableIn (tgt := 1179) S.1 S.2.1 dL_law_44 (by decide) (by decide) rfl (by decide) ?_
    exact lc_17 S hK hX hL hA hXs hbl hbA hLL hR hc1 hc2 hi hr hw hl kk
  by_cases h18 : x = 18
  · rw [h18]
    refine lv_tableIn (tgt := 1247) S.1 S.2.1 dL_law_44 (by decide) (by decide) rfl (by decide) ?_
    exact lc_18 S hK hX hL hA hXs hbl hbA hLL hR hc1 hc2 hi hr hw hl kk
  by_cases h19 : x = 19
  · rw [h19]
    refine lv_tableIn (tgt := 1315) S.1 S.2.1 dL_law_44 (by decide) (by decide) rfl (by decide) ?_
    exact lc_19 S hK hX hL hA hXs hbl hbA hLL hR hc1 hc2 hi hr hw hl kk
  by_cases h20 : x = 20
  · rw [h20]
    refine lv_tableIn (tgt := 1383) S.1 S.2.1 dL_law_44 (by decide) (by decide) rfl (by decide) ?_
    exact lc_20 S hK hX hL hA hXs hbl hbA hLL hR hc1 hc2 hi hr hw hl kk
  by_cases h21 : x = 21
  · rw [h21]
    refine lv_tableIn (tgt := 1482) S.1 S.2.1 dL_law_44 (by decide) (by decide) rfl (by decide) ?_
    exact lc_21 S hK hX hL hA hXs hbl hbA hLL hR hc1 hc2 hi hr hw hl kk
  by_cases h22 : x = 22
  · rw [h22]
    refine lv_tableIn (tgt := 1538) S.1 S.2.1 dL_law_44 (by decide) (by decide) rfl (by decide) ?_
    exact lc_22 S hK hX hL hA hXs hbl hbA hLL hR hc1 hc2 hi hr hw hl kk
  by_cases h23 : x = 23
  · rw [h23]
    refine lv_tableIn (tgt := 1551) S.1 S.2.1 dL_law_44 (by decide) (by decide) rfl (by decide) ?_
    exact lc_23 S hK hX hL hA hXs hbl hbA hLL hR hc1 hc2 hi hr hw hl kk
  by_cases h24 : x = 24
  · rw [h24]
    refine lv_tableIn (tgt := 1564) S.1 S.2.1 dL_law_44 (by decide) (by decide) rfl (by decide) ?_
    exact lc_24 S hK hX hL hA hXs hbl hbA hLL hR hc1 hc2 hi hr hw hl kk
  by_cases h25 : x = 25
  · rw [h25]
    refine lv_tableIn (tgt := 1577) S.1 S.2.1 dL_law_44 (by decide) (by decide) rfl (by decide) ?_
    exact lc_25 S hK hX hL hA hXs hbl hbA hLL hR hc1 hc2 hi hr hw hl kk
  by_cases h26 : x = 26
  · rw [h26]
    refine lv_tableIn (tgt := 1590) S.1 S.2.1 dL_law_44 (by decide) (by decide) rfl (by decide) ?_
    exact lc_26 S hK hX hL hA hXs hbl hbA hLL hR hc1 hc2 hi hr hw hl kk
  by_cases h27 : x = 27
  · rw [h27]
    refine lv_tableIn (tgt := 1603) S.1 S.2.1 dL_law_44 (by decide) (by decide) rfl (by decide) ?_
    exact lc_27 S hK hX hL hA hXs hbl hbA hLL hR hc1 hc2 hi hr hw hl kk
  by_cases h28 : x = 28
  · rw [h28]
    refine lv_tableIn (tgt := 1616) S.1 S.2.1 dL_law_44 (by decide) (by decide) rfl (by decide) ?_
    exact lc_28 S hK hX hL hA hXs hbl hbA hLL hR hc1 hc2 hi hr hw hl kk
  by_cases h29 : x = 29
  · rw [h29]
    refine lv_tableIn (tgt := 1629) S.1 S.2.1 dL_law_44 (by decide) (by decide) rfl (by decide) ?_
    exact lc_29 S hK hX hL hA hXs hbl hbA hLL hR hc1 hc2 hi hr hw hl kk
  by_cases h30 : x = 30
  · rw [h30]
    refine lv_tableIn (tgt := 1685) S.1 S.2.1 dL_law_44 (by decide) (by decide) rfl (by decide) ?_
    exact lc_30 S hK hX hL hA hXs hbl hbA hLL hR hc1 hc2 hi hr hw hl kk
  by_cases h31 : x = 31
  · rw [h31]
    refine lv_tableIn (tgt := 1729) S.1 S.2.1 dL_law_44 (by decide) (by decide) rfl (by decide) ?_
    exact lc_31 S hK hX hL hA hXs hbl hbA hLL hR hc1 hc2 hi hr hw hl kk
  by_cases h32 : x = 32
  · rw [h32]
    refine lv_tableIn (tgt := 1785) S.1 S.2.1 dL_law_44 (by decide) (by decide) rfl (by decide) ?_
    exact lc_32 S hK hX hL hA hXs hbl hbA hLL hR hc1 hc2 hi hr hw hl kk
  by_cases h33 : x = 33
  · rw [h33]
    refine lv_tableIn (tgt := 1862) S.1 S.2.1 dL_law_44 (by decide) (by decide) rfl (by decide) ?_
    exact lc_33 S hK hX hL hA hXs hbl hbA hLL hR hc1 hc2 hi hr hw hl kk
  by_cases h34 : x = 34
  · rw [h34]
    refine lv_tableIn (tgt := 1928) S.1 S.2.1 dL_law_44 (by decide) (by decide) rfl (by decide) ?_
    exact lc_34 S hK hX hL hA hXs hbl hbA hLL hR hc1 hc2 hi hr hw hl kk
  by_cases h35 : x = 35
  · rw [h35]
    refine lv_tableIn (tgt := 1939) S.1 S.2.1 dL_law_44 (by decide) (by decide) rfl (by decide) ?_
    exact lc_35 S hK hX hL hA hXs hbl hbA hLL hR hc1 hc2 hi hr hw hl kk
  refine lv_tableOut (tgt := 1963) S.1 S.2.1 dL_law_44 ?_ (by decide) ?_
  · have nj : ∀ j : Int32, ¬ x = j → ¬ x.toInt = j.toInt := fun j h h2 => h ((i_eq _ _).mpr h2)
    have n0 : ¬ x.toInt = 0 := nj 0 h0
    have n1 : ¬ x.toInt = 1 := nj 1 h1
    have n2 : ¬ x.toInt = 2 := nj 2 h2
    have n3 : ¬ x.toInt = 3 := nj 3 h3
    have n4 : ¬ x.toInt = 4 := nj 4 h4
    have n5 : ¬ x.toInt = 5 := nj 5 h5
    have n6 : ¬ x.toInt = 6 := nj 6 h6
    have n7 : ¬ x.toInt = 7 := nj 7 h7
    have n8 : ¬ x.toInt = 8 := nj 8 h8
    have n9 : ¬ x.toInt = 9 := nj 9 h9
    have n10 : ¬ x.toInt = 10 := nj 10 h10
    have n11 : ¬ x.toInt = 11 := nj 11 h11
    have n12 : ¬ x.toInt = 12 := nj 12 h12
    have n13 : ¬ x.toInt = 13 := nj 13 h13
    have n14 : ¬ x.toInt = 14 := nj 14 h14
    have n15 : ¬ x.toInt = 15 := nj 15 h15
    have n16 : ¬ x.toInt = 16 := nj 16 h16
    have n17 : ¬ x.toInt = 17 := nj 17 h17
    have n18 : ¬ x.toInt = 18 := nj 18 h18
    have n19 : ¬ x.toInt = 19 := nj 19 h19
    have n20 : ¬ x.toInt = 20 := nj 20 h20
    have n21 : ¬ x.toInt = 21 := nj 21 h21
    have n22 : ¬ x.toInt = 22 := nj 22 h22
    have n23 : ¬ x.toInt = 23 := nj 23 h23
    have n24 : ¬ x.toInt = 24 := nj 24 h24
    have n25 : ¬ x.toInt = 25 := nj 25 h25
    have n26 : ¬ x.toInt = 26 := nj 26 h26
    have n27 : ¬ x.toInt = 27 := nj 27 h27
    have n28 : ¬ x.toInt = 28 := nj 28 h28
    have n29 : ¬ x.toInt = 29 := nj 29 h29
    have n30 : ¬ x.toInt = 30 := nj 30 h30
    have n31 : ¬ x.toInt = 31 := nj 31 h31
    have n32 : ¬ x.toInt = 32 := nj 32 h32
    have n33 : ¬ x.toInt = 33 := nj 33 h33
    have n34 : ¬ x.toInt = 34 := nj 34 h34
    have n35 : ¬ x.toInt = 35 := nj 35 h35
    omega
  · refine W.widen (k := cells + 2) (n := slots + 12) (by omega) (by omega) ?_
    exact kk H locs ls z y k o v w tl hs hr hw hl
set_option maxHeartbeats 4000000 in
set_option maxRecDepth 100000 in
theorem law_loop {p : Program} {l : Launch} {e : Env} {R : Room} {s : State} {m : MethodId} {args : Array Value} {below : List Frame} {meth : Method} {c : Code} {Q : State → Prop} {G : GA} {k1 k2 : ClassId} {A : Nat → Prop} {a a2 : Nat → Nat} {sb u1 u2 L : Nat} {xs : Nat → Int32} (S : CallFix p m c cL_law 9 s args lw_tbl RL) (hK : KK G s) (hX : XE l A s) (hL : KL G k1 k2 s) (hA : ∀ q, s.heap.size ≤ q → A q) (hXs : va_X sb L xs s s.heap) (hbl : sb < s.heap.size) (hbA : ¬ A sb) (hLL : L ≤ 2560) (hR : R = room_1) (hAf : ∀ q, A q → s.heap.size ≤ q) (hfin : ∀ (H : Heap) (ls : Array Slot), W p l e R s m args below meth c H [] 3131 120514 Q (F0 m 1970 ls [.int 1])) : ∀ (fu i : Nat) (cells slots : Nat) (H : Heap) (locs : List Loc) (ls : Array Slot) (z y k o : St) (v : Int64) (w : UInt64) (tl : Nat) (hs : Bool), L + 5 - i < fu → i ≤ L + 4 → cells ≤ 40 + i → slots ≤ 2000 + 3 * i → Rl z y k o tl hs → WD G (lwd G k1 k2 a a2 u1 u2 z y k z o v w) A s H locs → lv_has ls 9 [(0, .ref sb), (1, .ref (a 0)), (2, .ref (a2 0)), (3, .ref u1), (4, .ref u2), (5, .int (nI i))] → W p l e R s m args below meth c H locs cells slots Q (F0 m 28 ls []) := by
  intro fu
  induction fu with
  | zero => exact fun _ _ _ _ _ _ _ _ _ _ _ _ _ _ h => absurd h (Nat.not_lt_zero _)
  | succ fu ih =>
    intro i cells slots H locs ls z y k o v w tl hs hm hi hc1 hc2 hr hw hl
    refine lv_iload S.1 S.2.1 dL_law_28 (lv_at hl 5 rfl) ?_
    refine lv_aload_n S.1 S.2.1 dL_law_30 rfl (lv_at hl 0 rfl) ?_
    refine va_slen S.1 S.2.1 hXs hbl hbA hw.2.2 dL_law_31 ?_
    refine lv_iconst (v := 5) S.1 S.2.1 dL_law_32 (by decide) ?_
    refine lv_isub S.1 S.2.1 dL_law_33 ?_
    refine lv_icmp_gt (tgt := 1969) S.1 S.2.1 dL_law_34 (by decide) (fun c1 => ?_) (fun c1 => ?_)
    · refine lv_iconst (v := 1) S.1 S.2.1 dL_law_1969 (by decide) ?_
      refine va_forget (fun q hq => hAf _ (hw.2.2.2.2 q hq)) ?_
      exact W.widen (by omega) (by omega) (hfin H ls)
    · have hi4 : i + 4 < L := lt_5 hLL (by omega) c1
      refine lv_aload_n S.1 S.2.1 dL_law_37 rfl (lv_at hl 0 rfl) ?_
      refine lv_iload S.1 S.2.1 dL_law_38 (lv_at hl 5 rfl) ?_
      refine sld_n (k := i) S hXs hbl hbA hLL hw (by omega) dL_law_40 ?_
      refine lv_bipush (v := 63) S.1 S.2.1 dL_law_41 (by decide) ?_
      refine lv_iand S.1 S.2.1 dL_law_43 ?_
      refine law_sw S hK hX hL hA hXs hbl hbA hLL hR hAf hfin (by omega) (by omega) hi4 hr hw hl (fun H locs ls z y k o v w tl hs hr hw hl => ?_) _
      refine lv_iinc (v := nI (i + 5)) (lv' := [(5, .int (nI (i + 5))), (0, .ref sb), (1, .ref (a 0)), (2, .ref (a2 0)), (3, .ref u1), (4, .ref u2)]) S.1 S.2.1 dL_law_1963 hl (k := 5) rfl (nI_add _ _) (by decide) rfl (fun ls hl => ?_)
      refine lv_goto (tgt := 28) S.1 S.2.1 dL_law_1966 (by decide) ?_
      exact ih (i + 5) (cells + 2) (slots + 12) H locs ls z y k o v w tl hs (by omega) (by omega) (by omega) (by omega) hr hw (lv_sub hl [1, 2, 3, 4, 5, 0] rfl)
