/-- what follows a call of the law: the loop's next turn -/
abbrev LK (p : Program) (l : Launch) (e : Env) (R : Room) (s : State) (m : MethodId) (args : Array Value) (below : List Frame) (meth : Method) (c : Code) (Q : State → Prop) (G : GA) (k1 k2 : ClassId) (a a2 : Nat → Nat) (sb u1 u2 i : Nat) (A : Nat → Prop) (cells slots : Nat) : Prop := ∀ (H : Heap) (locs : List Loc) (ls : Array Slot) (z y k o : St) (v : Int64) (w : UInt64) (tl : Nat) (hs : Bool), Rl z y k o tl hs → WD G (lwd G k1 k2 a a2 u1 u2 z y k z o v w) A s H locs → lv_has ls 9 [(0, .ref sb), (1, .ref (a 0)), (2, .ref (a2 0)), (3, .ref u1), (4, .ref u2), (5, .int (nI i))] → W p l e R s m args below meth c H locs (cells + 2) (slots + 12) Q (F0 m 1963 ls [])

set_option maxHeartbeats 4000000 in
set_option maxRecDepth 100000 in
theorem lc_0 {p : Program} {l : Launch} {e : Env} {R : Room} {s : State} {m : MethodId} {args : Array Value} {below : List Frame} {meth : Method} {c : Code} {H : Heap} {locs : List Loc} {cells slots : Nat} {Q : State → Prop} {G : GA} {k1 k2 : ClassId} {A : Nat → Prop} {a a2 : Nat → Nat} {sb u1 u2 L i : Nat} {xs : Nat → Int32} {z y k o : St} {v : Int64} {w : UInt64} {tl : Nat} {hs : Bool} {ls : Array Slot} (S : CallFix p m c cL_law 9 s args lw_tbl RL) (hK : KK G s) (hX : XE l A s) (hL : KL G k1 k2 s) (hA : ∀ q, s.heap.size ≤ q → A q) (hXs : va_X sb L xs s s.heap) (hbl : sb < s.heap.size) (hbA : ¬ A sb) (hLL : L ≤ 2560) (hR : R = room_1) (hc1 : cells + 2 ≤ 3131) (hc2 : slots + 12 ≤ 120514) (hi : i + 4 < L) (hr : Rl z y k o tl hs) (hw : WD G (lwd G k1 k2 a a2 u1 u2 z y k z o v w) A s H locs) (hl : lv_has ls 9 [(0, .ref sb), (1, .ref (a 0)), (2, .ref (a2 0)), (3, .ref u1), (4, .ref u2), (5, .int (nI i))]) (kk : LK p l e R s m args below meth c Q G k1 k2 a a2 sb u1 u2 i A cells slots) : W p l e R s m args below meth c H locs cells slots Q (F0 m 204 ls []) := by
  refine lv_aload_n S.1 S.2.1 dL_law_204 rfl (lv_at hl 1 rfl) ?_
  refine lv_aload_n S.1 S.2.1 dL_law_205 rfl (lv_at hl 0 rfl) ?_
  refine lv_iload S.1 S.2.1 dL_law_206 (lv_at hl 5 rfl) ?_
  refine lv_iconst (v := 1) S.1 S.2.1 dL_law_208 (by decide) ?_
  refine addN (a := i) (b := 1) S dL_law_209 ?_
  refine sld_n (k := i + 1) S hXs hbl hbA hLL hw (by omega) dL_law_210 ?_
  refine lv_aload_n S.1 S.2.1 dL_law_211 rfl (lv_at hl 3 rfl) ?_
  have hwc : WD G (gL G k1 a z y k u1 (v)) A s H _ := hw.sub [0, 1, 2, 3, 4, 5, 6, 7, 8, 9, 10, 11, 12, 13, 14, 15, 16, 17, 18, 19, 20, 21, 22, 23, 24, 25, 26, 27] rfl rfl
  have hx9 := xc_le (pS 2 1 20 ((xs (i + 1))) z : PO).1
  refine cx_i (wc := (gL G k1 a z y k u1 (v))) (wr := ([(u2, .inl (k2, (1, .inr (.inr (.inr (.inl (fun _ => w)))))))] ++ mp G a2 z o)) (vx_runSX (hh := [(0, 9, 12, 13)]) (As := [.ref (a 0), .int (xs (i + 1)), .ref (u1)]) (rest := []) S (c_L_setPatience l G k1 k2 u1 (v) a z y k H.size ((xs (i + 1))) ) (vx_cwSW 3 S.2.2.2.2 gL_law_L_setPatience rfl rfl rfl hd_L_setPatience ⟨by rw [hR]; exact Nat.le_of_ble_eq_true rfl, by rw [hR]; exact Nat.le_of_ble_eq_true rfl⟩) ⟨PL.blind, fun U hU hW => ⟨rfl, PL.of hK hX hL hwc (va_free hw.2.1 hw.2.2 hA [0, 1, 2, 3, 4, 5, 6, 7, 8, 9, 10, 11, 12, 13, 14, 15, 16, 17, 18, 19, 20, 21, 22, 23, 24, 25, 26, 27] rfl) hU hW⟩⟩ rfl rfl hl.1 rfl (lv_room (Nat.le_of_ble_eq_true rfl)) dL_law_212 ⟨by rw [hR]; show _ ≤ 3131; omega, by rw [hR]; show _ ≤ 120514; omega⟩) hw hA [0, 1, 2, 3, 4, 5, 6, 7, 8, 9, 10, 11, 12, 13, 14, 15, 16, 17, 18, 19, 20, 21, 22, 23, 24, 25, 26, 27] [28, 29, 30, 31, 32, 33] rfl rfl rfl rfl (by decide) (fun _ => rfl) (fun _ => rfl) (fun ce q9 u9 H locs hpx hw9 g1 g2 g3 => absurd hpx id) (fun r9 u9 H locs hp9 hw9 => ?_)
  obtain ⟨⟨z9, y9, k9⟩, v9⟩ := u9
  obtain ⟨rfl, e9, ev⟩ := hp9
  have e9 : (z9, y9, k9) = ((pS 2 1 20 ((xs (i + 1))) z : PO).2.2, y, k) := e9
  cases e9
  have ev : (pS 2 1 20 ((xs (i + 1))) z : PO).1 = 0 → v9 = ((pS 2 1 20 ((xs (i + 1))) z : PO).2.1).toInt64 := ev
  have hw : WD G (lwd G k1 k2 a a2 u1 u2 (pS 2 1 20 ((xs (i + 1))) z : PO).2.2 y k z o (v9) (w)) A s H locs := hw9.sub [6, 7, 8, 9, 10, 11, 12, 13, 14, 15, 16, 17, 18, 19, 20, 21, 22, 23, 24, 25, 26, 27, 28, 29, 30, 31, 32, 33, 0, 1, 2, 3, 4, 5] rfl rfl
  refine lv_istore (lv' := [(6, .int ((pS 2 1 20 ((xs (i + 1))) z : PO).1)), (0, .ref (sb)), (1, .ref (a 0)), (2, .ref (a2 0)), (3, .ref (u1)), (4, .ref (u2)), (5, .int (nI (i)))]) S.1 S.2.1 dL_law_215 hl (by decide) rfl (fun ls hl => ?_)
  refine lv_aload_n S.1 S.2.1 dL_law_217 rfl (lv_at hl 3 rfl) ?_
  refine lv_aload_n S.1 S.2.1 dL_law_218 rfl (lv_at hl 1 rfl) ?_
  refine lv_iload S.1 S.2.1 dL_law_219 (lv_at hl 6 rfl) ?_
  refine lv_iconst (v := 1) S.1 S.2.1 dL_law_221 (by decide) ?_
  refine addN (a := i) (b := 1) S dL_law_222 ?_
  refine sld_n (k := i + 1) S hXs hbl hbA hLL hw (by omega) dL_law_223 ?_
  have hwc : WD G (mp G a2 z o) A s H _ := hw.sub [29, 30, 31, 32, 33] rfl rfl
  refine cj_i (wc := (mp G a2 z o)) (wr := (gp G a (pS 2 1 20 ((xs (i + 1))) z : PO).2.2 y k ++ [(u1, .inl (k1, (1, .inr (.inl (fun _ => v9))))), (u2, .inl (k2, (1, .inr (.inr (.inr (.inl (fun _ => w)))))))])) (va_runV (As := [.int (xs (i + 1))]) (rest := []) S (c_X5_setPatience l G a2 z o H.size ((xs (i + 1))) ) (cwV 1 S.2.2.2.2 gL_law_X5_setPatience rfl rfl rfl hd_X5_setPatience ⟨by rw [hR]; exact Nat.le_of_ble_eq_true rfl, by rw [hR]; exact Nat.le_of_ble_eq_true rfl⟩) ⟨PW.blind, va_recv hK.1 hwc.1 (ci := 5) (q0 := 0) rfl rfl, fun U hU hW => ⟨rfl, PW.of hK hwc hU hW⟩⟩ rfl rfl hl.1 rfl (lv_room (Nat.le_of_ble_eq_true rfl)) dL_law_224 ⟨by rw [hR]; show _ ≤ 3131; omega, by rw [hR]; show _ ≤ 120514; omega⟩) hw hA [29, 30, 31, 32, 33] [0, 1, 2, 3, 4, 5, 6, 7, 8, 9, 10, 11, 12, 13, 14, 15, 16, 17, 18, 19, 20, 21, 22, 23, 24, 25, 26, 27, 28] rfl rfl rfl rfl (by decide) (fun _ => rfl) (fun r9 x9 H locs hp9 hw9 => ?_)
  obtain ⟨z9, o9⟩ := x9
  obtain ⟨e0, e1, hrt, ht9⟩ := hp9
  have e1 : (pS 2 1 20 ((xs (i + 1))) z : PO).2.2 = z9 := (e1).symm
  subst e1
  have ht9 : o9 0 0 = (pS 2 1 20 ((xs (i + 1))) z : PO).1 := ht9
  have hw : WD G (lwd G k1 k2 a a2 u1 u2 (pS 2 1 20 ((xs (i + 1))) z : PO).2.2 y k (pS 2 1 20 ((xs (i + 1))) z : PO).2.2 o9 (v9) (w)) A s H locs := hw9
  have e0 : r9 = (pS 2 1 20 ((xs (i + 1))) z : PO).2.1 := e0
  subst e0
  refine lv_istore (lv' := [(7, .int ((pS 2 1 20 ((xs (i + 1))) z : PO).2.1)), (6, .int ((pS 2 1 20 ((xs (i + 1))) z : PO).1)), (0, .ref (sb)), (1, .ref (a 0)), (2, .ref (a2 0)), (3, .ref (u1)), (4, .ref (u2)), (5, .int (nI (i)))]) S.1 S.2.1 dL_law_227 hl (by decide) rfl (fun ls hl => ?_)
  refine lv_aload_n S.1 S.2.1 dL_law_229 rfl (lv_at hl 4 rfl) ?_
  have hwc : WD G (mp G a2 (pS 2 1 20 ((xs (i + 1))) z : PO).2.2 o9) A s H _ := hw.sub [29, 30, 31, 32, 33] rfl rfl
  refine cj_i (wc := (mp G a2 (pS 2 1 20 ((xs (i + 1))) z : PO).2.2 o9)) (wr := (gp G a (pS 2 1 20 ((xs (i + 1))) z : PO).2.2 y k ++ [(u1, .inl (k1, (1, .inr (.inl (fun _ => v9))))), (u2, .inl (k2, (1, .inr (.inr (.inr (.inl (fun _ => w)))))))])) (va_runV (As := []) (rest := []) S (c_X5_thrown l G a2 (pS 2 1 20 ((xs (i + 1))) z : PO).2.2 o9 H.size  ) (cwV 0 S.2.2.2.2 gL_law_X5_thrown rfl rfl rfl hd_X5_thrown ⟨by rw [hR]; exact Nat.le_of_ble_eq_true rfl, by rw [hR]; exact Nat.le_of_ble_eq_true rfl⟩) ⟨PW.blind, va_recv hK.1 hwc.1 (ci := 5) (q0 := 0) rfl rfl, fun U hU hW => ⟨rfl, PW.of hK hwc hU hW⟩⟩ rfl rfl hl.1 rfl (lv_room (Nat.le_of_ble_eq_true rfl)) dL_law_230 ⟨by rw [hR]; show _ ≤ 3131; omega, by rw [hR]; show _ ≤ 120514; omega⟩) hw hA [29, 30, 31, 32, 33] [0, 1, 2, 3, 4, 5, 6, 7, 8, 9, 10, 11, 12, 13, 14, 15, 16, 17, 18, 19, 20, 21, 22, 23, 24, 25, 26, 27, 28] rfl rfl rfl rfl (by decide) (fun _ => rfl) (fun t9 x8 H locs hp9 hw9 => ?_)
  obtain ⟨z8, o8⟩ := x8
  obtain ⟨e1, e2, e3⟩ := hp9
  dsimp only at e2 e3
  have e2 := e2.symm
  have e3 := e3.symm
  subst e2
  subst e3
  have hw : WD G (lwd G k1 k2 a a2 u1 u2 (pS 2 1 20 ((xs (i + 1))) z : PO).2.2 y k (pS 2 1 20 ((xs (i + 1))) z : PO).2.2 o9 (v9) (w)) A s H locs := hw9
  refine top_to (v := (pS 2 1 20 ((xs (i + 1))) z : PO).1) S (e1.trans ht9) ?_
  refine lv_iload S.1 S.2.1 dL_law_233 (lv_at hl 1 rfl) ?_
  refine lv_icmp_eq (tgt := 240) S.1 S.2.1 dL_law_235 (by decide) (fun _ => ?_) (fun c8 => absurd rfl c8)
  refine lv_iload S.1 S.2.1 dL_law_240 (lv_at hl 1 rfl) ?_
  refine lv_if_ne (tgt := 257) S.1 S.2.1 dL_law_242 (by decide) (fun _ => ?_) (fun c8 => ?_)
  · skip
    refine lv_goto (tgt := 1963) S.1 S.2.1 dL_law_257 (by decide) ?_
    refine W.widen (k := cells + 2) (n := slots + 12) (by omega) (by omega) ?_
    exact kk H locs ls (pS 2 1 20 ((xs (i + 1))) z : PO).2.2 y k o9 (v9) (w) _ _ (hr.go (inv_pS hr.1.1 (Or.inl rfl)) hrt) hw (lv_sub hl [2, 3, 4, 5, 6, 7] rfl)
  · skip
    have c9 : (pS 2 1 20 ((xs (i + 1))) z : PO).1 = 0 := by first | exact c8 | exact Decidable.not_not.mp c8
    have e9 := ev c9
    subst e9
    have hw : WD G (lwd G k1 k2 a a2 u1 u2 (pS 2 1 20 ((xs (i + 1))) z : PO).2.2 y k (pS 2 1 20 ((xs (i + 1))) z : PO).2.2 o9 (((pS 2 1 20 ((xs (i + 1))) z : PO).2.1).toInt64) (w)) A s H locs := hw
    refine lv_aload_n S.1 S.2.1 dL_law_245 rfl (lv_at hl 5 rfl) ?_
    refine lv_iconst (v := 0) S.1 S.2.1 dL_law_246 (by decide) ?_
    refine la_l S hL hw 27 rfl dL_law_247 ?_
    refine lv_iload S.1 S.2.1 dL_law_248 (lv_at hl 0 rfl) ?_
    refine lv_i2l S.1 S.2.1 dL_law_250 rfl ?_
    refine lcmp_s S.1 S.2.1 rfl dL_law_251 ?_
    refine lv_if_eq (tgt := 257) S.1 S.2.1 dL_law_252 (by decide) (fun c1 => ?_) (fun c1 => ?_)
    · skip
      refine lv_goto (tgt := 1963) S.1 S.2.1 dL_law_257 (by decide) ?_
      refine W.widen (k := cells + 2) (n := slots + 12) (by omega) (by omega) ?_
      exact kk H locs ls (pS 2 1 20 ((xs (i + 1))) z : PO).2.2 y k o9 (((pS 2 1 20 ((xs (i + 1))) z : PO).2.1).toInt64) (w) _ _ (hr.go (inv_pS hr.1.1 (Or.inl rfl)) hrt) hw (lv_sub hl [2, 3, 4, 5, 6, 7] rfl)
    · skip
      exact absurd c1 (by decide)

set_option maxHeartbeats 4000000 in
set_option maxRecDepth 100000 in
theorem lc_1 {p : Program} {l : Launch} {e : Env} {R : Room} {s : State} {m : MethodId} {args : Array Value} {below : List Frame} {meth : Method} {c : Code} {H : Heap} {locs : List Loc} {cells slots : Nat} {Q : State → Prop} {G : GA} {k1 k2 : ClassId} {A : Nat → Prop} {a a2 : Nat → Nat} {sb u1 u2 L i : Nat} {xs : Nat → Int32} {z y k o : St} {v : Int64} {w : UInt64} {tl : Nat} {hs : Bool} {ls : Array Slot} (S : CallFix p m c cL_law 9 s args lw_tbl RL) (hK : KK G s) (hX : XE l A s) (hL : KL G k1 k2 s) (hA : ∀ q, s.heap.size ≤ q → A q) (hXs : va_X sb L xs s s.heap) (hbl : sb < s.heap.size) (hbA : ¬ A sb) (hLL : L ≤ 2560) (hR : R = room_1) (hc1 : cells + 2 ≤ 3131) (hc2 : slots + 12 ≤ 120514) (hi : i + 4 < L) (hr : Rl z y k o tl hs) (hw : WD G (lwd G k1 k2 a a2 u1 u2 z y k z o v w) A s H locs) (hl : lv_has ls 9 [(0, .ref sb), (1, .ref (a 0)), (2, .ref (a2 0)), (3, .ref u1), (4, .ref u2), (5, .int (nI i))]) (kk : LK p l e R s m args below meth c Q G k1 k2 a a2 sb u1 u2 i A cells slots) : W p l e R s m args below meth c H locs cells slots Q (F0 m 260 ls []) := by
  refine lv_aload_n S.1 S.2.1 dL_law_260 rfl (lv_at hl 1 rfl) ?_
  refine lv_aload_n S.1 S.2.1 dL_law_261 rfl (lv_at hl 0 rfl) ?_
  refine lv_iload S.1 S.2.1 dL_law_262 (lv_at hl 5 rfl) ?_
  refine lv_iconst (v := 1) S.1 S.2.1 dL_law_264 (by decide) ?_
  refine addN (a := i) (b := 1) S dL_law_265 ?_
  refine sld_n (k := i + 1) S hXs hbl hbA hLL hw (by omega) dL_law_266 ?_
  refine lv_aload_n S.1 S.2.1 dL_law_267 rfl (lv_at hl 3 rfl) ?_
  have hwc : WD G (gL G k1 a z y k u1 (v)) A s H _ := hw.sub [0, 1, 2, 3, 4, 5, 6, 7, 8, 9, 10, 11, 12, 13, 14, 15, 16, 17, 18, 19, 20, 21, 22, 23, 24, 25, 26, 27] rfl rfl
  have hx9 := xc_le (pS 3 1 9 ((xs (i + 1))) z : PO).1
  refine cx_i (wc := (gL G k1 a z y k u1 (v))) (wr := ([(u2, .inl (k2, (1, .inr (.inr (.inr (.inl (fun _ => w)))))))] ++ mp G a2 z o)) (vx_runSX (hh := [(0, 9, 12, 13)]) (As := [.ref (a 0), .int (xs (i + 1)), .ref (u1)]) (rest := []) S (c_L_setFanOut l G k1 k2 u1 (v) a z y k H.size ((xs (i + 1))) ) (vx_cwSW 3 S.2.2.2.2 gL_law_L_setFanOut rfl rfl rfl hd_L_setFanOut ⟨by rw [hR]; exact Nat.le_of_ble_eq_true rfl, by rw [hR]; exact Nat.le_of_ble_eq_true rfl⟩) ⟨PL.blind, fun U hU hW => ⟨rfl, PL.of hK hX hL hwc (va_free hw.2.1 hw.2.2 hA [0, 1, 2, 3, 4, 5, 6, 7, 8, 9, 10, 11, 12, 13, 14, 15, 16, 17, 18, 19, 20, 21, 22, 23, 24, 25, 26, 27] rfl) hU hW⟩⟩ rfl rfl hl.1 rfl (lv_room (Nat.le_of_ble_eq_true rfl)) dL_law_268 ⟨by rw [hR]; show _ ≤ 3131; omega, by rw [hR]; show _ ≤ 120514; omega⟩) hw hA [0, 1, 2, 3, 4, 5, 6, 7, 8, 9, 10, 11, 12, 13, 14, 15, 16, 17, 18, 19, 20, 21, 22, 23, 24, 25, 26, 27] [28, 29, 30, 31, 32, 33] rfl rfl rfl rfl (by decide) (fun _ => rfl) (fun _ => rfl) (fun ce q9 u9 H locs hpx hw9 g1 g2 g3 => absurd hpx id) (fun r9 u9 H locs hp9 hw9 => ?_)
  obtain ⟨⟨z9, y9, k9⟩, v9⟩ := u9
  obtain ⟨rfl, e9, ev⟩ := hp9
  have e9 : (z9, y9, k9) = ((pS 3 1 9 ((xs (i + 1))) z : PO).2.2, y, k) := e9
  cases e9
  have ev : (pS 3 1 9 ((xs (i + 1))) z : PO).1 = 0 → v9 = ((pS 3 1 9 ((xs (i + 1))) z : PO).2.1).toInt64 := ev
  have hw : WD G (lwd G k1 k2 a a2 u1 u2 (pS 3 1 9 ((xs (i + 1))) z : PO).2.2 y k z o (v9) (w)) A s H locs := hw9.sub [6, 7, 8, 9, 10, 11, 12, 13, 14, 15, 16, 17, 18, 19, 20, 21, 22, 23, 24, 25, 26, 27, 28, 29, 30, 31, 32, 33, 0, 1, 2, 3, 4, 5] rfl rfl
  refine lv_istore (lv' := [(6, .int ((pS 3 1 9 ((xs (i + 1))) z : PO).1)), (0, .ref (sb)), (1, .ref (a 0)), (2, .ref (a2 0)), (3, .ref (u1)), (4, .ref (u2)), (5, .int (nI (i)))]) S.1 S.2.1 dL_law_271 hl (by decide) rfl (fun ls hl => ?_)
  refine lv_aload_n S.1 S.2.1 dL_law_273 rfl (lv_at hl 3 rfl) ?_
  refine lv_aload_n S.1 S.2.1 dL_law_274 rfl (lv_at hl 1 rfl) ?_
  refine lv_iload S.1 S.2.1 dL_law_275 (lv_at hl 6 rfl) ?_
  refine lv_iconst (v := 1) S.1 S.2.1 dL_law_277 (by decide) ?_
  refine addN (a := i) (b := 1) S dL_law_278 ?_
  refine sld_n (k := i + 1) S hXs hbl hbA hLL hw (by omega) dL_law_279 ?_
  have hwc : WD G (mp G a2 z o) A s H _ := hw.sub [29, 30, 31, 32, 33] rfl rfl
  refine cj_i (wc := (mp G a2 z o)) (wr := (gp G a (pS 3 1 9 ((xs (i + 1))) z : PO).2.2 y k ++ [(u1, .inl (k1, (1, .inr (.inl (fun _ => v9))))), (u2, .inl (k2, (1, .inr (.inr (.inr (.inl (fun _ => w)))))))])) (va_runV (As := [.int (xs (i + 1))]) (rest := []) S (c_X5_setFanOut l G a2 z o H.size ((xs (i + 1))) ) (cwV 1 S.2.2.2.2 gL_law_X5_setFanOut rfl rfl rfl hd_X5_setFanOut ⟨by rw [hR]; exact Nat.le_of_ble_eq_true rfl, by rw [hR]; exact Nat.le_of_ble_eq_true rfl⟩) ⟨PW.blind, va_recv hK.1 hwc.1 (ci := 5) (q0 := 0) rfl rfl, fun U hU hW => ⟨rfl, PW.of hK hwc hU hW⟩⟩ rfl rfl hl.1 rfl (lv_room (Nat.le_of_ble_eq_true rfl)) dL_law_280 ⟨by rw [hR]; show _ ≤ 3131; omega, by rw [hR]; show _ ≤ 120514; omega⟩) hw hA [29, 30, 31, 32, 33] [0, 1, 2, 3, 4, 5, 6, 7, 8, 9, 10, 11, 12, 13, 14, 15, 16, 17, 18, 19, 20, 21, 22, 23, 24, 25, 26, 27, 28] rfl rfl rfl rfl (by decide) (fun _ => rfl) (fun r9 x9 H locs hp9 hw9 => ?_)
  obtain ⟨z9, o9⟩ := x9
  obtain ⟨e0, e1, hrt, ht9⟩ := hp9
  have e1 : (pS 3 1 9 ((xs (i + 1))) z : PO).2.2 = z9 := (e1).symm
  subst e1
  have ht9 : o9 0 0 = (pS 3 1 9 ((xs (i + 1))) z : PO).1 := ht9
  have hw : WD G (lwd G k1 k2 a a2 u1 u2 (pS 3 1 9 ((xs (i + 1))) z : PO).2.2 y k (pS 3 1 9 ((xs (i + 1))) z : PO).2.2 o9 (v9) (w)) A s H locs := hw9
  have e0 : r9 = (pS 3 1 9 ((xs (i + 1))) z : PO).2.1 := e0
  subst e0
  refine lv_istore (lv' := [(7, .int ((pS 3 1 9 ((xs (i + 1))) z : PO).2.1)), (6, .int ((pS 3 1 9 ((xs (i + 1))) z : PO).1)), (0, .ref (sb)), (1, .ref (a 0)), (2, .ref (a2 0)), (3, .ref (u1)), (4, .ref (u2)), (5, .int (nI (i)))]) S.1 S.2.1 dL_law_283 hl (by decide) rfl (fun ls hl => ?_)
  refine lv_aload_n S.1 S.2.1 dL_law_285 rfl (lv_at hl 4 rfl) ?_
  have hwc : WD G (mp G a2 (pS 3 1 9 ((xs (i + 1))) z : PO).2.2 o9) A s H _ := hw.sub [29, 30, 31, 32, 33] rfl rfl
  refine cj_i (wc := (mp G a2 (pS 3 1 9 ((xs (i + 1))) z : PO).2.2 o9)) (wr := (gp G a (pS 3 1 9 ((xs (i + 1))) z : PO).2.2 y k ++ [(u1, .inl (k1, (1, .inr (.inl (fun _ => v9))))), (u2, .inl (k2, (1, .inr (.inr (.inr (.inl (fun _ => w)))))))])) (va_runV (As := []) (rest := []) S (c_X5_thrown l G a2 (pS 3 1 9 ((xs (i + 1))) z : PO).2.2 o9 H.size  ) (cwV 0 S.2.2.2.2 gL_law_X5_thrown rfl rfl rfl hd_X5_thrown ⟨by rw [hR]; exact Nat.le_of_ble_eq_true rfl, by rw [hR]; exact Nat.le_of_ble_eq_true rfl⟩) ⟨PW.blind, va_recv hK.1 hwc.1 (ci := 5) (q0 := 0) rfl rfl, fun U hU hW => ⟨rfl, PW.of hK hwc hU hW⟩⟩ rfl rfl hl.1 rfl (lv_room (Nat.le_of_ble_eq_true rfl)) dL_law_286 ⟨by rw [hR]; show _ ≤ 3131; omega, by rw [hR]; show _ ≤ 120514; omega⟩) hw hA [29, 30, 31, 32, 33] [0, 1, 2, 3, 4, 5, 6, 7, 8, 9, 10, 11, 12, 13, 14, 15, 16, 17, 18, 19, 20, 21, 22, 23, 24, 25, 26, 27, 28] rfl rfl rfl rfl (by decide) (fun _ => rfl) (fun t9 x8 H locs hp9 hw9 => ?_)
  obtain ⟨z8, o8⟩ := x8
  obtain ⟨e1, e2, e3⟩ := hp9
  dsimp only at e2 e3
  have e2 := e2.symm
  have e3 := e3.symm
  subst e2
  subst e3
  have hw : WD G (lwd G k1 k2 a a2 u1 u2 (pS 3 1 9 ((xs (i + 1))) z : PO).2.2 y k (pS 3 1 9 ((xs (i + 1))) z : PO).2.2 o9 (v9) (w)) A s H locs := hw9
  refine top_to (v := (pS 3 1 9 ((xs (i + 1))) z : PO).1) S (e1.trans ht9) ?_
  refine lv_iload S.1 S.2.1 dL_law_289 (lv_at hl 1 rfl) ?_
  refine lv_icmp_eq (tgt := 296) S.1 S.2.1 dL_law_291 (by decide) (fun _ => ?_) (fun c8 => absurd rfl c8)
  refine lv_iload S.1 S.2.1 dL_law_296 (lv_at hl 1 rfl) ?_
  refine lv_if_ne (tgt := 313) S.1 S.2.1 dL_law_298 (by decide) (fun _ => ?_) (fun c8 => ?_)
  · skip
    refine lv_goto (tgt := 1963) S.1 S.2.1 dL_law_313 (by decide) ?_
    refine W.widen (k := cells + 2) (n := slots + 12) (by omega) (by omega) ?_
    exact kk H locs ls (pS 3 1 9 ((xs (i + 1))) z : PO).2.2 y k o9 (v9) (w) _ _ (hr.go (inv_pS hr.1.1 (Or.inr rfl)) hrt) hw (lv_sub hl [2, 3, 4, 5, 6, 7] rfl)
  · skip
    have c9 : (pS 3 1 9 ((xs (i + 1))) z : PO).1 = 0 := by first | exact c8 | exact Decidable.not_not.mp c8
    have e9 := ev c9
    subst e9
    have hw : WD G (lwd G k1 k2 a a2 u1 u2 (pS 3 1 9 ((xs (i + 1))) z : PO).2.2 y k (pS 3 1 9 ((xs (i + 1))) z : PO).2.2 o9 (((pS 3 1 9 ((xs (i + 1))) z : PO).2.1).toInt64) (w)) A s H locs := hw
    refine lv_aload_n S.1 S.2.1 dL_law_301 rfl (lv_at hl 5 rfl) ?_
    refine lv_iconst (v := 0) S.1 S.2.1 dL_law_302 (by decide) ?_
    refine la_l S hL hw 27 rfl dL_law_303 ?_
    refine lv_iload S.1 S.2.1 dL_law_304 (lv_at hl 0 rfl) ?_
    refine lv_i2l S.1 S.2.1 dL_law_306 rfl ?_
    refine lcmp_s S.1 S.2.1 rfl dL_law_307 ?_
    refine lv_if_eq (tgt := 313) S.1 S.2.1 dL_law_308 (by decide) (fun c1 => ?_) (fun c1 => ?_)
    · skip
      refine lv_goto (tgt := 1963) S.1 S.2.1 dL_law_313 (by decide) ?_
      refine W.widen (k := cells + 2) (n := slots + 12) (by omega) (by omega) ?_
      exact kk H locs ls (pS 3 1 9 ((xs (i + 1))) z : PO).2.2 y k o9 (((pS 3 1 9 ((xs (i + 1))) z : PO).2.1).toInt64) (w) _ _ (hr.go (inv_pS hr.1.1 (Or.inr rfl)) hrt) hw (lv_sub hl [2, 3, 4, 5, 6, 7] rfl)
    · skip
      exact absurd c1 (by decide)

set_option maxHeartbeats 4000000 in
set_option maxRecDepth 100000 in
theorem lc_2 {p : Program} {l : Launch} {e : Env} {R : Room} {s : State} {m : MethodId} {args : Array Value} {below : List Frame} {meth : Method} {c : Code} {H : Heap} {locs : List Loc} {cells slots : Nat} {Q : State → Prop} {G : GA} {k1 k2 : ClassId} {A : Nat → Prop} {a a2 : Nat → Nat} {sb u1 u2 L i : Nat} {xs : Nat → Int32} {z y k o : St} {v : Int64} {w : UInt64} {tl : Nat} {hs : Bool} {ls : Array Slot} (S : CallFix p m c cL_law 9 s args lw_tbl RL) (hK : KK G s) (hX : XE l A s) (hL : KL G k1 k2 s) (hA : ∀ q, s.heap.size ≤ q → A q) (hXs : va_X sb L xs s s.heap) (hbl : sb < s.heap.size) (hbA : ¬ A sb) (hLL : L ≤ 2560) (hR : R = room_1) (hc1 : cells + 2 ≤ 3131) (hc2 : slots + 12 ≤ 120514) (hi : i + 4 < L) (hr : Rl z y k o tl hs) (hw : WD G (lwd G k1 k2 a a2 u1 u2 z y k z o v w) A s H locs) (hl : lv_has ls 9 [(0, .ref sb), (1, .ref (a 0)), (2, .ref (a2 0)), (3, .ref u1), (4, .ref u2), (5, .int (nI i))]) (kk : LK p l e R s m args below meth c Q G k1 k2 a a2 sb u1 u2 i A cells slots) : W p l e R s m args below meth c H locs cells slots Q (F0 m 316 ls []) := by
  refine lv_aload_n S.1 S.2.1 dL_law_316 rfl (lv_at hl 1 rfl) ?_
  refine lv_aload_n S.1 S.2.1 dL_law_317 rfl (lv_at hl 0 rfl) ?_
  refine lv_iload S.1 S.2.1 dL_law_318 (lv_at hl 5 rfl) ?_
  refine lv_iconst (v := 1) S.1 S.2.1 dL_law_320 (by decide) ?_
  refine addN (a := i) (b := 1) S dL_law_321 ?_
  refine sld_n (k := i + 1) S hXs hbl hbA hLL hw (by omega) dL_law_322 ?_
  refine lv_aload_n S.1 S.2.1 dL_law_323 rfl (lv_at hl 3 rfl) ?_
  have hwc : WD G (gL G k1 a z y k u1 (v)) A s H _ := hw.sub [0, 1, 2, 3, 4, 5, 6, 7, 8, 9, 10, 11, 12, 13, 14, 15, 16, 17, 18, 19, 20, 21, 22, 23, 24, 25, 26, 27] rfl rfl
  have hx9 := xc_le (pS 4 0 3 ((xs (i + 1))) z : PO).1
  refine cx_i (wc := (gL G k1 a z y k u1 (v))) (wr := ([(u2, .inl (k2, (1, .inr (.inr (.inr (.inl (fun _ => w)))))))] ++ mp G a2 z o)) (vx_runSX (hh := [(0, 9, 12, 13)]) (As := [.ref (a 0), .int (xs (i + 1)), .ref (u1)]) (rest := []) S (c_L_setHelpers l G k1 k2 u1 (v) a z y k H.size ((xs (i + 1))) ) (vx_cwSW 3 S.2.2.2.2 gL_law_L_setHelpers rfl rfl rfl hd_L_setHelpers ⟨by rw [hR]; exact Nat.le_of_ble_eq_true rfl, by rw [hR]; exact Nat.le_of_ble_eq_true rfl⟩) ⟨PL.blind, fun U hU hW => ⟨rfl, PL.of hK hX hL hwc (va_free hw.2.1 hw.2.2 hA [0, 1, 2, 3, 4, 5, 6, 7, 8, 9, 10, 11, 12, 13, 14, 15, 16, 17, 18, 19, 20, 21, 22, 23, 24, 25, 26, 27] rfl) hU hW⟩⟩ rfl rfl hl.1 rfl (lv_room (Nat.le_of_ble_eq_true rfl)) dL_law_324 ⟨by rw [hR]; show _ ≤ 3131; omega, by rw [hR]; show _ ≤ 120514; omega⟩) hw hA [0, 1, 2, 3, 4, 5, 6, 7, 8, 9, 10, 11, 12, 13, 14, 15, 16, 17, 18, 19, 20, 21, 22, 23, 24, 25, 26, 27] [28, 29, 30, 31, 32, 33] rfl rfl rfl rfl (by decide) (fun _ => rfl) (fun _ => rfl) (fun ce q9 u9 H locs hpx hw9 g1 g2 g3 => absurd hpx id) (fun r9 u9 H locs hp9 hw9 => ?_)
  obtain ⟨⟨z9, y9, k9⟩, v9⟩ := u9
  obtain ⟨rfl, e9, ev⟩ := hp9
  have e9 : (z9, y9, k9) = ((pS 4 0 3 ((xs (i + 1))) z : PO).2.2, y, k) := e9
  cases e9
  have ev : (pS 4 0 3 ((xs (i + 1))) z : PO).1 = 0 → v9 = ((pS 4 0 3 ((xs (i + 1))) z : PO).2.1).toInt64 := ev
  have hw : WD G (lwd G k1 k2 a a2 u1 u2 (pS 4 0 3 ((xs (i + 1))) z : PO).2.2 y k z o (v9) (w)) A s H locs := hw9.sub [6, 7, 8, 9, 10, 11, 12, 13, 14, 15, 16, 17, 18, 19, 20, 21, 22, 23, 24, 25, 26, 27, 28, 29, 30, 31, 32, 33, 0, 1, 2, 3, 4, 5] rfl rfl
  refine lv_istore (lv' := [(6, .int ((pS 4 0 3 ((xs (i + 1))) z : PO).1)), (0, .ref (sb)), (1, .ref (a 0)), (2, .ref (a2 0)), (3, .ref (u1)), (4, .ref (u2)), (5, .int (nI (i)))]) S.1 S.2.1 dL_law_327 hl (by decide) rfl (fun ls hl => ?_)
  refine lv_aload_n S.1 S.2.1 dL_law_329 rfl (lv_at hl 3 rfl) ?_
  refine lv_aload_n S.1 S.2.1 dL_law_330 rfl (lv_at hl 1 rfl) ?_
  refine lv_iload S.1 S.2.1 dL_law_331 (lv_at hl 6 rfl) ?_
  refine lv_iconst (v := 1) S.1 S.2.1 dL_law_333 (by decide) ?_
  refine addN (a := i) (b := 1) S dL_law_334 ?_
  refine sld_n (k := i + 1) S hXs hbl hbA hLL hw (by omega) dL_law_335 ?_
  have hwc : WD G (mp G a2 z o) A s H _ := hw.sub [29, 30, 31, 32, 33] rfl rfl
  refine cj_i (wc := (mp G a2 z o)) (wr := (gp G a (pS 4 0 3 ((xs (i + 1))) z : PO).2.2 y k ++ [(u1, .inl (k1, (1, .inr (.inl (fun _ => v9))))), (u2, .inl (k2, (1, .inr (.inr (.inr (.inl (fun _ => w)))))))])) (va_runV (As := [.int (xs (i + 1))]) (rest := []) S (c_X5_setHelpers l G a2 z o H.size ((xs (i + 1))) ) (cwV 1 S.2.2.2.2 gL_law_X5_setHelpers rfl rfl rfl hd_X5_setHelpers ⟨by rw [hR]; exact Nat.le_of_ble_eq_true rfl, by rw [hR]; exact Nat.le_of_ble_eq_true rfl⟩) ⟨PW.blind, va_recv hK.1 hwc.1 (ci := 5) (q0 := 0) rfl rfl, fun U hU hW => ⟨rfl, PW.of hK hwc hU hW⟩⟩ rfl rfl hl.1 rfl (lv_room (Nat.le_of_ble_eq_true rfl)) dL_law_336 ⟨by rw [hR]; show _ ≤ 3131; omega, by rw [hR]; show _ ≤ 120514; omega⟩) hw hA [29, 30, 31, 32, 33] [0, 1, 2, 3, 4, 5, 6, 7, 8, 9, 10, 11, 12, 13, 14, 15, 16, 17, 18, 19, 20, 21, 22, 23, 24, 25, 26, 27, 28] rfl rfl rfl rfl (by decide) (fun _ => rfl) (fun r9 x9 H locs hp9 hw9 => ?_)
  obtain ⟨z9, o9⟩ := x9
  obtain ⟨e0, e1, hrt, ht9⟩ := hp9
  have e1 : (pS 4 0 3 ((xs (i + 1))) z : PO).2.2 = z9 := (e1).symm
  subst e1
  have ht9 : o9 0 0 = (pS 4 0 3 ((xs (i + 1))) z : PO).1 := ht9
  have hw : WD G (lwd G k1 k2 a a2 u1 u2 (pS 4 0 3 ((xs (i + 1))) z : PO).2.2 y k (pS 4 0 3 ((xs (i + 1))) z : PO).2.2 o9 (v9) (w)) A s H locs := hw9
  have e0 : r9 = (pS 4 0 3 ((xs (i + 1))) z : PO).2.1 := e0
  subst e0
  refine lv_istore (lv' := [(7, .int ((pS 4 0 3 ((xs (i + 1))) z : PO).2.1)), (6, .int ((pS 4 0 3 ((xs (i + 1))) z : PO).1)), (0, .ref (sb)), (1, .ref (a 0)), (2, .ref (a2 0)), (3, .ref (u1)), (4, .ref (u2)), (5, .int (nI (i)))]) S.1 S.2.1 dL_law_339 hl (by decide) rfl (fun ls hl => ?_)
  refine lv_aload_n S.1 S.2.1 dL_law_341 rfl (lv_at hl 4 rfl) ?_
  have hwc : WD G (mp G a2 (pS 4 0 3 ((xs (i + 1))) z : PO).2.2 o9) A s H _ := hw.sub [29, 30, 31, 32, 33] rfl rfl
  refine cj_i (wc := (mp G a2 (pS 4 0 3 ((xs (i + 1))) z : PO).2.2 o9)) (wr := (gp G a (pS 4 0 3 ((xs (i + 1))) z : PO).2.2 y k ++ [(u1, .inl (k1, (1, .inr (.inl (fun _ => v9))))), (u2, .inl (k2, (1, .inr (.inr (.inr (.inl (fun _ => w)))))))])) (va_runV (As := []) (rest := []) S (c_X5_thrown l G a2 (pS 4 0 3 ((xs (i + 1))) z : PO).2.2 o9 H.size  ) (cwV 0 S.2.2.2.2 gL_law_X5_thrown rfl rfl rfl hd_X5_thrown ⟨by rw [hR]; exact Nat.le_of_ble_eq_true rfl, by rw [hR]; exact Nat.le_of_ble_eq_true rfl⟩) ⟨PW.blind, va_recv hK.1 hwc.1 (ci := 5) (q0 := 0) rfl rfl, fun U hU hW => ⟨rfl, PW.of hK hwc hU hW⟩⟩ rfl rfl hl.1 rfl (lv_room (Nat.le_of_ble_eq_true rfl)) dL_law_342 ⟨by rw [hR]; show _ ≤ 3131; omega, by rw [hR]; show _ ≤ 120514; omega⟩) hw hA [29, 30, 31, 32, 33] [0, 1, 2, 3, 4, 5, 6, 7, 8, 9, 10, 11, 12, 13, 14, 15, 16, 17, 18, 19, 20, 21, 22, 23, 24, 25, 26, 27, 28] rfl rfl rfl rfl (by decide) (fun _ => rfl) (fun t9 x8 H locs hp9 hw9 => ?_)
  obtain ⟨z8, o8⟩ := x8
  obtain ⟨e1, e2, e3⟩ := hp9
  dsimp only at e2 e3
  have e2 := e2.symm
  have e3 := e3.symm
  subst e2
  subst e3
  have hw : WD G (lwd G k1 k2 a a2 u1 u2 (pS 4 0 3 ((xs (i + 1))) z : PO).2.2 y k (pS 4 0 3 ((xs (i + 1))) z : PO).2.2 o9 (v9) (w)) A s H locs := hw9
  refine top_to (v := (pS 4 0 3 ((xs (i + 1))) z : PO).1) S (e1.trans ht9) ?_
  refine lv_iload S.1 S.2.1 dL_law_345 (lv_at hl 1 rfl) ?_
  refine lv_icmp_eq (tgt := 352) S.1 S.2.1 dL_law_347 (by decide) (fun _ => ?_) (fun c8 => absurd rfl c8)
  refine lv_iload S.1 S.2.1 dL_law_352 (lv_at hl 1 rfl) ?_
  refine lv_if_ne (tgt := 369) S.1 S.2.1 dL_law_354 (by decide) (fun _ => ?_) (fun c8 => ?_)
  · skip
    refine lv_goto (tgt := 1963) S.1 S.2.1 dL_law_369 (by decide) ?_
    refine W.widen (k := cells + 2) (n := slots + 12) (by omega) (by omega) ?_
    exact kk H locs ls (pS 4 0 3 ((xs (i + 1))) z : PO).2.2 y k o9 (v9) (w) _ _ (hr.go (inv_pSh hr.1.1) hrt) hw (lv_sub hl [2, 3, 4, 5, 6, 7] rfl)
  · skip
    have c9 : (pS 4 0 3 ((xs (i + 1))) z : PO).1 = 0 := by first | exact c8 | exact Decidable.not_not.mp c8
    have e9 := ev c9
    subst e9
    have hw : WD G (lwd G k1 k2 a a2 u1 u2 (pS 4 0 3 ((xs (i + 1))) z : PO).2.2 y k (pS 4 0 3 ((xs (i + 1))) z : PO).2.2 o9 (((pS 4 0 3 ((xs (i + 1))) z : PO).2.1).toInt64) (w)) A s H locs := hw
    refine lv_aload_n S.1 S.2.1 dL_law_357 rfl (lv_at hl 5 rfl) ?_
    refine lv_iconst (v := 0) S.1 S.2.1 dL_law_358 (by decide) ?_
    refine la_l S hL hw 27 rfl dL_law_359 ?_
    refine lv_iload S.1 S.2.1 dL_law_360 (lv_at hl 0 rfl) ?_
    refine lv_i2l S.1 S.2.1 dL_law_362 rfl ?_
    refine lcmp_s S.1 S.2.1 rfl dL_law_363 ?_
    refine lv_if_eq (tgt := 369) S.1 S.2.1 dL_law_364 (by decide) (fun c1 => ?_) (fun c1 => ?_)
    · skip
      refine lv_goto (tgt := 1963) S.1 S.2.1 dL_law_369 (by decide) ?_
      refine W.widen (k := cells + 2) (n := slots + 12) (by omega) (by omega) ?_
      exact kk H locs ls (pS 4 0 3 ((xs (i + 1))) z : PO).2.2 y k o9 (((pS 4 0 3 ((xs (i + 1))) z : PO).2.1).toInt64) (w) _ _ (hr.go (inv_pSh hr.1.1) hrt) hw (lv_sub hl [2, 3, 4, 5, 6, 7] rfl)
    · skip
      exact absurd c1 (by decide)

set_option maxHeartbeats 4000000 in
set_option maxRecDepth 100000 in
theorem lc_3 {p : Program} {l : Launch} {e : Env} {R : Room} {s : State} {m : MethodId} {args : Array Value} {below : List Frame} {meth : Method} {c : Code} {H : Heap} {locs : List Loc} {cells slots : Nat} {Q : State → Prop} {G : GA} {k1 k2 : ClassId} {A : Nat → Prop} {a a2 : Nat → Nat} {sb u1 u2 L i : Nat} {xs : Nat → Int32} {z y k o : St} {v : Int64} {w : UInt64} {tl : Nat} {hs : Bool} {ls : Array Slot} (S : CallFix p m c cL_law 9 s args lw_tbl RL) (hK : KK G s) (hX : XE l A s) (hL : KL G k1 k2 s) (hA : ∀ q, s.heap.size ≤ q → A q) (hXs : va_X sb L xs s s.heap) (hbl : sb < s.heap.size) (hbA : ¬ A sb) (hLL : L ≤ 2560) (hR : R = room_1) (hc1 : cells + 2 ≤ 3131) (hc2 : slots + 12 ≤ 120514) (hi : i + 4 < L) (hr : Rl z y k o tl hs) (hw : WD G (lwd G k1 k2 a a2 u1 u2 z y k z o v w) A s H locs) (hl : lv_has ls 9 [(0, .ref sb), (1, .ref (a 0)), (2, .ref (a2 0)), (3, .ref u1), (4, .ref u2), (5, .int (nI i))]) (kk : LK p l e R s m args below meth c Q G k1 k2 a a2 sb u1 u2 i A cells slots) : W p l e R s m args below meth c H locs cells slots Q (F0 m 372 ls []) := by
  refine lv_aload_n S.1 S.2.1 dL_law_372 rfl (lv_at hl 1 rfl) ?_
  refine lv_aload_n S.1 S.2.1 dL_law_373 rfl (lv_at hl 0 rfl) ?_
  refine lv_iload S.1 S.2.1 dL_law_374 (lv_at hl 5 rfl) ?_
  refine lv_iconst (v := 1) S.1 S.2.1 dL_law_376 (by decide) ?_
  refine addN (a := i) (b := 1) S dL_law_377 ?_
  refine sld_n (k := i + 1) S hXs hbl hbA hLL hw (by omega) dL_law_378 ?_
  refine lv_aload_n S.1 S.2.1 dL_law_379 rfl (lv_at hl 3 rfl) ?_
  have hwc : WD G (gL G k1 a z y k u1 (v)) A s H _ := hw.sub [0, 1, 2, 3, 4, 5, 6, 7, 8, 9, 10, 11, 12, 13, 14, 15, 16, 17, 18, 19, 20, 21, 22, 23, 24, 25, 26, 27] rfl rfl
  have hx9 := xc_le (pS 1 0 2147483647 ((xs (i + 1))) z : PO).1
  refine cx_i (wc := (gL G k1 a z y k u1 (v))) (wr := ([(u2, .inl (k2, (1, .inr (.inr (.inr (.inl (fun _ => w)))))))] ++ mp G a2 z o)) (vx_runSX (hh := [(0, 9, 12, 13)]) (As := [.ref (a 0), .int (xs (i + 1)), .ref (u1)]) (rest := []) S (c_L_setSeed l G k1 k2 u1 (v) a z y k H.size ((xs (i + 1))) ) (vx_cwSW 3 S.2.2.2.2 gL_law_L_setSeed rfl rfl rfl hd_L_setSeed ⟨by rw [hR]; exact Nat.le_of_ble_eq_true rfl, by rw [hR]; exact Nat.le_of_ble_eq_true rfl⟩) ⟨PL.blind, fun U hU hW => ⟨rfl, PL.of hK hX hL hwc (va_free hw.2.1 hw.2.2 hA [0, 1, 2, 3, 4, 5, 6, 7, 8, 9, 10, 11, 12, 13, 14, 15, 16, 17, 18, 19, 20, 21, 22, 23, 24, 25, 26, 27] rfl) hU hW⟩⟩ rfl rfl hl.1 rfl (lv_room (Nat.le_of_ble_eq_true rfl)) dL_law_380 ⟨by rw [hR]; show _ ≤ 3131; omega, by rw [hR]; show _ ≤ 120514; omega⟩) hw hA [0, 1, 2, 3, 4, 5, 6, 7, 8, 9, 10, 11, 12, 13, 14, 15, 16, 17, 18, 19, 20, 21, 22, 23, 24, 25, 26, 27] [28, 29, 30, 31, 32, 33] rfl rfl rfl rfl (by decide) (fun _ => rfl) (fun _ => rfl) (fun ce q9 u9 H locs hpx hw9 g1 g2 g3 => absurd hpx id) (fun r9 u9 H locs hp9 hw9 => ?_)
  obtain ⟨⟨z9, y9, k9⟩, v9⟩ := u9
  obtain ⟨rfl, e9, ev⟩ := hp9
  have e9 : (z9, y9, k9) = ((pS 1 0 2147483647 ((xs (i + 1))) z : PO).2.2, y, k) := e9
  cases e9
  have ev : (pS 1 0 2147483647 ((xs (i + 1))) z : PO).1 = 0 → v9 = ((pS 1 0 2147483647 ((xs (i + 1))) z : PO).2.1).toInt64 := ev
  have hw : WD G (lwd G k1 k2 a a2 u1 u2 (pS 1 0 2147483647 ((xs (i + 1))) z : PO).2.2 y k z o (v9) (w)) A s H locs := hw9.sub [6, 7, 8, 9, 10, 11, 12, 13, 14, 15, 16, 17, 18, 19, 20, 21, 22, 23, 24, 25, 26, 27, 28, 29, 30, 31, 32, 33, 0, 1, 2, 3, 4, 5] rfl rfl
  refine lv_istore (lv' := [(6, .int ((pS 1 0 2147483647 ((xs (i + 1))) z : PO).1)), (0, .ref (sb)), (1, .ref (a 0)), (2, .ref (a2 0)), (3, .ref (u1)), (4, .ref (u2)), (5, .int (nI (i)))]) S.1 S.2.1 dL_law_383 hl (by decide) rfl (fun ls hl => ?_)
  refine lv_aload_n S.1 S.2.1 dL_law_385 rfl (lv_at hl 3 rfl) ?_
  refine lv_aload_n S.1 S.2.1 dL_law_386 rfl (lv_at hl 1 rfl) ?_
  refine lv_iload S.1 S.2.1 dL_law_387 (lv_at hl 6 rfl) ?_
  refine lv_iconst (v := 1) S.1 S.2.1 dL_law_389 (by decide) ?_
  refine addN (a := i) (b := 1) S dL_law_390 ?_
  refine sld_n (k := i + 1) S hXs hbl hbA hLL hw (by omega) dL_law_391 ?_
  have hwc : WD G (mp G a2 z o) A s H _ := hw.sub [29, 30, 31, 32, 33] rfl rfl
  refine cj_i (wc := (mp G a2 z o)) (wr := (gp G a (pS 1 0 2147483647 ((xs (i + 1))) z : PO).2.2 y k ++ [(u1, .inl (k1, (1, .inr (.inl (fun _ => v9))))), (u2, .inl (k2, (1, .inr (.inr (.inr (.inl (fun _ => w)))))))])) (va_runV (As := [.int (xs (i + 1))]) (rest := []) S (c_X5_setSeed l G a2 z o H.size ((xs (i + 1))) ) (cwV 1 S.2.2.2.2 gL_law_X5_setSeed rfl rfl rfl hd_X5_setSeed ⟨by rw [hR]; exact Nat.le_of_ble_eq_true rfl, by rw [hR]; exact Nat.le_of_ble_eq_true rfl⟩) ⟨PW.blind, va_recv hK.1 hwc.1 (ci := 5) (q0 := 0) rfl rfl, fun U hU hW => ⟨rfl, PW.of hK hwc hU hW⟩⟩ rfl rfl hl.1 rfl (lv_room (Nat.le_of_ble_eq_true rfl)) dL_law_392 ⟨by rw [hR]; show _ ≤ 3131; omega, by rw [hR]; show _ ≤ 120514; omega⟩) hw hA [29, 30, 31, 32, 33] [0, 1, 2, 3, 4, 5, 6, 7, 8, 9, 10, 11, 12, 13, 14, 15, 16, 17, 18, 19, 20, 21, 22, 23, 24, 25, 26, 27, 28] rfl rfl rfl rfl (by decide) (fun _ => rfl) (fun r9 x9 H locs hp9 hw9 => ?_)
  obtain ⟨z9, o9⟩ := x9
  obtain ⟨e0, e1, hrt, ht9⟩ := hp9
  have e1 : (pS 1 0 2147483647 ((xs (i + 1))) z : PO).2.2 = z9 := (e1).symm
  subst e1
  have ht9 : o9 0 0 = (pS 1 0 2147483647 ((xs (i + 1))) z : PO).1 := ht9
  have hw : WD G (lwd G k1 k2 a a2 u1 u2 (pS 1 0 2147483647 ((xs (i + 1))) z : PO).2.2 y k (pS 1 0 2147483647 ((xs (i + 1))) z : PO).2.2 o9 (v9) (w)) A s H locs := hw9
  have e0 : r9 = (pS 1 0 2147483647 ((xs (i + 1))) z : PO).2.1 := e0
  subst e0
  refine lv_istore (lv' := [(7, .int ((pS 1 0 2147483647 ((xs (i + 1))) z : PO).2.1)), (6, .int ((pS 1 0 2147483647 ((xs (i + 1))) z : PO).1)), (0, .ref (sb)), (1, .ref (a 0)), (2, .ref (a2 0)), (3, .ref (u1)), (4, .ref (u2)), (5, .int (nI (i)))]) S.1 S.2.1 dL_law_395 hl (by decide) rfl (fun ls hl => ?_)
  refine lv_aload_n S.1 S.2.1 dL_law_397 rfl (lv_at hl 4 rfl) ?_
  have hwc : WD G (mp G a2 (pS 1 0 2147483647 ((xs (i + 1))) z : PO).2.2 o9) A s H _ := hw.sub [29, 30, 31, 32, 33] rfl rfl
  refine cj_i (wc := (mp G a2 (pS 1 0 2147483647 ((xs (i + 1))) z : PO).2.2 o9)) (wr := (gp G a (pS 1 0 2147483647 ((xs (i + 1))) z : PO).2.2 y k ++ [(u1, .inl (k1, (1, .inr (.inl (fun _ => v9))))), (u2, .inl (k2, (1, .inr (.inr (.inr (.inl (fun _ => w)))))))])) (va_runV (As := []) (rest := []) S (c_X5_thrown l G a2 (pS 1 0 2147483647 ((xs (i + 1))) z : PO).2.2 o9 H.size  ) (cwV 0 S.2.2.2.2 gL_law_X5_thrown rfl rfl rfl hd_X5_thrown ⟨by rw [hR]; exact Nat.le_of_ble_eq_true rfl, by rw [hR]; exact Nat.le_of_ble_eq_true rfl⟩) ⟨PW.blind, va_recv hK.1 hwc.1 (ci := 5) (q0 := 0) rfl rfl, fun U hU hW => ⟨rfl, PW.of hK hwc hU hW⟩⟩ rfl rfl hl.1 rfl (lv_room (Nat.le_of_ble_eq_true rfl)) dL_law_398 ⟨by rw [hR]; show _ ≤ 3131; omega, by rw [hR]; show _ ≤ 120514; omega⟩) hw hA [29, 30, 31, 32, 33] [0, 1, 2, 3, 4, 5, 6, 7, 8, 9, 10, 11, 12, 13, 14, 15, 16, 17, 18, 19, 20, 21, 22, 23, 24, 25, 26, 27, 28] rfl rfl rfl rfl (by decide) (fun _ => rfl) (fun t9 x8 H locs hp9 hw9 => ?_)
  obtain ⟨z8, o8⟩ := x8
  obtain ⟨e1, e2, e3⟩ := hp9
  dsimp only at e2 e3
  have e2 := e2.symm
  have e3 := e3.symm
  subst e2
  subst e3
  have hw : WD G (lwd G k1 k2 a a2 u1 u2 (pS 1 0 2147483647 ((xs (i + 1))) z : PO).2.2 y k (pS 1 0 2147483647 ((xs (i + 1))) z : PO).2.2 o9 (v9) (w)) A s H locs := hw9
  refine top_to (v := (pS 1 0 2147483647 ((xs (i + 1))) z : PO).1) S (e1.trans ht9) ?_
  refine lv_iload S.1 S.2.1 dL_law_401 (lv_at hl 1 rfl) ?_
  refine lv_icmp_eq (tgt := 408) S.1 S.2.1 dL_law_403 (by decide) (fun _ => ?_) (fun c8 => absurd rfl c8)
  refine lv_iload S.1 S.2.1 dL_law_408 (lv_at hl 1 rfl) ?_
  refine lv_if_ne (tgt := 425) S.1 S.2.1 dL_law_410 (by decide) (fun _ => ?_) (fun c8 => ?_)
  · skip
    refine lv_goto (tgt := 1963) S.1 S.2.1 dL_law_425 (by decide) ?_
    refine W.widen (k := cells + 2) (n := slots + 12) (by omega) (by omega) ?_
    exact kk H locs ls (pS 1 0 2147483647 ((xs (i + 1))) z : PO).2.2 y k o9 (v9) (w) _ _ (hr.go (inv_pSs hr.1.1) hrt) hw (lv_sub hl [2, 3, 4, 5, 6, 7] rfl)
  · skip
    have c9 : (pS 1 0 2147483647 ((xs (i + 1))) z : PO).1 = 0 := by first | exact c8 | exact Decidable.not_not.mp c8
    have e9 := ev c9
    subst e9
    have hw : WD G (lwd G k1 k2 a a2 u1 u2 (pS 1 0 2147483647 ((xs (i + 1))) z : PO).2.2 y k (pS 1 0 2147483647 ((xs (i + 1))) z : PO).2.2 o9 (((pS 1 0 2147483647 ((xs (i + 1))) z : PO).2.1).toInt64) (w)) A s H locs := hw
    refine lv_aload_n S.1 S.2.1 dL_law_413 rfl (lv_at hl 5 rfl) ?_
    refine lv_iconst (v := 0) S.1 S.2.1 dL_law_414 (by decide) ?_
    refine la_l S hL hw 27 rfl dL_law_415 ?_
    refine lv_iload S.1 S.2.1 dL_law_416 (lv_at hl 0 rfl) ?_
    refine lv_i2l S.1 S.2.1 dL_law_418 rfl ?_
    refine lcmp_s S.1 S.2.1 rfl dL_law_419 ?_
    refine lv_if_eq (tgt := 425) S.1 S.2.1 dL_law_420 (by decide) (fun c1 => ?_) (fun c1 => ?_)
    · skip
      refine lv_goto (tgt := 1963) S.1 S.2.1 dL_law_425 (by decide) ?_
      refine W.widen (k := cells + 2) (n := slots + 12) (by omega) (by omega) ?_
      exact kk H locs ls (pS 1 0 2147483647 ((xs (i + 1))) z : PO).2.2 y k o9 (((pS 1 0 2147483647 ((xs (i + 1))) z : PO).2.1).toInt64) (w) _ _ (hr.go (inv_pSs hr.1.1) hrt) hw (lv_sub hl [2, 3, 4, 5, 6, 7] rfl)
    · skip
      exact absurd c1 (by decide)

set_option maxHeartbeats 4000000 in
set_option maxRecDepth 100000 in
theorem lc_4 {p : Program} {l : Launch} {e : Env} {R : Room} {s : State} {m : MethodId} {args : Array Value} {below : List Frame} {meth : Method} {c : Code} {H : Heap} {locs : List Loc} {cells slots : Nat} {Q : State → Prop} {G : GA} {k1 k2 : ClassId} {A : Nat → Prop} {a a2 : Nat → Nat} {sb u1 u2 L i : Nat} {xs : Nat → Int32} {z y k o : St} {v : Int64} {w : UInt64} {tl : Nat} {hs : Bool} {ls : Array Slot} (S : CallFix p m c cL_law 9 s args lw_tbl RL) (hK : KK G s) (hX : XE l A s) (hL : KL G k1 k2 s) (hA : ∀ q, s.heap.size ≤ q → A q) (hXs : va_X sb L xs s s.heap) (hbl : sb < s.heap.size) (hbA : ¬ A sb) (hLL : L ≤ 2560) (hR : R = room_1) (hc1 : cells + 2 ≤ 3131) (hc2 : slots + 12 ≤ 120514) (hi : i + 4 < L) (hr : Rl z y k o tl hs) (hw : WD G (lwd G k1 k2 a a2 u1 u2 z y k z o v w) A s H locs) (hl : lv_has ls 9 [(0, .ref sb), (1, .ref (a 0)), (2, .ref (a2 0)), (3, .ref u1), (4, .ref u2), (5, .int (nI i))]) (kk : LK p l e R s m args below meth c Q G k1 k2 a a2 sb u1 u2 i A cells slots) : W p l e R s m args below meth c H locs cells slots Q (F0 m 428 ls []) := by
  refine lv_aload_n S.1 S.2.1 dL_law_428 rfl (lv_at hl 1 rfl) ?_
  have hwc : WD G (gp G a z y k) A s H _ := hw.sub [0, 1, 2, 3, 4, 5, 6, 7, 8, 9, 10, 11, 12, 13, 14, 15, 16, 17, 18, 19, 20, 21, 22, 23, 24, 25, 26] rfl rfl
  have hx9 := xc_le ((0, z 0 1, z) : PO).1
  refine cx_i (wc := (gp G a z y k)) (wr := ([(u1, .inl (k1, (1, .inr (.inl (fun _ => v))))), (u2, .inl (k2, (1, .inr (.inr (.inr (.inl (fun _ => w)))))))] ++ mp G a2 z o)) (vx_runV (As := []) (rest := []) S (c_X4_seed l G a z y k H.size ) (cwV 0 S.2.2.2.2 gL_law_X4_seed rfl rfl rfl hd_X4_seed ⟨by rw [hR]; exact Nat.le_of_ble_eq_true rfl, by rw [hR]; exact Nat.le_of_ble_eq_true rfl⟩) ⟨PX.blind, va_recv hK.1 hwc.1 (ci := 4) (q0 := 0) rfl rfl, fun U hU hW => ⟨rfl, PX.of hK hX hwc (va_free hw.2.1 hw.2.2 hA [0, 1, 2, 3, 4, 5, 6, 7, 8, 9, 10, 11, 12, 13, 14, 15, 16, 17, 18, 19, 20, 21, 22, 23, 24, 25, 26] rfl) hU hW⟩⟩ rfl rfl hl.1 rfl (lv_room (Nat.le_of_ble_eq_true rfl)) dL_law_429 ⟨by rw [hR]; show _ ≤ 3131; omega, by rw [hR]; show _ ≤ 120514; omega⟩) hw hA [0, 1, 2, 3, 4, 5, 6, 7, 8, 9, 10, 11, 12, 13, 14, 15, 16, 17, 18, 19, 20, 21, 22, 23, 24, 25, 26] [27, 28, 29, 30, 31, 32, 33] rfl rfl rfl rfl (by decide) (fun _ => rfl) (fun _ => rfl) (fun ce q9 u9 H locs hpx hw9 g1 g2 g3 => absurd rfl hpx.1) (fun r9 u9 H locs hp9 hw9 => ?_)
  obtain ⟨_, rfl, rfl⟩ := hp9
  have hw : WD G (lwd G k1 k2 a a2 u1 u2 z y k z o (v) (w)) A s H locs := hw9.sub [7, 8, 9, 10, 11, 12, 13, 14, 15, 16, 17, 18, 19, 20, 21, 22, 23, 24, 25, 26, 27, 28, 29, 30, 31, 32, 33, 0, 1, 2, 3, 4, 5, 6] rfl rfl
  refine lv_aload_n S.1 S.2.1 dL_law_432 rfl (lv_at hl 2 rfl) ?_
  have hwc : WD G (mp G a2 z o) A s H _ := hw.sub [29, 30, 31, 32, 33] rfl rfl
  refine cj_i (wc := (mp G a2 z o)) (wr := (gp G a z y k ++ [(u1, .inl (k1, (1, .inr (.inl (fun _ => v))))), (u2, .inl (k2, (1, .inr (.inr (.inr (.inl (fun _ => w)))))))])) (va_runV (As := []) (rest := [.int (z 0 1)]) S (c_X5_seed l G a2 z o H.size  ) (cwV 0 S.2.2.2.2 gL_law_X5_seed rfl rfl rfl hd_X5_seed ⟨by rw [hR]; exact Nat.le_of_ble_eq_true rfl, by rw [hR]; exact Nat.le_of_ble_eq_true rfl⟩) ⟨PW.blind, va_recv hK.1 hwc.1 (ci := 5) (q0 := 0) rfl rfl, fun U hU hW => ⟨rfl, PW.of hK hwc hU hW⟩⟩ rfl rfl hl.1 rfl (lv_room (Nat.le_of_ble_eq_true rfl)) dL_law_433 ⟨by rw [hR]; show _ ≤ 3131; omega, by rw [hR]; show _ ≤ 120514; omega⟩) hw hA [29, 30, 31, 32, 33] [0, 1, 2, 3, 4, 5, 6, 7, 8, 9, 10, 11, 12, 13, 14, 15, 16, 17, 18, 19, 20, 21, 22, 23, 24, 25, 26, 27, 28] rfl rfl rfl rfl (by decide) (fun _ => rfl) (fun r9 x9 H locs hp9 hw9 => ?_)
  obtain ⟨z9, o9⟩ := x9
  obtain ⟨e0, e1, hrt, ht9⟩ := hp9
  have e1 : z = z9 := (e1).symm
  subst e1
  have hw : WD G (lwd G k1 k2 a a2 u1 u2 z y k z o9 (v) (w)) A s H locs := hw9
  have e0 : r9 = z 0 1 := e0
  subst e0
  refine lv_icmp_eq (tgt := 1963) S.1 S.2.1 dL_law_436 (by decide) (fun _ => ?_) (fun c8 => absurd rfl c8)
  refine W.widen (k := cells + 2) (n := slots + 12) (by omega) (by omega) ?_
  exact kk H locs ls z y k o9 (v) (w) _ _ (hr.go hr.1.1 hrt) hw (lv_sub hl [0, 1, 2, 3, 4, 5] rfl)

set_option maxHeartbeats 4000000 in
set_option maxRecDepth 100000 in
theorem lc_5 {p : Program} {l : Launch} {e : Env} {R : Room} {s : State} {m : MethodId} {args : Array Value} {below : List Frame} {meth : Method} {c : Code} {H : Heap} {locs : List Loc} {cells slots : Nat} {Q : State → Prop} {G : GA} {k1 k2 : ClassId} {A : Nat → Prop} {a a2 : Nat → Nat} {sb u1 u2 L i : Nat} {xs : Nat → Int32} {z y k o : St} {v : Int64} {w : UInt64} {tl : Nat} {hs : Bool} {ls : Array Slot} (S : CallFix p m c cL_law 9 s args lw_tbl RL) (hK : KK G s) (hX : XE l A s) (hL : KL G k1 k2 s) (hA : ∀ q, s.heap.size ≤ q → A q) (hXs : va_X sb L xs s s.heap) (hbl : sb < s.heap.size) (hbA : ¬ A sb) (hLL : L ≤ 2560) (hR : R = room_1) (hc1 : cells + 2 ≤ 3131) (hc2 : slots + 12 ≤ 120514) (hi : i + 4 < L) (hr : Rl z y k o tl hs) (hw : WD G (lwd G k1 k2 a a2 u1 u2 z y k z o v w) A s H locs) (hl : lv_has ls 9 [(0, .ref sb), (1, .ref (a 0)), (2, .ref (a2 0)), (3, .ref u1), (4, .ref u2), (5, .int (nI i))]) (kk : LK p l e R s m args below meth c Q G k1 k2 a a2 sb u1 u2 i A cells slots) : W p l e R s m args below meth c H locs cells slots Q (F0 m 441 ls []) := by
  refine lv_aload_n S.1 S.2.1 dL_law_441 rfl (lv_at hl 1 rfl) ?_
  refine lv_aload_n S.1 S.2.1 dL_law_442 rfl (lv_at hl 0 rfl) ?_
  refine lv_iload S.1 S.2.1 dL_law_443 (lv_at hl 5 rfl) ?_
  refine lv_iconst (v := 1) S.1 S.2.1 dL_law_445 (by decide) ?_
  refine addN (a := i) (b := 1) S dL_law_446 ?_
  refine sld_n (k := i + 1) S hXs hbl hbA hLL hw (by omega) dL_law_447 ?_
  refine lv_aload_n S.1 S.2.1 dL_law_448 rfl (lv_at hl 0 rfl) ?_
  refine lv_iload S.1 S.2.1 dL_law_449 (lv_at hl 5 rfl) ?_
  refine lv_iconst (v := 2) S.1 S.2.1 dL_law_451 (by decide) ?_
  refine addN (a := i) (b := 2) S dL_law_452 ?_
  refine sld_n (k := i + 2) S hXs hbl hbA hLL hw (by omega) dL_law_453 ?_
  refine lv_aload_n S.1 S.2.1 dL_law_454 rfl (lv_at hl 3 rfl) ?_
  have hwc : WD G (gL G k1 a z y k u1 (v)) A s H _ := hw.sub [0, 1, 2, 3, 4, 5, 6, 7, 8, 9, 10, 11, 12, 13, 14, 15, 16, 17, 18, 19, 20, 21, 22, 23, 24, 25, 26, 27] rfl rfl
  have hx9 := xc_le (pJ ((xs (i + 1))) ((xs (i + 2))) z : PO).1
  refine cx_i (wc := (gL G k1 a z y k u1 (v))) (wr := ([(u2, .inl (k2, (1, .inr (.inr (.inr (.inl (fun _ => w)))))))] ++ mp G a2 z o)) (vx_runSX (hh := [(0, 10, 13, 28), (0, 10, 17, 30), (0, 10, 21, 13)]) (As := [.ref (a 0), .int (xs (i + 1)), .int (xs (i + 2)), .ref (u1)]) (rest := []) S (c_L_join l G k1 k2 u1 (v) a z y k H.size ((xs (i + 1))) ((xs (i + 2))) hr.1.1) (vx_cwSW 4 S.2.2.2.2 gL_law_L_join rfl rfl rfl hd_L_join ⟨by rw [hR]; exact Nat.le_of_ble_eq_true rfl, by rw [hR]; exact Nat.le_of_ble_eq_true rfl⟩) ⟨PL.blind, fun U hU hW => ⟨rfl, PL.of hK hX hL hwc (va_free hw.2.1 hw.2.2 hA [0, 1, 2, 3, 4, 5, 6, 7, 8, 9, 10, 11, 12, 13, 14, 15, 16, 17, 18, 19, 20, 21, 22, 23, 24, 25, 26, 27] rfl) hU hW⟩⟩ rfl rfl hl.1 rfl (lv_room (Nat.le_of_ble_eq_true rfl)) dL_law_455 ⟨by rw [hR]; show _ ≤ 3131; omega, by rw [hR]; show _ ≤ 120514; omega⟩) hw hA [0, 1, 2, 3, 4, 5, 6, 7, 8, 9, 10, 11, 12, 13, 14, 15, 16, 17, 18, 19, 20, 21, 22, 23, 24, 25, 26, 27] [28, 29, 30, 31, 32, 33] rfl rfl rfl rfl (by decide) (fun _ => rfl) (fun _ => rfl) (fun ce q9 u9 H locs hpx hw9 g1 g2 g3 => absurd hpx id) (fun r9 u9 H locs hp9 hw9 => ?_)
  obtain ⟨⟨z9, y9, k9⟩, v9⟩ := u9
  obtain ⟨rfl, e9, ev⟩ := hp9
  have e9 : (z9, y9, k9) = ((pJ ((xs (i + 1))) ((xs (i + 2))) z : PO).2.2, y, k) := e9
  cases e9
  have ev : (pJ ((xs (i + 1))) ((xs (i + 2))) z : PO).1 = 0 → v9 = ((pJ ((xs (i + 1))) ((xs (i + 2))) z : PO).2.1).toInt64 := ev
  have hw : WD G (lwd G k1 k2 a a2 u1 u2 (pJ ((xs (i + 1))) ((xs (i + 2))) z : PO).2.2 y k z o (v9) (w)) A s H locs := hw9.sub [6, 7, 8, 9, 10, 11, 12, 13, 14, 15, 16, 17, 18, 19, 20, 21, 22, 23, 24, 25, 26, 27, 28, 29, 30, 31, 32, 33, 0, 1, 2, 3, 4, 5] rfl rfl
  refine lv_istore (lv' := [(6, .int ((pJ ((xs (i + 1))) ((xs (i + 2))) z : PO).1)), (0, .ref (sb)), (1, .ref (a 0)), (2, .ref (a2 0)), (3, .ref (u1)), (4, .ref (u2)), (5, .int (nI (i)))]) S.1 S.2.1 dL_law_458 hl (by decide) rfl (fun ls hl => ?_)
  refine lv_aload_n S.1 S.2.1 dL_law_460 rfl (lv_at hl 3 rfl) ?_
  refine lv_aload_n S.1 S.2.1 dL_law_461 rfl (lv_at hl 1 rfl) ?_
  refine lv_iload S.1 S.2.1 dL_law_462 (lv_at hl 6 rfl) ?_
  refine lv_iconst (v := 1) S.1 S.2.1 dL_law_464 (by decide) ?_
  refine addN (a := i) (b := 1) S dL_law_465 ?_
  refine sld_n (k := i + 1) S hXs hbl hbA hLL hw (by omega) dL_law_466 ?_
  refine lv_aload_n S.1 S.2.1 dL_law_467 rfl (lv_at hl 1 rfl) ?_
  refine lv_iload S.1 S.2.1 dL_law_468 (lv_at hl 6 rfl) ?_
  refine lv_iconst (v := 2) S.1 S.2.1 dL_law_470 (by decide) ?_
  refine addN (a := i) (b := 2) S dL_law_471 ?_
  refine sld_n (k := i + 2) S hXs hbl hbA hLL hw (by omega) dL_law_472 ?_
  have hwc : WD G (mp G a2 z o) A s H _ := hw.sub [29, 30, 31, 32, 33] rfl rfl
  refine cj_i (wc := (mp G a2 z o)) (wr := (gp G a (pJ ((xs (i + 1))) ((xs (i + 2))) z : PO).2.2 y k ++ [(u1, .inl (k1, (1, .inr (.inl (fun _ => v9))))), (u2, .inl (k2, (1, .inr (.inr (.inr (.inl (fun _ => w)))))))])) (va_runV (As := [.int (xs (i + 1)), .int (xs (i + 2))]) (rest := []) S (c_X5_join l G a2 z o H.size ((xs (i + 1))) ((xs (i + 2))) hr.1.1) (cwV 2 S.2.2.2.2 gL_law_X5_join rfl rfl rfl hd_X5_join ⟨by rw [hR]; exact Nat.le_of_ble_eq_true rfl, by rw [hR]; exact Nat.le_of_ble_eq_true rfl⟩) ⟨PW.blind, va_recv hK.1 hwc.1 (ci := 5) (q0 := 0) rfl rfl, fun U hU hW => ⟨rfl, PW.of hK hwc hU hW⟩⟩ rfl rfl hl.1 rfl (lv_room (Nat.le_of_ble_eq_true rfl)) dL_law_473 ⟨by rw [hR]; show _ ≤ 3131; omega, by rw [hR]; show _ ≤ 120514; omega⟩) hw hA [29, 30, 31, 32, 33] [0, 1, 2, 3, 4, 5, 6, 7, 8, 9, 10, 11, 12, 13, 14, 15, 16, 17, 18, 19, 20, 21, 22, 23, 24, 25, 26, 27, 28] rfl rfl rfl rfl (by decide) (fun _ => rfl) (fun r9 x9 H locs hp9 hw9 => ?_)
  obtain ⟨z9, o9⟩ := x9
  obtain ⟨e0, e1, hrt, ht9⟩ := hp9
  have e1 : (pJ ((xs (i + 1))) ((xs (i + 2))) z : PO).2.2 = z9 := (e1).symm
  subst e1
  have ht9 : o9 0 0 = (pJ ((xs (i + 1))) ((xs (i + 2))) z : PO).1 := ht9
  have hw : WD G (lwd G k1 k2 a a2 u1 u2 (pJ ((xs (i + 1))) ((xs (i + 2))) z : PO).2.2 y k (pJ ((xs (i + 1))) ((xs (i + 2))) z : PO).2.2 o9 (v9) (w)) A s H locs := hw9
  have e0 : r9 = (pJ ((xs (i + 1))) ((xs (i + 2))) z : PO).2.1 := e0
  subst e0
  refine lv_istore (lv' := [(7, .int ((pJ ((xs (i + 1))) ((xs (i + 2))) z : PO).2.1)), (6, .int ((pJ ((xs (i + 1))) ((xs (i + 2))) z : PO).1)), (0, .ref (sb)), (1, .ref (a 0)), (2, .ref (a2 0)), (3, .ref (u1)), (4, .ref (u2)), (5, .int (nI (i)))]) S.1 S.2.1 dL_law_476 hl (by decide) rfl (fun ls hl => ?_)
  refine lv_aload_n S.1 S.2.1 dL_law_478 rfl (lv_at hl 4 rfl) ?_
  have hwc : WD G (mp G a2 (pJ ((xs (i + 1))) ((xs (i + 2))) z : PO).2.2 o9) A s H _ := hw.sub [29, 30, 31, 32, 33] rfl rfl
  refine cj_i (wc := (mp G a2 (pJ ((xs (i + 1))) ((xs (i + 2))) z : PO).2.2 o9)) (wr := (gp G a (pJ ((xs (i + 1))) ((xs (i + 2))) z : PO).2.2 y k ++ [(u1, .inl (k1, (1, .inr (.inl (fun _ => v9))))), (u2, .inl (k2, (1, .inr (.inr (.inr (.inl (fun _ => w)))))))])) (va_runV (As := []) (rest := []) S (c_X5_thrown l G a2 (pJ ((xs (i + 1))) ((xs (i + 2))) z : PO).2.2 o9 H.size  ) (cwV 0 S.2.2.2.2 gL_law_X5_thrown rfl rfl rfl hd_X5_thrown ⟨by rw [hR]; exact Nat.le_of_ble_eq_true rfl, by rw [hR]; exact Nat.le_of_ble_eq_true rfl⟩) ⟨PW.blind, va_recv hK.1 hwc.1 (ci := 5) (q0 := 0) rfl rfl, fun U hU hW => ⟨rfl, PW.of hK hwc hU hW⟩⟩ rfl rfl hl.1 rfl (lv_room (Nat.le_of_ble_eq_true rfl)) dL_law_479 ⟨by rw [hR]; show _ ≤ 3131; omega, by rw [hR]; show _ ≤ 120514; omega⟩) hw hA [29, 30, 31, 32, 33] [0, 1, 2, 3, 4, 5, 6, 7, 8, 9, 10, 11, 12, 13, 14, 15, 16, 17, 18, 19, 20, 21, 22, 23, 24, 25, 26, 27, 28] rfl rfl rfl rfl (by decide) (fun _ => rfl) (fun t9 x8 H locs hp9 hw9 => ?_)
  obtain ⟨z8, o8⟩ := x8
  obtain ⟨e1, e2, e3⟩ := hp9
  dsimp only at e2 e3
  have e2 := e2.symm
  have e3 := e3.symm
  subst e2
  subst e3
  have hw : WD G (lwd G k1 k2 a a2 u1 u2 (pJ ((xs (i + 1))) ((xs (i + 2))) z : PO).2.2 y k (pJ ((xs (i + 1))) ((xs (i + 2))) z : PO).2.2 o9 (v9) (w)) A s H locs := hw9
  refine top_to (v := (pJ ((xs (i + 1))) ((xs (i + 2))) z : PO).1) S (e1.trans ht9) ?_
  refine lv_iload S.1 S.2.1 dL_law_482 (lv_at hl 1 rfl) ?_
  refine lv_icmp_eq (tgt := 489) S.1 S.2.1 dL_law_484 (by decide) (fun _ => ?_) (fun c8 => absurd rfl c8)
  refine lv_iload S.1 S.2.1 dL_law_489 (lv_at hl 1 rfl) ?_
  refine lv_if_ne (tgt := 506) S.1 S.2.1 dL_law_491 (by decide) (fun _ => ?_) (fun c8 => ?_)
  · skip
    refine lv_goto (tgt := 1963) S.1 S.2.1 dL_law_506 (by decide) ?_
    refine W.widen (k := cells + 2) (n := slots + 12) (by omega) (by omega) ?_
    exact kk H locs ls (pJ ((xs (i + 1))) ((xs (i + 2))) z : PO).2.2 y k o9 (v9) (w) _ _ (hr.go (inv_pJ hr.1.1 _ _) hrt) hw (lv_sub hl [2, 3, 4, 5, 6, 7] rfl)
  · skip
    have c9 : (pJ ((xs (i + 1))) ((xs (i + 2))) z : PO).1 = 0 := by first | exact c8 | exact Decidable.not_not.mp c8
    have e9 := ev c9
    subst e9
    have hw : WD G (lwd G k1 k2 a a2 u1 u2 (pJ ((xs (i + 1))) ((xs (i + 2))) z : PO).2.2 y k (pJ ((xs (i + 1))) ((xs (i + 2))) z : PO).2.2 o9 (((pJ ((xs (i + 1))) ((xs (i + 2))) z : PO).2.1).toInt64) (w)) A s H locs := hw
    refine lv_aload_n S.1 S.2.1 dL_law_494 rfl (lv_at hl 5 rfl) ?_
    refine lv_iconst (v := 0) S.1 S.2.1 dL_law_495 (by decide) ?_
    refine la_l S hL hw 27 rfl dL_law_496 ?_
    refine lv_iload S.1 S.2.1 dL_law_497 (lv_at hl 0 rfl) ?_
    refine lv_i2l S.1 S.2.1 dL_law_499 rfl ?_
    refine lcmp_s S.1 S.2.1 rfl dL_law_500 ?_
    refine lv_if_eq (tgt := 506) S.1 S.2.1 dL_law_501 (by decide) (fun c1 => ?_) (fun c1 => ?_)
    · skip
      refine lv_goto (tgt := 1963) S.1 S.2.1 dL_law_506 (by decide) ?_
      refine W.widen (k := cells + 2) (n := slots + 12) (by omega) (by omega) ?_
      exact kk H locs ls (pJ ((xs (i + 1))) ((xs (i + 2))) z : PO).2.2 y k o9 (((pJ ((xs (i + 1))) ((xs (i + 2))) z : PO).2.1).toInt64) (w) _ _ (hr.go (inv_pJ hr.1.1 _ _) hrt) hw (lv_sub hl [2, 3, 4, 5, 6, 7] rfl)
    · skip
      exact absurd c1 (by decide)

set_option maxHeartbeats 4000000 in
set_option maxRecDepth 100000 in
theorem lc_6 {p : Program} {l : Launch} {e : Env} {R : Room} {s : State} {m : MethodId} {args : Array Value} {below : List Frame} {meth : Method} {c : Code} {H : Heap} {locs : List Loc} {cells slots : Nat} {Q : State → Prop} {G : GA} {k1 k2 : ClassId} {A : Nat → Prop} {a a2 : Nat → Nat} {sb u1 u2 L i : Nat} {xs : Nat → Int32} {z y k o : St} {v : Int64} {w : UInt64} {tl : Nat} {hs : Bool} {ls : Array Slot} (S : CallFix p m c cL_law 9 s args lw_tbl RL) (hK : KK G s) (hX : XE l A s) (hL : KL G k1 k2 s) (hA : ∀ q, s.heap.size ≤ q → A q) (hXs : va_X sb L xs s s.heap) (hbl : sb < s.heap.size) (hbA : ¬ A sb) (hLL : L ≤ 2560) (hR : R = room_1) (hc1 : cells + 2 ≤ 3131) (hc2 : slots + 12 ≤ 120514) (hi : i + 4 < L) (hr : Rl z y k o tl hs) (hw : WD G (lwd G k1 k2 a a2 u1 u2 z y k z o v w) A s H locs) (hl : lv_has ls 9 [(0, .ref sb), (1, .ref (a 0)), (2, .ref (a2 0)), (3, .ref u1), (4, .ref u2), (5, .int (nI i))]) (kk : LK p l e R s m args below meth c Q G k1 k2 a a2 sb u1 u2 i A cells slots) : W p l e R s m args below meth c H locs cells slots Q (F0 m 509 ls []) := by
  refine lv_aload_n S.1 S.2.1 dL_law_509 rfl (lv_at hl 1 rfl) ?_
  refine lv_aload_n S.1 S.2.1 dL_law_510 rfl (lv_at hl 0 rfl) ?_
  refine lv_iload S.1 S.2.1 dL_law_511 (lv_at hl 5 rfl) ?_
  refine lv_iconst (v := 1) S.1 S.2.1 dL_law_513 (by decide) ?_
  refine addN (a := i) (b := 1) S dL_law_514 ?_
  refine sld_n (k := i + 1) S hXs hbl hbA hLL hw (by omega) dL_law_515 ?_
  refine lv_aload_n S.1 S.2.1 dL_law_516 rfl (lv_at hl 3 rfl) ?_
  have hwc : WD G (gL G k1 a z y k u1 (v)) A s H _ := hw.sub [0, 1, 2, 3, 4, 5, 6, 7, 8, 9, 10, 11, 12, 13, 14, 15, 16, 17, 18, 19, 20, 21, 22, 23, 24, 25, 26, 27] rfl rfl
  have hx9 := xc_le (pC ((xs (i + 1))) z : PO).1
  refine cx_i (wc := (gL G k1 a z y k u1 (v))) (wr := ([(u2, .inl (k2, (1, .inr (.inr (.inr (.inl (fun _ => w)))))))] ++ mp G a2 z o)) (vx_runSX (hh := [(0, 9, 12, 28), (0, 9, 15, 30)]) (As := [.ref (a 0), .int (xs (i + 1)), .ref (u1)]) (rest := []) S (c_L_crash l G k1 k2 u1 (v) a z y k H.size ((xs (i + 1))) hr.1.1) (vx_cwSW 3 S.2.2.2.2 gL_law_L_crash rfl rfl rfl hd_L_crash ⟨by rw [hR]; exact Nat.le_of_ble_eq_true rfl, by rw [hR]; exact Nat.le_of_ble_eq_true rfl⟩) ⟨PL.blind, fun U hU hW => ⟨rfl, PL.of hK hX hL hwc (va_free hw.2.1 hw.2.2 hA [0, 1, 2, 3, 4, 5, 6, 7, 8, 9, 10, 11, 12, 13, 14, 15, 16, 17, 18, 19, 20, 21, 22, 23, 24, 25, 26, 27] rfl) hU hW⟩⟩ rfl rfl hl.1 rfl (lv_room (Nat.le_of_ble_eq_true rfl)) dL_law_517 ⟨by rw [hR]; show _ ≤ 3131; omega, by rw [hR]; show _ ≤ 120514; omega⟩) hw hA [0, 1, 2, 3, 4, 5, 6, 7, 8, 9, 10, 11, 12, 13, 14, 15, 16, 17, 18, 19, 20, 21, 22, 23, 24, 25, 26, 27] [28, 29, 30, 31, 32, 33] rfl rfl rfl rfl (by decide) (fun _ => rfl) (fun _ => rfl) (fun ce q9 u9 H locs hpx hw9 g1 g2 g3 => absurd hpx id) (fun r9 u9 H locs hp9 hw9 => ?_)
  obtain ⟨⟨z9, y9, k9⟩, v9⟩ := u9
  obtain ⟨rfl, e9, ev⟩ := hp9
  have e9 : (z9, y9, k9) = ((pC ((xs (i + 1))) z : PO).2.2, y, k) := e9
  cases e9
  have ev : (pC ((xs (i + 1))) z : PO).1 = 0 → v9 = ((pC ((xs (i + 1))) z : PO).2.1).toInt64 := ev
  have hw : WD G (lwd G k1 k2 a a2 u1 u2 (pC ((xs (i + 1))) z : PO).2.2 y k z o (v9) (w)) A s H locs := hw9.sub [6, 7, 8, 9, 10, 11, 12, 13, 14, 15, 16, 17, 18, 19, 20, 21, 22, 23, 24, 25, 26, 27, 28, 29, 30, 31, 32, 33, 0, 1, 2, 3, 4, 5] rfl rfl
  refine lv_istore (lv' := [(6, .int ((pC ((xs (i + 1))) z : PO).1)), (0, .ref (sb)), (1, .ref (a 0)), (2, .ref (a2 0)), (3, .ref (u1)), (4, .ref (u2)), (5, .int (nI (i)))]) S.1 S.2.1 dL_law_520 hl (by decide) rfl (fun ls hl => ?_)
  refine lv_aload_n S.1 S.2.1 dL_law_522 rfl (lv_at hl 3 rfl) ?_
  refine lv_aload_n S.1 S.2.1 dL_law_523 rfl (lv_at hl 1 rfl) ?_
  refine lv_iload S.1 S.2.1 dL_law_524 (lv_at hl 6 rfl) ?_
  refine lv_iconst (v := 1) S.1 S.2.1 dL_law_526 (by decide) ?_
  refine addN (a := i) (b := 1) S dL_law_527 ?_
  refine sld_n (k := i + 1) S hXs hbl hbA hLL hw (by omega) dL_law_528 ?_
  have hwc : WD G (mp G a2 z o) A s H _ := hw.sub [29, 30, 31, 32, 33] rfl rfl
  refine cj_i (wc := (mp G a2 z o)) (wr := (gp G a (pC ((xs (i + 1))) z : PO).2.2 y k ++ [(u1, .inl (k1, (1, .inr (.inl (fun _ => v9))))), (u2, .inl (k2, (1, .inr (.inr (.inr (.inl (fun _ => w)))))))])) (va_runV (As := [.int (xs (i + 1))]) (rest := []) S (c_X5_crash l G a2 z o H.size ((xs (i + 1))) hr.1.1) (cwV 1 S.2.2.2.2 gL_law_X5_crash rfl rfl rfl hd_X5_crash ⟨by rw [hR]; exact Nat.le_of_ble_eq_true rfl, by rw [hR]; exact Nat.le_of_ble_eq_true rfl⟩) ⟨PW.blind, va_recv hK.1 hwc.1 (ci := 5) (q0 := 0) rfl rfl, fun U hU hW => ⟨rfl, PW.of hK hwc hU hW⟩⟩ rfl rfl hl.1 rfl (lv_room (Nat.le_of_ble_eq_true rfl)) dL_law_529 ⟨by rw [hR]; show _ ≤ 3131; omega, by rw [hR]; show _ ≤ 120514; omega⟩) hw hA [29, 30, 31, 32, 33] [0, 1, 2, 3, 4, 5, 6, 7, 8, 9, 10, 11, 12, 13, 14, 15, 16, 17, 18, 19, 20, 21, 22, 23, 24, 25, 26, 27, 28] rfl rfl rfl rfl (by decide) (fun _ => rfl) (fun r9 x9 H locs hp9 hw9 => ?_)
  obtain ⟨z9, o9⟩ := x9
  obtain ⟨e0, e1, hrt, ht9⟩ := hp9
  have e1 : (pC ((xs (i + 1))) z : PO).2.2 = z9 := (e1).symm
  subst e1
  have ht9 : o9 0 0 = (pC ((xs (i + 1))) z : PO).1 := ht9
  have hw : WD G (lwd G k1 k2 a a2 u1 u2 (pC ((xs (i + 1))) z : PO).2.2 y k (pC ((xs (i + 1))) z : PO).2.2 o9 (v9) (w)) A s H locs := hw9
  have e0 : r9 = (pC ((xs (i + 1))) z : PO).2.1 := e0
  subst e0
  refine lv_istore (lv' := [(7, .int ((pC ((xs (i + 1))) z : PO).2.1)), (6, .int ((pC ((xs (i + 1))) z : PO).1)), (0, .ref (sb)), (1, .ref (a 0)), (2, .ref (a2 0)), (3, .ref (u1)), (4, .ref (u2)), (5, .int (nI (i)))]) S.1 S.2.1 dL_law_532 hl (by decide) rfl (fun ls hl => ?_)
  refine lv_aload_n S.1 S.2.1 dL_law_534 rfl (lv_at hl 4 rfl) ?_
  have hwc : WD G (mp G a2 (pC ((xs (i + 1))) z : PO).2.2 o9) A s H _ := hw.sub [29, 30, 31, 32, 33] rfl rfl
  refine cj_i (wc := (mp G a2 (pC ((xs (i + 1))) z : PO).2.2 o9)) (wr := (gp G a (pC ((xs (i + 1))) z : PO).2.2 y k ++ [(u1, .inl (k1, (1, .inr (.inl (fun _ => v9))))), (u2, .inl (k2, (1, .inr (.inr (.inr (.inl (fun _ => w)))))))])) (va_runV (As := []) (rest := []) S (c_X5_thrown l G a2 (pC ((xs (i + 1))) z : PO).2.2 o9 H.size  ) (cwV 0 S.2.2.2.2 gL_law_X5_thrown rfl rfl rfl hd_X5_thrown ⟨by rw [hR]; exact Nat.le_of_ble_eq_true rfl, by rw [hR]; exact Nat.le_of_ble_eq_true rfl⟩) ⟨PW.blind, va_recv hK.1 hwc.1 (ci := 5) (q0 := 0) rfl rfl, fun U hU hW => ⟨rfl, PW.of hK hwc hU hW⟩⟩ rfl rfl hl.1 rfl (lv_room (Nat.le_of_ble_eq_true rfl)) dL_law_535 ⟨by rw [hR]; show _ ≤ 3131; omega, by rw [hR]; show _ ≤ 120514; omega⟩) hw hA [29, 30, 31, 32, 33] [0, 1, 2, 3, 4, 5, 6, 7, 8, 9, 10, 11, 12, 13, 14, 15, 16, 17, 18, 19, 20, 21, 22, 23, 24, 25, 26, 27, 28] rfl rfl rfl rfl (by decide) (fun _ => rfl) (fun t9 x8 H locs hp9 hw9 => ?_)
  obtain ⟨z8, o8⟩ := x8
  obtain ⟨e1, e2, e3⟩ := hp9
  dsimp only at e2 e3
  have e2 := e2.symm
  have e3 := e3.symm
  subst e2
  subst e3
  have hw : WD G (lwd G k1 k2 a a2 u1 u2 (pC ((xs (i + 1))) z : PO).2.2 y k (pC ((xs (i + 1))) z : PO).2.2 o9 (v9) (w)) A s H locs := hw9
  refine top_to (v := (pC ((xs (i + 1))) z : PO).1) S (e1.trans ht9) ?_
  refine lv_iload S.1 S.2.1 dL_law_538 (lv_at hl 1 rfl) ?_
  refine lv_icmp_eq (tgt := 545) S.1 S.2.1 dL_law_540 (by decide) (fun _ => ?_) (fun c8 => absurd rfl c8)
  refine lv_iload S.1 S.2.1 dL_law_545 (lv_at hl 1 rfl) ?_
  refine lv_if_ne (tgt := 562) S.1 S.2.1 dL_law_547 (by decide) (fun _ => ?_) (fun c8 => ?_)
  · skip
    refine lv_goto (tgt := 1963) S.1 S.2.1 dL_law_562 (by decide) ?_
    refine W.widen (k := cells + 2) (n := slots + 12) (by omega) (by omega) ?_
    exact kk H locs ls (pC ((xs (i + 1))) z : PO).2.2 y k o9 (v9) (w) _ _ (hr.go (inv_pC hr.1.1 _) hrt) hw (lv_sub hl [2, 3, 4, 5, 6, 7] rfl)
  · skip
    have c9 : (pC ((xs (i + 1))) z : PO).1 = 0 := by first | exact c8 | exact Decidable.not_not.mp c8
    have e9 := ev c9
    subst e9
    have hw : WD G (lwd G k1 k2 a a2 u1 u2 (pC ((xs (i + 1))) z : PO).2.2 y k (pC ((xs (i + 1))) z : PO).2.2 o9 (((pC ((xs (i + 1))) z : PO).2.1).toInt64) (w)) A s H locs := hw
    refine lv_aload_n S.1 S.2.1 dL_law_550 rfl (lv_at hl 5 rfl) ?_
    refine lv_iconst (v := 0) S.1 S.2.1 dL_law_551 (by decide) ?_
    refine la_l S hL hw 27 rfl dL_law_552 ?_
    refine lv_iload S.1 S.2.1 dL_law_553 (lv_at hl 0 rfl) ?_
    refine lv_i2l S.1 S.2.1 dL_law_555 rfl ?_
    refine lcmp_s S.1 S.2.1 rfl dL_law_556 ?_
    refine lv_if_eq (tgt := 562) S.1 S.2.1 dL_law_557 (by decide) (fun c1 => ?_) (fun c1 => ?_)
    · skip
      refine lv_goto (tgt := 1963) S.1 S.2.1 dL_law_562 (by decide) ?_
      refine W.widen (k := cells + 2) (n := slots + 12) (by omega) (by omega) ?_
      exact kk H locs ls (pC ((xs (i + 1))) z : PO).2.2 y k o9 (((pC ((xs (i + 1))) z : PO).2.1).toInt64) (w) _ _ (hr.go (inv_pC hr.1.1 _) hrt) hw (lv_sub hl [2, 3, 4, 5, 6, 7] rfl)
    · skip
      exact absurd c1 (by decide)

set_option maxHeartbeats 4000000 in
set_option maxRecDepth 100000 in
theorem lc_7 {p : Program} {l : Launch} {e : Env} {R : Room} {s : State} {m : MethodId} {args : Array Value} {below : List Frame} {meth : Method} {c : Code} {H : Heap} {locs : List Loc} {cells slots : Nat} {Q : State → Prop} {G : GA} {k1 k2 : ClassId} {A : Nat → Prop} {a a2 : Nat → Nat} {sb u1 u2 L i : Nat} {xs : Nat → Int32} {z y k o : St} {v : Int64} {w : UInt64} {tl : Nat} {hs : Bool} {ls : Array Slot} (S : CallFix p m c cL_law 9 s args lw_tbl RL) (hK : KK G s) (hX : XE l A s) (hL : KL G k1 k2 s) (hA : ∀ q, s.heap.size ≤ q → A q) (hXs : va_X sb L xs s s.heap) (hbl : sb < s.heap.size) (hbA : ¬ A sb) (hLL : L ≤ 2560) (hR : R = room_1) (hc1 : cells + 2 ≤ 3131) (hc2 : slots + 12 ≤ 120514) (hi : i + 4 < L) (hr : Rl z y k o tl hs) (hw : WD G (lwd G k1 k2 a a2 u1 u2 z y k z o v w) A s H locs) (hl : lv_has ls 9 [(0, .ref sb), (1, .ref (a 0)), (2, .ref (a2 0)), (3, .ref u1), (4, .ref u2), (5, .int (nI i))]) (kk : LK p l e R s m args below meth c Q G k1 k2 a a2 sb u1 u2 i A cells slots) : W p l e R s m args below meth c H locs cells slots Q (F0 m 565 ls []) := by
  refine lv_aload_n S.1 S.2.1 dL_law_565 rfl (lv_at hl 1 rfl) ?_
  refine lv_aload_n S.1 S.2.1 dL_law_566 rfl (lv_at hl 0 rfl) ?_
  refine lv_iload S.1 S.2.1 dL_law_567 (lv_at hl 5 rfl) ?_
  refine lv_iconst (v := 1) S.1 S.2.1 dL_law_569 (by decide) ?_
  refine addN (a := i) (b := 1) S dL_law_570 ?_
  refine sld_n (k := i + 1) S hXs hbl hbA hLL hw (by omega) dL_law_571 ?_
  refine lv_aload_n S.1 S.2.1 dL_law_572 rfl (lv_at hl 0 rfl) ?_
  refine lv_iload S.1 S.2.1 dL_law_573 (lv_at hl 5 rfl) ?_
  refine lv_iconst (v := 2) S.1 S.2.1 dL_law_575 (by decide) ?_
  refine addN (a := i) (b := 2) S dL_law_576 ?_
  refine sld_n (k := i + 2) S hXs hbl hbA hLL hw (by omega) dL_law_577 ?_
  refine lv_aload_n S.1 S.2.1 dL_law_578 rfl (lv_at hl 3 rfl) ?_
  have hwc : WD G (gL G k1 a z y k u1 (v)) A s H _ := hw.sub [0, 1, 2, 3, 4, 5, 6, 7, 8, 9, 10, 11, 12, 13, 14, 15, 16, 17, 18, 19, 20, 21, 22, 23, 24, 25, 26, 27] rfl rfl
  have hx9 := xc_le (pM ((xs (i + 1))) ((xs (i + 2))) z : PO).1
  refine cx_i (wc := (gL G k1 a z y k u1 (v))) (wr := ([(u2, .inl (k2, (1, .inr (.inr (.inr (.inl (fun _ => w)))))))] ++ mp G a2 z o)) (vx_runSX (hh := [(0, 10, 13, 28), (0, 10, 17, 13)]) (As := [.ref (a 0), .int (xs (i + 1)), .int (xs (i + 2)), .ref (u1)]) (rest := []) S (c_L_move l G k1 k2 u1 (v) a z y k H.size ((xs (i + 1))) ((xs (i + 2))) hr.1.1) (vx_cwSW 4 S.2.2.2.2 gL_law_L_move rfl rfl rfl hd_L_move ⟨by rw [hR]; exact Nat.le_of_ble_eq_true rfl, by rw [hR]; exact Nat.le_of_ble_eq_true rfl⟩) ⟨PL.blind, fun U hU hW => ⟨rfl, PL.of hK hX hL hwc (va_free hw.2.1 hw.2.2 hA [0, 1, 2, 3, 4, 5, 6, 7, 8, 9, 10, 11, 12, 13, 14, 15, 16, 17, 18, 19, 20, 21, 22, 23, 24, 25, 26, 27] rfl) hU hW⟩⟩ rfl rfl hl.1 rfl (lv_room (Nat.le_of_ble_eq_true rfl)) dL_law_579 ⟨by rw [hR]; show _ ≤ 3131; omega, by rw [hR]; show _ ≤ 120514; omega⟩) hw hA [0, 1, 2, 3, 4, 5, 6, 7, 8, 9, 10, 11, 12, 13, 14, 15, 16, 17, 18, 19, 20, 21, 22, 23, 24, 25, 26, 27] [28, 29, 30, 31, 32, 33] rfl rfl rfl rfl (by decide) (fun _ => rfl) (fun _ => rfl) (fun ce q9 u9 H locs hpx hw9 g1 g2 g3 => absurd hpx id) (fun r9 u9 H locs hp9 hw9 => ?_)
  obtain ⟨⟨z9, y9, k9⟩, v9⟩ := u9
  obtain ⟨rfl, e9, ev⟩ := hp9
  have e9 : (z9, y9, k9) = ((pM ((xs (i + 1))) ((xs (i + 2))) z : PO).2.2, y, k) := e9
  cases e9
  have ev : (pM ((xs (i + 1))) ((xs (i + 2))) z : PO).1 = 0 → v9 = ((pM ((xs (i + 1))) ((xs (i + 2))) z : PO).2.1).toInt64 := ev
  have hw : WD G (lwd G k1 k2 a a2 u1 u2 (pM ((xs (i + 1))) ((xs (i + 2))) z : PO).2.2 y k z o (v9) (w)) A s H locs := hw9.sub [6, 7, 8, 9, 10, 11, 12, 13, 14, 15, 16, 17, 18, 19, 20, 21, 22, 23, 24, 25, 26, 27, 28, 29, 30, 31, 32, 33, 0, 1, 2, 3, 4, 5] rfl rfl
  refine lv_istore (lv' := [(6, .int ((pM ((xs (i + 1))) ((xs (i + 2))) z : PO).1)), (0, .ref (sb)), (1, .ref (a 0)), (2, .ref (a2 0)), (3, .ref (u1)), (4, .ref (u2)), (5, .int (nI (i)))]) S.1 S.2.1 dL_law_582 hl (by decide) rfl (fun ls hl => ?_)
  refine lv_aload_n S.1 S.2.1 dL_law_584 rfl (lv_at hl 3 rfl) ?_
  refine lv_aload_n S.1 S.2.1 dL_law_585 rfl (lv_at hl 1 rfl) ?_
  refine lv_iload S.1 S.2.1 dL_law_586 (lv_at hl 6 rfl) ?_
  refine lv_iconst (v := 1) S.1 S.2.1 dL_law_588 (by decide) ?_
  refine addN (a := i) (b := 1) S dL_law_589 ?_
  refine sld_n (k := i + 1) S hXs hbl hbA hLL hw (by omega) dL_law_590 ?_
  refine lv_aload_n S.1 S.2.1 dL_law_591 rfl (lv_at hl 1 rfl) ?_
  refine lv_iload S.1 S.2.1 dL_law_592 (lv_at hl 6 rfl) ?_
  refine lv_iconst (v := 2) S.1 S.2.1 dL_law_594 (by decide) ?_
  refine addN (a := i) (b := 2) S dL_law_595 ?_
  refine sld_n (k := i + 2) S hXs hbl hbA hLL hw (by omega) dL_law_596 ?_
  have hwc : WD G (mp G a2 z o) A s H _ := hw.sub [29, 30, 31, 32, 33] rfl rfl
  refine cj_i (wc := (mp G a2 z o)) (wr := (gp G a (pM ((xs (i + 1))) ((xs (i + 2))) z : PO).2.2 y k ++ [(u1, .inl (k1, (1, .inr (.inl (fun _ => v9))))), (u2, .inl (k2, (1, .inr (.inr (.inr (.inl (fun _ => w)))))))])) (va_runV (As := [.int (xs (i + 1)), .int (xs (i + 2))]) (rest := []) S (c_X5_move l G a2 z o H.size ((xs (i + 1))) ((xs (i + 2))) hr.1.1) (cwV 2 S.2.2.2.2 gL_law_X5_move rfl rfl rfl hd_X5_move ⟨by rw [hR]; exact Nat.le_of_ble_eq_true rfl, by rw [hR]; exact Nat.le_of_ble_eq_true rfl⟩) ⟨PW.blind, va_recv hK.1 hwc.1 (ci := 5) (q0 := 0) rfl rfl, fun U hU hW => ⟨rfl, PW.of hK hwc hU hW⟩⟩ rfl rfl hl.1 rfl (lv_room (Nat.le_of_ble_eq_true rfl)) dL_law_597 ⟨by rw [hR]; show _ ≤ 3131; omega, by rw [hR]; show _ ≤ 120514; omega⟩) hw hA [29, 30, 31, 32, 33] [0, 1, 2, 3, 4, 5, 6, 7, 8, 9, 10, 11, 12, 13, 14, 15, 16, 17, 18, 19, 20, 21, 22, 23, 24, 25, 26, 27, 28] rfl rfl rfl rfl (by decide) (fun _ => rfl) (fun r9 x9 H locs hp9 hw9 => ?_)
  obtain ⟨z9, o9⟩ := x9
  obtain ⟨e0, e1, hrt, ht9⟩ := hp9
  have e1 : (pM ((xs (i + 1))) ((xs (i + 2))) z : PO).2.2 = z9 := (e1).symm
  subst e1
  have ht9 : o9 0 0 = (pM ((xs (i + 1))) ((xs (i + 2))) z : PO).1 := ht9
  have hw : WD G (lwd G k1 k2 a a2 u1 u2 (pM ((xs (i + 1))) ((xs (i + 2))) z : PO).2.2 y k (pM ((xs (i + 1))) ((xs (i + 2))) z : PO).2.2 o9 (v9) (w)) A s H locs := hw9
  have e0 : r9 = (pM ((xs (i + 1))) ((xs (i + 2))) z : PO).2.1 := e0
  subst e0
  refine lv_istore (lv' := [(7, .int ((pM ((xs (i + 1))) ((xs (i + 2))) z : PO).2.1)), (6, .int ((pM ((xs (i + 1))) ((xs (i + 2))) z : PO).1)), (0, .ref (sb)), (1, .ref (a 0)), (2, .ref (a2 0)), (3, .ref (u1)), (4, .ref (u2)), (5, .int (nI (i)))]) S.1 S.2.1 dL_law_600 hl (by decide) rfl (fun ls hl => ?_)
  refine lv_aload_n S.1 S.2.1 dL_law_602 rfl (lv_at hl 4 rfl) ?_
  have hwc : WD G (mp G a2 (pM ((xs (i + 1))) ((xs (i + 2))) z : PO).2.2 o9) A s H _ := hw.sub [29, 30, 31, 32, 33] rfl rfl
  refine cj_i (wc := (mp G a2 (pM ((xs (i + 1))) ((xs (i + 2))) z : PO).2.2 o9)) (wr := (gp G a (pM ((xs (i + 1))) ((xs (i + 2))) z : PO).2.2 y k ++ [(u1, .inl (k1, (1, .inr (.inl (fun _ => v9))))), (u2, .inl (k2, (1, .inr (.inr (.inr (.inl (fun _ => w)))))))])) (va_runV (As := []) (rest := []) S (c_X5_thrown l G a2 (pM ((xs (i + 1))) ((xs (i + 2))) z : PO).2.2 o9 H.size  ) (cwV 0 S.2.2.2.2 gL_law_X5_thrown rfl rfl rfl hd_X5_thrown ⟨by rw [hR]; exact Nat.le_of_ble_eq_true rfl, by rw [hR]; exact Nat.le_of_ble_eq_true rfl⟩) ⟨PW.blind, va_recv hK.1 hwc.1 (ci := 5) (q0 := 0) rfl rfl, fun U hU hW => ⟨rfl, PW.of hK hwc hU hW⟩⟩ rfl rfl hl.1 rfl (lv_room (Nat.le_of_ble_eq_true rfl)) dL_law_603 ⟨by rw [hR]; show _ ≤ 3131; omega, by rw [hR]; show _ ≤ 120514; omega⟩) hw hA [29, 30, 31, 32, 33] [0, 1, 2, 3, 4, 5, 6, 7, 8, 9, 10, 11, 12, 13, 14, 15, 16, 17, 18, 19, 20, 21, 22, 23, 24, 25, 26, 27, 28] rfl rfl rfl rfl (by decide) (fun _ => rfl) (fun t9 x8 H locs hp9 hw9 => ?_)
  obtain ⟨z8, o8⟩ := x8
  obtain ⟨e1, e2, e3⟩ := hp9
  dsimp only at e2 e3
  have e2 := e2.symm
  have e3 := e3.symm
  subst e2
  subst e3
  have hw : WD G (lwd G k1 k2 a a2 u1 u2 (pM ((xs (i + 1))) ((xs (i + 2))) z : PO).2.2 y k (pM ((xs (i + 1))) ((xs (i + 2))) z : PO).2.2 o9 (v9) (w)) A s H locs := hw9
  refine top_to (v := (pM ((xs (i + 1))) ((xs (i + 2))) z : PO).1) S (e1.trans ht9) ?_
  refine lv_iload S.1 S.2.1 dL_law_606 (lv_at hl 1 rfl) ?_
  refine lv_icmp_eq (tgt := 613) S.1 S.2.1 dL_law_608 (by decide) (fun _ => ?_) (fun c8 => absurd rfl c8)
  refine lv_iload S.1 S.2.1 dL_law_613 (lv_at hl 1 rfl) ?_
  refine lv_if_ne (tgt := 630) S.1 S.2.1 dL_law_615 (by decide) (fun _ => ?_) (fun c8 => ?_)
  · skip
    refine lv_goto (tgt := 1963) S.1 S.2.1 dL_law_630 (by decide) ?_
    refine W.widen (k := cells + 2) (n := slots + 12) (by omega) (by omega) ?_
    exact kk H locs ls (pM ((xs (i + 1))) ((xs (i + 2))) z : PO).2.2 y k o9 (v9) (w) _ _ (hr.go (inv_pM hr.1.1 _ _) hrt) hw (lv_sub hl [2, 3, 4, 5, 6, 7] rfl)
  · skip
    have c9 : (pM ((xs (i + 1))) ((xs (i + 2))) z : PO).1 = 0 := by first | exact c8 | exact Decidable.not_not.mp c8
    have e9 := ev c9
    subst e9
    have hw : WD G (lwd G k1 k2 a a2 u1 u2 (pM ((xs (i + 1))) ((xs (i + 2))) z : PO).2.2 y k (pM ((xs (i + 1))) ((xs (i + 2))) z : PO).2.2 o9 (((pM ((xs (i + 1))) ((xs (i + 2))) z : PO).2.1).toInt64) (w)) A s H locs := hw
    refine lv_aload_n S.1 S.2.1 dL_law_618 rfl (lv_at hl 5 rfl) ?_
    refine lv_iconst (v := 0) S.1 S.2.1 dL_law_619 (by decide) ?_
    refine la_l S hL hw 27 rfl dL_law_620 ?_
    refine lv_iload S.1 S.2.1 dL_law_621 (lv_at hl 0 rfl) ?_
    refine lv_i2l S.1 S.2.1 dL_law_623 rfl ?_
    refine lcmp_s S.1 S.2.1 rfl dL_law_624 ?_
    refine lv_if_eq (tgt := 630) S.1 S.2.1 dL_law_625 (by decide) (fun c1 => ?_) (fun c1 => ?_)
    · skip
      refine lv_goto (tgt := 1963) S.1 S.2.1 dL_law_630 (by decide) ?_
      refine W.widen (k := cells + 2) (n := slots + 12) (by omega) (by omega) ?_
      exact kk H locs ls (pM ((xs (i + 1))) ((xs (i + 2))) z : PO).2.2 y k o9 (((pM ((xs (i + 1))) ((xs (i + 2))) z : PO).2.1).toInt64) (w) _ _ (hr.go (inv_pM hr.1.1 _ _) hrt) hw (lv_sub hl [2, 3, 4, 5, 6, 7] rfl)
    · skip
      exact absurd c1 (by decide)

set_option maxHeartbeats 4000000 in
set_option maxRecDepth 100000 in
theorem lc_8 {p : Program} {l : Launch} {e : Env} {R : Room} {s : State} {m : MethodId} {args : Array Value} {below : List Frame} {meth : Method} {c : Code} {H : Heap} {locs : List Loc} {cells slots : Nat} {Q : State → Prop} {G : GA} {k1 k2 : ClassId} {A : Nat → Prop} {a a2 : Nat → Nat} {sb u1 u2 L i : Nat} {xs : Nat → Int32} {z y k o : St} {v : Int64} {w : UInt64} {tl : Nat} {hs : Bool} {ls : Array Slot} (S : CallFix p m c cL_law 9 s args lw_tbl RL) (hK : KK G s) (hX : XE l A s) (hL : KL G k1 k2 s) (hA : ∀ q, s.heap.size ≤ q → A q) (hXs : va_X sb L xs s s.heap) (hbl : sb < s.heap.size) (hbA : ¬ A sb) (hLL : L ≤ 2560) (hR : R = room_1) (hc1 : cells + 2 ≤ 3131) (hc2 : slots + 12 ≤ 120514) (hi : i + 4 < L) (hr : Rl z y k o tl hs) (hw : WD G (lwd G k1 k2 a a2 u1 u2 z y k z o v w) A s H locs) (hl : lv_has ls 9 [(0, .ref sb), (1, .ref (a 0)), (2, .ref (a2 0)), (3, .ref u1), (4, .ref u2), (5, .int (nI i))]) (kk : LK p l e R s m args below meth c Q G k1 k2 a a2 sb u1 u2 i A cells slots) : W p l e R s m args below meth c H locs cells slots Q (F0 m 633 ls []) := by
  refine lv_aload_n S.1 S.2.1 dL_law_633 rfl (lv_at hl 1 rfl) ?_
  refine lv_aload_n S.1 S.2.1 dL_law_634 rfl (lv_at hl 0 rfl) ?_
  refine lv_iload S.1 S.2.1 dL_law_635 (lv_at hl 5 rfl) ?_
  refine lv_iconst (v := 1) S.1 S.2.1 dL_law_637 (by decide) ?_
  refine addN (a := i) (b := 1) S dL_law_638 ?_
  refine sld_n (k := i + 1) S hXs hbl hbA hLL hw (by omega) dL_law_639 ?_
  refine lv_aload_n S.1 S.2.1 dL_law_640 rfl (lv_at hl 0 rfl) ?_
  refine lv_iload S.1 S.2.1 dL_law_641 (lv_at hl 5 rfl) ?_
  refine lv_iconst (v := 2) S.1 S.2.1 dL_law_643 (by decide) ?_
  refine addN (a := i) (b := 2) S dL_law_644 ?_
  refine sld_n (k := i + 2) S hXs hbl hbA hLL hw (by omega) dL_law_645 ?_
  refine lv_aload_n S.1 S.2.1 dL_law_646 rfl (lv_at hl 0 rfl) ?_
  refine lv_iload S.1 S.2.1 dL_law_647 (lv_at hl 5 rfl) ?_
  refine lv_iconst (v := 3) S.1 S.2.1 dL_law_649 (by decide) ?_
  refine addN (a := i) (b := 3) S dL_law_650 ?_
  refine sld_n (k := i + 3) S hXs hbl hbA hLL hw (by omega) dL_law_651 ?_
  refine lv_if_eq (tgt := 659) S.1 S.2.1 dL_law_652 (by decide) (fun c1 => ?_) (fun c1 => ?_)
  · skip
    refine lv_iconst (v := 0) S.1 S.2.1 dL_law_659 (by decide) ?_
    refine lv_aload_n S.1 S.2.1 dL_law_660 rfl (lv_at hl 3 rfl) ?_
    have hwc : WD G (gL G k1 a z y k u1 (v)) A s H _ := hw.sub [0, 1, 2, 3, 4, 5, 6, 7, 8, 9, 10, 11, 12, 13, 14, 15, 16, 17, 18, 19, 20, 21, 22, 23, 24, 25, 26, 27] rfl rfl
    have hx9 := xc_le (pK ((xs (i + 1))) ((xs (i + 2))) (false) z : PO).1
    refine cx_i (wc := (gL G k1 a z y k u1 (v))) (wr := ([(u2, .inl (k2, (1, .inr (.inr (.inr (.inl (fun _ => w)))))))] ++ mp G a2 z o)) (vx_runSX (hh := [(0, 19, 22, 28), (0, 19, 26, 13)]) (As := [.ref (a 0), .int (xs (i + 1)), .int (xs (i + 2)), .int 0, .ref (u1)]) (rest := []) S (c_L_cut l G k1 k2 u1 (v) a z y k H.size ((xs (i + 1))) ((xs (i + 2))) (false) hr.1.1) (vx_cwSW 5 S.2.2.2.2 gL_law_L_cut rfl rfl rfl hd_L_cut ⟨by rw [hR]; exact Nat.le_of_ble_eq_true rfl, by rw [hR]; exact Nat.le_of_ble_eq_true rfl⟩) ⟨PL.blind, fun U hU hW => ⟨rfl, PL.of hK hX hL hwc (va_free hw.2.1 hw.2.2 hA [0, 1, 2, 3, 4, 5, 6, 7, 8, 9, 10, 11, 12, 13, 14, 15, 16, 17, 18, 19, 20, 21, 22, 23, 24, 25, 26, 27] rfl) hU hW⟩⟩ rfl rfl hl.1 rfl (lv_room (Nat.le_of_ble_eq_true rfl)) dL_law_661 ⟨by rw [hR]; show _ ≤ 3131; omega, by rw [hR]; show _ ≤ 120514; omega⟩) hw hA [0, 1, 2, 3, 4, 5, 6, 7, 8, 9, 10, 11, 12, 13, 14, 15, 16, 17, 18, 19, 20, 21, 22, 23, 24, 25, 26, 27] [28, 29, 30, 31, 32, 33] rfl rfl rfl rfl (by decide) (fun _ => rfl) (fun _ => rfl) (fun ce q9 u9 H locs hpx hw9 g1 g2 g3 => absurd hpx id) (fun r9 u9 H locs hp9 hw9 => ?_)
    obtain ⟨⟨z9, y9, k9⟩, v9⟩ := u9
    obtain ⟨rfl, e9, ev⟩ := hp9
    have e9 : (z9, y9, k9) = ((pK ((xs (i + 1))) ((xs (i + 2))) (false) z : PO).2.2, y, k) := e9
    cases e9
    have ev : (pK ((xs (i + 1))) ((xs (i + 2))) (false) z : PO).1 = 0 → v9 = bl (pK ((xs (i + 1))) ((xs (i + 2))) (false) z : PO).2.1 := ev
    have hw : WD G (lwd G k1 k2 a a2 u1 u2 (pK ((xs (i + 1))) ((xs (i + 2))) (false) z : PO).2.2 y k z o (v9) (w)) A s H locs := hw9.sub [6, 7, 8, 9, 10, 11, 12, 13, 14, 15, 16, 17, 18, 19, 20, 21, 22, 23, 24, 25, 26, 27, 28, 29, 30, 31, 32, 33, 0, 1, 2, 3, 4, 5] rfl rfl
    refine lv_istore (lv' := [(6, .int ((pK ((xs (i + 1))) ((xs (i + 2))) (false) z : PO).1)), (0, .ref (sb)), (1, .ref (a 0)), (2, .ref (a2 0)), (3, .ref (u1)), (4, .ref (u2)), (5, .int (nI (i)))]) S.1 S.2.1 dL_law_664 hl (by decide) rfl (fun ls hl => ?_)
    refine lv_aload_n S.1 S.2.1 dL_law_666 rfl (lv_at hl 3 rfl) ?_
    refine lv_aload_n S.1 S.2.1 dL_law_667 rfl (lv_at hl 1 rfl) ?_
    refine lv_iload S.1 S.2.1 dL_law_668 (lv_at hl 6 rfl) ?_
    refine lv_iconst (v := 1) S.1 S.2.1 dL_law_670 (by decide) ?_
    refine addN (a := i) (b := 1) S dL_law_671 ?_
    refine sld_n (k := i + 1) S hXs hbl hbA hLL hw (by omega) dL_law_672 ?_
    refine lv_aload_n S.1 S.2.1 dL_law_673 rfl (lv_at hl 1 rfl) ?_
    refine lv_iload S.1 S.2.1 dL_law_674 (lv_at hl 6 rfl) ?_
    refine lv_iconst (v := 2) S.1 S.2.1 dL_law_676 (by decide) ?_
    refine addN (a := i) (b := 2) S dL_law_677 ?_
    refine sld_n (k := i + 2) S hXs hbl hbA hLL hw (by omega) dL_law_678 ?_
    refine lv_aload_n S.1 S.2.1 dL_law_679 rfl (lv_at hl 1 rfl) ?_
    refine lv_iload S.1 S.2.1 dL_law_680 (lv_at hl 6 rfl) ?_
    refine lv_iconst (v := 3) S.1 S.2.1 dL_law_682 (by decide) ?_
    refine addN (a := i) (b := 3) S dL_law_683 ?_
    refine sld_n (k := i + 3) S hXs hbl hbA hLL hw (by omega) dL_law_684 ?_
    refine lv_if_eq (tgt := 692) S.1 S.2.1 dL_law_685 (by decide) (fun c2 => ?_) (fun c2 => ?_)
    · skip
      refine lv_iconst (v := 0) S.1 S.2.1 dL_law_692 (by decide) ?_
      have hwc : WD G (mp G a2 z o) A s H _ := hw.sub [29, 30, 31, 32, 33] rfl rfl
      refine cj_i (wc := (mp G a2 z o)) (wr := (gp G a (pK ((xs (i + 1))) ((xs (i + 2))) (false) z : PO).2.2 y k ++ [(u1, .inl (k1, (1, .inr (.inl (fun _ => v9))))), (u2, .inl (k2, (1, .inr (.inr (.inr (.inl (fun _ => w)))))))])) (va_runV (As := [.int (xs (i + 1)), .int (xs (i + 2)), .int 0]) (rest := []) S (c_X5_cut l G a2 z o H.size ((xs (i + 1))) ((xs (i + 2))) (false) hr.1.1) (cwV 3 S.2.2.2.2 gL_law_X5_cut rfl rfl rfl hd_X5_cut ⟨by rw [hR]; exact Nat.le_of_ble_eq_true rfl, by rw [hR]; exact Nat.le_of_ble_eq_true rfl⟩) ⟨PW.blind, va_recv hK.1 hwc.1 (ci := 5) (q0 := 0) rfl rfl, fun U hU hW => ⟨rfl, PW.of hK hwc hU hW⟩⟩ rfl rfl hl.1 rfl (lv_room (Nat.le_of_ble_eq_true rfl)) dL_law_693 ⟨by rw [hR]; show _ ≤ 3131; omega, by rw [hR]; show _ ≤ 120514; omega⟩) hw hA [29, 30, 31, 32, 33] [0, 1, 2, 3, 4, 5, 6, 7, 8, 9, 10, 11, 12, 13, 14, 15, 16, 17, 18, 19, 20, 21, 22, 23, 24, 25, 26, 27, 28] rfl rfl rfl rfl (by decide) (fun _ => rfl) (fun r9 x9 H locs hp9 hw9 => ?_)
      obtain ⟨z9, o9⟩ := x9
      obtain ⟨e0, e1, hrt, ht9⟩ := hp9
      have e1 : (pK ((xs (i + 1))) ((xs (i + 2))) (false) z : PO).2.2 = z9 := (e1).symm
      subst e1
      have ht9 : o9 0 0 = (pK ((xs (i + 1))) ((xs (i + 2))) (false) z : PO).1 := ht9
      have hw : WD G (lwd G k1 k2 a a2 u1 u2 (pK ((xs (i + 1))) ((xs (i + 2))) (false) z : PO).2.2 y k (pK ((xs (i + 1))) ((xs (i + 2))) (false) z : PO).2.2 o9 (v9) (w)) A s H locs := hw9
      have e0 : r9 = (pK ((xs (i + 1))) ((xs (i + 2))) (false) z : PO).2.1 := e0
      subst e0
      refine lv_istore (lv' := [(7, .int ((pK ((xs (i + 1))) ((xs (i + 2))) (false) z : PO).2.1)), (6, .int ((pK ((xs (i + 1))) ((xs (i + 2))) (false) z : PO).1)), (0, .ref (sb)), (1, .ref (a 0)), (2, .ref (a2 0)), (3, .ref (u1)), (4, .ref (u2)), (5, .int (nI (i)))]) S.1 S.2.1 dL_law_696 hl (by decide) rfl (fun ls hl => ?_)
      refine lv_aload_n S.1 S.2.1 dL_law_698 rfl (lv_at hl 4 rfl) ?_
      have hwc : WD G (mp G a2 (pK ((xs (i + 1))) ((xs (i + 2))) (false) z : PO).2.2 o9) A s H _ := hw.sub [29, 30, 31, 32, 33] rfl rfl
      refine cj_i (wc := (mp G a2 (pK ((xs (i + 1))) ((xs (i + 2))) (false) z : PO).2.2 o9)) (wr := (gp G a (pK ((xs (i + 1))) ((xs (i + 2))) (false) z : PO).2.2 y k ++ [(u1, .inl (k1, (1, .inr (.inl (fun _ => v9))))), (u2, .inl (k2, (1, .inr (.inr (.inr (.inl (fun _ => w)))))))])) (va_runV (As := []) (rest := []) S (c_X5_thrown l G a2 (pK ((xs (i + 1))) ((xs (i + 2))) (false) z : PO).2.2 o9 H.size  ) (cwV 0 S.2.2.2.2 gL_law_X5_thrown rfl rfl rfl hd_X5_thrown ⟨by rw [hR]; exact Nat.le_of_ble_eq_true rfl, by rw [hR]; exact Nat.le_of_ble_eq_true rfl⟩) ⟨PW.blind, va_recv hK.1 hwc.1 (ci := 5) (q0 := 0) rfl rfl, fun U hU hW => ⟨rfl, PW.of hK hwc hU hW⟩⟩ rfl rfl hl.1 rfl (lv_room (Nat.le_of_ble_eq_true rfl)) dL_law_699 ⟨by rw [hR]; show _ ≤ 3131; omega, by rw [hR]; show _ ≤ 120514; omega⟩) hw hA [29, 30, 31, 32, 33] [0, 1, 2, 3, 4, 5, 6, 7, 8, 9, 10, 11, 12, 13, 14, 15, 16, 17, 18, 19, 20, 21, 22, 23, 24, 25, 26, 27, 28] rfl rfl rfl rfl (by decide) (fun _ => rfl) (fun t9 x8 H locs hp9 hw9 => ?_)
      obtain ⟨z8, o8⟩ := x8
      obtain ⟨e1, e2, e3⟩ := hp9
      dsimp only at e2 e3
      have e2 := e2.symm
      have e3 := e3.symm
      subst e2
      subst e3
      have hw : WD G (lwd G k1 k2 a a2 u1 u2 (pK ((xs (i + 1))) ((xs (i + 2))) (false) z : PO).2.2 y k (pK ((xs (i + 1))) ((xs (i + 2))) (false) z : PO).2.2 o9 (v9) (w)) A s H locs := hw9
      refine top_to (v := (pK ((xs (i + 1))) ((xs (i + 2))) (false) z : PO).1) S (e1.trans ht9) ?_
      refine lv_iload S.1 S.2.1 dL_law_702 (lv_at hl 1 rfl) ?_
      refine lv_icmp_eq (tgt := 709) S.1 S.2.1 dL_law_704 (by decide) (fun _ => ?_) (fun c8 => absurd rfl c8)
      refine lv_iload S.1 S.2.1 dL_law_709 (lv_at hl 1 rfl) ?_
      refine lv_if_ne (tgt := 733) S.1 S.2.1 dL_law_711 (by decide) (fun _ => ?_) (fun c8 => ?_)
      · skip
        refine lv_goto (tgt := 1963) S.1 S.2.1 dL_law_733 (by decide) ?_
        refine W.widen (k := cells + 2) (n := slots + 12) (by omega) (by omega) ?_
        exact kk H locs ls (pK ((xs (i + 1))) ((xs (i + 2))) (false) z : PO).2.2 y k o9 (v9) (w) _ _ (hr.go (inv_pK hr.1.1 _ _ _) hrt) hw (lv_sub hl [2, 3, 4, 5, 6, 7] rfl)
      · skip
        have c9 : (pK ((xs (i + 1))) ((xs (i + 2))) (false) z : PO).1 = 0 := by first | exact c8 | exact Decidable.not_not.mp c8
        have e9 := ev c9
        subst e9
        have hw : WD G (lwd G k1 k2 a a2 u1 u2 (pK ((xs (i + 1))) ((xs (i + 2))) (false) z : PO).2.2 y k (pK ((xs (i + 1))) ((xs (i + 2))) (false) z : PO).2.2 o9 (bl (pK ((xs (i + 1))) ((xs (i + 2))) (false) z : PO).2.1) (w)) A s H locs := hw
        refine lv_aload_n S.1 S.2.1 dL_law_714 rfl (lv_at hl 5 rfl) ?_
        refine lv_iconst (v := 0) S.1 S.2.1 dL_law_715 (by decide) ?_
        refine la_l S hL hw 27 rfl dL_law_716 ?_
        refine lv_iload S.1 S.2.1 dL_law_717 (lv_at hl 0 rfl) ?_
        refine lv_if_eq (tgt := 726) S.1 S.2.1 dL_law_719 (by decide) (fun zc => ?_) (fun zc => ?_)
        · skip
          refine lv_lconst S.1 S.2.1 dL_law_726 rfl ?_
          refine lcmp_s S.1 S.2.1 (bl_0 zc) dL_law_727 ?_
          refine lv_if_eq (tgt := 733) S.1 S.2.1 dL_law_728 (by decide) (fun c3 => ?_) (fun c3 => ?_)
          · skip
            refine lv_goto (tgt := 1963) S.1 S.2.1 dL_law_733 (by decide) ?_
            refine W.widen (k := cells + 2) (n := slots + 12) (by omega) (by omega) ?_
            exact kk H locs ls (pK ((xs (i + 1))) ((xs (i + 2))) (false) z : PO).2.2 y k o9 (bl (pK ((xs (i + 1))) ((xs (i + 2))) (false) z : PO).2.1) (w) _ _ (hr.go (inv_pK hr.1.1 _ _ _) hrt) hw (lv_sub hl [2, 3, 4, 5, 6, 7] rfl)
          · skip
            exact absurd c3 (by decide)
        · skip
          refine lv_lconst S.1 S.2.1 dL_law_722 rfl ?_
          refine lv_goto (tgt := 727) S.1 S.2.1 dL_law_723 (by decide) ?_
          refine lcmp_s S.1 S.2.1 (bl_1 zc) dL_law_727 ?_
          refine lv_if_eq (tgt := 733) S.1 S.2.1 dL_law_728 (by decide) (fun c4 => ?_) (fun c4 => ?_)
          · skip
            refine lv_goto (tgt := 1963) S.1 S.2.1 dL_law_733 (by decide) ?_
            refine W.widen (k := cells + 2) (n := slots + 12) (by omega) (by omega) ?_
            exact kk H locs ls (pK ((xs (i + 1))) ((xs (i + 2))) (false) z : PO).2.2 y k o9 (bl (pK ((xs (i + 1))) ((xs (i + 2))) (false) z : PO).2.1) (w) _ _ (hr.go (inv_pK hr.1.1 _ _ _) hrt) hw (lv_sub hl [2, 3, 4, 5, 6, 7] rfl)
          · skip
            exact absurd c4 (by decide)
    · skip
      exact absurd c1 c2
  · skip
    refine lv_iconst (v := 1) S.1 S.2.1 dL_law_655 (by decide) ?_
    refine lv_goto (tgt := 660) S.1 S.2.1 dL_law_656 (by decide) ?_
    refine lv_aload_n S.1 S.2.1 dL_law_660 rfl (lv_at hl 3 rfl) ?_
    have hwc : WD G (gL G k1 a z y k u1 (v)) A s H _ := hw.sub [0, 1, 2, 3, 4, 5, 6, 7, 8, 9, 10, 11, 12, 13, 14, 15, 16, 17, 18, 19, 20, 21, 22, 23, 24, 25, 26, 27] rfl rfl
    have hx9 := xc_le (pK ((xs (i + 1))) ((xs (i + 2))) (true) z : PO).1
    refine cx_i (wc := (gL G k1 a z y k u1 (v))) (wr := ([(u2, .inl (k2, (1, .inr (.inr (.inr (.inl (fun _ => w)))))))] ++ mp G a2 z o)) (vx_runSX (hh := [(0, 19, 22, 28), (0, 19, 26, 13)]) (As := [.ref (a 0), .int (xs (i + 1)), .int (xs (i + 2)), .int 1, .ref (u1)]) (rest := []) S (c_L_cut l G k1 k2 u1 (v) a z y k H.size ((xs (i + 1))) ((xs (i + 2))) (true) hr.1.1) (vx_cwSW 5 S.2.2.2.2 gL_law_L_cut rfl rfl rfl hd_L_cut ⟨by rw [hR]; exact Nat.le_of_ble_eq_true rfl, by rw [hR]; exact Nat.le_of_ble_eq_true rfl⟩) ⟨PL.blind, fun U hU hW => ⟨rfl, PL.of hK hX hL hwc (va_free hw.2.1 hw.2.2 hA [0, 1, 2, 3, 4, 5, 6, 7, 8, 9, 10, 11, 12, 13, 14, 15, 16, 17, 18, 19, 20, 21, 22, 23, 24, 25, 26, 27] rfl) hU hW⟩⟩ rfl rfl hl.1 rfl (lv_room (Nat.le_of_ble_eq_true rfl)) dL_law_661 ⟨by rw [hR]; show _ ≤ 3131; omega, by rw [hR]; show _ ≤ 120514; omega⟩) hw hA [0, 1, 2, 3, 4, 5, 6, 7, 8, 9, 10, 11, 12, 13, 14, 15, 16, 17, 18, 19, 20, 21, 22, 23, 24, 25, 26, 27] [28, 29, 30, 31, 32, 33] rfl rfl rfl rfl (by decide) (fun _ => rfl) (fun _ => rfl) (fun ce q9 u9 H locs hpx hw9 g1 g2 g3 => absurd hpx id) (fun r9 u9 H locs hp9 hw9 => ?_)
    obtain ⟨⟨z9, y9, k9⟩, v9⟩ := u9
    obtain ⟨rfl, e9, ev⟩ := hp9
    have e9 : (z9, y9, k9) = ((pK ((xs (i + 1))) ((xs (i + 2))) (true) z : PO).2.2, y, k) := e9
    cases e9
    have ev : (pK ((xs (i + 1))) ((xs (i + 2))) (true) z : PO).1 = 0 → v9 = bl (pK ((xs (i + 1))) ((xs (i + 2))) (true) z : PO).2.1 := ev
    have hw : WD G (lwd G k1 k2 a a2 u1 u2 (pK ((xs (i + 1))) ((xs (i + 2))) (true) z : PO).2.2 y k z o (v9) (w)) A s H locs := hw9.sub [6, 7, 8, 9, 10, 11, 12, 13, 14, 15, 16, 17, 18, 19, 20, 21, 22, 23, 24, 25, 26, 27, 28, 29, 30, 31, 32, 33, 0, 1, 2, 3, 4, 5] rfl rfl
    refine lv_istore (lv' := [(6, .int ((pK ((xs (i + 1))) ((xs (i + 2))) (true) z : PO).1)), (0, .ref (sb)), (1, .ref (a 0)), (2, .ref (a2 0)), (3, .ref (u1)), (4, .ref (u2)), (5, .int (nI (i)))]) S.1 S.2.1 dL_law_664 hl (by decide) rfl (fun ls hl => ?_)
    refine lv_aload_n S.1 S.2.1 dL_law_666 rfl (lv_at hl 3 rfl) ?_
    refine lv_aload_n S.1 S.2.1 dL_law_667 rfl (lv_at hl 1 rfl) ?_
    refine lv_iload S.1 S.2.1 dL_law_668 (lv_at hl 6 rfl) ?_
    refine lv_iconst (v := 1) S.1 S.2.1 dL_law_670 (by decide) ?_
    refine addN (a := i) (b := 1) S dL_law_671 ?_
    refine sld_n (k := i + 1) S hXs hbl hbA hLL hw (by omega) dL_law_672 ?_
    refine lv_aload_n S.1 S.2.1 dL_law_673 rfl (lv_at hl 1 rfl) ?_
    refine lv_iload S.1 S.2.1 dL_law_674 (lv_at hl 6 rfl) ?_
    refine lv_iconst (v := 2) S.1 S.2.1 dL_law_676 (by decide) ?_
    refine addN (a := i) (b := 2) S dL_law_677 ?_
    refine sld_n (k := i + 2) S hXs hbl hbA hLL hw (by omega) dL_law_678 ?_
    refine lv_aload_n S.1 S.2.1 dL_law_679 rfl (lv_at hl 1 rfl) ?_
    refine lv_iload S.1 S.2.1 dL_law_680 (lv_at hl 6 rfl) ?_
    refine lv_iconst (v := 3) S.1 S.2.1 dL_law_682 (by decide) ?_
    refine addN (a := i) (b := 3) S dL_law_683 ?_
    refine sld_n (k := i + 3) S hXs hbl hbA hLL hw (by omega) dL_law_684 ?_
    refine lv_if_eq (tgt := 692) S.1 S.2.1 dL_law_685 (by decide) (fun c5 => ?_) (fun c5 => ?_)
    · skip
      exact absurd c5 c1
    · skip
      refine lv_iconst (v := 1) S.1 S.2.1 dL_law_688 (by decide) ?_
      refine lv_goto (tgt := 693) S.1 S.2.1 dL_law_689 (by decide) ?_
      have hwc : WD G (mp G a2 z o) A s H _ := hw.sub [29, 30, 31, 32, 33] rfl rfl
      refine cj_i (wc := (mp G a2 z o)) (wr := (gp G a (pK ((xs (i + 1))) ((xs (i + 2))) (true) z : PO).2.2 y k ++ [(u1, .inl (k1, (1, .inr (.inl (fun _ => v9))))), (u2, .inl (k2, (1, .inr (.inr (.inr (.inl (fun _ => w)))))))])) (va_runV (As := [.int (xs (i + 1)), .int (xs (i + 2)), .int 1]) (rest := []) S (c_X5_cut l G a2 z o H.size ((xs (i + 1))) ((xs (i + 2))) (true) hr.1.1) (cwV 3 S.2.2.2.2 gL_law_X5_cut rfl rfl rfl hd_X5_cut ⟨by rw [hR]; exact Nat.le_of_ble_eq_true rfl, by rw [hR]; exact Nat.le_of_ble_eq_true rfl⟩) ⟨PW.blind, va_recv hK.1 hwc.1 (ci := 5) (q0 := 0) rfl rfl, fun U hU hW => ⟨rfl, PW.of hK hwc hU hW⟩⟩ rfl rfl hl.1 rfl (lv_room (Nat.le_of_ble_eq_true rfl)) dL_law_693 ⟨by rw [hR]; show _ ≤ 3131; omega, by rw [hR]; show _ ≤ 120514; omega⟩) hw hA [29, 30, 31, 32, 33] [0, 1, 2, 3, 4, 5, 6, 7, 8, 9, 10, 11, 12, 13, 14, 15, 16, 17, 18, 19, 20, 21, 22, 23, 24, 25, 26, 27, 28] rfl rfl rfl rfl (by decide) (fun _ => rfl) (fun r9 x9 H locs hp9 hw9 => ?_)
      obtain ⟨z9, o9⟩ := x9
      obtain ⟨e0, e1, hrt, ht9⟩ := hp9
      have e1 : (pK ((xs (i + 1))) ((xs (i + 2))) (true) z : PO).2.2 = z9 := (e1).symm
      subst e1
      have ht9 : o9 0 0 = (pK ((xs (i + 1))) ((xs (i + 2))) (true) z : PO).1 := ht9
      have hw : WD G (lwd G k1 k2 a a2 u1 u2 (pK ((xs (i + 1))) ((xs (i + 2))) (true) z : PO).2.2 y k (pK ((xs (i + 1))) ((xs (i + 2))) (true) z : PO).2.2 o9 (v9) (w)) A s H locs := hw9
      have e0 : r9 = (pK ((xs (i + 1))) ((xs (i + 2))) (true) z : PO).2.1 := e0
      subst e0
      refine lv_istore (lv' := [(7, .int ((pK ((xs (i + 1))) ((xs (i + 2))) (true) z : PO).2.1)), (6, .int ((pK ((xs (i + 1))) ((xs (i + 2))) (true) z : PO).1)), (0, .ref (sb)), (1, .ref (a 0)), (2, .ref (a2 0)), (3, .ref (u1)), (4, .ref (u2)), (5, .int (nI (i)))]) S.1 S.2.1 dL_law_696 hl (by decide) rfl (fun ls hl => ?_)
      refine lv_aload_n S.1 S.2.1 dL_law_698 rfl (lv_at hl 4 rfl) ?_
      have hwc : WD G (mp G a2 (pK ((xs (i + 1))) ((xs (i + 2))) (true) z : PO).2.2 o9) A s H _ := hw.sub [29, 30, 31, 32, 33] rfl rfl
      refine cj_i (wc := (mp G a2 (pK ((xs (i + 1))) ((xs (i + 2))) (true) z : PO).2.2 o9)) (wr := (gp G a (pK ((xs (i + 1))) ((xs (i + 2))) (true) z : PO).2.2 y k ++ [(u1, .inl (k1, (1, .inr (.inl (fun _ => v9))))), (u2, .inl (k2, (1, .inr (.inr (.inr (.inl (fun _ => w)))))))])) (va_runV (As := []) (rest := []) S (c_X5_thrown l G a2 (pK ((xs (i + 1))) ((xs (i + 2))) (true) z : PO).2.2 o9 H.size  ) (cwV 0 S.2.2.2.2 gL_law_X5_thrown rfl rfl rfl hd_X5_thrown ⟨by rw [hR]; exact Nat.le_of_ble_eq_true rfl, by rw [hR]; exact Nat.le_of_ble_eq_true rfl⟩) ⟨PW.blind, va_recv hK.1 hwc.1 (ci := 5) (q0 := 0) rfl rfl, fun U hU hW => ⟨rfl, PW.of hK hwc hU hW⟩⟩ rfl rfl hl.1 rfl (lv_room (Nat.le_of_ble_eq_true rfl)) dL_law_699 ⟨by rw [hR]; show _ ≤ 3131; omega, by rw [hR]; show _ ≤ 120514; omega⟩) hw hA [29, 30, 31, 32, 33] [0, 1, 2, 3, 4, 5, 6, 7, 8, 9, 10, 11, 12, 13, 14, 15, 16, 17, 18, 19, 20, 21, 22, 23, 24, 25, 26, 27, 28] rfl rfl rfl rfl (by decide) (fun _ => rfl) (fun t9 x8 H locs hp9 hw9 => ?_)
      obtain ⟨z8, o8⟩ := x8
      obtain ⟨e1, e2, e3⟩ := hp9
      dsimp only at e2 e3
      have e2 := e2.symm
      have e3 := e3.symm
      subst e2
      subst e3
      have hw : WD G (lwd G k1 k2 a a2 u1 u2 (pK ((xs (i + 1))) ((xs (i + 2))) (true) z : PO).2.2 y k (pK ((xs (i + 1))) ((xs (i + 2))) (true) z : PO).2.2 o9 (v9) (w)) A s H locs := hw9
      refine top_to (v := (pK ((xs (i + 1))) ((xs (i + 2))) (true) z : PO).1) S (e1.trans ht9) ?_
      refine lv_iload S.1 S.2.1 dL_law_702 (lv_at hl 1 rfl) ?_
      refine lv_icmp_eq (tgt := 709) S.1 S.2.1 dL_law_704 (by decide) (fun _ => ?_) (fun c8 => absurd rfl c8)
      refine lv_iload S.1 S.2.1 dL_law_709 (lv_at hl 1 rfl) ?_
      refine lv_if_ne (tgt := 733) S.1 S.2.1 dL_law_711 (by decide) (fun _ => ?_) (fun c8 => ?_)
      · skip
        refine lv_goto (tgt := 1963) S.1 S.2.1 dL_law_733 (by decide) ?_
        refine W.widen (k := cells + 2) (n := slots + 12) (by omega) (by omega) ?_
        exact kk H locs ls (pK ((xs (i + 1))) ((xs (i + 2))) (true) z : PO).2.2 y k o9 (v9) (w) _ _ (hr.go (inv_pK hr.1.1 _ _ _) hrt) hw (lv_sub hl [2, 3, 4, 5, 6, 7] rfl)
      · skip
        have c9 : (pK ((xs (i + 1))) ((xs (i + 2))) (true) z : PO).1 = 0 := by first | exact c8 | exact Decidable.not_not.mp c8
        have e9 := ev c9
        subst e9
        have hw : WD G (lwd G k1 k2 a a2 u1 u2 (pK ((xs (i + 1))) ((xs (i + 2))) (true) z : PO).2.2 y k (pK ((xs (i + 1))) ((xs (i + 2))) (true) z : PO).2.2 o9 (bl (pK ((xs (i + 1))) ((xs (i + 2))) (true) z : PO).2.1) (w)) A s H locs := hw
        refine lv_aload_n S.1 S.2.1 dL_law_714 rfl (lv_at hl 5 rfl) ?_
        refine lv_iconst (v := 0) S.1 S.2.1 dL_law_715 (by decide) ?_
        refine la_l S hL hw 27 rfl dL_law_716 ?_
        refine lv_iload S.1 S.2.1 dL_law_717 (lv_at hl 0 rfl) ?_
        refine lv_if_eq (tgt := 726) S.1 S.2.1 dL_law_719 (by decide) (fun zc => ?_) (fun zc => ?_)
        · skip
          refine lv_lconst S.1 S.2.1 dL_law_726 rfl ?_
          refine lcmp_s S.1 S.2.1 (bl_0 zc) dL_law_727 ?_
          refine lv_if_eq (tgt := 733) S.1 S.2.1 dL_law_728 (by decide) (fun c6 => ?_) (fun c6 => ?_)
          · skip
            refine lv_goto (tgt := 1963) S.1 S.2.1 dL_law_733 (by decide) ?_
            refine W.widen (k := cells + 2) (n := slots + 12) (by omega) (by omega) ?_
            exact kk H locs ls (pK ((xs (i + 1))) ((xs (i + 2))) (true) z : PO).2.2 y k o9 (bl (pK ((xs (i + 1))) ((xs (i + 2))) (true) z : PO).2.1) (w) _ _ (hr.go (inv_pK hr.1.1 _ _ _) hrt) hw (lv_sub hl [2, 3, 4, 5, 6, 7] rfl)
          · skip
            exact absurd c6 (by decide)
        · skip
          refine lv_lconst S.1 S.2.1 dL_law_722 rfl ?_
          refine lv_goto (tgt := 727) S.1 S.2.1 dL_law_723 (by decide) ?_
          refine lcmp_s S.1 S.2.1 (bl_1 zc) dL_law_727 ?_
          refine lv_if_eq (tgt := 733) S.1 S.2.1 dL_law_728 (by decide) (fun c7 => ?_) (fun c7 => ?_)
          · skip
            refine lv_goto (tgt := 1963) S.1 S.2.1 dL_law_733 (by decide) ?_
            refine W.widen (k := cells + 2) (n := slots + 12) (by omega) (by omega) ?_
            exact kk H locs ls (pK ((xs (i + 1))) ((xs (i + 2))) (true) z : PO).2.2 y k o9 (bl (pK ((xs (i + 1))) ((xs (i + 2))) (true) z : PO).2.1) (w) _ _ (hr.go (inv_pK hr.1.1 _ _ _) hrt) hw (lv_sub hl [2, 3, 4, 5, 6, 7] rfl)
          · skip
            exact absurd c7 (by decide)

set_option maxHeartbeats 4000000 in
set_option maxRecDepth 100000 in
theorem lc_9 {p : Program} {l : Launch} {e : Env} {R : Room} {s : State} {m : MethodId} {args : Array Value} {below : List Frame} {meth : Method} {c : Code} {H : Heap} {locs : List Loc} {cells slots : Nat} {Q : State → Prop} {G : GA} {k1 k2 : ClassId} {A : Nat → Prop} {a a2 : Nat → Nat} {sb u1 u2 L i : Nat} {xs : Nat → Int32} {z y k o : St} {v : Int64} {w : UInt64} {tl : Nat} {hs : Bool} {ls : Array Slot} (S : CallFix p m c cL_law 9 s args lw_tbl RL) (hK : KK G s) (hX : XE l A s) (hL : KL G k1 k2 s) (hA : ∀ q, s.heap.size ≤ q → A q) (hXs : va_X sb L xs s s.heap) (hbl : sb < s.heap.size) (hbA : ¬ A sb) (hLL : L ≤ 2560) (hR : R = room_1) (hc1 : cells + 2 ≤ 3131) (hc2 : slots + 12 ≤ 120514) (hi : i + 4 < L) (hr : Rl z y k o tl hs) (hw : WD G (lwd G k1 k2 a a2 u1 u2 z y k z o v w) A s H locs) (hl : lv_has ls 9 [(0, .ref sb), (1, .ref (a 0)), (2, .ref (a2 0)), (3, .ref u1), (4, .ref u2), (5, .int (nI i))]) (kk : LK p l e R s m args below meth c Q G k1 k2 a a2 sb u1 u2 i A cells slots) : W p l e R s m args below meth c H locs cells slots Q (F0 m 736 ls []) := by
  refine lv_aload_n S.1 S.2.1 dL_law_736 rfl (lv_at hl 1 rfl) ?_
  refine lv_aload_n S.1 S.2.1 dL_law_737 rfl (lv_at hl 0 rfl) ?_
  refine lv_iload S.1 S.2.1 dL_law_738 (lv_at hl 5 rfl) ?_
  refine lv_iconst (v := 1) S.1 S.2.1 dL_law_740 (by decide) ?_
  refine addN (a := i) (b := 1) S dL_law_741 ?_
  refine sld_n (k := i + 1) S hXs hbl hbA hLL hw (by omega) dL_law_742 ?_
  refine lv_aload_n S.1 S.2.1 dL_law_743 rfl (lv_at hl 3 rfl) ?_
  have hwc : WD G (gL G k1 a z y k u1 (v)) A s H _ := hw.sub [0, 1, 2, 3, 4, 5, 6, 7, 8, 9, 10, 11, 12, 13, 14, 15, 16, 17, 18, 19, 20, 21, 22, 23, 24, 25, 26, 27] rfl rfl
  have hx9 := xc_le (pR ((xs (i + 1))) z : PO).1
  refine cx_i (wc := (gL G k1 a z y k u1 (v))) (wr := ([(u2, .inl (k2, (1, .inr (.inr (.inr (.inl (fun _ => w)))))))] ++ mp G a2 z o)) (vx_runSX (hh := [(0, 9, 12, 13)]) (As := [.ref (a 0), .int (xs (i + 1)), .ref (u1)]) (rest := []) S (c_L_rounds l G k1 k2 u1 (v) a z y k H.size ((xs (i + 1))) hr.1.1) (vx_cwSW 3 S.2.2.2.2 gL_law_L_rounds rfl rfl rfl hd_L_rounds ⟨by rw [hR]; exact Nat.le_of_ble_eq_true rfl, by rw [hR]; exact Nat.le_of_ble_eq_true rfl⟩) ⟨PL.blind, fun U hU hW => ⟨rfl, PL.of hK hX hL hwc (va_free hw.2.1 hw.2.2 hA [0, 1, 2, 3, 4, 5, 6, 7, 8, 9, 10, 11, 12, 13, 14, 15, 16, 17, 18, 19, 20, 21, 22, 23, 24, 25, 26, 27] rfl) hU hW⟩⟩ rfl rfl hl.1 rfl (lv_room (Nat.le_of_ble_eq_true rfl)) dL_law_744 ⟨by rw [hR]; show _ ≤ 3131; omega, by rw [hR]; show _ ≤ 120514; omega⟩) hw hA [0, 1, 2, 3, 4, 5, 6, 7, 8, 9, 10, 11, 12, 13, 14, 15, 16, 17, 18, 19, 20, 21, 22, 23, 24, 25, 26, 27] [28, 29, 30, 31, 32, 33] rfl rfl rfl rfl (by decide) (fun _ => rfl) (fun _ => rfl) (fun ce q9 u9 H locs hpx hw9 g1 g2 g3 => absurd hpx id) (fun r9 u9 H locs hp9 hw9 => ?_)
  obtain ⟨⟨z9, y9, k9⟩, v9⟩ := u9
  obtain ⟨rfl, e9, ev⟩ := hp9
  have e9 : (z9, y9, k9) = ((pR ((xs (i + 1))) z : PO).2.2, y, k) := e9
  cases e9
  have ev : (pR ((xs (i + 1))) z : PO).1 = 0 → v9 = ((pR ((xs (i + 1))) z : PO).2.1).toInt64 := ev
  have hw : WD G (lwd G k1 k2 a a2 u1 u2 (pR ((xs (i + 1))) z : PO).2.2 y k z o (v9) (w)) A s H locs := hw9.sub [6, 7, 8, 9, 10, 11, 12, 13, 14, 15, 16, 17, 18, 19, 20, 21, 22, 23, 24, 25, 26, 27, 28, 29, 30, 31, 32, 33, 0, 1, 2, 3, 4, 5] rfl rfl
  refine lv_istore (lv' := [(6, .int ((pR ((xs (i + 1))) z : PO).1)), (0, .ref (sb)), (1, .ref (a 0)), (2, .ref (a2 0)), (3, .ref (u1)), (4, .ref (u2)), (5, .int (nI (i)))]) S.1 S.2.1 dL_law_747 hl (by decide) rfl (fun ls hl => ?_)
  refine lv_aload_n S.1 S.2.1 dL_law_749 rfl (lv_at hl 3 rfl) ?_
  refine lv_aload_n S.1 S.2.1 dL_law_750 rfl (lv_at hl 1 rfl) ?_
  refine lv_iload S.1 S.2.1 dL_law_751 (lv_at hl 6 rfl) ?_
  refine lv_iconst (v := 1) S.1 S.2.1 dL_law_753 (by decide) ?_
  refine addN (a := i) (b := 1) S dL_law_754 ?_
  refine sld_n (k := i + 1) S hXs hbl hbA hLL hw (by omega) dL_law_755 ?_
  have hwc : WD G (mp G a2 z o) A s H _ := hw.sub [29, 30, 31, 32, 33] rfl rfl
  refine cj_i (wc := (mp G a2 z o)) (wr := (gp G a (pR ((xs (i + 1))) z : PO).2.2 y k ++ [(u1, .inl (k1, (1, .inr (.inl (fun _ => v9))))), (u2, .inl (k2, (1, .inr (.inr (.inr (.inl (fun _ => w)))))))])) (va_runV (As := [.int (xs (i + 1))]) (rest := []) S (c_X5_rounds l G a2 z o H.size ((xs (i + 1))) hr.1.1) (cwV 1 S.2.2.2.2 gL_law_X5_rounds rfl rfl rfl hd_X5_rounds ⟨by rw [hR]; exact Nat.le_of_ble_eq_true rfl, by rw [hR]; exact Nat.le_of_ble_eq_true rfl⟩) ⟨PW.blind, va_recv hK.1 hwc.1 (ci := 5) (q0 := 0) rfl rfl, fun U hU hW => ⟨rfl, PW.of hK hwc hU hW⟩⟩ rfl rfl hl.1 rfl (lv_room (Nat.le_of_ble_eq_true rfl)) dL_law_756 ⟨by rw [hR]; show _ ≤ 3131; omega, by rw [hR]; show _ ≤ 120514; omega⟩) hw hA [29, 30, 31, 32, 33] [0, 1, 2, 3, 4, 5, 6, 7, 8, 9, 10, 11, 12, 13, 14, 15, 16, 17, 18, 19, 20, 21, 22, 23, 24, 25, 26, 27, 28] rfl rfl rfl rfl (by decide) (fun _ => rfl) (fun r9 x9 H locs hp9 hw9 => ?_)
  obtain ⟨z9, o9⟩ := x9
  obtain ⟨e0, e1, hrt, ht9⟩ := hp9
  have e1 : (pR ((xs (i + 1))) z : PO).2.2 = z9 := (e1).symm
  subst e1
  have ht9 : o9 0 0 = (pR ((xs (i + 1))) z : PO).1 := ht9
  have hw : WD G (lwd G k1 k2 a a2 u1 u2 (pR ((xs (i + 1))) z : PO).2.2 y k (pR ((xs (i + 1))) z : PO).2.2 o9 (v9) (w)) A s H locs := hw9
  have e0 : r9 = (pR ((xs (i + 1))) z : PO).2.1 := e0
  subst e0
  refine lv_istore (lv' := [(7, .int ((pR ((xs (i + 1))) z : PO).2.1)), (6, .int ((pR ((xs (i + 1))) z : PO).1)), (0, .ref (sb)), (1, .ref (a 0)), (2, .ref (a2 0)), (3, .ref (u1)), (4, .ref (u2)), (5, .int (nI (i)))]) S.1 S.2.1 dL_law_759 hl (by decide) rfl (fun ls hl => ?_)
  refine lv_aload_n S.1 S.2.1 dL_law_761 rfl (lv_at hl 4 rfl) ?_
  have hwc : WD G (mp G a2 (pR ((xs (i + 1))) z : PO).2.2 o9) A s H _ := hw.sub [29, 30, 31, 32, 33] rfl rfl
  refine cj_i (wc := (mp G a2 (pR ((xs (i + 1))) z : PO).2.2 o9)) (wr := (gp G a (pR ((xs (i + 1))) z : PO).2.2 y k ++ [(u1, .inl (k1, (1, .inr (.inl (fun _ => v9))))), (u2, .inl (k2, (1, .inr (.inr (.inr (.inl (fun _ => w)))))))])) (va_runV (As := []) (rest := []) S (c_X5_thrown l G a2 (pR ((xs (i + 1))) z : PO).2.2 o9 H.size  ) (cwV 0 S.2.2.2.2 gL_law_X5_thrown rfl rfl rfl hd_X5_thrown ⟨by rw [hR]; exact Nat.le_of_ble_eq_true rfl, by rw [hR]; exact Nat.le_of_ble_eq_true rfl⟩) ⟨PW.blind, va_recv hK.1 hwc.1 (ci := 5) (q0 := 0) rfl rfl, fun U hU hW => ⟨rfl, PW.of hK hwc hU hW⟩⟩ rfl rfl hl.1 rfl (lv_room (Nat.le_of_ble_eq_true rfl)) dL_law_762 ⟨by rw [hR]; show _ ≤ 3131; omega, by rw [hR]; show _ ≤ 120514; omega⟩) hw hA [29, 30, 31, 32, 33] [0, 1, 2, 3, 4, 5, 6, 7, 8, 9, 10, 11, 12, 13, 14, 15, 16, 17, 18, 19, 20, 21, 22, 23, 24, 25, 26, 27, 28] rfl rfl rfl rfl (by decide) (fun _ => rfl) (fun t9 x8 H locs hp9 hw9 => ?_)
  obtain ⟨z8, o8⟩ := x8
  obtain ⟨e1, e2, e3⟩ := hp9
  dsimp only at e2 e3
  have e2 := e2.symm
  have e3 := e3.symm
  subst e2
  subst e3
  have hw : WD G (lwd G k1 k2 a a2 u1 u2 (pR ((xs (i + 1))) z : PO).2.2 y k (pR ((xs (i + 1))) z : PO).2.2 o9 (v9) (w)) A s H locs := hw9
  refine top_to (v := (pR ((xs (i + 1))) z : PO).1) S (e1.trans ht9) ?_
  refine lv_iload S.1 S.2.1 dL_law_765 (lv_at hl 1 rfl) ?_
  refine lv_icmp_eq (tgt := 772) S.1 S.2.1 dL_law_767 (by decide) (fun _ => ?_) (fun c8 => absurd rfl c8)
  refine lv_iload S.1 S.2.1 dL_law_772 (lv_at hl 1 rfl) ?_
  refine lv_if_ne (tgt := 789) S.1 S.2.1 dL_law_774 (by decide) (fun _ => ?_) (fun c8 => ?_)
  · skip
    refine lv_goto (tgt := 1963) S.1 S.2.1 dL_law_789 (by decide) ?_
    refine W.widen (k := cells + 2) (n := slots + 12) (by omega) (by omega) ?_
    exact kk H locs ls (pR ((xs (i + 1))) z : PO).2.2 y k o9 (v9) (w) _ _ (hr.go (inv_pR hr.1.1 _) hrt) hw (lv_sub hl [2, 3, 4, 5, 6, 7] rfl)
  · skip
    have c9 : (pR ((xs (i + 1))) z : PO).1 = 0 := by first | exact c8 | exact Decidable.not_not.mp c8
    have e9 := ev c9
    subst e9
    have hw : WD G (lwd G k1 k2 a a2 u1 u2 (pR ((xs (i + 1))) z : PO).2.2 y k (pR ((xs (i + 1))) z : PO).2.2 o9 (((pR ((xs (i + 1))) z : PO).2.1).toInt64) (w)) A s H locs := hw
    refine lv_aload_n S.1 S.2.1 dL_law_777 rfl (lv_at hl 5 rfl) ?_
    refine lv_iconst (v := 0) S.1 S.2.1 dL_law_778 (by decide) ?_
    refine la_l S hL hw 27 rfl dL_law_779 ?_
    refine lv_iload S.1 S.2.1 dL_law_780 (lv_at hl 0 rfl) ?_
    refine lv_i2l S.1 S.2.1 dL_law_782 rfl ?_
    refine lcmp_s S.1 S.2.1 rfl dL_law_783 ?_
    refine lv_if_eq (tgt := 789) S.1 S.2.1 dL_law_784 (by decide) (fun c1 => ?_) (fun c1 => ?_)
    · skip
      refine lv_goto (tgt := 1963) S.1 S.2.1 dL_law_789 (by decide) ?_
      refine W.widen (k := cells + 2) (n := slots + 12) (by omega) (by omega) ?_
      exact kk H locs ls (pR ((xs (i + 1))) z : PO).2.2 y k o9 (((pR ((xs (i + 1))) z : PO).2.1).toInt64) (w) _ _ (hr.go (inv_pR hr.1.1 _) hrt) hw (lv_sub hl [2, 3, 4, 5, 6, 7] rfl)
    · skip
      exact absurd c1 (by decide)

set_option maxHeartbeats 4000000 in
set_option maxRecDepth 100000 in
theorem lc_10 {p : Program} {l : Launch} {e : Env} {R : Room} {s : State} {m : MethodId} {args : Array Value} {below : List Frame} {meth : Method} {c : Code} {H : Heap} {locs : List Loc} {cells slots : Nat} {Q : State → Prop} {G : GA} {k1 k2 : ClassId} {A : Nat → Prop} {a a2 : Nat → Nat} {sb u1 u2 L i : Nat} {xs : Nat → Int32} {z y k o : St} {v : Int64} {w : UInt64} {tl : Nat} {hs : Bool} {ls : Array Slot} (S : CallFix p m c cL_law 9 s args lw_tbl RL) (hK : KK G s) (hX : XE l A s) (hL : KL G k1 k2 s) (hA : ∀ q, s.heap.size ≤ q → A q) (hXs : va_X sb L xs s s.heap) (hbl : sb < s.heap.size) (hbA : ¬ A sb) (hLL : L ≤ 2560) (hR : R = room_1) (hc1 : cells + 2 ≤ 3131) (hc2 : slots + 12 ≤ 120514) (hi : i + 4 < L) (hr : Rl z y k o tl hs) (hw : WD G (lwd G k1 k2 a a2 u1 u2 z y k z o v w) A s H locs) (hl : lv_has ls 9 [(0, .ref sb), (1, .ref (a 0)), (2, .ref (a2 0)), (3, .ref u1), (4, .ref u2), (5, .int (nI i))]) (kk : LK p l e R s m args below meth c Q G k1 k2 a a2 sb u1 u2 i A cells slots) : W p l e R s m args below meth c H locs cells slots Q (F0 m 792 ls []) := by
  refine lv_aload_n S.1 S.2.1 dL_law_792 rfl (lv_at hl 1 rfl) ?_
  refine lv_aload_n S.1 S.2.1 dL_law_793 rfl (lv_at hl 0 rfl) ?_
  refine lv_iload S.1 S.2.1 dL_law_794 (lv_at hl 5 rfl) ?_
  refine lv_iconst (v := 1) S.1 S.2.1 dL_law_796 (by decide) ?_
  refine addN (a := i) (b := 1) S dL_law_797 ?_
  refine sld_n (k := i + 1) S hXs hbl hbA hLL hw (by omega) dL_law_798 ?_
  refine lv_aload_n S.1 S.2.1 dL_law_799 rfl (lv_at hl 3 rfl) ?_
  have hwc : WD G (gL G k1 a z y k u1 (v)) A s H _ := hw.sub [0, 1, 2, 3, 4, 5, 6, 7, 8, 9, 10, 11, 12, 13, 14, 15, 16, 17, 18, 19, 20, 21, 22, 23, 24, 25, 26, 27] rfl rfl
  have hx9 := xc_le (pU ((xs (i + 1))) z : PO).1
  refine cx_i (wc := (gL G k1 a z y k u1 (v))) (wr := ([(u2, .inl (k2, (1, .inr (.inr (.inr (.inl (fun _ => w)))))))] ++ mp G a2 z o)) (vx_runSX (hh := [(0, 9, 12, 13), (0, 9, 15, 48)]) (As := [.ref (a 0), .int (xs (i + 1)), .ref (u1)]) (rest := []) S (c_L_roundsUntilAgreement l G k1 k2 u1 (v) a z y k H.size ((xs (i + 1))) hr.1.1) (vx_cwSW 3 S.2.2.2.2 gL_law_L_roundsUntilAgreement rfl rfl rfl hd_L_roundsUntilAgreement ⟨by rw [hR]; exact Nat.le_of_ble_eq_true rfl, by rw [hR]; exact Nat.le_of_ble_eq_true rfl⟩) ⟨PL.blind, fun U hU hW => ⟨rfl, PL.of hK hX hL hwc (va_free hw.2.1 hw.2.2 hA [0, 1, 2, 3, 4, 5, 6, 7, 8, 9, 10, 11, 12, 13, 14, 15, 16, 17, 18, 19, 20, 21, 22, 23, 24, 25, 26, 27] rfl) hU hW⟩⟩ rfl rfl hl.1 rfl (lv_room (Nat.le_of_ble_eq_true rfl)) dL_law_800 ⟨by rw [hR]; show _ ≤ 3131; omega, by rw [hR]; show _ ≤ 120514; omega⟩) hw hA [0, 1, 2, 3, 4, 5, 6, 7, 8, 9, 10, 11, 12, 13, 14, 15, 16, 17, 18, 19, 20, 21, 22, 23, 24, 25, 26, 27] [28, 29, 30, 31, 32, 33] rfl rfl rfl rfl (by decide) (fun _ => rfl) (fun _ => rfl) (fun ce q9 u9 H locs hpx hw9 g1 g2 g3 => absurd hpx id) (fun r9 u9 H locs hp9 hw9 => ?_)
  obtain ⟨⟨z9, y9, k9⟩, v9⟩ := u9
  obtain ⟨rfl, e9, ev⟩ := hp9
  have e9 : (z9, y9, k9) = ((pU ((xs (i + 1))) z : PO).2.2, y, k) := e9
  cases e9
  have ev : (pU ((xs (i + 1))) z : PO).1 = 0 → v9 = ((pU ((xs (i + 1))) z : PO).2.1).toInt64 := ev
  have hw : WD G (lwd G k1 k2 a a2 u1 u2 (pU ((xs (i + 1))) z : PO).2.2 y k z o (v9) (w)) A s H locs := hw9.sub [6, 7, 8, 9, 10, 11, 12, 13, 14, 15, 16, 17, 18, 19, 20, 21, 22, 23, 24, 25, 26, 27, 28, 29, 30, 31, 32, 33, 0, 1, 2, 3, 4, 5] rfl rfl
  refine lv_istore (lv' := [(6, .int ((pU ((xs (i + 1))) z : PO).1)), (0, .ref (sb)), (1, .ref (a 0)), (2, .ref (a2 0)), (3, .ref (u1)), (4, .ref (u2)), (5, .int (nI (i)))]) S.1 S.2.1 dL_law_803 hl (by decide) rfl (fun ls hl => ?_)
  refine lv_aload_n S.1 S.2.1 dL_law_805 rfl (lv_at hl 3 rfl) ?_
  refine lv_aload_n S.1 S.2.1 dL_law_806 rfl (lv_at hl 1 rfl) ?_
  refine lv_iload S.1 S.2.1 dL_law_807 (lv_at hl 6 rfl) ?_
  refine lv_iconst (v := 1) S.1 S.2.1 dL_law_809 (by decide) ?_
  refine addN (a := i) (b := 1) S dL_law_810 ?_
  refine sld_n (k := i + 1) S hXs hbl hbA hLL hw (by omega) dL_law_811 ?_
  have hwc : WD G (mp G a2 z o) A s H _ := hw.sub [29, 30, 31, 32, 33] rfl rfl
  refine cj_i (wc := (mp G a2 z o)) (wr := (gp G a (pU ((xs (i + 1))) z : PO).2.2 y k ++ [(u1, .inl (k1, (1, .inr (.inl (fun _ => v9))))), (u2, .inl (k2, (1, .inr (.inr (.inr (.inl (fun _ => w)))))))])) (va_runV (As := [.int (xs (i + 1))]) (rest := []) S (c_X5_roundsUntilAgreement l G a2 z o H.size ((xs (i + 1))) hr.1.1) (cwV 1 S.2.2.2.2 gL_law_X5_roundsUntilAgreement rfl rfl rfl hd_X5_roundsUntilAgreement ⟨by rw [hR]; exact Nat.le_of_ble_eq_true rfl, by rw [hR]; exact Nat.le_of_ble_eq_true rfl⟩) ⟨PW.blind, va_recv hK.1 hwc.1 (ci := 5) (q0 := 0) rfl rfl, fun U hU hW => ⟨rfl, PW.of hK hwc hU hW⟩⟩ rfl rfl hl.1 rfl (lv_room (Nat.le_of_ble_eq_true rfl)) dL_law_812 ⟨by rw [hR]; show _ ≤ 3131; omega, by rw [hR]; show _ ≤ 120514; omega⟩) hw hA [29, 30, 31, 32, 33] [0, 1, 2, 3, 4, 5, 6, 7, 8, 9, 10, 11, 12, 13, 14, 15, 16, 17, 18, 19, 20, 21, 22, 23, 24, 25, 26, 27, 28] rfl rfl rfl rfl (by decide) (fun _ => rfl) (fun r9 x9 H locs hp9 hw9 => ?_)
  obtain ⟨z9, o9⟩ := x9
  obtain ⟨e0, e1, hrt, ht9⟩ := hp9
  have e1 : (pU ((xs (i + 1))) z : PO).2.2 = z9 := (e1).symm
  subst e1
  have ht9 : o9 0 0 = (pU ((xs (i + 1))) z : PO).1 := ht9
  have hw : WD G (lwd G k1 k2 a a2 u1 u2 (pU ((xs (i + 1))) z : PO).2.2 y k (pU ((xs (i + 1))) z : PO).2.2 o9 (v9) (w)) A s H locs := hw9
  have e0 : r9 = (pU ((xs (i + 1))) z : PO).2.1 := e0
  subst e0
  refine lv_istore (lv' := [(7, .int ((pU ((xs (i + 1))) z : PO).2.1)), (6, .int ((pU ((xs (i + 1))) z : PO).1)), (0, .ref (sb)), (1, .ref (a 0)), (2, .ref (a2 0)), (3, .ref (u1)), (4, .ref (u2)), (5, .int (nI (i)))]) S.1 S.2.1 dL_law_815 hl (by decide) rfl (fun ls hl => ?_)
  refine lv_aload_n S.1 S.2.1 dL_law_817 rfl (lv_at hl 4 rfl) ?_
  have hwc : WD G (mp G a2 (pU ((xs (i + 1))) z : PO).2.2 o9) A s H _ := hw.sub [29, 30, 31, 32, 33] rfl rfl
  refine cj_i (wc := (mp G a2 (pU ((xs (i + 1))) z : PO).2.2 o9)) (wr := (gp G a (pU ((xs (i + 1))) z : PO).2.2 y k ++ [(u1, .inl (k1, (1, .inr (.inl (fun _ => v9))))), (u2, .inl (k2, (1, .inr (.inr (.inr (.inl (fun _ => w)))))))])) (va_runV (As := []) (rest := []) S (c_X5_thrown l G a2 (pU ((xs (i + 1))) z : PO).2.2 o9 H.size  ) (cwV 0 S.2.2.2.2 gL_law_X5_thrown rfl rfl rfl hd_X5_thrown ⟨by rw [hR]; exact Nat.le_of_ble_eq_true rfl, by rw [hR]; exact Nat.le_of_ble_eq_true rfl⟩) ⟨PW.blind, va_recv hK.1 hwc.1 (ci := 5) (q0 := 0) rfl rfl, fun U hU hW => ⟨rfl, PW.of hK hwc hU hW⟩⟩ rfl rfl hl.1 rfl (lv_room (Nat.le_of_ble_eq_true rfl)) dL_law_818 ⟨by rw [hR]; show _ ≤ 3131; omega, by rw [hR]; show _ ≤ 120514; omega⟩) hw hA [29, 30, 31, 32, 33] [0, 1, 2, 3, 4, 5, 6, 7, 8, 9, 10, 11, 12, 13, 14, 15, 16, 17, 18, 19, 20, 21, 22, 23, 24, 25, 26, 27, 28] rfl rfl rfl rfl (by decide) (fun _ => rfl) (fun t9 x8 H locs hp9 hw9 => ?_)
  obtain ⟨z8, o8⟩ := x8
  obtain ⟨e1, e2, e3⟩ := hp9
  dsimp only at e2 e3
  have e2 := e2.symm
  have e3 := e3.symm
  subst e2
  subst e3
  have hw : WD G (lwd G k1 k2 a a2 u1 u2 (pU ((xs (i + 1))) z : PO).2.2 y k (pU ((xs (i + 1))) z : PO).2.2 o9 (v9) (w)) A s H locs := hw9
  refine top_to (v := (pU ((xs (i + 1))) z : PO).1) S (e1.trans ht9) ?_
  refine lv_iload S.1 S.2.1 dL_law_821 (lv_at hl 1 rfl) ?_
  refine lv_icmp_eq (tgt := 828) S.1 S.2.1 dL_law_823 (by decide) (fun _ => ?_) (fun c8 => absurd rfl c8)
  refine lv_iload S.1 S.2.1 dL_law_828 (lv_at hl 1 rfl) ?_
  refine lv_if_ne (tgt := 845) S.1 S.2.1 dL_law_830 (by decide) (fun _ => ?_) (fun c8 => ?_)
  · skip
    refine lv_goto (tgt := 1963) S.1 S.2.1 dL_law_845 (by decide) ?_
    refine W.widen (k := cells + 2) (n := slots + 12) (by omega) (by omega) ?_
    exact kk H locs ls (pU ((xs (i + 1))) z : PO).2.2 y k o9 (v9) (w) _ _ (hr.go (inv_pU hr.1.1 _) hrt) hw (lv_sub hl [2, 3, 4, 5, 6, 7] rfl)
  · skip
    have c9 : (pU ((xs (i + 1))) z : PO).1 = 0 := by first | exact c8 | exact Decidable.not_not.mp c8
    have e9 := ev c9
    subst e9
    have hw : WD G (lwd G k1 k2 a a2 u1 u2 (pU ((xs (i + 1))) z : PO).2.2 y k (pU ((xs (i + 1))) z : PO).2.2 o9 (((pU ((xs (i + 1))) z : PO).2.1).toInt64) (w)) A s H locs := hw
    refine lv_aload_n S.1 S.2.1 dL_law_833 rfl (lv_at hl 5 rfl) ?_
    refine lv_iconst (v := 0) S.1 S.2.1 dL_law_834 (by decide) ?_
    refine la_l S hL hw 27 rfl dL_law_835 ?_
    refine lv_iload S.1 S.2.1 dL_law_836 (lv_at hl 0 rfl) ?_
    refine lv_i2l S.1 S.2.1 dL_law_838 rfl ?_
    refine lcmp_s S.1 S.2.1 rfl dL_law_839 ?_
    refine lv_if_eq (tgt := 845) S.1 S.2.1 dL_law_840 (by decide) (fun c1 => ?_) (fun c1 => ?_)
    · skip
      refine lv_goto (tgt := 1963) S.1 S.2.1 dL_law_845 (by decide) ?_
      refine W.widen (k := cells + 2) (n := slots + 12) (by omega) (by omega) ?_
      exact kk H locs ls (pU ((xs (i + 1))) z : PO).2.2 y k o9 (((pU ((xs (i + 1))) z : PO).2.1).toInt64) (w) _ _ (hr.go (inv_pU hr.1.1 _) hrt) hw (lv_sub hl [2, 3, 4, 5, 6, 7] rfl)
    · skip
      exact absurd c1 (by decide)

