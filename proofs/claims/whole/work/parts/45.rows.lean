/-! the law's own rows -/
theorem xc_le (c : Int32) : xc c ≤ 1 := by
  unfold xc
  split <;> omega
theorem xr_le (c : Int32) : xr c ≤ 2 := by
  unfold xr
  split
  · omega
  · split <;> omega
section QL
variable {p : Program} {l : Launch} {e : Env} {R : Room} {s : State} {m : MethodId} {args : Array Value} {below : List Frame} {meth : Method} {c : Code} {H : Heap} {locs : List Loc} {cells slots : Nat} {Q : State → Prop}
variable {cc : ByteArray} {nL : Nat} {Ts : List Cond} {own : String} {pc idx : Nat} {ls : Array Slot} {rest : List Value} {G : GA} {A : Nat → Prop} {ws ws' : va_W} {k1 k2 : ClassId}
theorem lcmp_s (hexec : p.tables.exec = Jvm.exec) (hb : c.code = cc) {x y : Int64} (hxy : x = y) (hdg : decode cc pc = .ok (.lcmp, 1))
    (k : W p l e R s m args below meth c H locs cells slots Q (F0 m (pc + 1) ls (.int 0 :: rest))) : W p l e R s m args below meth c H locs cells slots Q (F0 m pc ls (.long y :: .long x :: rest)) := by
  subst hxy
  intro T hT X
  obtain ⟨t, a, b⟩ := k T hT X
  refine ⟨t, ?_, b⟩
  have h9 : ¬ x < x := Int64.lt_irrefl
  jvm_step X.here [X.here.top, hexec, hb, hdg, h9]
  exact a
theorem dcmp_s (hexec : p.tables.exec = Jvm.exec) (hb : c.code = cc) {x y : UInt64} {op : CmpOp} (hxy : x = y) (hn : FP.Core.val64 x ≠ .nan) (hdg : decode cc pc = .ok (.dcmp op, 1))
    (k : W p l e R s m args below meth c H locs cells slots Q (F0 m (pc + 1) ls (.int 0 :: rest))) : W p l e R s m args below meth c H locs cells slots Q (F0 m pc ls (.double y :: .double x :: rest)) := by
  subst hxy
  refine lv_dcmp hexec hb hdg ?_
  have e : FP.dcmp x x = some .eq := FP.Core.dcmp_self hn
  rw [e]
  exact k

theorem cj_d {U : Type} {post : UInt64 → U → Prop} {pic : U → va_W} {wc wr : va_W} {st0 : List Value} {a : Array Value} {mc ms : Nat} (hr : va_Run p l e R s m args below meth c H locs cells slots mc ms (F0 m pc ls st0) rest (va_Qd post (fun u t => va_P G.1 gcl (pic u) t.heap) (va_A wc H.size) a) (va_A wc H.size)) (hw : WD G ws A s H locs) (hA : ∀ q, s.heap.size ≤ q → A q) (isC isR : List Nat) (hC : isC.map (fun i => ws[i]?) = wc.map some) (hR : isR.map (fun i => ws[i]?) = wr.map some) (hnC : va_nd isC = true) (hn : va_nd isR = true) (hdis : ∀ i ∈ isR, i ∉ isC) (hs : ∀ u, (pic u).map (·.1) = wc.map (·.1))
    (kk : ∀ (r : UInt64) (u : U) (H1 : Heap) (locs1 : List Loc), post r u → WD G (wr ++ pic u) A s H1 locs1 → W p l e R s m args below meth c H1 locs1 (cells + mc) (slots + ms) Q (F0 m (pc + 3) ls (.double r :: rest))) : W p l e R s m args below meth c H locs cells slots Q (F0 m pc ls st0) := by
  have hF := va_free (wc := wc) hw.2.1 hw.2.2 hA isC hC
  refine va_calld hr hw.2.2 (fun q _ h => hF q h) hF (fun r u t H1 locs1 ht _ hp hB _ hk hS => kk r u H1 locs1 hp ?_)
  have hD1 : va_D (va_A wc H.size) (pic u) := va_D.same (hs u) ((hw.2.1.sub isC hnC hC).self)
  obtain ⟨hP9, hD9⟩ := va_join (wr := wr) (w1 := pic u) hw.1 hw.2.1 isC isR hC hR hn hdis hk hF (by rw [← ht]; exact hB) hD1
  exact ⟨hP9, hD9, hS⟩

theorem cj_f {U : Type} {post : UInt32 → U → Prop} {pic : U → va_W} {wc wr : va_W} {st0 : List Value} {a : Array Value} {mc ms : Nat} (hr : va_Run p l e R s m args below meth c H locs cells slots mc ms (F0 m pc ls st0) rest (va_Qf post (fun u t => va_P G.1 gcl (pic u) t.heap) (va_A wc H.size) a) (va_A wc H.size)) (hw : WD G ws A s H locs) (hA : ∀ q, s.heap.size ≤ q → A q) (isC isR : List Nat) (hC : isC.map (fun i => ws[i]?) = wc.map some) (hR : isR.map (fun i => ws[i]?) = wr.map some) (hnC : va_nd isC = true) (hn : va_nd isR = true) (hdis : ∀ i ∈ isR, i ∉ isC) (hs : ∀ u, (pic u).map (·.1) = wc.map (·.1))
    (kk : ∀ (r : UInt32) (u : U) (H1 : Heap) (locs1 : List Loc), post r u → WD G (wr ++ pic u) A s H1 locs1 → W p l e R s m args below meth c H1 locs1 (cells + mc) (slots + ms) Q (F0 m (pc + 3) ls (.float r :: rest))) : W p l e R s m args below meth c H locs cells slots Q (F0 m pc ls st0) := by
  have hF := va_free (wc := wc) hw.2.1 hw.2.2 hA isC hC
  refine va_callf hr hw.2.2 (fun q _ h => hF q h) hF (fun r u t H1 locs1 ht _ hp hB _ hk hS => kk r u H1 locs1 hp ?_)
  have hD1 : va_D (va_A wc H.size) (pic u) := va_D.same (hs u) ((hw.2.1.sub isC hnC hC).self)
  obtain ⟨hP9, hD9⟩ := va_join (wr := wr) (w1 := pic u) hw.1 hw.2.1 isC isR hC hR hn hdis hk hF (by rw [← ht]; exact hB) hD1
  exact ⟨hP9, hD9, hS⟩

theorem sld_n (S : CallFix p m c cc nL s args Ts own) {b L k : Nat} {xs : Nat → Int32} (hX : va_X b L xs s s.heap) (hbl : b < s.heap.size) (hbA : ¬ A b) (hL : L ≤ 2560) (hw : WD G ws A s H locs) (hk : k < L) (hdg : decode cc pc = .ok (.iaload, 1))
    (kk : W p l e R s m args below meth c H locs cells slots Q (F0 m (pc + 1) ls (.int (xs k) :: rest))) : W p l e R s m args below meth c H locs cells slots Q (F0 m pc ls (.int (nI k) :: .ref b :: rest)) := by
  have e9 : (nI k).toNatClampNeg = k := nI_clamp (by omega)
  refine va_sld S.1 S.2.1 hX hbl hbA hw.2.2 (vp_in_nI hk (by omega)) hdg ?_
  rw [e9]
  exact kk
theorem la_l (S : CallFix p m c cc nL s args Ts own) (hL : KL G k1 k2 s) (hw : WD G ws A s H locs) (q0 : Nat) {b : Nat} {v0 : Int64} (he : ws[q0]? = some (b, .inl (k1, (1, .inr (.inl (fun _ => v0)))))) (hdg : decode cc pc = .ok (.laload, 1))
    (kk : W p l e R s m args below meth c H locs cells slots Q (F0 m (pc + 1) ls (.long v0 :: rest))) : W p l e R s m args below meth c H locs cells slots Q (F0 m pc ls (.int 0 :: .ref b :: rest)) :=
  va_lald S.1 S.2.1 hL hw.1 q0 0 he rfl (show vp_in 0 1 from vp_in_nI (show 0 < 1 by decide) (by decide)) hdg kk
theorem da_l (S : CallFix p m c cc nL s args Ts own) (hL : KL G k1 k2 s) (hw : WD G ws A s H locs) (q0 : Nat) {b : Nat} {v0 : UInt64} (he : ws[q0]? = some (b, .inl (k2, (1, .inr (.inr (.inr (.inl (fun _ => v0)))))))) (hdg : decode cc pc = .ok (.daload, 1))
    (kk : W p l e R s m args below meth c H locs cells slots Q (F0 m (pc + 1) ls (.double v0 :: rest))) : W p l e R s m args below meth c H locs cells slots Q (F0 m pc ls (.int 0 :: .ref b :: rest)) :=
  va_dald S.1 S.2.1 hL hw.1 q0 1 he rfl (show vp_in 0 1 from vp_in_nI (show 0 < 1 by decide) (by decide)) hdg kk
end QL
/-- the law's world: the class's, a row of one long, a row of one double, the reference's -/
abbrev lwd (G : GA) (k1 k2 : ClassId) (a a2 : Nat → Nat) (u1 u2 : Nat) (z y k zr o : St) (v : Int64) (w : UInt64) : va_W := gp G a z y k ++ ([(u1, .inl (k1, (1, .inr (.inl (fun _ => v))))), (u2, .inl (k2, (1, .inr (.inr (.inr (.inl (fun _ => w)))))))] ++ mp G a2 zr o)
/-- how the class's and the reference's numbers stand to each other -/
def Rl (z y k o : St) (tl : Nat) (hs : Bool) : Prop := (Inv z ∧ tl ≤ 40 ∧ SG (k 2)) ∧ (k 2 = o 2 ∧ k 0 3 = nI tl ∧ o 0 2 = nI tl) ∧ (k 0 0 = b2 hs ∧ o 0 1 = b2 hs) ∧ (hs = true → Inv y ∧ o 1 = fl y) ∧ k 0 1 = o 0 3 ∧ (¬ k 0 1 = 0 → k 0 2 = o 0 4)
theorem RT.r {o u : St} (h : RT o u) (f : Nat) (h3 : ¬ f = 3) (h0 : ¬ f = 0) : u f = o f := funext fun j => h f j h3 (fun e => h0 e.1) (fun e => h0 e.1)
theorem RT.n {o u : St} (h : RT o u) (j : Nat) (h5 : ¬ j = 5) (h0 : ¬ j = 0) : u 0 j = o 0 j := h 0 j (by decide) (fun e => h5 e.2) (fun e => h0 e.2)
theorem Rl.go {z z' y k o u : St} {tl : Nat} {hs : Bool} (h : Rl z y k o tl hs) (iz : Inv z') (r : RT o u) : Rl z' y k u tl hs := by
  obtain ⟨⟨_, h1, h2⟩, ⟨h3, h4, h5⟩, ⟨h6, h7⟩, h8, h9, h10⟩ := h
  refine ⟨⟨iz, h1, h2⟩, ⟨?_, h4, ?_⟩, ⟨h6, ?_⟩, fun e => ⟨(h8 e).1, ?_⟩, ?_, fun e => ?_⟩
  · rw [r.r 2 (by decide) (by decide)]; exact h3
  · rw [r.n 2 (by decide) (by decide)]; exact h5
  · rw [r.n 1 (by decide) (by decide)]; exact h7
  · rw [r.r 1 (by decide) (by decide)]; exact (h8 e).2
  · rw [r.n 3 (by decide) (by decide)]; exact h9
  · rw [r.n 4 (by decide) (by decide)]; exact h10 e
theorem Rl.app {z y k o u : St} {tl : Nat} {hs : Bool} (h : Rl z y k o tl hs) (ch : Int32) (r : RT (oAp ch tl o) u) : ∃ tl', Rl z y (kAp ch tl k) u tl' hs := by
  by_cases e : inB ch 33 126 = true ∧ ¬ tl = 40
  · obtain ⟨⟨h0, h1, h2⟩, ⟨h3, h4, h5⟩, ⟨h6, h7⟩, h8, h9, h10⟩ := h
    rw [oAp, if_pos e] at r
    rw [kAp, if_pos e]
    have e0 : ∀ (f j : Nat), ¬ f = 2 → ¬ (f = 0 ∧ j = 2) → st (st o 2 tl ch) 0 2 (nI (tl + 1)) f j = o f j := fun f j e1 e2 => by rw [st_at, if_neg e2, st_at, if_neg (fun q => e1 q.1)]
    have e3 : ∀ (f j : Nat), ¬ f = 2 → ¬ (f = 0 ∧ j = 3) → st (st k 2 tl ch) 0 3 (nI (tl + 1)) f j = k f j := fun f j e1 e2 => by rw [st_at, if_neg e2, st_at, if_neg (fun q => e1 q.1)]
    have e4 : ∀ j, st (st k 2 tl ch) 0 3 (nI (tl + 1)) 2 j = if j = tl then ch else k 2 j := fun j => by
      rw [st_at, if_neg (fun q => absurd q.1 (by decide)), st_at]
      by_cases q : j = tl
      · rw [if_pos ⟨rfl, q⟩, if_pos q]
      · rw [if_neg (fun w => q w.2), if_neg q]
    have e5 : ∀ j, st (st o 2 tl ch) 0 2 (nI (tl + 1)) 2 j = if j = tl then ch else o 2 j := fun j => by
      rw [st_at, if_neg (fun q => absurd q.1 (by decide)), st_at]
      by_cases q : j = tl
      · rw [if_pos ⟨rfl, q⟩, if_pos q]
      · rw [if_neg (fun w => q w.2), if_neg q]
    refine ⟨tl + 1, ⟨h0, by have := e.2; omega, fun j => ?_⟩, ⟨funext fun j => ?_, ?_, ?_⟩, ⟨?_, ?_⟩, fun q => ⟨(h8 q).1, funext fun j => ?_⟩, ?_, fun q => ?_⟩
    · rw [e4]
      split
      · obtain ⟨n, hn, rfl⟩ := inB_126 e.1
        exact congrArg Value.int (chr_nar n hn)
      · exact h2 j
    · rw [r.r 2 (by decide) (by decide), e4, e5, h3]
    · exact st_s _ _ _ _
    · rw [r.n 2 (by decide) (by decide)]; exact st_s _ _ _ _
    · rw [e3 0 0 (by decide) (by decide)]; exact h6
    · rw [r.n 1 (by decide) (by decide), e0 0 1 (by decide) (by decide)]; exact h7
    · rw [r.r 1 (by decide) (by decide), e0 1 j (by decide) (fun w => absurd w.1 (by decide)), (h8 q).2]
    · rw [e3 0 1 (by decide) (by decide), r.n 3 (by decide) (by decide), e0 0 3 (by decide) (by decide)]; exact h9
    · rw [e3 0 1 (by decide) (by decide)] at q
      rw [e3 0 2 (by decide) (by decide), r.n 4 (by decide) (by decide), e0 0 4 (by decide) (by decide)]; exact h10 q
  · rw [oAp, if_neg e] at r
    rw [kAp, if_neg e]
    exact ⟨tl, h.go h.1.1 r⟩
theorem Rl.run {z z' y k o u : St} {tl : Nat} {hs : Bool} {F N N' : Int32} (h : Rl z y k o tl hs) (iz : Inv z') (hN : ¬ F = 0 → N = N') (q : TQ o (k 2) u 0 F N') : Rl z' y (kR k F N) u 0 hs := by
  obtain ⟨⟨_, _, h2⟩, ⟨h3, _, _⟩, ⟨h6, h7⟩, h8, _, _⟩ := h
  obtain ⟨⟨q1, q2, q3⟩, q4, q5, q6⟩ := q
  have e1 : kR k F N 2 = k 2 := funext fun j => by rw [kR, st_f _ _ _ _ _ _ (by decide), st_f _ _ _ _ _ _ (by decide), st_f _ _ _ _ _ _ (by decide)]
  have e2 : ∀ j, ¬ j = 3 → ¬ j = 1 → ¬ j = 2 → kR k F N 0 j = k 0 j := fun j w1 w2 w3 => by rw [kR, st_k _ _ _ _ _ w3, st_k _ _ _ _ _ w2, st_k _ _ _ _ _ w1]
  have e3 : kR k F N 0 3 = 0 := by rw [kR, st_k _ _ _ _ _ (by decide), st_k _ _ _ _ _ (by decide)]; exact st_s _ _ _ _
  have e4 : kR k F N 0 1 = F := by rw [kR, st_k _ _ _ _ _ (by decide)]; exact st_s _ _ _ _
  have e5 : kR k F N 0 2 = N := st_s _ _ _ _
  refine ⟨⟨iz, by omega, by rw [e1]; exact h2⟩, ⟨by rw [e1, q3], e3, q4⟩, ⟨by rw [e2 0 (by decide) (by decide) (by decide)]; exact h6, by rw [q1]; exact h7⟩, fun w => ⟨(h8 w).1, by rw [q2]; exact (h8 w).2⟩, by rw [e4, q5], fun w => ?_⟩
  rw [e4] at w
  rw [e5, q6]
  exact hN w
theorem Rl.save {z y k o u : St} {tl : Nat} {hs : Bool} (h : Rl z y k o tl hs) (r : RT (sr (st o 0 1 1) 1 (fl z)) u) : Rl z z (st k 0 0 1) u tl true := by
  obtain ⟨⟨h0, h1, h2⟩, ⟨h3, h4, h5⟩, ⟨h6, h7⟩, h8, h9, h10⟩ := h
  have e1 : ∀ f, ¬ f = 0 → st k 0 0 1 f = k f := fun f w => funext fun j => st_f _ _ _ _ _ _ w
  have e2 : ∀ j, ¬ j = 0 → st k 0 0 1 0 j = k 0 j := fun j w => st_k _ _ _ _ _ w
  have e3 : ∀ j, ¬ j = 1 → sr (st o 0 1 1) 1 (fl z) 0 j = o 0 j := fun j w => by rw [sr_n _ _ _ (by decide)]; exact st_k _ _ _ _ _ w
  refine ⟨⟨h0, h1, by rw [e1 2 (by decide)]; exact h2⟩, ⟨?_, ?_, ?_⟩, ⟨st_s _ _ _ _, ?_⟩, fun _ => ⟨h0, ?_⟩, ?_, fun w => ?_⟩
  · rw [e1 2 (by decide), r.r 2 (by decide) (by decide), sr_n _ _ _ (by decide), h3]
    exact funext fun j => (st_f _ _ _ _ _ _ (by decide)).symm
  · rw [e2 3 (by decide)]; exact h4
  · rw [r.n 2 (by decide) (by decide), e3 2 (by decide)]; exact h5
  · rw [r.n 1 (by decide) (by decide), sr_n _ _ _ (by decide)]; exact st_s _ _ _ _
  · rw [r.r 1 (by decide) (by decide)]; exact sr_s _ _ _
  · rw [e2 1 (by decide), r.n 3 (by decide) (by decide), e3 3 (by decide)]; exact h9
  · rw [e2 1 (by decide)] at w
    rw [e2 2 (by decide), r.n 4 (by decide) (by decide), e3 4 (by decide)]; exact h10 w
theorem Rl.res {z y k o u : St} {tl : Nat} {hs : Bool} (h : Rl z y k o tl hs) (r : RT o u) : Rl (pRs hs y z).2.2 y k u tl hs := by
  refine h.go ?_ r
  cases hs
  · exact h.1.1
  · exact (h.2.2.2.1 rfl).1
theorem pF_N (q N N' : Int32) (z : St) : pF q 0 N z = pF q 0 N' z := by
  unfold pF
  rw [if_pos rfl, if_pos rfl]
theorem Rl.fail {z y k o : St} {tl : Nat} {hs : Bool} (h : Rl z y k o tl hs) (q : Int32) : pF q (o 0 3) (o 0 4) z = pF q (k 0 1) (k 0 2) z := by
  rw [← h.2.2.2.2.1]
  by_cases e : k 0 1 = 0
  · rw [e]
    exact pF_N _ _ _ _
  · rw [h.2.2.2.2.2 e]
theorem Rl.tp {z y k o : St} {tl : Nat} {hs : Bool} (h : Rl z y k o tl hs) : TP o (k 2) o (nI tl) (o 0 3) (o 0 4) (o 0 6) (o 0 7) := ⟨⟨rfl, rfl, h.2.1.1.symm⟩, h.2.1.2.2, rfl, rfl, rfl, rfl⟩
theorem inv_pUp {z : St} (h : Inv z) (v : Int32) : Inv (pUp v z).2.2 := inv_on1 h fun _ _ => h
theorem inv_pA1 {z : St} (h : Inv z) (f : Nat) (v : Int32) : Inv (pA1 f v z).2.2 := inv_on1 h fun _ _ => h
theorem inv_pAl {z : St} (h : Inv z) (v : Int32) : Inv (pAl v z).2.2 := inv_on1 h fun _ _ => h
theorem inv_pRe {z : St} (h : Inv z) (v w : Int32) : Inv (pRe v w z).2.2 := inv_on2 h fun _ _ _ _ => h
theorem inv_pCt {z : St} (h : Inv z) (v w : Int32) : Inv (pCt v w z).2.2 := inv_on2 h fun _ _ _ _ => h
theorem inv_pV {z : St} (h : Inv z) (f : Nat) (v w : Int32) : Inv (pV f v w z).2.2 := inv_on2 h fun _ _ _ _ => by
  split <;> exact h
theorem inv_pD {z : St} (h : Inv z) (v w : Int32) : Inv (pD v w z).2.2 := inv_on2 h fun _ _ _ _ => by
  split
  · exact h
  · split <;> exact h
theorem pF_z (q F N : Int32) (z : St) : (pF q F N z).2.2 = z := by
  unfold pF
  split
  · split <;> rfl
  · rfl
theorem pAp_z (c : Int32) (m : Nat) (z : St) : (pAp c m z).2.2 = z := by
  unfold pAp
  split
  · split <;> rfl
  · rfl
theorem pAv_z (v : Int32) (z : St) : (pAv v z).2.2 = z := by
  unfold pAv on1
  split <;> rfl
theorem pAv_1 (v : Int32) (z : St) : (pAv v z).1 = if nd v = true then 0 else 1 := by
  unfold pAv on1
  split <;> rfl
theorem pAv_0 {v : Int32} {z : St} (h : (pAv v z).1 = 0) : nd v = true := by
  rw [pAv_1] at h
  by_cases e : nd v = true
  · exact e
  · rw [if_neg e] at h
    exact absurd h (by decide)
theorem pFs_z (z : St) : (pFs z).2.2 = z := by
  unfold pFs
  split <;> rfl
theorem pFs_1 (z : St) : (pFs z).1 = if z 0 5 = 0 then 1 else 0 := by
  unfold pFs
  split <;> rfl
theorem bl_0 {x : Int32} (h : x = 0) : bl x = 0 := if_pos h
theorem bl_1 {x : Int32} (h : ¬ x = 0) : bl x = 1 := if_neg h
