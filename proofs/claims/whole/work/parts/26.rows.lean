/-! calls that may throw -/
def xc (c : Int32) : Nat := if c = 0 then 0 else 1
theorem xc_0 : xc 0 = 0 := rfl
theorem xc_n {c : Int32} (h : ¬ c = 0) : xc c = 1 := if_neg h
def rn (v : Int32) : Int32 := if nd v = true then 0 else 1
theorem xc_rn {v : Int32} (h : nd v = true) : xc (rn v) = 0 := by rw [rn, if_pos h]; rfl
theorem xc_on1 (v : Int32) (z : St) (f : Nat → PO) : xc (rn v) ≤ xc (on1 v z f).1 := by
  cases h : nd v
  · rw [on1_no h]; unfold rn; rw [if_neg (by rw [h]; decide)]; exact Nat.le_refl _
  · rw [xc_rn h]; exact Nat.zero_le _
theorem xc_on2 (v w : Int32) (z : St) (f : Nat → Nat → PO) : xc (rn v) ≤ xc (on2 v w z f).1 := by
  cases h : nd v
  · rw [on2_no1 h]; unfold rn; rw [if_neg (by rw [h]; decide)]; exact Nat.le_refl _
  · rw [xc_rn h]; exact Nat.zero_le _
theorem xc_on2b (v w : Int32) (z : St) (f : Nat → Nat → PO) : xc (rn w) ≤ xc (on2 v w z f).1 := by
  cases h : nd w
  · rw [on2_no2 h]; unfold rn; rw [if_neg (by rw [h]; decide)]; exact Nat.le_refl _
  · rw [xc_rn h]; exact Nat.zero_le _
section GY
variable {p : Program} {l : Launch} {e : Env} {R : Room} {s : State} {m : MethodId} {args : Array Value} {below : List Frame} {meth : Method} {c : Code} {H : Heap} {locs : List Loc} {cells slots : Nat} {Q : State → Prop}
variable {cc : ByteArray} {nL : Nat} {Ts : List Cond} {own : String} {pc idx : Nat} {ls : Array Slot} {rest : List Value} {G : GA} {A : Nat → Prop} {ws ws' : va_W}
/-- it goes on to the caller -/
theorem out_x {Qc : Array Value → State → Outcome → State → Prop} {U : Type} {px : U → Prop} {pic : U → va_W} {EX E : String} {mc ms : Nat} {ce : Cell} {q : Addr} (hQ : Q = vx_MQ below Qc (vx_X px (fun E u t => E = EX ∧ va_P G.1 gcl (pic u) t.heap) A) args s mc ms A) (hw : WD G ws A s H locs) (hlk : meth.locks = false) (htab : ∀ x ∈ c.exceptionTable.toList, False) (h1 : H[q]? = some ce) (h2 : ce.vm = .none) (h3 : s.vm.findClass E = some ce.cls) (u : U) (hp : px u) (he : E = EX) (hws : pic u = ws) (hc : cells ≤ mc) (hs : slots ≤ ms) :
    vx_W p l e R s m args below meth c H locs cells slots Q (F0 m pc ls rest) q := by
  rw [hQ]
  exact vx_out (fun x h => absurd (htab x h) id) hlk h1 h2 h3 (fun t ht _ => ⟨u, hp, ⟨he, by rw [hws, ht]; exact hw.1⟩, hw.2.2.F ht⟩) hw.2.2.2.2 hc hs
theorem cx_v {U V : Type} {post : U → Prop} {pic : U → va_W} {px : V → Prop} {picx : V → va_W} {EX : String} {wc wr : va_W} {st0 : List Value} {a : Array Value} {mc ms : Nat} (hr : vx_Run p l e R s m args below meth c H locs cells slots mc ms (F0 m pc ls st0) rest (va_Qv post (fun u t => va_P G.1 gcl (pic u) t.heap) (va_A wc H.size) a) (vx_X px (fun E u t => E = EX ∧ va_P G.1 gcl (picx u) t.heap) (va_A wc H.size)) (va_A wc H.size)) (hw : WD G ws A s H locs) (hA : ∀ q, s.heap.size ≤ q → A q) (isC isR : List Nat) (hC : isC.map (fun i => ws[i]?) = wc.map some) (hR : isR.map (fun i => ws[i]?) = wr.map some) (hnC : va_nd isC = true) (hn : va_nd isR = true) (hdis : ∀ i ∈ isR, i ∉ isC) (hs : ∀ u, (pic u).map (·.1) = wc.map (·.1)) (hsx : ∀ u, (picx u).map (·.1) = wc.map (·.1))
    (kx : ∀ (ce : Cell) (q9 : Addr) (u : V) (H1 : Heap) (locs1 : List Loc), px u → WD G (wr ++ picx u) A s H1 locs1 → H1[q9]? = some ce → ce.vm = .none → s.vm.findClass EX = some ce.cls → vx_W p l e R s m args below meth c H1 locs1 (cells + mc) (slots + ms) Q (F0 m pc ls rest) q9)
    (kk : ∀ (u : U) (H1 : Heap) (locs1 : List Loc), post u → WD G (wr ++ pic u) A s H1 locs1 → W p l e R s m args below meth c H1 locs1 (cells + mc) (slots + ms) Q (F0 m (pc + 3) ls rest)) : W p l e R s m args below meth c H locs cells slots Q (F0 m pc ls st0) := by
  have hF := va_free (wc := wc) hw.2.1 hw.2.2 hA isC hC
  have hDc := (hw.2.1.sub isC hnC hC).self (sz := H.size)
  refine vx_callv hr hw.2.2 (fun q _ h => hF q h) hF (fun q _ h => hF q h) (fun E ce q9 u t H1 locs1 ht _ hp hB _ hk hS g1 g2 g3 => ?_) (fun u t H1 locs1 ht _ hp hB _ hk hS => ?_)
  · obtain ⟨hE, hB⟩ := hB
    obtain ⟨hP9, hD9⟩ := va_join (wr := wr) (w1 := picx u) hw.1 hw.2.1 isC isR hC hR hn hdis hk hF (by rw [← ht]; exact hB) (va_D.same (hsx u) hDc)
    subst hE
    exact kx ce q9 u H1 locs1 hp ⟨hP9, hD9, hS⟩ g1 g2 g3
  · obtain ⟨hP9, hD9⟩ := va_join (wr := wr) (w1 := pic u) hw.1 hw.2.1 isC isR hC hR hn hdis hk hF (by rw [← ht]; exact hB) (va_D.same (hs u) hDc)
    exact kk u H1 locs1 hp ⟨hP9, hD9, hS⟩
theorem cx_i {U V : Type} {post : Int32 → U → Prop} {pic : U → va_W} {px : V → Prop} {picx : V → va_W} {EX : String} {wc wr : va_W} {st0 : List Value} {a : Array Value} {mc ms : Nat} (hr : vx_Run p l e R s m args below meth c H locs cells slots mc ms (F0 m pc ls st0) rest (va_Qi post (fun u t => va_P G.1 gcl (pic u) t.heap) (va_A wc H.size) a) (vx_X px (fun E u t => E = EX ∧ va_P G.1 gcl (picx u) t.heap) (va_A wc H.size)) (va_A wc H.size)) (hw : WD G ws A s H locs) (hA : ∀ q, s.heap.size ≤ q → A q) (isC isR : List Nat) (hC : isC.map (fun i => ws[i]?) = wc.map some) (hR : isR.map (fun i => ws[i]?) = wr.map some) (hnC : va_nd isC = true) (hn : va_nd isR = true) (hdis : ∀ i ∈ isR, i ∉ isC) (hs : ∀ u, (pic u).map (·.1) = wc.map (·.1)) (hsx : ∀ u, (picx u).map (·.1) = wc.map (·.1))
    (kx : ∀ (ce : Cell) (q9 : Addr) (u : V) (H1 : Heap) (locs1 : List Loc), px u → WD G (wr ++ picx u) A s H1 locs1 → H1[q9]? = some ce → ce.vm = .none → s.vm.findClass EX = some ce.cls → vx_W p l e R s m args below meth c H1 locs1 (cells + mc) (slots + ms) Q (F0 m pc ls rest) q9)
    (kk : ∀ (r : Int32) (u : U) (H1 : Heap) (locs1 : List Loc), post r u → WD G (wr ++ pic u) A s H1 locs1 → W p l e R s m args below meth c H1 locs1 (cells + mc) (slots + ms) Q (F0 m (pc + 3) ls (.int r :: rest))) : W p l e R s m args below meth c H locs cells slots Q (F0 m pc ls st0) := by
  have hF := va_free (wc := wc) hw.2.1 hw.2.2 hA isC hC
  have hDc := (hw.2.1.sub isC hnC hC).self (sz := H.size)
  refine vx_calli hr hw.2.2 (fun q _ h => hF q h) hF (fun q _ h => hF q h) (fun E ce q9 u t H1 locs1 ht _ hp hB _ hk hS g1 g2 g3 => ?_) (fun r u t H1 locs1 ht _ hp hB _ hk hS => ?_)
  · obtain ⟨hE, hB⟩ := hB
    obtain ⟨hP9, hD9⟩ := va_join (wr := wr) (w1 := picx u) hw.1 hw.2.1 isC isR hC hR hn hdis hk hF (by rw [← ht]; exact hB) (va_D.same (hsx u) hDc)
    subst hE
    exact kx ce q9 u H1 locs1 hp ⟨hP9, hD9, hS⟩ g1 g2 g3
  · obtain ⟨hP9, hD9⟩ := va_join (wr := wr) (w1 := pic u) hw.1 hw.2.1 isC isR hC hR hn hdis hk hF (by rw [← ht]; exact hB) (va_D.same (hs u) hDc)
    exact kk r u H1 locs1 hp ⟨hP9, hD9, hS⟩
end GY
def ex3 (a b c : String) (x : Int32) : String := if x = 1 then a else if x = 2 then b else c
theorem ex3_1 (a b c : String) : ex3 a b c 1 = a := rfl
theorem ex3_2 (a b c : String) : ex3 a b c 2 = b := rfl
theorem ex3_3 (a b c : String) : ex3 a b c 3 = c := rfl
theorem rn_0 {v : Int32} : rn v = 0 ↔ nd v = true := by unfold rn; split <;> simp [*]
/-- all of the class but its world -/
abbrev gpr (G : GA) (a : Nat → Nat) (y k : St) : va_W :=
  [(a 0, .inr (4, [.ref (a 15), .ref (a 3), .int (k 0 0), .ref (a 1), .int (k 0 1), .int (k 0 2)])), (a 1, .inr (0, [.ref (a 2), .int (k 0 3)])), (a 2, .inl (G.2.2.2, (40, .inl (k 2))))] ++ wp G (fun i => a (3 + i)) y
/-- all of the class but its text -/
abbrev gpt (G : GA) (a : Nat → Nat) (z y k : St) : va_W :=
  [(a 0, .inr (4, [.ref (a 15), .ref (a 3), .int (k 0 0), .ref (a 1), .int (k 0 1), .int (k 0 2)]))] ++ (wp G (fun i => a (3 + i)) y ++ wp G (fun i => a (15 + i)) z)
theorem rn_f {v : Int32} (h : ¬ rn v = 0) : nd v = false := by
  cases e : nd v
  · rfl
  · exact absurd (rn_0.mpr e) h
theorem rn_1 {v : Int32} (h : ¬ rn v = 0) : rn v = 1 := by unfold rn; rw [if_neg (by rw [rn_f h]; decide)]
theorem vr_f1 {v w : Int32} (h : ¬ rn v = 0) : vr v w = rn v := by rw [vr, if_neg (by rw [rn_f h]; simp), rn_1 h]
theorem vr_f2 {v w : Int32} (h : ¬ rn w = 0) : vr v w = rn w := by rw [vr, if_neg (by rw [rn_f h]; simp), rn_1 h]
theorem vr_s {v w : Int32} (h1 : rn v = 0) (h2 : rn w = 0) (e : v = w) : vr v w = 2 := by rw [vr, if_pos ⟨rn_0.mp h1, rn_0.mp h2⟩, if_pos (by rw [e])]
theorem vr_d {v w : Int32} (h1 : rn v = 0) (h2 : rn w = 0) (e : ¬ v = w) : vr v w = 0 := by
  rw [vr, if_pos ⟨rn_0.mp h1, rn_0.mp h2⟩, if_neg]
  intro h
  obtain ⟨n, hn, rfl⟩ := nd_of (rn_0.mp h1)
  obtain ⟨b, hb, rfl⟩ := nd_of (rn_0.mp h2)
  rw [tN_n hn, tN_n hb] at h
  exact e (by rw [h])
theorem xc_vr1 (v w : Int32) : xc (rn v) ≤ xc (vr v w) := by
  by_cases h : rn v = 0
  · rw [h]; exact Nat.zero_le _
  · rw [vr_f1 h]; exact Nat.le_refl _
theorem xc_vr2 (v w : Int32) : xc (rn w) ≤ xc (vr v w) := by
  by_cases h : rn w = 0
  · rw [h]; exact Nat.zero_le _
  · rw [vr_f2 h]; exact Nat.le_refl _
theorem vr_12 {v w : Int32} (h : ¬ vr v w = 0) : vr v w = 1 ∨ vr v w = 2 := by
  unfold vr at h ⊢
  split
  · next e =>
    rw [if_pos e] at h
    split
    · exact Or.inr rfl
    · next e2 => rw [if_neg e2] at h; exact absurd rfl h
  · exact Or.inl rfl
theorem vr_le {v w : Int32} (h : ¬ vr v w = 0) : ¬ vr v w ≤ 0 := by
  rcases vr_12 h with e | e <;> rw [e] <;> decide
theorem xc_vr (v w : Int32) (z : St) (f : Nat → Nat → PO) (hf : ∀ n, n < 8 → f n n = (2, 0, z)) : xc (vr v w) ≤ xc (on2 v w z f).1 := by
  by_cases h : vr v w = 0
  · rw [h]; exact Nat.zero_le _
  · rw [vr_on2 (vr_le h) hf]; exact Nat.le_refl _
theorem fl0 {x : Int32} (h : x = 0 ∨ x = 1) (h2 : decide (x = 1) = false) : x = 0 := h.resolve_right (of_decide_eq_false h2)
theorem fl1 {x : Int32} (h2 : decide (x = 1) = true) : ¬ x = 0 := by rw [of_decide_eq_true h2]; decide
theorem i_nl {v x : Int32} (h : ¬ v ≤ x) : x < v := by rw [i_le] at h; rw [i_lt]; omega
theorem i_ln {v x : Int32} (h : v ≤ x) : ¬ x < v := by rw [i_le] at h; rw [i_lt]; omega
theorem i4 {v : Int32} (h : ¬ v < 4) : 3 < v := by
  rw [i_lt] at h ⊢
  have e8 : (4 : Int32).toInt = 4 := rfl
  have e7 : (3 : Int32).toInt = 3 := rfl
  omega
theorem i4b {v : Int32} (h : v < 4) : ¬ 3 < v := by
  rw [i_lt] at h ⊢
  have e8 : (4 : Int32).toInt = 4 := rfl
  have e7 : (3 : Int32).toInt = 3 := rfl
  omega
theorem i_max (v : Int32) : ¬ (2147483647 : Int32) < v := by
  rw [i_lt]
  have := v.toInt_lt
  have e : (2147483647 : Int32).toInt = 2147483647 := rfl
  omega
