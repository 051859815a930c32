/-! calls of numbers that may throw; the law's worlds; the codes -/
section GM
variable {p : Program} {l : Launch} {e : Env} {R : Room} {s : State} {m : MethodId} {args : Array Value} {below : List Frame} {meth : Method} {c : Code} {H : Heap} {locs : List Loc} {cells slots : Nat} {Q : State → Prop}
variable {cc : ByteArray} {nL : Nat} {Ts : List Cond} {own : String} {pc idx : Nat} {ls : Array Slot} {rest : List Value} {G : GA} {A : Nat → Prop} {ws ws' : va_W}

theorem cx_d {U V : Type} {post : UInt64 → U → Prop} {pic : U → va_W} {px : V → Prop} {picx : V → va_W} {EX : String} {wc wr : va_W} {st0 : List Value} {a : Array Value} {mc ms : Nat} (hr : vx_Run p l e R s m args below meth c H locs cells slots mc ms (F0 m pc ls st0) rest (va_Qd post (fun u t => va_P G.1 gcl (pic u) t.heap) (va_A wc H.size) a) (vx_X px (fun E u t => E = EX ∧ va_P G.1 gcl (picx u) t.heap) (va_A wc H.size)) (va_A wc H.size)) (hw : WD G ws A s H locs) (hA : ∀ q, s.heap.size ≤ q → A q) (isC isR : List Nat) (hC : isC.map (fun i => ws[i]?) = wc.map some) (hR : isR.map (fun i => ws[i]?) = wr.map some) (hnC : va_nd isC = true) (hn : va_nd isR = true) (hdis : ∀ i ∈ isR, i ∉ isC) (hs : ∀ u, (pic u).map (·.1) = wc.map (·.1)) (hsx : ∀ u, (picx u).map (·.1) = wc.map (·.1))
    (kx : ∀ (ce : Cell) (q9 : Addr) (u : V) (H1 : Heap) (locs1 : List Loc), px u → WD G (wr ++ picx u) A s H1 locs1 → H1[q9]? = some ce → ce.vm = .none → s.vm.findClass EX = some ce.cls → vx_W p l e R s m args below meth c H1 locs1 (cells + mc) (slots + ms) Q (F0 m pc ls rest) q9)
    (kk : ∀ (r : UInt64) (u : U) (H1 : Heap) (locs1 : List Loc), post r u → WD G (wr ++ pic u) A s H1 locs1 → W p l e R s m args below meth c H1 locs1 (cells + mc) (slots + ms) Q (F0 m (pc + 3) ls (.double r :: rest))) : W p l e R s m args below meth c H locs cells slots Q (F0 m pc ls st0) := by
  have hF := va_free (wc := wc) hw.2.1 hw.2.2 hA isC hC
  have hDc := (hw.2.1.sub isC hnC hC).self (sz := H.size)
  refine vx_calld hr hw.2.2 (fun q _ h => hF q h) hF (fun q _ h => hF q h) (fun E ce q9 u t H1 locs1 ht _ hp hB _ hk hS g1 g2 g3 => ?_) (fun r u t H1 locs1 ht _ hp hB _ hk hS => ?_)
  · obtain ⟨hE, hB⟩ := hB
    obtain ⟨hP9, hD9⟩ := va_join (wr := wr) (w1 := picx u) hw.1 hw.2.1 isC isR hC hR hn hdis hk hF (by rw [← ht]; exact hB) (va_D.same (hsx u) hDc)
    subst hE
    exact kx ce q9 u H1 locs1 hp ⟨hP9, hD9, hS⟩ g1 g2 g3
  · obtain ⟨hP9, hD9⟩ := va_join (wr := wr) (w1 := pic u) hw.1 hw.2.1 isC isR hC hR hn hdis hk hF (by rw [← ht]; exact hB) (va_D.same (hs u) hDc)
    exact kk r u H1 locs1 hp ⟨hP9, hD9, hS⟩

theorem cx_f {U V : Type} {post : UInt32 → U → Prop} {pic : U → va_W} {px : V → Prop} {picx : V → va_W} {EX : String} {wc wr : va_W} {st0 : List Value} {a : Array Value} {mc ms : Nat} (hr : vx_Run p l e R s m args below meth c H locs cells slots mc ms (F0 m pc ls st0) rest (va_Qf post (fun u t => va_P G.1 gcl (pic u) t.heap) (va_A wc H.size) a) (vx_X px (fun E u t => E = EX ∧ va_P G.1 gcl (picx u) t.heap) (va_A wc H.size)) (va_A wc H.size)) (hw : WD G ws A s H locs) (hA : ∀ q, s.heap.size ≤ q → A q) (isC isR : List Nat) (hC : isC.map (fun i => ws[i]?) = wc.map some) (hR : isR.map (fun i => ws[i]?) = wr.map some) (hnC : va_nd isC = true) (hn : va_nd isR = true) (hdis : ∀ i ∈ isR, i ∉ isC) (hs : ∀ u, (pic u).map (·.1) = wc.map (·.1)) (hsx : ∀ u, (picx u).map (·.1) = wc.map (·.1))
    (kx : ∀ (ce : Cell) (q9 : Addr) (u : V) (H1 : Heap) (locs1 : List Loc), px u → WD G (wr ++ picx u) A s H1 locs1 → H1[q9]? = some ce → ce.vm = .none → s.vm.findClass EX = some ce.cls → vx_W p l e R s m args below meth c H1 locs1 (cells + mc) (slots + ms) Q (F0 m pc ls rest) q9)
    (kk : ∀ (r : UInt32) (u : U) (H1 : Heap) (locs1 : List Loc), post r u → WD G (wr ++ pic u) A s H1 locs1 → W p l e R s m args below meth c H1 locs1 (cells + mc) (slots + ms) Q (F0 m (pc + 3) ls (.float r :: rest))) : W p l e R s m args below meth c H locs cells slots Q (F0 m pc ls st0) := by
  have hF := va_free (wc := wc) hw.2.1 hw.2.2 hA isC hC
  have hDc := (hw.2.1.sub isC hnC hC).self (sz := H.size)
  refine vx_callf hr hw.2.2 (fun q _ h => hF q h) hF (fun q _ h => hF q h) (fun E ce q9 u t H1 locs1 ht _ hp hB _ hk hS g1 g2 g3 => ?_) (fun r u t H1 locs1 ht _ hp hB _ hk hS => ?_)
  · obtain ⟨hE, hB⟩ := hB
    obtain ⟨hP9, hD9⟩ := va_join (wr := wr) (w1 := picx u) hw.1 hw.2.1 isC isR hC hR hn hdis hk hF (by rw [← ht]; exact hB) (va_D.same (hsx u) hDc)
    subst hE
    exact kx ce q9 u H1 locs1 hp ⟨hP9, hD9, hS⟩ g1 g2 g3
  · obtain ⟨hP9, hD9⟩ := va_join (wr := wr) (w1 := pic u) hw.1 hw.2.1 isC isR hC hR hn hdis hk hF (by rw [← ht]; exact hB) (va_D.same (hs u) hDc)
    exact kk r u H1 locs1 hp ⟨hP9, hD9, hS⟩

end GM
/-- the class's world and the law's row of one number -/
abbrev gL (G : GA) (k1 : ClassId) (a : Nat → Nat) (z y k : St) (b : Nat) (v : Int64) : va_W := gp G a z y k ++ [(b, .inl (k1, (1, .inr (.inl (fun _ => v)))))]
abbrev gD (G : GA) (k2 : ClassId) (a : Nat → Nat) (z y k : St) (b : Nat) (v : UInt64) : va_W := gp G a z y k ++ [(b, .inl (k2, (1, .inr (.inr (.inr (.inl (fun _ => v)))))))]
theorem on1_c {v : Int32} {z : St} {f : Nat → PO} {C : Int32 → Prop} (h1 : C 1) (h : ∀ n, C (f n).1) : C (on1 v z f).1 := by
  unfold on1; split
  · exact h _
  · exact h1
theorem on2_c {v w : Int32} {z : St} {f : Nat → Nat → PO} {C : Int32 → Prop} (h1 : C 1) (h : ∀ n b, C (f n b).1) : C (on2 v w z f).1 := by
  unfold on2; split
  · exact h _ _
  · exact h1
theorem cS {k : Nat} {lo hi v : Int32} {z : St} : (pS k lo hi v z).1 = 0 ∨ (pS k lo hi v z).1 = 1 := by
  unfold pS; split
  · exact Or.inl rfl
  · exact Or.inr rfl
theorem cR {q : Int32} {z : St} : (pR q z).1 = 0 ∨ (pR q z).1 = 1 := by
  unfold pR; split
  · exact Or.inl rfl
  · exact Or.inr rfl
theorem cU {q : Int32} {z : St} : (pU q z).1 = 0 ∨ (pU q z).1 = 1 ∨ (pU q z).1 = 2 := by
  unfold pU; repeat' split
  all_goals first | exact Or.inl rfl | exact Or.inr (Or.inl rfl) | exact Or.inr (Or.inr rfl)
theorem cC {v : Int32} {z : St} : (pC v z).1 = 0 ∨ (pC v z).1 = 1 ∨ (pC v z).1 = 2 := by
  refine on1_c (C := fun x => x = 0 ∨ x = 1 ∨ x = 2) (Or.inr (Or.inl rfl)) (fun n => ?_)
  split
  · exact Or.inr (Or.inr rfl)
  · exact Or.inl rfl
theorem cJ {v w : Int32} {z : St} : (pJ v w z).1 = 0 ∨ (pJ v w z).1 = 1 ∨ (pJ v w z).1 = 2 ∨ (pJ v w z).1 = 3 := by
  refine on2_c (C := fun x => x = 0 ∨ x = 1 ∨ x = 2 ∨ x = 3) (Or.inr (Or.inl rfl)) (fun n b => ?_)
  split
  · exact Or.inr (Or.inr (Or.inl rfl))
  · split
    · exact Or.inr (Or.inr (Or.inr rfl))
    · exact Or.inl rfl
theorem cM {v q : Int32} {z : St} : (pM v q z).1 = 0 ∨ (pM v q z).1 = 1 ∨ (pM v q z).1 = 2 := by
  refine on1_c (C := fun x => x = 0 ∨ x = 1 ∨ x = 2) (Or.inr (Or.inl rfl)) (fun n => ?_)
  split
  · exact Or.inl rfl
  · exact Or.inr (Or.inr rfl)
theorem cK {v w : Int32} {on : Bool} {z : St} : (pK v w on z).1 = 0 ∨ (pK v w on z).1 = 1 ∨ (pK v w on z).1 = 2 := by
  refine on2_c (C := fun x => x = 0 ∨ x = 1 ∨ x = 2) (Or.inr (Or.inl rfl)) (fun n b => ?_)
  split
  · exact Or.inr (Or.inr rfl)
  · exact Or.inl rfl
theorem cV {f : Nat} {v w : Int32} {z : St} : (pV f v w z).1 = 0 ∨ (pV f v w z).1 = 1 ∨ (pV f v w z).1 = 2 := by
  refine on2_c (C := fun x => x = 0 ∨ x = 1 ∨ x = 2) (Or.inr (Or.inl rfl)) (fun n b => ?_)
  split
  · exact Or.inr (Or.inr rfl)
  · exact Or.inl rfl
theorem cD {v w : Int32} {z : St} : (pD v w z).1 = 0 ∨ (pD v w z).1 = 1 ∨ (pD v w z).1 = 2 ∨ (pD v w z).1 = 3 := by
  refine on2_c (C := fun x => x = 0 ∨ x = 1 ∨ x = 2 ∨ x = 3) (Or.inr (Or.inl rfl)) (fun n b => ?_)
  split
  · exact Or.inr (Or.inr (Or.inl rfl))
  · split
    · exact Or.inl rfl
    · exact Or.inr (Or.inr (Or.inr rfl))
theorem cT {v w x i : Int32} {z : St} : (pT v w x i z).1 = 0 ∨ (pT v w x i z).1 = 1 ∨ (pT v w x i z).1 = 2 ∨ (pT v w x i z).1 = 3 := by
  refine on2_c (C := fun x => x = 0 ∨ x = 1 ∨ x = 2 ∨ x = 3) (Or.inr (Or.inl rfl)) (fun n b => ?_)
  split
  · exact Or.inr (Or.inr (Or.inl rfl))
  · split
    · exact Or.inl rfl
    · exact Or.inr (Or.inr (Or.inr rfl))
theorem cUp {v : Int32} {z : St} : (pUp v z).1 = 0 ∨ (pUp v z).1 = 1 := on1_c (C := fun x => x = 0 ∨ x = 1) (Or.inr rfl) (fun _ => Or.inl rfl)
theorem cA1 {f : Nat} {v : Int32} {z : St} : (pA1 f v z).1 = 0 ∨ (pA1 f v z).1 = 1 := on1_c (C := fun x => x = 0 ∨ x = 1) (Or.inr rfl) (fun _ => Or.inl rfl)
theorem cAl {v : Int32} {z : St} : (pAl v z).1 = 0 ∨ (pAl v z).1 = 1 := on1_c (C := fun x => x = 0 ∨ x = 1) (Or.inr rfl) (fun _ => Or.inl rfl)
theorem cAv {v : Int32} {z : St} : (pAv v z).1 = 0 ∨ (pAv v z).1 = 1 := on1_c (C := fun x => x = 0 ∨ x = 1) (Or.inr rfl) (fun _ => Or.inl rfl)
theorem cRe {v w : Int32} {z : St} : (pRe v w z).1 = 0 ∨ (pRe v w z).1 = 1 := on2_c (C := fun x => x = 0 ∨ x = 1) (Or.inr rfl) (fun _ _ => Or.inl rfl)
theorem cCt {v w : Int32} {z : St} : (pCt v w z).1 = 0 ∨ (pCt v w z).1 = 1 := on2_c (C := fun x => x = 0 ∨ x = 1) (Or.inr rfl) (fun _ _ => Or.inl rfl)
theorem cAp {c : Int32} {m : Nat} {z : St} : (pAp c m z).1 = 0 ∨ (pAp c m z).1 = 1 ∨ (pAp c m z).1 = 2 := by
  unfold pAp; repeat' split
  all_goals first | exact Or.inl rfl | exact Or.inr (Or.inl rfl) | exact Or.inr (Or.inr rfl)
theorem cF {q F N : Int32} {z : St} : (pF q F N z).1 = 0 ∨ (pF q F N z).1 = 1 ∨ (pF q F N z).1 = 2 := by
  unfold pF; repeat' split
  all_goals first | exact Or.inl rfl | exact Or.inr (Or.inl rfl) | exact Or.inr (Or.inr rfl)
theorem cT9 {x : Nat → Int32} {m : Nat} {z : St} : (rT x m z).1 = 0 ∨ (rT x m z).1 = 1 ∨ (rT x m z).1 = 2 := by
  unfold rT; repeat' split
  all_goals first | exact Or.inl rfl | exact Or.inr (Or.inl rfl) | exact Or.inr (Or.inr rfl)
theorem cFs {z : St} : (pFs z).1 = 0 ∨ (pFs z).1 = 1 := by
  unfold pFs; split
  · exact Or.inr rfl
  · exact Or.inl rfl
theorem cRs {hs : Bool} {y z : St} : (pRs hs y z).1 = 0 ∨ (pRs hs y z).1 = 1 := by
  unfold pRs; split
  · exact Or.inl rfl
  · exact Or.inr rfl
theorem fs_n {z : St} (h : (pFs z).1 = 0) : ¬ z 0 5 = 0 := by
  intro e; rw [pFs, if_pos e] at h; exact absurd (show (1 : Int32) = 0 from h) (by decide)
def bl (x : Int32) : Int64 := if x = 0 then 0 else 1
theorem xc0 (c : Int32) : 0 + xc c ≤ xc c := Nat.le_of_eq (Nat.zero_add _)
theorem xc6 (c : Int32) : 0 + 6 * xc c ≤ 6 * xc c := Nat.le_of_eq (Nat.zero_add _)
theorem dL_restore_11 : decode cL_restore 11 = .ok (.ireturn, 1) := by decide +kernel
