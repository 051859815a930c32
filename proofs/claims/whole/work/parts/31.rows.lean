/-! methods with a table of their own -/
section GH
variable {p : Program} {l : Launch} {e : Env} {R : Room} {s : State} {m : MethodId} {args : Array Value} {below : List Frame} {meth : Method} {c : Code} {H : Heap} {locs : List Loc} {cells slots : Nat} {Q : State → Prop}
variable {cc : ByteArray} {nL : Nat} {Ts : List Cond} {own : String} {pc idx : Nat} {ls : Array Slot} {rest : List Value} {G : GA} {A : Nat → Prop} {ws ws' : va_W}
theorem met_xh {y : MethodName} {wd wd' : List Cond} {rm : Room} {maxL : Nat} {ret : Option FieldType} {hh : List (Nat × Nat × Nat × Nat)} {av : List Value} {ws0 : va_W} {sz : Nat} (Qc : (Nat → Prop) → Array Value → State → Outcome → State → Prop) (XC : (Nat → Prop) → String → State → State → Prop) {mc ms : Nat} (hy : plainName y.cls = true) (hw : wd = Cond.codeWith y cc maxL ret hh :: wd') (hlen : (lg_sl av).length ≤ maxL)
    (body : ∀ (p : Program) (e : Env) (s : State) (m : MethodId) (args : Array Value) (below : List Frame) (meth : Method) (c : Code) (R : Room) (Q : State → Prop) (A : Nat → Prop) (H : Heap) (ls : Array Slot), R = rm → Q = vx_MQ below (Qc A) (XC A) args s mc ms A → CallFix p m c cc maxL s args wd y.cls → meth.sig.returnType = ret → meth.locks = false → c.exceptionTable.toList = tableOf hh → KK G s → XE l A s → H.size = sz → H = s.heap → va_A ws0 sz = A → (∀ q, s.heap.size ≤ q → A q) → WD G ws0 A s H [] → lv_has ls maxL (lv_args 0 av) → W p l e R s m args below meth c H [] 0 0 Q (F0 m 0 ls [])) :
    vx_Met l y wd rm (va_Pc av (PX l G ws0 sz)) (Qc (va_A ws0 sz)) (XC (va_A ws0 sz)) mc ms (va_A ws0 sz) := by
  refine vx_ofWH (cc := cc) (maxL := maxL) (ret := ret) (hh := hh) hy hw ?_
  intro p e s m args below meth c s₁ B hml hv
  obtain ⟨rfl, ⟨hsz, hP, hK, hD0⟩, hX⟩ := hv
  have hts := atoms_spec (ws := wd) B.pre
  have hown : s.vm.findClass y.cls = some m.cls := findClass_of_methodNamed B.named
  have hl := lv_entry av (n := maxL) hlen
  have htab := vx_table (x := y) B (hts (Cond.codeWith y cc maxL ret hh) (by rw [hw]; exact List.mem_cons_self))
  rw [lg_entry_eq]
  exact body p e s m _ below meth c _ _ _ _ _ rfl rfl ⟨B.exec, B.bytes, hml, hown, hts⟩ B.returns B.notSynchronized htab hK hX hsz rfl rfl (fun q h => Or.inr (by rw [← hsz]; exact h)) ⟨hP, hD0.self, va_S.rf⟩ hl
/-- caught by the first row -/
theorem ct_1 {hh' : List (Nat × Nat × Nat × Nat)} {a1 b1 c1 d1 : Nat} {E : String} {ce : Cell} {q : Addr} (S : CallFix p m c cc nL s args Ts own) (hX : XE l A s) (htab : c.exceptionTable.toList = tableOf ((a1, b1, c1, d1) :: hh')) (hE : E ∈ EXN) (hc : a1 ≤ pc ∧ pc < b1) (hd : d1 ≠ 0) (hlink : (Cond.classLink own d1 E).before args s = true) (g1 : H[q]? = some ce) (g2 : ce.vm = .none) (g3 : s.vm.findClass E = some ce.cls)
    (kk : W p l e R s m args below meth c H locs cells slots Q (F0 m c1 ls [.ref q])) : vx_W p l e R s m args below meth c H locs cells slots Q (F0 m pc ls rest) q :=
  vx_catch S.2.2.2.1 [] _ (tableOf hh') htab (fun z hz => by cases hz) (by simp [covers, hc.1, hc.2]) hd hlink (va_Nw.use rfl (hX.2.1.2.1 E hE)) g1 g2 g3 kk
/-- .. by the second; the first takes another class -/
theorem ct_2 {hh' : List (Nat × Nat × Nat × Nat)} {a0 b0 c0 d0 a1 b1 c1 d1 : Nat} {E E0 : String} {ce : Cell} {q : Addr} (S : CallFix p m c cc nL s args Ts own) (hX : XE l A s) (htab : c.exceptionTable.toList = tableOf ((a0, b0, c0, d0) :: (a1, b1, c1, d1) :: hh')) (hE : E ∈ EXN) (hn : (E, E0) ∈ NCS) (hd0 : d0 ≠ 0) (hl0 : (Cond.classLink own d0 E0).before args s = true) (hc : a1 ≤ pc ∧ pc < b1) (hd : d1 ≠ 0) (hlink : (Cond.classLink own d1 E).before args s = true) (g1 : H[q]? = some ce) (g2 : ce.vm = .none) (g3 : s.vm.findClass E = some ce.cls)
    (kk : W p l e R s m args below meth c H locs cells slots Q (F0 m c1 ls [.ref q])) : vx_W p l e R s m args below meth c H locs cells slots Q (F0 m pc ls rest) q := by
  refine vx_catch S.2.2.2.1 (tableOf [(a0, b0, c0, d0)]) _ (tableOf hh') htab (fun z hz => ?_) (by simp [covers, hc.1, hc.2]) hd hlink (va_Nw.use rfl (hX.2.1.2.1 E hE)) g1 g2 g3 kk
  have hz : z = ⟨a0, b0, c0, d0⟩ := by simpa [tableOf] using hz
  subst hz
  exact Or.inr ⟨hd0, E0, hl0, hX.2.1.2.2.1 (E, E0) hn⟩
/-- .. by the third -/
theorem ct_3 {hh' : List (Nat × Nat × Nat × Nat)} {a8 b8 c8 d8 a0 b0 c0 d0 a1 b1 c1 d1 : Nat} {E E0 E8 : String} {ce : Cell} {q : Addr} (S : CallFix p m c cc nL s args Ts own) (hX : XE l A s) (htab : c.exceptionTable.toList = tableOf ((a8, b8, c8, d8) :: (a0, b0, c0, d0) :: (a1, b1, c1, d1) :: hh')) (hE : E ∈ EXN) (hn8 : (E, E8) ∈ NCS) (hd8 : d8 ≠ 0) (hl8 : (Cond.classLink own d8 E8).before args s = true) (hn : (E, E0) ∈ NCS) (hd0 : d0 ≠ 0) (hl0 : (Cond.classLink own d0 E0).before args s = true) (hc : a1 ≤ pc ∧ pc < b1) (hd : d1 ≠ 0) (hlink : (Cond.classLink own d1 E).before args s = true) (g1 : H[q]? = some ce) (g2 : ce.vm = .none) (g3 : s.vm.findClass E = some ce.cls)
    (kk : W p l e R s m args below meth c H locs cells slots Q (F0 m c1 ls [.ref q])) : vx_W p l e R s m args below meth c H locs cells slots Q (F0 m pc ls rest) q := by
  refine vx_catch S.2.2.2.1 (tableOf [(a8, b8, c8, d8), (a0, b0, c0, d0)]) _ (tableOf hh') htab (fun z hz => ?_) (by simp [covers, hc.1, hc.2]) hd hlink (va_Nw.use rfl (hX.2.1.2.1 E hE)) g1 g2 g3 kk
  have hz : z = ⟨a8, b8, c8, d8⟩ ∨ z = ⟨a0, b0, c0, d0⟩ := by simpa [tableOf] using hz
  rcases hz with rfl | rfl
  · exact Or.inr ⟨hd8, E8, hl8, hX.2.1.2.2.1 (E, E8) hn8⟩
  · exact Or.inr ⟨hd0, E0, hl0, hX.2.1.2.2.1 (E, E0) hn⟩
end GH
