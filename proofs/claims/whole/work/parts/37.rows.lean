/-! the law's own rows of one number -/
def KL (G : GA) (c1 c2 : ClassId) (U : State) : Prop := va_K G.1 gcl [(c1, .long), (c2, .double)] U
def PL (l : Launch) (G : GA) (c1 c2 : ClassId) (ws : va_W) (sz : Nat) (U : State) : Prop := PX l G ws sz U ∧ KL G c1 c2 U
theorem PL.blind {l : Launch} {G : GA} {c1 c2 : ClassId} {ws : va_W} {sz : Nat} {av : List Value} : FrameBlind (va_Pc av (PL l G c1 c2 ws sz)) := fun _ _ _ _ q => ⟨q.1, ⟨⟨q.2.1.1.1, q.2.1.1.2.1, q.2.1.1.2.2.1.calling, q.2.1.1.2.2.2⟩, q.2.1.2.1, q.2.1.2.2.1.same rfl, XZ.moved (Vm.Alike.refl _) q.2.1.2.2.2⟩, va_K.moved (Vm.Alike.refl _) q.2.2⟩
section GL
variable {p : Program} {l : Launch} {e : Env} {R : Room} {s : State} {m : MethodId} {args : Array Value} {below : List Frame} {meth : Method} {c : Code} {H : Heap} {locs : List Loc} {cells slots : Nat} {Q : State → Prop}
variable {cc : ByteArray} {nL : Nat} {Ts : List Cond} {own : String} {pc idx : Nat} {ls : Array Slot} {rest : List Value} {G : GA} {A : Nat → Prop} {ws ws' : va_W} {k1 k2 : ClassId}
theorem PL.of {U : State} (hK : KK G s) (hx : XE l A s) (hL : KL G k1 k2 s) (hw : WD G ws A s H locs) (hF : ∀ q, va_A ws H.size q → A q) (hU : U.heap = H) (hW : s.WarmedH U.vm) : PL l G k1 k2 ws H.size U := ⟨PX.of hK hx hw hF hU hW, va_K.moved hW.alike hL⟩
theorem met_l {y : MethodName} {wd wd' : List Cond} {rm : Room} {maxL : Nat} {ret : Option FieldType} {hh : List (Nat × Nat × Nat × Nat)} {av : List Value} {ws0 : va_W} {sz : Nat} (Qc : (Nat → Prop) → Array Value → State → Outcome → State → Prop) (XC : (Nat → Prop) → String → State → State → Prop) {mc ms : Nat} (hy : plainName y.cls = true) (hw : wd = Cond.codeWith y cc maxL ret hh :: wd') (hlen : (lg_sl av).length ≤ maxL)
    (body : ∀ (p : Program) (e : Env) (s : State) (m : MethodId) (args : Array Value) (below : List Frame) (meth : Method) (c : Code) (R : Room) (Q : State → Prop) (A : Nat → Prop) (H : Heap) (ls : Array Slot), R = rm → Q = vx_MQ below (Qc A) (XC A) args s mc ms A → CallFix p m c cc maxL s args wd y.cls → meth.sig.returnType = ret → meth.locks = false → c.exceptionTable.toList = tableOf hh → KK G s → XE l A s → KL G k1 k2 s → H.size = sz → H = s.heap → va_A ws0 sz = A → (∀ q, s.heap.size ≤ q → A q) → WD G ws0 A s H [] → lv_has ls maxL (lv_args 0 av) → W p l e R s m args below meth c H [] 0 0 Q (F0 m 0 ls [])) :
    vx_Met l y wd rm (va_Pc av (PL l G k1 k2 ws0 sz)) (Qc (va_A ws0 sz)) (XC (va_A ws0 sz)) mc ms (va_A ws0 sz) := by
  refine vx_ofWH (cc := cc) (maxL := maxL) (ret := ret) (hh := hh) hy hw ?_
  intro p e s m args below meth c s₁ B hml hv
  obtain ⟨rfl, ⟨⟨hsz, hP, hK, hD0⟩, hX⟩, hL⟩ := hv
  have hts := atoms_spec (ws := wd) B.pre
  have hown : s.vm.findClass y.cls = some m.cls := findClass_of_methodNamed B.named
  have hl := lv_entry av (n := maxL) hlen
  have htab := vx_table (x := y) B (hts (Cond.codeWith y cc maxL ret hh) (by rw [hw]; exact List.mem_cons_self))
  rw [lg_entry_eq]
  exact body p e s m _ below meth c _ _ _ _ _ rfl rfl ⟨B.exec, B.bytes, hml, hown, hts⟩ B.returns B.notSynchronized htab hK hX hL hsz rfl rfl (fun q h => Or.inr (by rw [← hsz]; exact h)) ⟨hP, hD0.self, va_S.rf⟩ hl
theorem set_any {D : va_G} {cl : List vw_C} {ws : va_W} {H : Heap} {q1 a1 : Nat} {cA : ClassId} {x y : vp_A} (h : va_P D cl (ws.set q1 (a1, .inl (cA, x))) H) (he : vp_cell cA y = vp_cell cA x) : va_P D cl (ws.set q1 (a1, .inl (cA, y))) H := by
  intro k q hk
  rw [List.getElem?_set] at hk
  by_cases e : q1 = k
  · subst e
    rw [if_pos rfl] at hk
    split at hk
    · next hl =>
      cases hk
      have h2 := h q1 (a1, .inl (cA, x)) (by rw [List.getElem?_set, if_pos rfl, if_pos hl])
      exact Eq.trans h2 (congrArg some he.symm)
    · cases hk
  · rw [if_neg e] at hk
    exact h k q (by rw [List.getElem?_set, if_neg e]; exact hk)
theorem la_s (S : CallFix p m c cc nL s args Ts own) (hL : KL G k1 k2 s) (hw : WD G ws A s H locs) (q0 : Nat) {b : Nat} {v0 v : Int64} (he : ws[q0]? = some (b, .inl (k1, (1, .inr (.inl (fun _ => v0)))))) (hs : ws.set q0 (b, .inl (k1, (1, .inr (.inl (fun _ => v))))) = ws') (hdg : decode cc pc = .ok (.lastore, 1))
    (kk : ∀ (H1 : Heap) (locs1 : List Loc), WD G ws' A s H1 locs1 → W p l e R s m args below meth c H1 locs1 cells slots Q (F0 m (pc + 1) ls rest)) : W p l e R s m args below meth c H locs cells slots Q (F0 m pc ls (.long v :: .int 0 :: .ref b :: rest)) := by
  subst hs
  refine va_last S.1 S.2.1 hL hw.1 hw.2.1 hw.2.2 q0 0 he rfl (show vp_in 0 1 from vp_in_nI (show 0 < 1 by decide) (by decide)) hdg (fun H1 locs1 hP hD hS => kk H1 locs1 ⟨set_any hP ?_, va_D.same (by rw [List.map_set, List.map_set]) hD, hS⟩)
  rw [vp_cell_l, vp_cell_l]
  exact arrV_ext (fun j hj => by
    have : j = 0 := by omega
    subst this
    rfl)
theorem da_s (S : CallFix p m c cc nL s args Ts own) (hL : KL G k1 k2 s) (hw : WD G ws A s H locs) (q0 : Nat) {b : Nat} {v0 v : UInt64} (he : ws[q0]? = some (b, .inl (k2, (1, .inr (.inr (.inr (.inl (fun _ => v0)))))))) (hs : ws.set q0 (b, .inl (k2, (1, .inr (.inr (.inr (.inl (fun _ => v))))))) = ws') (hdg : decode cc pc = .ok (.dastore, 1))
    (kk : ∀ (H1 : Heap) (locs1 : List Loc), WD G ws' A s H1 locs1 → W p l e R s m args below meth c H1 locs1 cells slots Q (F0 m (pc + 1) ls rest)) : W p l e R s m args below meth c H locs cells slots Q (F0 m pc ls (.double v :: .int 0 :: .ref b :: rest)) := by
  subst hs
  refine va_dast S.1 S.2.1 hL hw.1 hw.2.1 hw.2.2 q0 1 he rfl (show vp_in 0 1 from vp_in_nI (show 0 < 1 by decide) (by decide)) hdg (fun H1 locs1 hP hD hS => kk H1 locs1 ⟨set_any hP ?_, va_D.same (by rw [List.map_set, List.map_set]) hD, hS⟩)
  rw [vp_cell_d, vp_cell_d]
  exact arrV_ext (fun j hj => by
    have : j = 0 := by omega
    subst this
    rfl)
end GL
