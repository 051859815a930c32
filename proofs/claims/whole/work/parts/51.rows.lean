theorem ar_z {args : Array Value} {s : State} (h : (Cond.arrayClass .boolean).before args s = true) : ∃ cA : ClassId, ArrOfT s cA .boolean ∧ va_RA s cA .boolean := by
  obtain ⟨cA, kA, comp, h1, h2, h3⟩ := Cond.arrayClass_spec h
  exact ⟨cA, fun n z => ⟨fun k h => (by cases h), kA, h2, comp, h3⟩, h1⟩
theorem ar_i {args : Array Value} {s : State} (h : (Cond.arrayClass .int).before args s = true) : ∃ cA : ClassId, ArrOfT s cA .int ∧ va_RA s cA .int := by
  obtain ⟨cA, kA, comp, h1, h2, h3⟩ := Cond.arrayClass_spec h
  exact ⟨cA, fun n z => ⟨fun k h => (by cases h), kA, h2, comp, h3⟩, h1⟩
theorem ar_c {args : Array Value} {s : State} (h : (Cond.arrayClass .char).before args s = true) : ∃ cA : ClassId, ArrOfT s cA .char ∧ va_RA s cA .char := by
  obtain ⟨cA, kA, comp, h1, h2, h3⟩ := Cond.arrayClass_spec h
  exact ⟨cA, fun n z => ⟨fun k h => (by cases h), kA, h2, comp, h3⟩, h1⟩
theorem ar_l {args : Array Value} {s : State} (h : (Cond.arrayClass .long).before args s = true) : ∃ cA : ClassId, ArrOfT s cA .long ∧ va_RA s cA .long := by
  obtain ⟨cA, kA, comp, h1, h2, h3⟩ := Cond.arrayClass_spec h
  exact ⟨cA, fun n z => ⟨fun k h => (by cases h), kA, h2, comp, h3⟩, h1⟩
theorem ar_d {args : Array Value} {s : State} (h : (Cond.arrayClass .double).before args s = true) : ∃ cA : ClassId, ArrOfT s cA .double ∧ va_RA s cA .double := by
  obtain ⟨cA, kA, comp, h1, h2, h3⟩ := Cond.arrayClass_spec h
  exact ⟨cA, fun n z => ⟨fun k h => (by cases h), kA, h2, comp, h3⟩, h1⟩
theorem str_of {args : Array Value} {s : State} {own tx : String} {k cur : Nat} (hcur : s.vm.findClass own = some cur) (h : (Cond.stringRef own k tx).before args s = true) : ∃ sa, vk_R own k tx sa s := by
  obtain ⟨_, _, _, sa, _, _, _, _, _, hev⟩ := Cond.stringRef_spec hcur h
  exact ⟨sa, vk_R.of h hev⟩
theorem at_ {w : Cond} (i : Nat) (h : lw_tbl[i]? = some w) : w ∈ lw_tbl := List.mem_of_getElem? h
theorem fl_at {w : Cond} (i : Nat) (h : (flatC (Jvm.Cond.and given_1 narrow_1))[i]? = some w) : w ∈ flatC (Jvm.Cond.and given_1 narrow_1) := List.mem_of_getElem? h
theorem inv_0 : Inv z0 := ⟨fun _ _ => Or.inl rfl, fun _ _ => Or.inl rfl, fun _ _ => Or.inl rfl, fun _ _ => rfl, fun _ _ _ _ => rfl, by decide, by decide, by decide⟩
theorem rl_0 : Rl z0 z0 zz zz 0 false := ⟨⟨inv_0, by decide, fun _ => rfl⟩, ⟨rfl, nI_0.symm, nI_0.symm⟩, ⟨rfl, rfl⟩, fun h => (by cases h), rfl, fun h => absurd rfl h⟩
section QN
variable {p : Program} {l : Launch} {e : Env} {R : Room} {s : State} {m : MethodId} {args : Array Value} {below : List Frame} {meth : Method} {c : Code} {H : Heap} {locs : List Loc} {cells slots : Nat} {Q : State → Prop}
variable {cc : ByteArray} {nL : Nat} {Ts : List Cond} {own : String} {pc idx : Nat} {ls : Array Slot} {rest : List Value} {G : GA} {A : Nat → Prop} {ws ws' : va_W} {k1 k2 : ClassId}
theorem na_l (S : CallFix p m c cc nL s args Ts own) (hK : KK G s) (hL : KL G k1 k2 s) (hw : WD G ws A s H locs) (hA : ∀ q, s.heap.size ≤ q → A q) (harr : (Cond.arrayClass .long).before args s = true) (hcells : cells + 1 ≤ R.cells) (hslots : slots + 1 ≤ R.slots) (hdg : decode cc pc = .ok (.newarray .long, 2)) (kk : ∀ (q : Nat) (H1 : Heap), WD G (ws ++ [(q, .inl (k1, (1, .inr (.inl (fun _ => 0)))))]) A s H1 locs → W p l e R s m args below meth c H1 locs (cells + 1) (slots + 1) Q (F0 m (pc + 2) ls (.ref q :: rest))) : W p l e R s m args below meth c H locs cells slots Q (F0 m pc ls (.int 1 :: rest)) := by
  refine va_newa (atype := .long) (ty := .long) (a0 := (1, .inr (.inl (fun _ => 0)))) S.1 S.2.1 harr rfl hK.1 hw.1 hw.2.1 hw.2.2 hA (fun cA => rfl) (by decide) (by decide) (by decide) hcells hslots hdg (fun q cA H1 hK1 hP hD hS => ?_)
  have e1 : s.vm.findClass ("[" ++ (FieldType.long).toString) = some cA := (hK1.2 3 (cA, .long) rfl).2
  have e2 : s.vm.findClass ("[" ++ (FieldType.long).toString) = some k1 := (hL.2 0 (k1, .long) rfl).2
  have e3 : cA = k1 := Option.some.inj (e1.symm.trans e2)
  subst e3
  exact kk q H1 ⟨hP, hD, hS⟩
theorem na_d (S : CallFix p m c cc nL s args Ts own) (hK : KK G s) (hL : KL G k1 k2 s) (hw : WD G ws A s H locs) (hA : ∀ q, s.heap.size ≤ q → A q) (harr : (Cond.arrayClass .double).before args s = true) (hcells : cells + 1 ≤ R.cells) (hslots : slots + 1 ≤ R.slots) (hdg : decode cc pc = .ok (.newarray .double, 2)) (kk : ∀ (q : Nat) (H1 : Heap), WD G (ws ++ [(q, .inl (k2, (1, .inr (.inr (.inr (.inl (fun _ => 0)))))))]) A s H1 locs → W p l e R s m args below meth c H1 locs (cells + 1) (slots + 1) Q (F0 m (pc + 2) ls (.ref q :: rest))) : W p l e R s m args below meth c H locs cells slots Q (F0 m pc ls (.int 1 :: rest)) := by
  refine va_newa (atype := .double) (ty := .double) (a0 := (1, .inr (.inr (.inr (.inl (fun _ => 0)))))) S.1 S.2.1 harr rfl hK.1 hw.1 hw.2.1 hw.2.2 hA (fun cA => rfl) (by decide) (by decide) (by decide) hcells hslots hdg (fun q cA H1 hK1 hP hD hS => ?_)
  have e1 : s.vm.findClass ("[" ++ (FieldType.double).toString) = some cA := (hK1.2 3 (cA, .double) rfl).2
  have e2 : s.vm.findClass ("[" ++ (FieldType.double).toString) = some k2 := (hL.2 1 (k2, .double) rfl).2
  have e3 : cA = k2 := Option.some.inj (e1.symm.trans e2)
  subst e3
  exact kk q H1 ⟨hP, hD, hS⟩
end QN
theorem pos_in {big : List Cond} (ws : List Cond) (ps : List Nat) (hp : ws = ps.filterMap (fun i => big[i]?)) : ∀ w ∈ ws, w ∈ big := by
  intro w hw
  rw [hp] at hw
  obtain ⟨i, _, hi⟩ := List.mem_filterMap.mp hw
  exact List.mem_of_getElem? hi
theorem wl_wsX00 : ∀ w ∈ wsX00, w ∈ lw_tbl := pos_in _ [192, 194] (by decide +kernel)
theorem wl_wsX10 : ∀ w ∈ wsX10, w ∈ lw_tbl := pos_in _ [132, 134, 136, 138, 140, 142, 144, 146, 148, 150] (by decide +kernel)
theorem wl_wsX20 : ∀ w ∈ wsX20, w ∈ lw_tbl := pos_in _ [91, 93, 95, 97] (by decide +kernel)
theorem wl_wsX30 : ∀ w ∈ wsX30, w ∈ lw_tbl := pos_in _ [167, 169, 171, 173, 175, 177, 179] (by decide +kernel)
theorem wl_wsX40 : ∀ w ∈ wsX40, w ∈ lw_tbl := pos_in _ [204, 206, 208, 210, 212, 214] (by decide +kernel)
theorem wl_wsX50 : ∀ w ∈ wsX50, w ∈ lw_tbl := pos_in _ [825, 827, 829, 831, 833, 835, 837, 839, 841, 843, 845, 847] (by decide +kernel)
theorem xt_of {args : Array Value} {s : State} {c4 : ClassId} (hts : ∀ w ∈ lw_tbl, w.before args s = true) (hgv : (Jvm.Cond.and given_1 narrow_1).before args s = true) (h4 : s.vm.findClass RX4 = some c4) : XT s := by
  have hs := flat_of_before _ hgv
  refine ⟨fun n hn => ?_, fun C hC => ?_, fun q hq => ?_, fun q hq => ?_⟩
  · simp only [List.mem_cons, List.not_mem_nil, or_false] at hn
    rcases hn with rfl | rfl | rfl
    · exact va_Nw.of rfl (hts (.declares (Bundle.initS "java/lang/RuntimeException")) (at_ 320 (by decide +kernel)))
    · exact va_Nw.of rfl (hts (.declares (Bundle.initS "java/lang/Exception")) (at_ 322 (by decide +kernel)))
    · exact va_Nw.of rfl (hts (.declares (Bundle.initS Bundle.tN)) (at_ 324 (by decide +kernel)))
  · simp only [List.mem_cons, List.not_mem_nil, or_false] at hC
    rcases hC with rfl | rfl | rfl | rfl | rfl
    · exact va_Nw.of rfl (hts (.castable xIAE xIAE) (at_ 318 (by decide +kernel)))
    · exact va_Nw.of rfl (hts (.castable xISE xISE) (at_ 461 (by decide +kernel)))
    · exact va_Nw.of rfl (hts (.castable xIOE xIOE) (at_ 448 (by decide +kernel)))
    · exact va_Nw.of rfl (hts (.castable xNSE xNSE) (at_ 611 (by decide +kernel)))
    · exact va_Nw.of rfl (hts (.castable xAE xAE) (at_ 790 (by decide +kernel)))
  · simp only [List.mem_cons, List.not_mem_nil, or_false] at hq
    rcases hq with rfl | rfl | rfl | rfl | rfl | rfl
    · exact va_Nc.of (hs (.not (.castable xISE xIOE)) (fl_at 24 (by decide +kernel)))
    · exact va_Nc.of (hs (.not (.castable xIAE xIOE)) (fl_at 23 (by decide +kernel)))
    · exact va_Nc.of (hs (.not (.castable xIAE xISE)) (fl_at 33 (by decide +kernel)))
    · exact va_Nc.of (hs (.not (.castable xNSE xIAE)) (fl_at 15 (by decide +kernel)))
    · exact va_Nc.of (hs (.not (.castable xNSE xIOE)) (fl_at 25 (by decide +kernel)))
    · exact va_Nc.of (hs (.not (.castable xISE xIAE)) (fl_at 14 (by decide +kernel)))
  · simp only [List.mem_cons, List.not_mem_nil, or_false] at hq
    rcases hq with rfl | rfl | rfl | rfl | rfl | rfl | rfl | rfl | rfl | rfl | rfl | rfl | rfl | rfl | rfl | rfl | rfl | rfl | rfl | rfl | rfl | rfl | rfl | rfl
    · exact str_of h4 (hts _ (at_ 360 (by decide +kernel)))
    · exact str_of h4 (hts _ (at_ 394 (by decide +kernel)))
    · exact str_of h4 (hts _ (at_ 402 (by decide +kernel)))
    · exact str_of h4 (hts _ (at_ 410 (by decide +kernel)))
    · exact str_of h4 (hts _ (at_ 468 (by decide +kernel)))
    · exact str_of h4 (hts _ (at_ 476 (by decide +kernel)))
    · exact str_of h4 (hts _ (at_ 521 (by decide +kernel)))
    · exact str_of h4 (hts _ (at_ 533 (by decide +kernel)))
    · exact str_of h4 (hts _ (at_ 557 (by decide +kernel)))
    · exact str_of h4 (hts _ (at_ 608 (by decide +kernel)))
    · exact str_of h4 (hts _ (at_ 618 (by decide +kernel)))
    · exact str_of h4 (hts _ (at_ 675 (by decide +kernel)))
    · exact str_of h4 (hts _ (at_ 690 (by decide +kernel)))
    · exact str_of h4 (hts _ (at_ 691 (by decide +kernel)))
    · exact str_of h4 (hts _ (at_ 708 (by decide +kernel)))
    · exact str_of h4 (hts _ (at_ 709 (by decide +kernel)))
    · exact str_of h4 (hts _ (at_ 752 (by decide +kernel)))
    · exact str_of h4 (hts _ (at_ 753 (by decide +kernel)))
    · exact str_of h4 (hts _ (at_ 761 (by decide +kernel)))
    · exact str_of h4 (hts _ (at_ 762 (by decide +kernel)))
    · exact str_of h4 (hts _ (at_ 797 (by decide +kernel)))
    · exact str_of h4 (hts _ (at_ 806 (by decide +kernel)))
    · exact str_of h4 (hts _ (at_ 455 (by decide +kernel)))
    · exact str_of h4 (hts _ (at_ 544 (by decide +kernel)))

