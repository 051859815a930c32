/-! two worlds, one copied to the other -/
abbrev w2 (G : GA) (a : Nat → Nat) (z y : St) : va_W := wp G a z ++ wp G (fun i => a (12 + i)) y
section GV
variable {p : Program} {l : Launch} {e : Env} {R : Room} {s : State} {m : MethodId} {args : Array Value} {below : List Frame} {meth : Method} {c : Code} {H : Heap} {locs : List Loc} {cells slots : Nat} {Q : State → Prop}
variable {cc : ByteArray} {nL : Nat} {Ts : List Cond} {own : String} {pc idx : Nat} {ls : Array Slot} {rest : List Value} {G : GA} {A : Nat → Prop} {ws ws' : va_W}
theorem set_cel {D : va_G} {cl : List vw_C} {ws : va_W} {H : Heap} {q1 a1 n : Nat} {cA : ClassId} {f g : Nat → Int32} (h : va_P D cl (ws.set q1 (a1, .inl (cA, (n, .inl g)))) H) (he : ∀ k, k < n → f k = g k) : va_P D cl (ws.set q1 (a1, .inl (cA, (n, .inl f)))) H := by
  intro k q hk
  rw [List.getElem?_set] at hk
  by_cases e : q1 = k
  · subst e
    rw [if_pos rfl] at hk
    split at hk
    · next hl =>
      cases hk
      have h2 := h q1 (a1, .inl (cA, (n, .inl g))) (by rw [List.getElem?_set, if_pos rfl, if_pos hl])
      exact Eq.trans h2 (congrArg some (cel_to cA n g f he).symm)
    · cases hk
  · rw [if_neg e] at hk
    exact h k q (by rw [List.getElem?_set, if_neg e]; exact hk)
theorem ac_i (S : CallFix p m c cc nL s args Ts own) (hsz : ls.size = nL) (hK : KK G s) (hw : WD G ws A s H locs) (hlink : (Cond.methodLink own idx arraycopyName).before args s = true) (hnat : (Cond.native arraycopyName).before args s = true) (hstat : (Cond.static arraycopyName).before args s = true) (hini : (Cond.initialized "java/lang/System").before args s = true)
    (q0 q1 : Nat) {a0 a1 n : Nat} {f g : Nat → Int32} {N : Int32} (h0 : ws[q0]? = some (a0, .inl (G.2.2.1, (n, .inl f)))) (h1 : ws[q1]? = some (a1, .inl (G.2.2.1, (n, .inl g)))) (hN : ¬ N < 0) (hn : N.toNatClampNeg = n) (hs : ws.set q1 (a1, .inl (G.2.2.1, (n, .inl f))) = ws')
    (hframes : 1 ≤ R.frames) (hlocals : (rest.map fun v => v.category).sum + (nativeFrameWords "java/lang/System" "arraycopy" 5 + 11) ≤ R.locals) (hdg : decode cc pc = .ok (.invokestatic idx, 3))
    (kk : ∀ (H1 : Heap) (locs1 : List Loc), WD G ws' A s H1 locs1 → W p l e R s m args below meth c H1 locs1 cells slots Q (F0 m (pc + 3) ls rest)) : W p l e R s m args below meth c H locs cells slots Q (F0 m pc ls (.int N :: .int 0 :: .ref a1 :: .int 0 :: .ref a0 :: rest)) := by
  subst hs
  have z0 : (0 : Int32).toNatClampNeg = 0 := rfl
  refine va_copyi S.1 S.2.1 (S.2.2.1.trans hsz.symm) S.2.2.2.1 hlink hnat hstat hini hK.1 hw.1 hw.2.1 hw.2.2 q0 q1 1 1 (ty := .int) h0 h1 rfl rfl rfl (by decide) (by decide) hN (by rw [z0, hn]; omega) (by rw [z0, hn]; omega) (fun _ _ => rfl) hframes hlocals hdg (fun H1 locs1 hP hD hS => kk H1 locs1 ⟨set_cel hP (fun k hk => ?_), ?_, hS⟩)
  · rw [z0, hn, va_cpy, if_pos (by omega)]
    simp
  · exact va_D.same (by rw [List.map_set, List.map_set]) hD
theorem wd_w2 {z z' y : St} {a : Nat → Nat} (hw : WD G (w2 G a z y) A s H locs) (h0 : ∀ k, k < 10 → z' 0 k = z 0 k) (h1 : ∀ k, k < 8 → z' 1 k = z 1 k) (h2 : ∀ k, k < 8 → z' 2 k = z 2 k) (h3 : ∀ k, k < 8 → z' 3 k = z 3 k) (h4 : ∀ k, k < 8 → z' 4 k = z 4 k) (h5 : ∀ k, k < 64 → z' 5 k = z 5 k) (h6 : ∀ k, k < 64 → z' 6 k = z 6 k) (h7 : ∀ k, k < 64 → z' 7 k = z 7 k) (h8 : ∀ k, k < 64 → z' 8 k = z 8 k) (h9 : ∀ k, k < 64 → z' 9 k = z 9 k) : WD G (w2 G a z' y) A s H locs := by
  have e1 := (hw.sub (ws' := wp G a z) [0, 1, 2, 3, 4, 5, 6, 7, 8, 9, 10, 11] rfl rfl).1
  have e2 := (hw.sub (ws' := wp G (fun i => a (12 + i)) y) [12, 13, 14, 15, 16, 17, 18, 19, 20, 21, 22, 23] rfl rfl).1
  exact ⟨(wp_to e1 h0 h1 h2 h3 h4 h5 h6 h7 h8 h9).app e2, va_D.same (w := w2 G a z y) (w' := w2 G a z' y) rfl hw.2.1, hw.2.2⟩
end GV
def NC (z y t : St) : Prop := (∀ j, j < 8 → t 1 j = y 1 j ∧ t 2 j = y 2 j ∧ t 3 j = y 3 j) ∧ (∀ j, j < 64 → t 9 j = y 9 j) ∧ ∀ f, ¬ f = 1 → ¬ f = 2 → ¬ f = 3 → ¬ f = 9 → t f = z f
