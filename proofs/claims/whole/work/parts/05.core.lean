/-! the state of the simulation: st f k, field f at k; its pictures in the heap -/
abbrev St : Type := Nat → Nat → Int32
def st (s : St) (f k : Nat) (x : Int32) : St := fun g => cond (Nat.beq g f) (upd (s f) k x) (s g)
theorem st_s (s : St) (f k : Nat) (x : Int32) : st s f k x f k = x := by simp [st, upd]
theorem st_k (s : St) (f k j : Nat) (x : Int32) (h : j ≠ k) : st s f k x f j = s f j := by simp [st, upd, h]
theorem st_f (s : St) (f g k j : Nat) (x : Int32) (h : g ≠ f) : st s f k x g j = s g j := by
  have : Nat.beq g f = false := by
    cases e : Nat.beq g f
    · rfl
    · exact absurd (Nat.eq_of_beq_eq_true e) h
  simp [st, this]
theorem st_g (s : St) (f g k : Nat) (x : Int32) (h : g ≠ f) : st s f k x g = s g := by
  funext j
  exact st_f s f g k j x h
theorem st_at (s : St) (f g k j : Nat) (x : Int32) : st s f k x g j = if g = f ∧ j = k then x else s g j := by
  by_cases h : g = f
  · subst h
    by_cases h2 : j = k
    · subst h2; simp [st_s]
    · simp [st_k _ _ _ _ _ h2, h2]
  · simp [st_f _ _ _ _ _ _ h, h]
theorem st_comm (s : St) (f k : Nat) (x : Int32) (g j : Nat) (y : Int32) (h : ¬ (f = g ∧ k = j)) : st (st s f k x) g j y = st (st s g j y) f k x := by
  funext a b
  simp only [st_at]
  by_cases h1 : a = g ∧ b = j
  · by_cases h2 : a = f ∧ b = k
    · exact absurd ⟨h2.1.symm.trans h1.1, h2.2.symm.trans h1.2⟩ h
    · simp [h1, h2]
      intro e1 e2
      exact absurd ⟨e1.symm, e2.symm⟩ h
  · by_cases h2 : a = f ∧ b = k
    · obtain ⟨rfl, rfl⟩ := h2
      simp [h1]
    · simp [h1, h2]
def b2 (b : Bool) : Int32 := cond b 1 0
theorem b2_t : b2 true = 1 := rfl
theorem b2_f : b2 false = 0 := rfl
theorem b2_0 {b : Bool} : b2 b = 0 ↔ b = false := by cases b <;> decide
theorem b2_n0 {b : Bool} : ¬ b2 b = 0 ↔ b = true := by cases b <;> decide
theorem b2_1 {b : Bool} : b2 b = 1 ↔ b = true := by cases b <;> decide
theorem b2_inj {a b : Bool} (h : b2 a = b2 b) : a = b := by cases a <;> cases b <;> first | rfl | (exact absurd h (by decide))
theorem b2_of {x : Int32} (h : x = 0 ∨ x = 1) : x = b2 (decide (x = 1)) := by rcases h with rfl | rfl <;> rfl
theorem b2_nar (b : Bool) : vp_nar .boolean (b2 b) = b2 b := by cases b <;> decide
theorem b2_narrow (b : Bool) : narrow .boolean (.int (b2 b)) = .int (b2 b) := by cases b <;> rfl
theorem b2_fits (b : Bool) : fits .boolean (.int (b2 b)) = true := by cases b <;> rfl
abbrev GA : Type := va_G × ClassId × ClassId × ClassId
abbrev gcl : List vw_C := [(RX0, TX0, 2), (RX1, TX1, 10), (RX2, TX2, 4), (RX3, TX3, 7), (RX4, TX4, 6), (RX5, TX5, 12)]
/-- a world: the object, the network and its four rows, the knowledge and its five -/
abbrev wp (G : GA) (a : Nat → Nat) (s : St) : va_W :=
  [(a 0, .inr (3, [.ref (a 1), .ref (a 6), .int (s 0 4), .int (s 0 1), .int (s 0 5), .int (s 0 6), .int (s 0 8)])),
   (a 1, .inr (2, [.ref (a 2), .ref (a 3), .ref (a 4), .ref (a 5)])),
   (a 2, .inl (G.2.1, (8, .inl (s 1)))), (a 3, .inl (G.2.1, (8, .inl (s 2)))), (a 4, .inl (G.2.2.1, (8, .inl (s 3)))), (a 5, .inl (G.2.1, (64, .inl (s 9)))),
   (a 6, .inr (1, [.ref (a 7), .ref (a 8), .ref (a 9), .ref (a 10), .ref (a 11), .int (s 0 2), .int (s 0 3), .int (s 0 0), .int (s 0 9), .int (s 0 7)])),
   (a 7, .inl (G.2.2.1, (8, .inl (s 4)))), (a 8, .inl (G.2.2.1, (64, .inl (s 5)))), (a 9, .inl (G.2.2.1, (64, .inl (s 6)))), (a 10, .inl (G.2.2.1, (64, .inl (s 7)))), (a 11, .inl (G.2.2.1, (64, .inl (s 8))))]
/-- the reference's one row of numbers -/
def fl (s : St) (i : Nat) : Int32 := if i < 10 then s 0 i else if i < 18 then s 1 (i - 10) else if i < 26 then s 2 (i - 18) else if i < 34 then s 3 (i - 26) else if i < 42 then s 4 (i - 34) else if i < 106 then s 5 (i - 42) else if i < 170 then s 6 (i - 106) else if i < 234 then s 7 (i - 170) else if i < 298 then s 8 (i - 234) else s 9 (i - 298)
theorem fl_0 (s : St) {k : Nat} (h : k < 10) : fl s k = s 0 k := by simp [fl, h]
theorem fl_1 (s : St) {k : Nat} (h : k < 8) : fl s (10 + k) = s 1 k := by
  have h2 : 10 + k - 10 = k := by omega
  rw [fl, if_neg (by omega), if_pos (by omega), h2]
theorem fl_2 (s : St) {k : Nat} (h : k < 8) : fl s (18 + k) = s 2 k := by
  have h2 : 18 + k - 18 = k := by omega
  rw [fl, if_neg (by omega), if_neg (by omega), if_pos (by omega), h2]
theorem fl_3 (s : St) {k : Nat} (h : k < 8) : fl s (26 + k) = s 3 k := by
  have h2 : 26 + k - 26 = k := by omega
  rw [fl, if_neg (by omega), if_neg (by omega), if_neg (by omega), if_pos (by omega), h2]
theorem fl_4 (s : St) {k : Nat} (h : k < 8) : fl s (34 + k) = s 4 k := by
  have h2 : 34 + k - 34 = k := by omega
  rw [fl, if_neg (by omega), if_neg (by omega), if_neg (by omega), if_neg (by omega), if_pos (by omega), h2]
theorem fl_5 (s : St) {k : Nat} (h : k < 64) : fl s (42 + k) = s 5 k := by
  have h2 : 42 + k - 42 = k := by omega
  rw [fl, if_neg (by omega), if_neg (by omega), if_neg (by omega), if_neg (by omega), if_neg (by omega), if_pos (by omega), h2]
theorem fl_6 (s : St) {k : Nat} (h : k < 64) : fl s (106 + k) = s 6 k := by
  have h2 : 106 + k - 106 = k := by omega
  rw [fl, if_neg (by omega), if_neg (by omega), if_neg (by omega), if_neg (by omega), if_neg (by omega), if_neg (by omega), if_pos (by omega), h2]
theorem fl_7 (s : St) {k : Nat} (h : k < 64) : fl s (170 + k) = s 7 k := by
  have h2 : 170 + k - 170 = k := by omega
  rw [fl, if_neg (by omega), if_neg (by omega), if_neg (by omega), if_neg (by omega), if_neg (by omega), if_neg (by omega), if_neg (by omega), if_pos (by omega), h2]
theorem fl_8 (s : St) {k : Nat} (h : k < 64) : fl s (234 + k) = s 8 k := by
  have h2 : 234 + k - 234 = k := by omega
  rw [fl, if_neg (by omega), if_neg (by omega), if_neg (by omega), if_neg (by omega), if_neg (by omega), if_neg (by omega), if_neg (by omega), if_neg (by omega), if_pos (by omega), h2]
theorem fl_9 (s : St) (k : Nat) : fl s (298 + k) = s 9 k := by
  have h2 : 298 + k - 298 = k := by omega
  rw [fl, if_neg (by omega), if_neg (by omega), if_neg (by omega), if_neg (by omega), if_neg (by omega), if_neg (by omega), if_neg (by omega), if_neg (by omega), if_neg (by omega), h2]
theorem fu_0 (s : St) {k : Nat} (h : k < 10) (x : Int32) : upd (fl s) k x = fl (st s 0 k x) := by
  funext i
  by_cases hi : i = k
  · rw [hi, fl_0 _ h, st_s]; simp [upd]
  · show (if i = _ then x else fl s i) = _
    rw [if_neg hi]
    unfold fl
    by_cases h0 : i < 10
    · rw [if_pos h0, if_pos h0]; exact (st_k _ _ _ _ _ (by omega)).symm
    rw [if_neg h0, if_neg h0]
    by_cases h1 : i < 18
    · rw [if_pos h1, if_pos h1]; exact (st_f _ _ _ _ _ _ (by decide)).symm
    rw [if_neg h1, if_neg h1]
    by_cases h2 : i < 26
    · rw [if_pos h2, if_pos h2]; exact (st_f _ _ _ _ _ _ (by decide)).symm
    rw [if_neg h2, if_neg h2]
    by_cases h3 : i < 34
    · rw [if_pos h3, if_pos h3]; exact (st_f _ _ _ _ _ _ (by decide)).symm
    rw [if_neg h3, if_neg h3]
    by_cases h4 : i < 42
    · rw [if_pos h4, if_pos h4]; exact (st_f _ _ _ _ _ _ (by decide)).symm
    rw [if_neg h4, if_neg h4]
    by_cases h5 : i < 106
    · rw [if_pos h5, if_pos h5]; exact (st_f _ _ _ _ _ _ (by decide)).symm
    rw [if_neg h5, if_neg h5]
    by_cases h6 : i < 170
    · rw [if_pos h6, if_pos h6]; exact (st_f _ _ _ _ _ _ (by decide)).symm
    rw [if_neg h6, if_neg h6]
    by_cases h7 : i < 234
    · rw [if_pos h7, if_pos h7]; exact (st_f _ _ _ _ _ _ (by decide)).symm
    rw [if_neg h7, if_neg h7]
    by_cases h8 : i < 298
    · rw [if_pos h8, if_pos h8]; exact (st_f _ _ _ _ _ _ (by decide)).symm
    rw [if_neg h8, if_neg h8]
    exact (st_f _ _ _ _ _ _ (by decide)).symm
theorem fu_1 (s : St) {k : Nat} (h : k < 8) (x : Int32) : upd (fl s) (10 + k) x = fl (st s 1 k x) := by
  funext i
  by_cases hi : i = (10 + k)
  · rw [hi, fl_1 _ h, st_s]; simp [upd]
  · show (if i = _ then x else fl s i) = _
    rw [if_neg hi]
    unfold fl
    by_cases h0 : i < 10
    · rw [if_pos h0, if_pos h0]; exact (st_f _ _ _ _ _ _ (by decide)).symm
    rw [if_neg h0, if_neg h0]
    by_cases h1 : i < 18
    · rw [if_pos h1, if_pos h1]; exact (st_k _ _ _ _ _ (by omega)).symm
    rw [if_neg h1, if_neg h1]
    by_cases h2 : i < 26
    · rw [if_pos h2, if_pos h2]; exact (st_f _ _ _ _ _ _ (by decide)).symm
    rw [if_neg h2, if_neg h2]
    by_cases h3 : i < 34
    · rw [if_pos h3, if_pos h3]; exact (st_f _ _ _ _ _ _ (by decide)).symm
    rw [if_neg h3, if_neg h3]
    by_cases h4 : i < 42
    · rw [if_pos h4, if_pos h4]; exact (st_f _ _ _ _ _ _ (by decide)).symm
    rw [if_neg h4, if_neg h4]
    by_cases h5 : i < 106
    · rw [if_pos h5, if_pos h5]; exact (st_f _ _ _ _ _ _ (by decide)).symm
    rw [if_neg h5, if_neg h5]
    by_cases h6 : i < 170
    · rw [if_pos h6, if_pos h6]; exact (st_f _ _ _ _ _ _ (by decide)).symm
    rw [if_neg h6, if_neg h6]
    by_cases h7 : i < 234
    · rw [if_pos h7, if_pos h7]; exact (st_f _ _ _ _ _ _ (by decide)).symm
    rw [if_neg h7, if_neg h7]
    by_cases h8 : i < 298
    · rw [if_pos h8, if_pos h8]; exact (st_f _ _ _ _ _ _ (by decide)).symm
    rw [if_neg h8, if_neg h8]
    exact (st_f _ _ _ _ _ _ (by decide)).symm
theorem fu_2 (s : St) {k : Nat} (h : k < 8) (x : Int32) : upd (fl s) (18 + k) x = fl (st s 2 k x) := by
  funext i
  by_cases hi : i = (18 + k)
  · rw [hi, fl_2 _ h, st_s]; simp [upd]
  · show (if i = _ then x else fl s i) = _
    rw [if_neg hi]
    unfold fl
    by_cases h0 : i < 10
    · rw [if_pos h0, if_pos h0]; exact (st_f _ _ _ _ _ _ (by decide)).symm
    rw [if_neg h0, if_neg h0]
    by_cases h1 : i < 18
    · rw [if_pos h1, if_pos h1]; exact (st_f _ _ _ _ _ _ (by decide)).symm
    rw [if_neg h1, if_neg h1]
    by_cases h2 : i < 26
    · rw [if_pos h2, if_pos h2]; exact (st_k _ _ _ _ _ (by omega)).symm
    rw [if_neg h2, if_neg h2]
    by_cases h3 : i < 34
    · rw [if_pos h3, if_pos h3]; exact (st_f _ _ _ _ _ _ (by decide)).symm
    rw [if_neg h3, if_neg h3]
    by_cases h4 : i < 42
    · rw [if_pos h4, if_pos h4]; exact (st_f _ _ _ _ _ _ (by decide)).symm
    rw [if_neg h4, if_neg h4]
    by_cases h5 : i < 106
    · rw [if_pos h5, if_pos h5]; exact (st_f _ _ _ _ _ _ (by decide)).symm
    rw [if_neg h5, if_neg h5]
    by_cases h6 : i < 170
    · rw [if_pos h6, if_pos h6]; exact (st_f _ _ _ _ _ _ (by decide)).symm
    rw [if_neg h6, if_neg h6]
    by_cases h7 : i < 234
    · rw [if_pos h7, if_pos h7]; exact (st_f _ _ _ _ _ _ (by decide)).symm
    rw [if_neg h7, if_neg h7]
    by_cases h8 : i < 298
    · rw [if_pos h8, if_pos h8]; exact (st_f _ _ _ _ _ _ (by decide)).symm
    rw [if_neg h8, if_neg h8]
    exact (st_f _ _ _ _ _ _ (by decide)).symm
theorem fu_3 (s : St) {k : Nat} (h : k < 8) (x : Int32) : upd (fl s) (26 + k) x = fl (st s 3 k x) := by
  funext i
  by_cases hi : i = (26 + k)
  · rw [hi, fl_3 _ h, st_s]; simp [upd]
  · show (if i = _ then x else fl s i) = _
    rw [if_neg hi]
    unfold fl
    by_cases h0 : i < 10
    · rw [if_pos h0, if_pos h0]; exact (st_f _ _ _ _ _ _ (by decide)).symm
    rw [if_neg h0, if_neg h0]
    by_cases h1 : i < 18
    · rw [if_pos h1, if_pos h1]; exact (st_f _ _ _ _ _ _ (by decide)).symm
    rw [if_neg h1, if_neg h1]
    by_cases h2 : i < 26
    · rw [if_pos h2, if_pos h2]; exact (st_f _ _ _ _ _ _ (by decide)).symm
    rw [if_neg h2, if_neg h2]
    by_cases h3 : i < 34
    · rw [if_pos h3, if_pos h3]; exact (st_k _ _ _ _ _ (by omega)).symm
    rw [if_neg h3, if_neg h3]
    by_cases h4 : i < 42
    · rw [if_pos h4, if_pos h4]; exact (st_f _ _ _ _ _ _ (by decide)).symm
    rw [if_neg h4, if_neg h4]
    by_cases h5 : i < 106
    · rw [if_pos h5, if_pos h5]; exact (st_f _ _ _ _ _ _ (by decide)).symm
    rw [if_neg h5, if_neg h5]
    by_cases h6 : i < 170
    · rw [if_pos h6, if_pos h6]; exact (st_f _ _ _ _ _ _ (by decide)).symm
    rw [if_neg h6, if_neg h6]
    by_cases h7 : i < 234
    · rw [if_pos h7, if_pos h7]; exact (st_f _ _ _ _ _ _ (by decide)).symm
    rw [if_neg h7, if_neg h7]
    by_cases h8 : i < 298
    · rw [if_pos h8, if_pos h8]; exact (st_f _ _ _ _ _ _ (by decide)).symm
    rw [if_neg h8, if_neg h8]
    exact (st_f _ _ _ _ _ _ (by decide)).symm
theorem fu_4 (s : St) {k : Nat} (h : k < 8) (x : Int32) : upd (fl s) (34 + k) x = fl (st s 4 k x) := by
  funext i
  by_cases hi : i = (34 + k)
  · rw [hi, fl_4 _ h, st_s]; simp [upd]
  · show (if i = _ then x else fl s i) = _
    rw [if_neg hi]
    unfold fl
    by_cases h0 : i < 10
    · rw [if_pos h0, if_pos h0]; exact (st_f _ _ _ _ _ _ (by decide)).symm
    rw [if_neg h0, if_neg h0]
    by_cases h1 : i < 18
    · rw [if_pos h1, if_pos h1]; exact (st_f _ _ _ _ _ _ (by decide)).symm
    rw [if_neg h1, if_neg h1]
    by_cases h2 : i < 26
    · rw [if_pos h2, if_pos h2]; exact (st_f _ _ _ _ _ _ (by decide)).symm
    rw [if_neg h2, if_neg h2]
    by_cases h3 : i < 34
    · rw [if_pos h3, if_pos h3]; exact (st_f _ _ _ _ _ _ (by decide)).symm
    rw [if_neg h3, if_neg h3]
    by_cases h4 : i < 42
    · rw [if_pos h4, if_pos h4]; exact (st_k _ _ _ _ _ (by omega)).symm
    rw [if_neg h4, if_neg h4]
    by_cases h5 : i < 106
    · rw [if_pos h5, if_pos h5]; exact (st_f _ _ _ _ _ _ (by decide)).symm
    rw [if_neg h5, if_neg h5]
    by_cases h6 : i < 170
    · rw [if_pos h6, if_pos h6]; exact (st_f _ _ _ _ _ _ (by decide)).symm
    rw [if_neg h6, if_neg h6]
    by_cases h7 : i < 234
    · rw [if_pos h7, if_pos h7]; exact (st_f _ _ _ _ _ _ (by decide)).symm
    rw [if_neg h7, if_neg h7]
    by_cases h8 : i < 298
    · rw [if_pos h8, if_pos h8]; exact (st_f _ _ _ _ _ _ (by decide)).symm
    rw [if_neg h8, if_neg h8]
    exact (st_f _ _ _ _ _ _ (by decide)).symm
theorem fu_5 (s : St) {k : Nat} (h : k < 64) (x : Int32) : upd (fl s) (42 + k) x = fl (st s 5 k x) := by
  funext i
  by_cases hi : i = (42 + k)
  · rw [hi, fl_5 _ h, st_s]; simp [upd]
  · show (if i = _ then x else fl s i) = _
    rw [if_neg hi]
    unfold fl
    by_cases h0 : i < 10
    · rw [if_pos h0, if_pos h0]; exact (st_f _ _ _ _ _ _ (by decide)).symm
    rw [if_neg h0, if_neg h0]
    by_cases h1 : i < 18
    · rw [if_pos h1, if_pos h1]; exact (st_f _ _ _ _ _ _ (by decide)).symm
    rw [if_neg h1, if_neg h1]
    by_cases h2 : i < 26
    · rw [if_pos h2, if_pos h2]; exact (st_f _ _ _ _ _ _ (by decide)).symm
    rw [if_neg h2, if_neg h2]
    by_cases h3 : i < 34
    · rw [if_pos h3, if_pos h3]; exact (st_f _ _ _ _ _ _ (by decide)).symm
    rw [if_neg h3, if_neg h3]
    by_cases h4 : i < 42
    · rw [if_pos h4, if_pos h4]; exact (st_f _ _ _ _ _ _ (by decide)).symm
    rw [if_neg h4, if_neg h4]
    by_cases h5 : i < 106
    · rw [if_pos h5, if_pos h5]; exact (st_k _ _ _ _ _ (by omega)).symm
    rw [if_neg h5, if_neg h5]
    by_cases h6 : i < 170
    · rw [if_pos h6, if_pos h6]; exact (st_f _ _ _ _ _ _ (by decide)).symm
    rw [if_neg h6, if_neg h6]
    by_cases h7 : i < 234
    · rw [if_pos h7, if_pos h7]; exact (st_f _ _ _ _ _ _ (by decide)).symm
    rw [if_neg h7, if_neg h7]
    by_cases h8 : i < 298
    · rw [if_pos h8, if_pos h8]; exact (st_f _ _ _ _ _ _ (by decide)).symm
    rw [if_neg h8, if_neg h8]
    exact (st_f _ _ _ _ _ _ (by decide)).symm
theorem fu_6 (s : St) {k : Nat} (h : k < 64) (x : Int32) : upd (fl s) (106 + k) x = fl (st s 6 k x) := by
  funext i
  by_cases hi : i = (106 + k)
  · rw [hi, fl_6 _ h, st_s]; simp [upd]
  · show (if i = _ then x else fl s i) = _
    rw [if_neg hi]
    unfold fl
    by_cases h0 : i < 10
    · rw [if_pos h0, if_pos h0]; exact (st_f _ _ _ _ _ _ (by decide)).symm
    rw [if_neg h0, if_neg h0]
    by_cases h1 : i < 18
    · rw [if_pos h1, if_pos h1]; exact (st_f _ _ _ _ _ _ (by decide)).symm
    rw [if_neg h1, if_neg h1]
    by_cases h2 : i < 26
    · rw [if_pos h2, if_pos h2]; exact (st_f _ _ _ _ _ _ (by decide)).symm
    rw [if_neg h2, if_neg h2]
    by_cases h3 : i < 34
    · rw [if_pos h3, if_pos h3]; exact (st_f _ _ _ _ _ _ (by decide)).symm
    rw [if_neg h3, if_neg h3]
    by_cases h4 : i < 42
    · rw [if_pos h4, if_pos h4]; exact (st_f _ _ _ _ _ _ (by decide)).symm
    rw [if_neg h4, if_neg h4]
    by_cases h5 : i < 106
    · rw [if_pos h5, if_pos h5]; exact (st_f _ _ _ _ _ _ (by decide)).symm
    rw [if_neg h5, if_neg h5]
    by_cases h6 : i < 170
    · rw [if_pos h6, if_pos h6]; exact (st_k _ _ _ _ _ (by omega)).symm
    rw [if_neg h6, if_neg h6]
    by_cases h7 : i < 234
    · rw [if_pos h7, if_pos h7]; exact (st_f _ _ _ _ _ _ (by decide)).symm
    rw [if_neg h7, if_neg h7]
    by_cases h8 : i < 298
    · rw [if_pos h8, if_pos h8]; exact (st_f _ _ _ _ _ _ (by decide)).symm
    rw [if_neg h8, if_neg h8]
    exact (st_f _ _ _ _ _ _ (by decide)).symm
theorem fu_7 (s : St) {k : Nat} (h : k < 64) (x : Int32) : upd (fl s) (170 + k) x = fl (st s 7 k x) := by
  funext i
  by_cases hi : i = (170 + k)
  · rw [hi, fl_7 _ h, st_s]; simp [upd]
  · show (if i = _ then x else fl s i) = _
    rw [if_neg hi]
    unfold fl
    by_cases h0 : i < 10
    · rw [if_pos h0, if_pos h0]; exact (st_f _ _ _ _ _ _ (by decide)).symm
    rw [if_neg h0, if_neg h0]
    by_cases h1 : i < 18
    · rw [if_pos h1, if_pos h1]; exact (st_f _ _ _ _ _ _ (by decide)).symm
    rw [if_neg h1, if_neg h1]
    by_cases h2 : i < 26
    · rw [if_pos h2, if_pos h2]; exact (st_f _ _ _ _ _ _ (by decide)).symm
    rw [if_neg h2, if_neg h2]
    by_cases h3 : i < 34
    · rw [if_pos h3, if_pos h3]; exact (st_f _ _ _ _ _ _ (by decide)).symm
    rw [if_neg h3, if_neg h3]
    by_cases h4 : i < 42
    · rw [if_pos h4, if_pos h4]; exact (st_f _ _ _ _ _ _ (by decide)).symm
    rw [if_neg h4, if_neg h4]
    by_cases h5 : i < 106
    · rw [if_pos h5, if_pos h5]; exact (st_f _ _ _ _ _ _ (by decide)).symm
    rw [if_neg h5, if_neg h5]
    by_cases h6 : i < 170
    · rw [if_pos h6, if_pos h6]; exact (st_f _ _ _ _ _ _ (by decide)).symm
    rw [if_neg h6, if_neg h6]
    by_cases h7 : i < 234
    · rw [if_pos h7, if_pos h7]; exact (st_k _ _ _ _ _ (by omega)).symm
    rw [if_neg h7, if_neg h7]
    by_cases h8 : i < 298
    · rw [if_pos h8, if_pos h8]; exact (st_f _ _ _ _ _ _ (by decide)).symm
    rw [if_neg h8, if_neg h8]
    exact (st_f _ _ _ _ _ _ (by decide)).symm
theorem fu_8 (s : St) {k : Nat} (h : k < 64) (x : Int32) : upd (fl s) (234 + k) x = fl (st s 8 k x) := by
  funext i
  by_cases hi : i = (234 + k)
  · rw [hi, fl_8 _ h, st_s]; simp [upd]
  · show (if i = _ then x else fl s i) = _
    rw [if_neg hi]
    unfold fl
    by_cases h0 : i < 10
    · rw [if_pos h0, if_pos h0]; exact (st_f _ _ _ _ _ _ (by decide)).symm
    rw [if_neg h0, if_neg h0]
    by_cases h1 : i < 18
    · rw [if_pos h1, if_pos h1]; exact (st_f _ _ _ _ _ _ (by decide)).symm
    rw [if_neg h1, if_neg h1]
    by_cases h2 : i < 26
    · rw [if_pos h2, if_pos h2]; exact (st_f _ _ _ _ _ _ (by decide)).symm
    rw [if_neg h2, if_neg h2]
    by_cases h3 : i < 34
    · rw [if_pos h3, if_pos h3]; exact (st_f _ _ _ _ _ _ (by decide)).symm
    rw [if_neg h3, if_neg h3]
    by_cases h4 : i < 42
    · rw [if_pos h4, if_pos h4]; exact (st_f _ _ _ _ _ _ (by decide)).symm
    rw [if_neg h4, if_neg h4]
    by_cases h5 : i < 106
    · rw [if_pos h5, if_pos h5]; exact (st_f _ _ _ _ _ _ (by decide)).symm
    rw [if_neg h5, if_neg h5]
    by_cases h6 : i < 170
    · rw [if_pos h6, if_pos h6]; exact (st_f _ _ _ _ _ _ (by decide)).symm
    rw [if_neg h6, if_neg h6]
    by_cases h7 : i < 234
    · rw [if_pos h7, if_pos h7]; exact (st_f _ _ _ _ _ _ (by decide)).symm
    rw [if_neg h7, if_neg h7]
    by_cases h8 : i < 298
    · rw [if_pos h8, if_pos h8]; exact (st_k _ _ _ _ _ (by omega)).symm
    rw [if_neg h8, if_neg h8]
    exact (st_f _ _ _ _ _ _ (by decide)).symm
theorem fu_9 (s : St) {k : Nat} (h : k < 64) (x : Int32) : upd (fl s) (298 + k) x = fl (st s 9 k x) := by
  funext i
  by_cases hi : i = (298 + k)
  · rw [hi, fl_9 _ k, st_s]; simp [upd]
  · show (if i = _ then x else fl s i) = _
    rw [if_neg hi]
    unfold fl
    by_cases h0 : i < 10
    · rw [if_pos h0, if_pos h0]; exact (st_f _ _ _ _ _ _ (by decide)).symm
    rw [if_neg h0, if_neg h0]
    by_cases h1 : i < 18
    · rw [if_pos h1, if_pos h1]; exact (st_f _ _ _ _ _ _ (by decide)).symm
    rw [if_neg h1, if_neg h1]
    by_cases h2 : i < 26
    · rw [if_pos h2, if_pos h2]; exact (st_f _ _ _ _ _ _ (by decide)).symm
    rw [if_neg h2, if_neg h2]
    by_cases h3 : i < 34
    · rw [if_pos h3, if_pos h3]; exact (st_f _ _ _ _ _ _ (by decide)).symm
    rw [if_neg h3, if_neg h3]
    by_cases h4 : i < 42
    · rw [if_pos h4, if_pos h4]; exact (st_f _ _ _ _ _ _ (by decide)).symm
    rw [if_neg h4, if_neg h4]
    by_cases h5 : i < 106
    · rw [if_pos h5, if_pos h5]; exact (st_f _ _ _ _ _ _ (by decide)).symm
    rw [if_neg h5, if_neg h5]
    by_cases h6 : i < 170
    · rw [if_pos h6, if_pos h6]; exact (st_f _ _ _ _ _ _ (by decide)).symm
    rw [if_neg h6, if_neg h6]
    by_cases h7 : i < 234
    · rw [if_pos h7, if_pos h7]; exact (st_f _ _ _ _ _ _ (by decide)).symm
    rw [if_neg h7, if_neg h7]
    by_cases h8 : i < 298
    · rw [if_pos h8, if_pos h8]; exact (st_f _ _ _ _ _ _ (by decide)).symm
    rw [if_neg h8, if_neg h8]
    exact (st_k _ _ _ _ _ (by omega)).symm
/-- the reference: its object, its row of numbers, what it saved, its text, its list of a message -/
abbrev mp (G : GA) (a : Nat → Nat) (s : St) (k : St) : va_W :=
  [(a 0, .inr (5, [.int (k 0 0), .ref (a 1), .ref (a 2), .int (k 0 1), .ref (a 3), .int (k 0 2), .int (k 0 3), .int (k 0 4), .ref (a 4), .int (k 0 5), .int (k 0 6), .int (k 0 7)])),
   (a 1, .inl (G.2.2.1, (362, .inl (fl s)))), (a 2, .inl (G.2.2.1, (362, .inl (k 1)))), (a 3, .inl (G.2.2.1, (40, .inl (k 2)))), (a 4, .inl (G.2.2.1, (8, .inl (k 3))))]
/-- what the tables say: the classes' fields, the array classes, the nest mates' links -/
def NST (U : State) : Prop := va_Nw (.methodLinkNest RX1 40 yX4_pair RX4) U ∧ va_Nw (.methodLinkNest RX2 29 yX4_pair RX4) U ∧ va_Nw (.methodLinkNest RX3 91 yX4_pair RX4) U ∧ va_Nw (.methodLinkNest RX3 11 yX2_init RX4) U ∧ va_Nw (.methodLinkNest RX3 20 yX1_init RX4) U ∧ va_Nw (.methodLinkNest RX4 9 yX3_init RX4) U ∧ va_Nw (.methodLinkNest RX4 21 yX0_init RX4) U
theorem NST.warm {s U : State} (hW : s.WarmedH U.vm) (h : NST s) : NST U := by
  obtain ⟨h1, h2, h3, h4, h5, h6, h7⟩ := h
  exact ⟨va_Nw.warmM hW h1, va_Nw.warmM hW h2, va_Nw.warmM hW h3, va_Nw.warmM hW h4, va_Nw.warmM hW h5, va_Nw.warmM hW h6, va_Nw.warmM hW h7⟩
theorem NST.same {u U : State} (h : u.vm = U.vm) (hn : NST u) : NST U := by
  obtain ⟨h1, h2, h3, h4, h5, h6, h7⟩ := hn
  exact ⟨va_Nw.same rfl h h1, va_Nw.same rfl h h2, va_Nw.same rfl h h3, va_Nw.same rfl h h4, va_Nw.same rfl h h5, va_Nw.same rfl h h6, va_Nw.same rfl h h7⟩
abbrev gty (G : GA) : List (ClassId × FieldType) := [(G.2.1, .boolean), (G.2.2.1, .int), (G.2.2.2, .char)]
def KK (G : GA) (U : State) : Prop := va_K G.1 gcl (gty G) U ∧ NST U
theorem KK.warm {G : GA} {s U : State} (hW : s.WarmedH U.vm) (h : KK G s) : KK G U := ⟨va_K.moved hW.alike h.1, h.2.warm hW⟩
theorem KK.calling {G : GA} {U : State} {g : JFrame} {mk : MethodId} {a : Array Value} (h : KK G U) : KK G (U.calling g mk a) := ⟨va_K.moved (u := U) (U := U.calling g mk a) (Vm.Alike.refl U.vm) h.1, h.2.same rfl⟩
/-- the world of a walk -/
def WD (G : GA) (ws : va_W) (A : Nat → Prop) (s : State) (H : Heap) (locs : List Loc) : Prop := va_P G.1 gcl ws H ∧ va_D A ws ∧ va_S A s.heap H locs
/-- a method's start -/
def PW (G : GA) (ws : va_W) (sz : Nat) (U : State) : Prop := U.heap.size = sz ∧ va_P G.1 gcl ws U.heap ∧ KK G U ∧ va_D (fun _ => True) ws
theorem PW.blind {G : GA} {ws : va_W} {sz : Nat} {av : List Value} : FrameBlind (va_Pc av (PW G ws sz)) := fun _ _ _ _ q => ⟨q.1, q.2.1, q.2.2.1, q.2.2.2.1.calling, q.2.2.2.2⟩
theorem PW.of {G : GA} {ws : va_W} {A : Nat → Prop} {s U : State} {H : Heap} {locs : List Loc} (hK : KK G s) (hw : WD G ws A s H locs) (hU : U.heap = H) (hW : s.WarmedH U.vm) : PW G ws H.size U := ⟨by rw [hU], by rw [hU]; exact hw.1, hK.warm hW, hw.2.1.weaken (fun _ _ _ _ => trivial)⟩
theorem va_D.same {A : Nat → Prop} {w w' : va_W} (h : w'.map (·.1) = w.map (·.1)) (hD : va_D A w) : va_D A w' := by
  have key : ∀ (k : Nat) (q : Nat × va_E), w'[k]? = some q → ∃ q0, w[k]? = some q0 ∧ q0.1 = q.1 := by
    intro k q hk
    have h1 : (w'.map (·.1))[k]? = some q.1 := by rw [List.getElem?_map, hk]; rfl
    rw [h, List.getElem?_map] at h1
    cases h2 : w[k]? with
    | none => rw [h2] at h1; cases h1
    | some q0 => rw [h2] at h1; exact ⟨q0, rfl, Option.some.inj h1⟩
  refine ⟨fun i j x y hi hj hxy => ?_, fun k q hk => ?_⟩
  · obtain ⟨x0, a1, b1⟩ := key i x hi
    obtain ⟨y0, a2, b2⟩ := key j y hj
    exact hD.1 i j x0 y0 a1 a2 (b1.trans (hxy.trans b2.symm))
  · obtain ⟨q0, a1, b1⟩ := key k q hk
    rw [← b1]
    exact hD.2 k q0 a1
section GW
variable {p : Program} {l : Launch} {e : Env} {R : Room} {s : State} {m : MethodId} {args : Array Value} {below : List Frame} {meth : Method} {c : Code} {H : Heap} {locs : List Loc} {cells slots : Nat} {Q : State → Prop}
variable {cc : ByteArray} {nL : Nat} {Ts : List Cond} {own : String} {pc : Nat} {ls : Array Slot} {rest : List Value} {G : GA} {A : Nat → Prop} {ws ws' : va_W}
/-- from a contract's entry to its first row -/
theorem met_st {y : MethodName} {wd wd' : List Cond} {rm : Room} {maxL : Nat} {ret : Option FieldType} {av : List Value} {ws0 : va_W} {sz : Nat} (Qc : (Nat → Prop) → Array Value → State → Outcome → State → Prop) {mc ms : Nat} (hy : plainName y.cls = true) (hw : wd = Cond.code y cc maxL ret :: wd') (hlen : (lg_sl av).length ≤ maxL)
    (body : ∀ (p : Program) (e : Env) (s : State) (m : MethodId) (args : Array Value) (below : List Frame) (meth : Method) (c : Code) (R : Room) (Q : State → Prop) (A : Nat → Prop) (H : Heap) (ls : Array Slot), R = rm → Q = MQ below (Qc A) args s mc ms A → CallFix p m c cc maxL s args wd y.cls → meth.sig.returnType = ret → meth.locks = false → meth.name = y.name → KK G s → H.size = sz → H = s.heap → va_A ws0 sz = A → (∀ q, s.heap.size ≤ q → A q) → WD G ws0 A s H [] → lv_has ls maxL (lv_args 0 av) → W p l e R s m args below meth c H [] 0 0 Q (F0 m 0 ls [])) :
    Met l y wd rm (va_Pc av (PW G ws0 sz)) (Qc (va_A ws0 sz)) mc ms (va_A ws0 sz) := by
  refine Met.ofW (cc := cc) (maxL := maxL) (ret := ret) hy hw ?_
  intro p e s m args below meth c s₁ B hml hv
  obtain ⟨rfl, hsz, hP, hK, hD0⟩ := hv
  have hts := atoms_spec (ws := wd) B.pre
  have hown : s.vm.findClass y.cls = some m.cls := findClass_of_methodNamed B.named
  have hl := lv_entry av (n := maxL) hlen
  rw [lg_entry_eq]
  exact body p e s m _ below meth c _ _ _ _ _ rfl rfl ⟨B.exec, B.bytes, hml, hown, hts⟩ B.returns B.notSynchronized (name_of_methodNamed B.named B.method).1 hK hsz rfl rfl (fun q h => Or.inr (by rw [← hsz]; exact h)) ⟨hP, hD0.self, va_S.rf⟩ hl
theorem en_i {U : Type} {post : Int32 → U → Prop} {pic : U → va_W} {v : Int32} (u : U) (hQ : Q = MQ below (va_Qi post (fun u t => va_P G.1 gcl (pic u) t.heap) A) args s cells slots A) (S : CallFix p m c cc nL s args Ts own) (hr : meth.sig.returnType = some .int) (hlocks : meth.locks = false) (hw : WD G (pic u) A s H locs) (hp : post v u) (hdg : decode cc pc = .ok (.ireturn, 1)) :
    W p l e R s m args below meth c H locs cells slots Q (F0 m pc ls [.int v]) := by
  rw [hQ]
  exact W.iret (v := v) S.1 S.2.1 hr (fun t ht _ => ⟨⟨v, u, rfl, hp, by show va_P _ _ _ t.heap; rw [ht]; exact hw.1⟩, hw.2.2.F ht⟩) hw.2.2.2.2 hdg hlocks
theorem en_z {U : Type} {post : Int32 → U → Prop} {pic : U → va_W} {v : Int32} {ty : FieldType} (u : U) (hQ : Q = MQ below (va_Qi post (fun u t => va_P G.1 gcl (pic u) t.heap) A) args s cells slots A) (S : CallFix p m c cc nL s args Ts own) (hr : meth.sig.returnType = some ty) (hlocks : meth.locks = false) (hn : narrow ty (.int v) = .int v) (hw : WD G (pic u) A s H locs) (hp : post v u) (hdg : decode cc pc = .ok (.ireturn, 1)) :
    W p l e R s m args below meth c H locs cells slots Q (F0 m pc ls [.int v]) := by
  rw [hQ]
  exact W.zret (v := v) S.1 S.2.1 hr hn (fun t ht _ => ⟨⟨v, u, rfl, hp, by show va_P _ _ _ t.heap; rw [ht]; exact hw.1⟩, hw.2.2.F ht⟩) hw.2.2.2.2 hdg hlocks
theorem en_v {U : Type} {post : U → Prop} {pic : U → va_W} (u : U) (hQ : Q = MQ below (va_Qv post (fun u t => va_P G.1 gcl (pic u) t.heap) A) args s cells slots A) (S : CallFix p m c cc nL s args Ts own) (hr : meth.sig.returnType = none) (hlocks : meth.locks = false) (hw : WD G (pic u) A s H locs) (hp : post u) (hdg : decode cc pc = .ok (.return_, 1)) :
    W p l e R s m args below meth c H locs cells slots Q (F0 m pc ls []) := by
  rw [hQ]
  exact W.vret S.1 S.2.1 hr (fun t ht _ => ⟨⟨u, rfl, hp, by show va_P _ _ _ t.heap; rw [ht]; exact hw.1⟩, hw.2.2.F ht⟩) hw.2.2.2.2 hdg hlocks
/-- behind a call on the whole world -/
theorem cl_i {U : Type} {post : Int32 → U → Prop} {pic : U → va_W} {st0 : List Value} {a : Array Value} {mc ms : Nat} (hr : va_Run p l e R s m args below meth c H locs cells slots mc ms (F0 m pc ls st0) rest (va_Qi post (fun u t => va_P G.1 gcl (pic u) t.heap) (va_A ws H.size) a) (va_A ws H.size)) (hw : WD G ws A s H locs) (hA : ∀ q, s.heap.size ≤ q → A q) (hs : ∀ u, (pic u).map (·.1) = ws.map (·.1))
    (kk : ∀ (r : Int32) (u : U) (H1 : Heap) (locs1 : List Loc), post r u → WD G (pic u) A s H1 locs1 → W p l e R s m args below meth c H1 locs1 (cells + mc) (slots + ms) Q (F0 m (pc + 3) ls (.int r :: rest))) : W p l e R s m args below meth c H locs cells slots Q (F0 m pc ls st0) := by
  have hF : ∀ q, va_A ws H.size q → A q := by
    intro q h
    rcases h with ⟨k, e, h⟩ | h
    · exact hw.2.1.2 k (q, e) h
    · exact hA q (Nat.le_trans hw.2.2.1 h)
  exact va_calli hr hw.2.2 (fun q _ h => hF q h) hF (fun r u t H1 locs1 ht _ hp hB _ _ hS => kk r u H1 locs1 hp ⟨by rw [← ht]; exact hB, hw.2.1.same (hs u), hS⟩)
theorem cl_v {U : Type} {post : U → Prop} {pic : U → va_W} {st0 : List Value} {a : Array Value} {mc ms : Nat} (hr : va_Run p l e R s m args below meth c H locs cells slots mc ms (F0 m pc ls st0) rest (va_Qv post (fun u t => va_P G.1 gcl (pic u) t.heap) (va_A ws H.size) a) (va_A ws H.size)) (hw : WD G ws A s H locs) (hA : ∀ q, s.heap.size ≤ q → A q) (hs : ∀ u, (pic u).map (·.1) = ws.map (·.1))
    (kk : ∀ (u : U) (H1 : Heap) (locs1 : List Loc), post u → WD G (pic u) A s H1 locs1 → W p l e R s m args below meth c H1 locs1 (cells + mc) (slots + ms) Q (F0 m (pc + 3) ls rest)) : W p l e R s m args below meth c H locs cells slots Q (F0 m pc ls st0) := by
  have hF : ∀ q, va_A ws H.size q → A q := by
    intro q h
    rcases h with ⟨k, e, h⟩ | h
    · exact hw.2.1.2 k (q, e) h
    · exact hA q (Nat.le_trans hw.2.2.1 h)
  exact va_callv hr hw.2.2 (fun q _ h => hF q h) hF (fun u t H1 locs1 ht _ hp hB _ _ hS => kk u H1 locs1 hp ⟨by rw [← ht]; exact hB, hw.2.1.same (hs u), hS⟩)
/-- behind a call on a part of the world: the rest ahead, what came back behind it -/
theorem cj_i {U : Type} {post : Int32 → U → Prop} {pic : U → va_W} {wc wr : va_W} {st0 : List Value} {a : Array Value} {mc ms : Nat} (hr : va_Run p l e R s m args below meth c H locs cells slots mc ms (F0 m pc ls st0) rest (va_Qi post (fun u t => va_P G.1 gcl (pic u) t.heap) (va_A wc H.size) a) (va_A wc H.size)) (hw : WD G ws A s H locs) (hA : ∀ q, s.heap.size ≤ q → A q) (isC isR : List Nat) (hC : isC.map (fun i => ws[i]?) = wc.map some) (hR : isR.map (fun i => ws[i]?) = wr.map some) (hnC : va_nd isC = true) (hn : va_nd isR = true) (hdis : ∀ i ∈ isR, i ∉ isC) (hs : ∀ u, (pic u).map (·.1) = wc.map (·.1))
    (kk : ∀ (r : Int32) (u : U) (H1 : Heap) (locs1 : List Loc), post r u → WD G (wr ++ pic u) A s H1 locs1 → W p l e R s m args below meth c H1 locs1 (cells + mc) (slots + ms) Q (F0 m (pc + 3) ls (.int r :: rest))) : W p l e R s m args below meth c H locs cells slots Q (F0 m pc ls st0) := by
  have hF := va_free (wc := wc) hw.2.1 hw.2.2 hA isC hC
  refine va_calli hr hw.2.2 (fun q _ h => hF q h) hF (fun r u t H1 locs1 ht _ hp hB _ hk hS => kk r u H1 locs1 hp ?_)
  have hD1 : va_D (va_A wc H.size) (pic u) := va_D.same (hs u) ((hw.2.1.sub isC hnC hC).self)
  obtain ⟨hP9, hD9⟩ := va_join (wr := wr) (w1 := pic u) hw.1 hw.2.1 isC isR hC hR hn hdis hk hF (by rw [← ht]; exact hB) hD1
  exact ⟨hP9, hD9, hS⟩
theorem cj_v {U : Type} {post : U → Prop} {pic : U → va_W} {wc wr : va_W} {st0 : List Value} {a : Array Value} {mc ms : Nat} (hr : va_Run p l e R s m args below meth c H locs cells slots mc ms (F0 m pc ls st0) rest (va_Qv post (fun u t => va_P G.1 gcl (pic u) t.heap) (va_A wc H.size) a) (va_A wc H.size)) (hw : WD G ws A s H locs) (hA : ∀ q, s.heap.size ≤ q → A q) (isC isR : List Nat) (hC : isC.map (fun i => ws[i]?) = wc.map some) (hR : isR.map (fun i => ws[i]?) = wr.map some) (hnC : va_nd isC = true) (hn : va_nd isR = true) (hdis : ∀ i ∈ isR, i ∉ isC) (hs : ∀ u, (pic u).map (·.1) = wc.map (·.1))
    (kk : ∀ (u : U) (H1 : Heap) (locs1 : List Loc), post u → WD G (wr ++ pic u) A s H1 locs1 → W p l e R s m args below meth c H1 locs1 (cells + mc) (slots + ms) Q (F0 m (pc + 3) ls rest)) : W p l e R s m args below meth c H locs cells slots Q (F0 m pc ls st0) := by
  have hF := va_free (wc := wc) hw.2.1 hw.2.2 hA isC hC
  refine va_callv hr hw.2.2 (fun q _ h => hF q h) hF (fun u t H1 locs1 ht _ hp hB _ hk hS => kk u H1 locs1 hp ?_)
  have hD1 : va_D (va_A wc H.size) (pic u) := va_D.same (hs u) ((hw.2.1.sub isC hnC hC).self)
  obtain ⟨hP9, hD9⟩ := va_join (wr := wr) (w1 := pic u) hw.1 hw.2.1 isC isR hC hR hn hdis hk hF (by rw [← ht]; exact hB) hD1
  exact ⟨hP9, hD9, hS⟩
theorem WD.sub (hw : WD G ws A s H locs) (is : List Nat) (hn : va_nd is = true) (h : is.map (fun i => ws[i]?) = ws'.map some) : WD G ws' A s H locs := by
  refine ⟨fun k q hk => ?_, hw.2.1.sub is hn h, hw.2.2⟩
  have h1 : (is.map (fun i => ws[i]?))[k]? = some (some q) := by rw [h, List.getElem?_map, hk]; rfl
  rw [List.getElem?_map] at h1
  cases hi : is[k]? with
  | none => rw [hi] at h1; cases h1
  | some i => rw [hi] at h1; exact hw.1 i q (Option.some.inj h1)
/-- arrays, by known places -/
theorem ald_i (S : CallFix p m c cc nL s args Ts own) (hK : KK G s) (hw : WD G ws A s H locs) (q0 : Nat) {a n k : Nat} {f : Nat → Int32} {v : Int32} (he : ws[q0]? = some (a, .inl (G.2.2.1, (n, .inl f)))) (hk : k < n) (hn : n < 2 ^ 31) (hv : f k = v) (hdg : decode cc pc = .ok (.iaload, 1))
    (kk : W p l e R s m args below meth c H locs cells slots Q (F0 m (pc + 1) ls (.int v :: rest))) : W p l e R s m args below meth c H locs cells slots Q (F0 m pc ls (.int (nI k) :: .ref a :: rest)) := by
  refine va_iald (ws := ws) S.1 S.2.1 hK.1 hw.1 q0 1 he rfl (vp_in_nI hk hn) hdg ?_
  rw [nI_clamp (Nat.lt_trans hk hn), hv]
  exact kk
theorem ald_c (S : CallFix p m c cc nL s args Ts own) (hK : KK G s) (hw : WD G ws A s H locs) (q0 : Nat) {a n k : Nat} {f : Nat → Int32} {v : Int32} (he : ws[q0]? = some (a, .inl (G.2.2.2, (n, .inl f)))) (hk : k < n) (hn : n < 2 ^ 31) (hv : f k = v) (hdg : decode cc pc = .ok (.caload, 1))
    (kk : W p l e R s m args below meth c H locs cells slots Q (F0 m (pc + 1) ls (.int v :: rest))) : W p l e R s m args below meth c H locs cells slots Q (F0 m pc ls (.int (nI k) :: .ref a :: rest)) := by
  refine va_cald (ws := ws) S.1 S.2.1 hK.1 hw.1 q0 2 he rfl (vp_in_nI hk hn) hdg ?_
  rw [nI_clamp (Nat.lt_trans hk hn), hv]
  exact kk
theorem ald_z (S : CallFix p m c cc nL s args Ts own) (hK : KK G s) (hw : WD G ws A s H locs) (q0 : Nat) {a n k : Nat} {f : Nat → Int32} (he : ws[q0]? = some (a, .inl (G.2.1, (n, .inl f)))) (hk : k < n) (hn : n < 2 ^ 31) (hv : f k = 0 ∨ f k = 1) (hdg : decode cc pc = .ok (.baload, 1))
    (kk : W p l e R s m args below meth c H locs cells slots Q (F0 m (pc + 1) ls (.int (b2 (decide (f k = 1))) :: rest))) : W p l e R s m args below meth c H locs cells slots Q (F0 m pc ls (.int (nI k) :: .ref a :: rest)) := by
  refine va_zald (ws := ws) S.1 S.2.1 hK.1 hw.1 q0 0 he rfl (vp_in_nI hk hn) hdg ?_
  rw [nI_clamp (Nat.lt_trans hk hn), b2_of hv]
  have e2 : b2 (decide (b2 (decide (f k = 1)) = 1)) = b2 (decide (f k = 1)) := by
    congr 1
    simp [b2_1]
  exact kk
theorem ast_i (S : CallFix p m c cc nL s args Ts own) (hK : KK G s) (hw : WD G ws A s H locs) (q0 : Nat) {a n k : Nat} {f : Nat → Int32} {x : Int32} (he : ws[q0]? = some (a, .inl (G.2.2.1, (n, .inl f)))) (hk : k < n) (hn : n < 2 ^ 31) (hs : ws.set q0 (a, .inl (G.2.2.1, (n, .inl (upd f k x)))) = ws') (hdg : decode cc pc = .ok (.iastore, 1))
    (kk : ∀ (H1 : Heap) (locs1 : List Loc), WD G ws' A s H1 locs1 → W p l e R s m args below meth c H1 locs1 cells slots Q (F0 m (pc + 1) ls rest)) : W p l e R s m args below meth c H locs cells slots Q (F0 m pc ls (.int x :: .int (nI k) :: .ref a :: rest)) := by
  subst hs
  refine va_iast (ws := ws) S.1 S.2.1 hK.1 hw.1 hw.2.1 hw.2.2 q0 1 he rfl (vp_in_nI hk hn) hdg (fun H1 locs1 hP hD hS => ?_)
  rw [nI_clamp (Nat.lt_trans hk hn)] at hP hD
  exact kk H1 locs1 ⟨hP, hD, hS⟩
theorem ast_z (S : CallFix p m c cc nL s args Ts own) (hK : KK G s) (hw : WD G ws A s H locs) (q0 : Nat) {a n k : Nat} {f : Nat → Int32} {x : Int32} (he : ws[q0]? = some (a, .inl (G.2.1, (n, .inl f)))) (hk : k < n) (hn : n < 2 ^ 31) (hx : vp_nar .boolean x = x) (hs : ws.set q0 (a, .inl (G.2.1, (n, .inl (upd f k x)))) = ws') (hdg : decode cc pc = .ok (.bastore, 1))
    (kk : ∀ (H1 : Heap) (locs1 : List Loc), WD G ws' A s H1 locs1 → W p l e R s m args below meth c H1 locs1 cells slots Q (F0 m (pc + 1) ls rest)) : W p l e R s m args below meth c H locs cells slots Q (F0 m pc ls (.int x :: .int (nI k) :: .ref a :: rest)) := by
  subst hs
  refine va_zast (ws := ws) S.1 S.2.1 hK.1 hw.1 hw.2.1 hw.2.2 q0 0 he rfl (vp_in_nI hk hn) hdg (fun H1 locs1 hP hD hS => ?_)
  rw [nI_clamp (Nat.lt_trans hk hn), hx] at hP hD
  exact kk H1 locs1 ⟨hP, hD, hS⟩
theorem ast_c (S : CallFix p m c cc nL s args Ts own) (hK : KK G s) (hw : WD G ws A s H locs) (q0 : Nat) {a n k : Nat} {f : Nat → Int32} {x : Int32} (he : ws[q0]? = some (a, .inl (G.2.2.2, (n, .inl f)))) (hk : k < n) (hn : n < 2 ^ 31) (hx : vp_nar .char x = x) (hs : ws.set q0 (a, .inl (G.2.2.2, (n, .inl (upd f k x)))) = ws') (hdg : decode cc pc = .ok (.castore, 1))
    (kk : ∀ (H1 : Heap) (locs1 : List Loc), WD G ws' A s H1 locs1 → W p l e R s m args below meth c H1 locs1 cells slots Q (F0 m (pc + 1) ls rest)) : W p l e R s m args below meth c H locs cells slots Q (F0 m pc ls (.int x :: .int (nI k) :: .ref a :: rest)) := by
  subst hs
  refine va_cast (ws := ws) S.1 S.2.1 hK.1 hw.1 hw.2.1 hw.2.2 q0 2 he rfl (vp_in_nI hk hn) hdg (fun H1 locs1 hP hD hS => ?_)
  rw [nI_clamp (Nat.lt_trans hk hn), hx] at hP hD
  exact kk H1 locs1 ⟨hP, hD, hS⟩
/-- numbers that are small -/
theorem addN (S : CallFix p m c cc nL s args Ts own) {a b : Nat} (hdg : decode cc pc = .ok (.iadd, 1)) (k : W p l e R s m args below meth c H locs cells slots Q (F0 m (pc + 1) ls (.int (nI (a + b)) :: rest))) : W p l e R s m args below meth c H locs cells slots Q (F0 m pc ls (.int (nI b) :: .int (nI a) :: rest)) :=
  lv_iadd S.1 S.2.1 hdg (by rw [nI_add]; exact k)
theorem mulN (S : CallFix p m c cc nL s args Ts own) {a b : Nat} (hdg : decode cc pc = .ok (.imul, 1)) (k : W p l e R s m args below meth c H locs cells slots Q (F0 m (pc + 1) ls (.int (nI (a * b)) :: rest))) : W p l e R s m args below meth c H locs cells slots Q (F0 m pc ls (.int (nI b) :: .int (nI a) :: rest)) :=
  lv_imul S.1 S.2.1 hdg (by rw [pk_mul]; exact k)
theorem litN {n : Int} {k : Nat} {x : Int32} (S : CallFix p m c cc nL s args Ts own) (h : x = nI k) (kk : W p l e R s m args below meth c H locs cells slots Q (F0 m pc ls (.int (nI k) :: rest))) : W p l e R s m args below meth c H locs cells slots Q (F0 m pc ls (.int x :: rest)) := by rw [h]; exact kk
theorem brN_eq (S : CallFix p m c cc nL s args Ts own) {a b : Nat} (ha : a < 2 ^ 31) (hb : b < 2 ^ 31) {off : Int} {tgt : Nat} (hdg : decode cc pc = .ok (.if_icmp .eq off, 3)) (ht : (pc : Int) + off = (tgt : Int)) (kt : a = b → W p l e R s m args below meth c H locs cells slots Q (F0 m tgt ls rest)) (kf : ¬ a = b → W p l e R s m args below meth c H locs cells slots Q (F0 m (pc + 3) ls rest)) : W p l e R s m args below meth c H locs cells slots Q (F0 m pc ls (.int (nI b) :: .int (nI a) :: rest)) :=
  lv_icmp_eq S.1 S.2.1 hdg ht (fun h => kt ((nI_eq ha hb).mp h)) (fun h => kf (fun h2 => h ((nI_eq ha hb).mpr h2)))
theorem brN_ne (S : CallFix p m c cc nL s args Ts own) {a b : Nat} (ha : a < 2 ^ 31) (hb : b < 2 ^ 31) {off : Int} {tgt : Nat} (hdg : decode cc pc = .ok (.if_icmp .ne off, 3)) (ht : (pc : Int) + off = (tgt : Int)) (kt : ¬ a = b → W p l e R s m args below meth c H locs cells slots Q (F0 m tgt ls rest)) (kf : a = b → W p l e R s m args below meth c H locs cells slots Q (F0 m (pc + 3) ls rest)) : W p l e R s m args below meth c H locs cells slots Q (F0 m pc ls (.int (nI b) :: .int (nI a) :: rest)) :=
  lv_icmp_ne S.1 S.2.1 hdg ht (fun h => kt (fun h2 => h ((nI_eq ha hb).mpr h2))) (fun h => kf ((nI_eq ha hb).mp h))
theorem brN_ge (S : CallFix p m c cc nL s args Ts own) {a b : Nat} (ha : a < 2 ^ 31) (hb : b < 2 ^ 31) {off : Int} {tgt : Nat} (hdg : decode cc pc = .ok (.if_icmp .ge off, 3)) (ht : (pc : Int) + off = (tgt : Int)) (kt : b ≤ a → W p l e R s m args below meth c H locs cells slots Q (F0 m tgt ls rest)) (kf : a < b → W p l e R s m args below meth c H locs cells slots Q (F0 m (pc + 3) ls rest)) : W p l e R s m args below meth c H locs cells slots Q (F0 m pc ls (.int (nI b) :: .int (nI a) :: rest)) :=
  lv_icmp_ge S.1 S.2.1 hdg ht (fun h => kt ((nI_leI hb ha).mp h)) (fun h => kf (Nat.lt_of_not_le fun h2 => h ((nI_leI hb ha).mpr h2)))
theorem brN_lt (S : CallFix p m c cc nL s args Ts own) {a b : Nat} (ha : a < 2 ^ 31) (hb : b < 2 ^ 31) {off : Int} {tgt : Nat} (hdg : decode cc pc = .ok (.if_icmp .lt off, 3)) (ht : (pc : Int) + off = (tgt : Int)) (kt : a < b → W p l e R s m args below meth c H locs cells slots Q (F0 m tgt ls rest)) (kf : b ≤ a → W p l e R s m args below meth c H locs cells slots Q (F0 m (pc + 3) ls rest)) : W p l e R s m args below meth c H locs cells slots Q (F0 m pc ls (.int (nI b) :: .int (nI a) :: rest)) :=
  lv_icmp_lt S.1 S.2.1 hdg ht (fun h => kt ((nI_ltI ha hb).mp h)) (fun h => kf (Nat.le_of_not_lt fun h2 => h ((nI_ltI ha hb).mpr h2)))
theorem brB_eq (S : CallFix p m c cc nL s args Ts own) {b : Bool} {off : Int} {tgt : Nat} (hdg : decode cc pc = .ok (.ifCond .eq off, 3)) (ht : (pc : Int) + off = (tgt : Int)) (kt : b = false → W p l e R s m args below meth c H locs cells slots Q (F0 m tgt ls rest)) (kf : b = true → W p l e R s m args below meth c H locs cells slots Q (F0 m (pc + 3) ls rest)) : W p l e R s m args below meth c H locs cells slots Q (F0 m pc ls (.int (b2 b) :: rest)) :=
  lv_if_eq S.1 S.2.1 hdg ht (fun h => kt (b2_0.mp h)) (fun h => kf (b2_n0.mp h))
theorem brB_ne (S : CallFix p m c cc nL s args Ts own) {b : Bool} {off : Int} {tgt : Nat} (hdg : decode cc pc = .ok (.ifCond .ne off, 3)) (ht : (pc : Int) + off = (tgt : Int)) (kt : b = true → W p l e R s m args below meth c H locs cells slots Q (F0 m tgt ls rest)) (kf : b = false → W p l e R s m args below meth c H locs cells slots Q (F0 m (pc + 3) ls rest)) : W p l e R s m args below meth c H locs cells slots Q (F0 m pc ls (.int (b2 b) :: rest)) :=
  lv_if_ne S.1 S.2.1 hdg ht (fun h => kt (b2_n0.mp h)) (fun h => kf (b2_0.mp h))
end GW
section GP
variable {p : Program} {l : Launch} {e : Env} {R : Room} {s : State} {m : MethodId} {args : Array Value} {below : List Frame} {meth : Method} {c : Code} {H : Heap} {locs : List Loc} {cells slots : Nat} {Q : State → Prop}
variable {cc : ByteArray} {nL : Nat} {Ts : List Cond} {own : String} {pc : Nat} {ls : Array Slot} {rest : List Value}
set_option maxRecDepth 100000 in
/-- GossipMembership.pair -/
theorem c_X4_pair (l : Launch) (n b : Nat) : Met l yX4_pair wsX4_pair ({ frames := 0, cells := 0, slots := 0, locals := 0 }) (va_Pc [.int (nI n), .int (nI b)] (fun _ => True)) (vp_Si (fun r => r = nI (8 * n + b))) 0 0 (fun _ => False) := by
  refine Met.ofW (cc := cX4_pair) (maxL := 2) (ret := (some .int)) (by decide) rfl ?_
  intro p e s m args below meth c s₁ B hml hv
  obtain ⟨rfl, -⟩ := hv
  have hx := B.exec
  have hb := B.bytes
  have hr := B.returns
  have hlk := B.notSynchronized
  have hl := lv_entry ([.int (nI n), .int (nI b)]) (n := 2) (Nat.le_of_ble_eq_true rfl)
  rw [lg_entry_eq]
  generalize (lg_sl ([.int (nI n), .int (nI b)]) ++ List.replicate (2 - (lg_sl ([.int (nI n), .int (nI b)])).length) Slot.unset).toArray = ls at hl ⊢
  have hl : lv_has ls 2 [(0, .int (nI n)), (1, .int (nI b))] := hl
  refine lv_iload_n hx hb dX4_pair_0 rfl (lv_at hl 0 rfl) ?_
  refine lv_bipush (v := nI 8) hx hb dX4_pair_1 (by decide) ?_
  refine lv_imul hx hb dX4_pair_3 ?_
  rw [pk_mul]
  refine lv_iload_n hx hb dX4_pair_4 rfl (lv_at hl 1 rfl) ?_
  refine lv_iadd hx hb dX4_pair_5 ?_
  rw [nI_add, Nat.mul_comm n 8]
  exact W.iret (v := nI (8 * n + b)) hx hb hr (fun t ht hW => ⟨_, rfl, rfl, ht⟩) (fun q h => by cases h) dX4_pair_6 hlk
theorem hd_X4_pair : yX4_pair.cls ≠ "java/lang/invoke/MethodHandle" ∧ yX4_pair.cls ≠ "java/lang/invoke/VarHandle" ∧ (parseMethodDescriptor yX4_pair.desc).map (fun d => d.parameters.length) = some 2 := by decide +kernel
theorem blind_T {av : List Value} : FrameBlind (va_Pc av (fun _ => True)) := fun _ _ _ _ q => q
theorem pr_n {idx n b : Nat} (S : CallFix p m c cc nL s args Ts own) (hsz : ls.size = nL) (hg : GoodIn Ts wsX4_pair) (hnest : va_Nw (.methodLinkNest own idx yX4_pair RX4) s) (hstat : (Cond.static yX4_pair).before args s = true) (hini : (Cond.initialized yX4_pair.cls).before args s = true) (hR : 1 ≤ R.frames ∧ 21 ≤ R.locals) (hc : cells ≤ R.cells) (hs : slots ≤ R.slots) (hrest : (rest.map fun v => v.category).sum ≤ 8) (hdg : decode cc pc = .ok (.invokestatic idx, 3))
    (kk : W p l e R s m args below meth c H locs cells slots Q (F0 m (pc + 3) ls (.int (nI (8 * n + b)) :: rest))) : W p l e R s m args below meth c H locs cells slots Q (F0 m pc ls (.int (nI b) :: .int (nI n) :: rest)) := by
  refine vp_callSi (va_runSN (As := [.int (nI n), .int (nI b)]) (rest := rest) S (c_X4_pair l n b) ⟨va_cnB 2 S.2.2.2.2 hg rfl rfl rfl hnest hini hd_X4_pair ⟨hR.1, hR.2⟩, hstat, trivial⟩ ⟨blind_T, fun U hU hW => ⟨rfl, trivial⟩⟩ rfl rfl hsz rfl (lv_room hrest) hdg ⟨hc, hs⟩).run (fun r hp => ?_)
  rw [hp]
  exact kk
theorem pr_s {idx n b : Nat} (S : CallFix p m c cc nL s args Ts own) (hsz : ls.size = nL) (hg : GoodIn Ts (va_wsS own idx yX4_pair wsX4_pair)) (hR : 1 ≤ R.frames ∧ 21 ≤ R.locals) (hc : cells ≤ R.cells) (hs : slots ≤ R.slots) (hrest : (rest.map fun v => v.category).sum ≤ 8) (hdg : decode cc pc = .ok (.invokestatic idx, 3))
    (kk : W p l e R s m args below meth c H locs cells slots Q (F0 m (pc + 3) ls (.int (nI (8 * n + b)) :: rest))) : W p l e R s m args below meth c H locs cells slots Q (F0 m pc ls (.int (nI b) :: .int (nI n) :: rest)) := by
  refine vp_callSi (va_runS (As := [.int (nI n), .int (nI b)]) (rest := rest) S (c_X4_pair l n b) (va_cwS 2 S.2.2.2.2 hg rfl rfl rfl hd_X4_pair ⟨hR.1, hR.2⟩) ⟨blind_T, fun U hU hW => ⟨rfl, trivial⟩⟩ rfl rfl hsz rfl (lv_room hrest) hdg ⟨hc, hs⟩).run (fun r hp => ?_)
  rw [hp]
  exact kk
end GP
section GF
variable {p : Program} {l : Launch} {e : Env} {R : Room} {s : State} {m : MethodId} {args : Array Value} {below : List Frame} {meth : Method} {c : Code} {H : Heap} {locs : List Loc} {cells slots : Nat} {Q : State → Prop}
variable {cc : ByteArray} {nL : Nat} {Ts : List Cond} {own : String} {pc idx a : Nat} {ls : Array Slot} {rest : List Value} {G : GA} {A : Nat → Prop} {ws ws' : va_W} {fs : List Value}
theorem gt_X0_0 {v : Value} (S : CallFix p m c cc nL s args Ts own) (hK : KK G s) (hw : WD G ws A s H locs) (q0 : Nat) (he : ws[q0]? = some (a, .inr (0, fs))) (hv : fs[0]? = some v) (L : ∀ w ∈ u_ws RX0 TX0 2, w.before args s = true) (link : (Cond.fieldLink own idx "GossipMembership$CommandText" "signs" "[C").before args s = true) (hdg : decode cc pc = .ok (.getfield idx, 3)) (kk : W p l e R s m args below meth c H locs cells slots Q (F0 m (pc + 3) ls (v :: rest))) : W p l e R s m args below meth c H locs cells slots Q (F0 m pc ls (.ref a :: rest)) :=
  va_get (D := G.1) (cl := gcl) (C := RX0) (T := TX0) (N := 2) S.1 S.2.1 L (fun _ h => h) S.2.2.2.1 hK.1 hw.1 q0 he rfl 0 (by decide) link (fun _ h => h) hv hdg kk
theorem gt_X0_1 {v : Value} (S : CallFix p m c cc nL s args Ts own) (hK : KK G s) (hw : WD G ws A s H locs) (q0 : Nat) (he : ws[q0]? = some (a, .inr (0, fs))) (hv : fs[1]? = some v) (L : ∀ w ∈ u_ws RX0 TX0 2, w.before args s = true) (link : (Cond.fieldLink own idx "GossipMembership$CommandText" "length" "I").before args s = true) (hdg : decode cc pc = .ok (.getfield idx, 3)) (kk : W p l e R s m args below meth c H locs cells slots Q (F0 m (pc + 3) ls (v :: rest))) : W p l e R s m args below meth c H locs cells slots Q (F0 m pc ls (.ref a :: rest)) :=
  va_get (D := G.1) (cl := gcl) (C := RX0) (T := TX0) (N := 2) S.1 S.2.1 L (fun _ h => h) S.2.2.2.1 hK.1 hw.1 q0 he rfl 1 (by decide) link (fun _ h => h) hv hdg kk
theorem pt_X0_1 {x : Int32} (S : CallFix p m c cc nL s args Ts own) (hK : KK G s) (hw : WD G ws A s H locs) (q0 : Nat) (he : ws[q0]? = some (a, .inr (0, fs))) (L : ∀ w ∈ u_ws RX0 TX0 2, w.before args s = true) (link : (Cond.fieldLink own idx "GossipMembership$CommandText" "length" "I").before args s = true) (hs : ws.set q0 (a, .inr (0, fs.set 1 (.int x))) = ws') (hlen : 1 < fs.length) (hdg : decode cc pc = .ok (.putfield idx, 3)) (kk : ∀ (H1 : Heap) (locs1 : List Loc), WD G ws' A s H1 locs1 → W p l e R s m args below meth c H1 locs1 cells slots Q (F0 m (pc + 3) ls rest)) : W p l e R s m args below meth c H locs cells slots Q (F0 m pc ls (.int x :: .ref a :: rest)) := by
  subst hs
  exact va_put (D := G.1) (cl := gcl) (C := RX0) (T := TX0) (N := 2) S.1 S.2.1 L (fun _ h => h) tyX0 tyX0_ok nmX0 S.2.2.2.1 hK.1 hw.1 hw.2.1 hw.2.2 q0 he rfl 1 (by decide) link (fun _ h => h) rfl (ty := .int) (by decide +kernel) rfl rfl hlen hdg (fun H1 locs1 hP hD hS => kk H1 locs1 ⟨hP, hD, hS⟩)
theorem gt_X1_0 {v : Value} (S : CallFix p m c cc nL s args Ts own) (hK : KK G s) (hw : WD G ws A s H locs) (q0 : Nat) (he : ws[q0]? = some (a, .inr (1, fs))) (hv : fs[0]? = some v) (L : ∀ w ∈ u_ws RX1 TX1 10, w.before args s = true) (link : (Cond.fieldLink own idx "GossipMembership$Knowledge" "ownIncarnation" "[I").before args s = true) (hdg : decode cc pc = .ok (.getfield idx, 3)) (kk : W p l e R s m args below meth c H locs cells slots Q (F0 m (pc + 3) ls (v :: rest))) : W p l e R s m args below meth c H locs cells slots Q (F0 m pc ls (.ref a :: rest)) :=
  va_get (D := G.1) (cl := gcl) (C := RX1) (T := TX1) (N := 10) S.1 S.2.1 L (fun _ h => h) S.2.2.2.1 hK.1 hw.1 q0 he rfl 0 (by decide) link (fun _ h => h) hv hdg kk
theorem gt_X1_1 {v : Value} (S : CallFix p m c cc nL s args Ts own) (hK : KK G s) (hw : WD G ws A s H locs) (q0 : Nat) (he : ws[q0]? = some (a, .inr (1, fs))) (hv : fs[1]? = some v) (L : ∀ w ∈ u_ws RX1 TX1 10, w.before args s = true) (link : (Cond.fieldLink own idx "GossipMembership$Knowledge" "state" "[I").before args s = true) (hdg : decode cc pc = .ok (.getfield idx, 3)) (kk : W p l e R s m args below meth c H locs cells slots Q (F0 m (pc + 3) ls (v :: rest))) : W p l e R s m args below meth c H locs cells slots Q (F0 m pc ls (.ref a :: rest)) :=
  va_get (D := G.1) (cl := gcl) (C := RX1) (T := TX1) (N := 10) S.1 S.2.1 L (fun _ h => h) S.2.2.2.1 hK.1 hw.1 q0 he rfl 1 (by decide) link (fun _ h => h) hv hdg kk
theorem gt_X1_2 {v : Value} (S : CallFix p m c cc nL s args Ts own) (hK : KK G s) (hw : WD G ws A s H locs) (q0 : Nat) (he : ws[q0]? = some (a, .inr (1, fs))) (hv : fs[2]? = some v) (L : ∀ w ∈ u_ws RX1 TX1 10, w.before args s = true) (link : (Cond.fieldLink own idx "GossipMembership$Knowledge" "incarnations" "[I").before args s = true) (hdg : decode cc pc = .ok (.getfield idx, 3)) (kk : W p l e R s m args below meth c H locs cells slots Q (F0 m (pc + 3) ls (v :: rest))) : W p l e R s m args below meth c H locs cells slots Q (F0 m pc ls (.ref a :: rest)) :=
  va_get (D := G.1) (cl := gcl) (C := RX1) (T := TX1) (N := 10) S.1 S.2.1 L (fun _ h => h) S.2.2.2.1 hK.1 hw.1 q0 he rfl 2 (by decide) link (fun _ h => h) hv hdg kk
theorem gt_X1_3 {v : Value} (S : CallFix p m c cc nL s args Ts own) (hK : KK G s) (hw : WD G ws A s H locs) (q0 : Nat) (he : ws[q0]? = some (a, .inr (1, fs))) (hv : fs[3]? = some v) (L : ∀ w ∈ u_ws RX1 TX1 10, w.before args s = true) (link : (Cond.fieldLink own idx "GossipMembership$Knowledge" "deadlines" "[I").before args s = true) (hdg : decode cc pc = .ok (.getfield idx, 3)) (kk : W p l e R s m args below meth c H locs cells slots Q (F0 m (pc + 3) ls (v :: rest))) : W p l e R s m args below meth c H locs cells slots Q (F0 m pc ls (.ref a :: rest)) :=
  va_get (D := G.1) (cl := gcl) (C := RX1) (T := TX1) (N := 10) S.1 S.2.1 L (fun _ h => h) S.2.2.2.1 hK.1 hw.1 q0 he rfl 3 (by decide) link (fun _ h => h) hv hdg kk
theorem gt_X1_4 {v : Value} (S : CallFix p m c cc nL s args Ts own) (hK : KK G s) (hw : WD G ws A s H locs) (q0 : Nat) (he : ws[q0]? = some (a, .inr (1, fs))) (hv : fs[4]? = some v) (L : ∀ w ∈ u_ws RX1 TX1 10, w.before args s = true) (link : (Cond.fieldLink own idx "GossipMembership$Knowledge" "counters" "[I").before args s = true) (hdg : decode cc pc = .ok (.getfield idx, 3)) (kk : W p l e R s m args below meth c H locs cells slots Q (F0 m (pc + 3) ls (v :: rest))) : W p l e R s m args below meth c H locs cells slots Q (F0 m pc ls (.ref a :: rest)) :=
  va_get (D := G.1) (cl := gcl) (C := RX1) (T := TX1) (N := 10) S.1 S.2.1 L (fun _ h => h) S.2.2.2.1 hK.1 hw.1 q0 he rfl 4 (by decide) link (fun _ h => h) hv hdg kk
theorem gt_X1_5 {v : Value} (S : CallFix p m c cc nL s args Ts own) (hK : KK G s) (hw : WD G ws A s H locs) (q0 : Nat) (he : ws[q0]? = some (a, .inr (1, fs))) (hv : fs[5]? = some v) (L : ∀ w ∈ u_ws RX1 TX1 10, w.before args s = true) (link : (Cond.fieldLink own idx "GossipMembership$Knowledge" "patience" "I").before args s = true) (hdg : decode cc pc = .ok (.getfield idx, 3)) (kk : W p l e R s m args below meth c H locs cells slots Q (F0 m (pc + 3) ls (v :: rest))) : W p l e R s m args below meth c H locs cells slots Q (F0 m pc ls (.ref a :: rest)) :=
  va_get (D := G.1) (cl := gcl) (C := RX1) (T := TX1) (N := 10) S.1 S.2.1 L (fun _ h => h) S.2.2.2.1 hK.1 hw.1 q0 he rfl 5 (by decide) link (fun _ h => h) hv hdg kk
theorem pt_X1_5 {x : Int32} (S : CallFix p m c cc nL s args Ts own) (hK : KK G s) (hw : WD G ws A s H locs) (q0 : Nat) (he : ws[q0]? = some (a, .inr (1, fs))) (L : ∀ w ∈ u_ws RX1 TX1 10, w.before args s = true) (link : (Cond.fieldLink own idx "GossipMembership$Knowledge" "patience" "I").before args s = true) (hs : ws.set q0 (a, .inr (1, fs.set 5 (.int x))) = ws') (hlen : 5 < fs.length) (hdg : decode cc pc = .ok (.putfield idx, 3)) (kk : ∀ (H1 : Heap) (locs1 : List Loc), WD G ws' A s H1 locs1 → W p l e R s m args below meth c H1 locs1 cells slots Q (F0 m (pc + 3) ls rest)) : W p l e R s m args below meth c H locs cells slots Q (F0 m pc ls (.int x :: .ref a :: rest)) := by
  subst hs
  exact va_put (D := G.1) (cl := gcl) (C := RX1) (T := TX1) (N := 10) S.1 S.2.1 L (fun _ h => h) tyX1 tyX1_ok nmX1 S.2.2.2.1 hK.1 hw.1 hw.2.1 hw.2.2 q0 he rfl 5 (by decide) link (fun _ h => h) rfl (ty := .int) (by decide +kernel) rfl rfl hlen hdg (fun H1 locs1 hP hD hS => kk H1 locs1 ⟨hP, hD, hS⟩)
theorem gt_X1_6 {v : Value} (S : CallFix p m c cc nL s args Ts own) (hK : KK G s) (hw : WD G ws A s H locs) (q0 : Nat) (he : ws[q0]? = some (a, .inr (1, fs))) (hv : fs[6]? = some v) (L : ∀ w ∈ u_ws RX1 TX1 10, w.before args s = true) (link : (Cond.fieldLink own idx "GossipMembership$Knowledge" "fanOut" "I").before args s = true) (hdg : decode cc pc = .ok (.getfield idx, 3)) (kk : W p l e R s m args below meth c H locs cells slots Q (F0 m (pc + 3) ls (v :: rest))) : W p l e R s m args below meth c H locs cells slots Q (F0 m pc ls (.ref a :: rest)) :=
  va_get (D := G.1) (cl := gcl) (C := RX1) (T := TX1) (N := 10) S.1 S.2.1 L (fun _ h => h) S.2.2.2.1 hK.1 hw.1 q0 he rfl 6 (by decide) link (fun _ h => h) hv hdg kk
theorem pt_X1_6 {x : Int32} (S : CallFix p m c cc nL s args Ts own) (hK : KK G s) (hw : WD G ws A s H locs) (q0 : Nat) (he : ws[q0]? = some (a, .inr (1, fs))) (L : ∀ w ∈ u_ws RX1 TX1 10, w.before args s = true) (link : (Cond.fieldLink own idx "GossipMembership$Knowledge" "fanOut" "I").before args s = true) (hs : ws.set q0 (a, .inr (1, fs.set 6 (.int x))) = ws') (hlen : 6 < fs.length) (hdg : decode cc pc = .ok (.putfield idx, 3)) (kk : ∀ (H1 : Heap) (locs1 : List Loc), WD G ws' A s H1 locs1 → W p l e R s m args below meth c H1 locs1 cells slots Q (F0 m (pc + 3) ls rest)) : W p l e R s m args below meth c H locs cells slots Q (F0 m pc ls (.int x :: .ref a :: rest)) := by
  subst hs
  exact va_put (D := G.1) (cl := gcl) (C := RX1) (T := TX1) (N := 10) S.1 S.2.1 L (fun _ h => h) tyX1 tyX1_ok nmX1 S.2.2.2.1 hK.1 hw.1 hw.2.1 hw.2.2 q0 he rfl 6 (by decide) link (fun _ h => h) rfl (ty := .int) (by decide +kernel) rfl rfl hlen hdg (fun H1 locs1 hP hD hS => kk H1 locs1 ⟨hP, hD, hS⟩)
theorem gt_X1_7 {v : Value} (S : CallFix p m c cc nL s args Ts own) (hK : KK G s) (hw : WD G ws A s H locs) (q0 : Nat) (he : ws[q0]? = some (a, .inr (1, fs))) (hv : fs[7]? = some v) (L : ∀ w ∈ u_ws RX1 TX1 10, w.before args s = true) (link : (Cond.fieldLink own idx "GossipMembership$Knowledge" "presentRound" "I").before args s = true) (hdg : decode cc pc = .ok (.getfield idx, 3)) (kk : W p l e R s m args below meth c H locs cells slots Q (F0 m (pc + 3) ls (v :: rest))) : W p l e R s m args below meth c H locs cells slots Q (F0 m pc ls (.ref a :: rest)) :=
  va_get (D := G.1) (cl := gcl) (C := RX1) (T := TX1) (N := 10) S.1 S.2.1 L (fun _ h => h) S.2.2.2.1 hK.1 hw.1 q0 he rfl 7 (by decide) link (fun _ h => h) hv hdg kk
theorem pt_X1_7 {x : Int32} (S : CallFix p m c cc nL s args Ts own) (hK : KK G s) (hw : WD G ws A s H locs) (q0 : Nat) (he : ws[q0]? = some (a, .inr (1, fs))) (L : ∀ w ∈ u_ws RX1 TX1 10, w.before args s = true) (link : (Cond.fieldLink own idx "GossipMembership$Knowledge" "presentRound" "I").before args s = true) (hs : ws.set q0 (a, .inr (1, fs.set 7 (.int x))) = ws') (hlen : 7 < fs.length) (hdg : decode cc pc = .ok (.putfield idx, 3)) (kk : ∀ (H1 : Heap) (locs1 : List Loc), WD G ws' A s H1 locs1 → W p l e R s m args below meth c H1 locs1 cells slots Q (F0 m (pc + 3) ls rest)) : W p l e R s m args below meth c H locs cells slots Q (F0 m pc ls (.int x :: .ref a :: rest)) := by
  subst hs
  exact va_put (D := G.1) (cl := gcl) (C := RX1) (T := TX1) (N := 10) S.1 S.2.1 L (fun _ h => h) tyX1 tyX1_ok nmX1 S.2.2.2.1 hK.1 hw.1 hw.2.1 hw.2.2 q0 he rfl 7 (by decide) link (fun _ h => h) rfl (ty := .int) (by decide +kernel) rfl rfl hlen hdg (fun H1 locs1 hP hD hS => kk H1 locs1 ⟨hP, hD, hS⟩)
theorem gt_X1_8 {v : Value} (S : CallFix p m c cc nL s args Ts own) (hK : KK G s) (hw : WD G ws A s H locs) (q0 : Nat) (he : ws[q0]? = some (a, .inr (1, fs))) (hv : fs[8]? = some v) (L : ∀ w ∈ u_ws RX1 TX1 10, w.before args s = true) (link : (Cond.fieldLink own idx "GossipMembership$Knowledge" "lastUnquietRound" "I").before args s = true) (hdg : decode cc pc = .ok (.getfield idx, 3)) (kk : W p l e R s m args below meth c H locs cells slots Q (F0 m (pc + 3) ls (v :: rest))) : W p l e R s m args below meth c H locs cells slots Q (F0 m pc ls (.ref a :: rest)) :=
  va_get (D := G.1) (cl := gcl) (C := RX1) (T := TX1) (N := 10) S.1 S.2.1 L (fun _ h => h) S.2.2.2.1 hK.1 hw.1 q0 he rfl 8 (by decide) link (fun _ h => h) hv hdg kk
theorem pt_X1_8 {x : Int32} (S : CallFix p m c cc nL s args Ts own) (hK : KK G s) (hw : WD G ws A s H locs) (q0 : Nat) (he : ws[q0]? = some (a, .inr (1, fs))) (L : ∀ w ∈ u_ws RX1 TX1 10, w.before args s = true) (link : (Cond.fieldLink own idx "GossipMembership$Knowledge" "lastUnquietRound" "I").before args s = true) (hs : ws.set q0 (a, .inr (1, fs.set 8 (.int x))) = ws') (hlen : 8 < fs.length) (hdg : decode cc pc = .ok (.putfield idx, 3)) (kk : ∀ (H1 : Heap) (locs1 : List Loc), WD G ws' A s H1 locs1 → W p l e R s m args below meth c H1 locs1 cells slots Q (F0 m (pc + 3) ls rest)) : W p l e R s m args below meth c H locs cells slots Q (F0 m pc ls (.int x :: .ref a :: rest)) := by
  subst hs
  exact va_put (D := G.1) (cl := gcl) (C := RX1) (T := TX1) (N := 10) S.1 S.2.1 L (fun _ h => h) tyX1 tyX1_ok nmX1 S.2.2.2.1 hK.1 hw.1 hw.2.1 hw.2.2 q0 he rfl 8 (by decide) link (fun _ h => h) rfl (ty := .int) (by decide +kernel) rfl rfl hlen hdg (fun H1 locs1 hP hD hS => kk H1 locs1 ⟨hP, hD, hS⟩)
theorem gt_X1_9 {v : Value} (S : CallFix p m c cc nL s args Ts own) (hK : KK G s) (hw : WD G ws A s H locs) (q0 : Nat) (he : ws[q0]? = some (a, .inr (1, fs))) (hv : fs[9]? = some v) (L : ∀ w ∈ u_ws RX1 TX1 10, w.before args s = true) (link : (Cond.fieldLink own idx "GossipMembership$Knowledge" "refuted" "I").before args s = true) (hdg : decode cc pc = .ok (.getfield idx, 3)) (kk : W p l e R s m args below meth c H locs cells slots Q (F0 m (pc + 3) ls (v :: rest))) : W p l e R s m args below meth c H locs cells slots Q (F0 m pc ls (.ref a :: rest)) :=
  va_get (D := G.1) (cl := gcl) (C := RX1) (T := TX1) (N := 10) S.1 S.2.1 L (fun _ h => h) S.2.2.2.1 hK.1 hw.1 q0 he rfl 9 (by decide) link (fun _ h => h) hv hdg kk
theorem pt_X1_9 {x : Int32} (S : CallFix p m c cc nL s args Ts own) (hK : KK G s) (hw : WD G ws A s H locs) (q0 : Nat) (he : ws[q0]? = some (a, .inr (1, fs))) (L : ∀ w ∈ u_ws RX1 TX1 10, w.before args s = true) (link : (Cond.fieldLink own idx "GossipMembership$Knowledge" "refuted" "I").before args s = true) (hs : ws.set q0 (a, .inr (1, fs.set 9 (.int x))) = ws') (hlen : 9 < fs.length) (hdg : decode cc pc = .ok (.putfield idx, 3)) (kk : ∀ (H1 : Heap) (locs1 : List Loc), WD G ws' A s H1 locs1 → W p l e R s m args below meth c H1 locs1 cells slots Q (F0 m (pc + 3) ls rest)) : W p l e R s m args below meth c H locs cells slots Q (F0 m pc ls (.int x :: .ref a :: rest)) := by
  subst hs
  exact va_put (D := G.1) (cl := gcl) (C := RX1) (T := TX1) (N := 10) S.1 S.2.1 L (fun _ h => h) tyX1 tyX1_ok nmX1 S.2.2.2.1 hK.1 hw.1 hw.2.1 hw.2.2 q0 he rfl 9 (by decide) link (fun _ h => h) rfl (ty := .int) (by decide +kernel) rfl rfl hlen hdg (fun H1 locs1 hP hD hS => kk H1 locs1 ⟨hP, hD, hS⟩)
theorem gt_X2_0 {v : Value} (S : CallFix p m c cc nL s args Ts own) (hK : KK G s) (hw : WD G ws A s H locs) (q0 : Nat) (he : ws[q0]? = some (a, .inr (2, fs))) (hv : fs[0]? = some v) (L : ∀ w ∈ u_ws RX2 TX2 4, w.before args s = true) (link : (Cond.fieldLink own idx "GossipMembership$Network" "up" "[Z").before args s = true) (hdg : decode cc pc = .ok (.getfield idx, 3)) (kk : W p l e R s m args below meth c H locs cells slots Q (F0 m (pc + 3) ls (v :: rest))) : W p l e R s m args below meth c H locs cells slots Q (F0 m pc ls (.ref a :: rest)) :=
  va_get (D := G.1) (cl := gcl) (C := RX2) (T := TX2) (N := 4) S.1 S.2.1 L (fun _ h => h) S.2.2.2.1 hK.1 hw.1 q0 he rfl 0 (by decide) link (fun _ h => h) hv hdg kk
theorem gt_X2_1 {v : Value} (S : CallFix p m c cc nL s args Ts own) (hK : KK G s) (hw : WD G ws A s H locs) (q0 : Nat) (he : ws[q0]? = some (a, .inr (2, fs))) (hv : fs[1]? = some v) (L : ∀ w ∈ u_ws RX2 TX2 4, w.before args s = true) (link : (Cond.fieldLink own idx "GossipMembership$Network" "everUp" "[Z").before args s = true) (hdg : decode cc pc = .ok (.getfield idx, 3)) (kk : W p l e R s m args below meth c H locs cells slots Q (F0 m (pc + 3) ls (v :: rest))) : W p l e R s m args below meth c H locs cells slots Q (F0 m pc ls (.ref a :: rest)) :=
  va_get (D := G.1) (cl := gcl) (C := RX2) (T := TX2) (N := 4) S.1 S.2.1 L (fun _ h => h) S.2.2.2.1 hK.1 hw.1 q0 he rfl 1 (by decide) link (fun _ h => h) hv hdg kk
theorem gt_X2_2 {v : Value} (S : CallFix p m c cc nL s args Ts own) (hK : KK G s) (hw : WD G ws A s H locs) (q0 : Nat) (he : ws[q0]? = some (a, .inr (2, fs))) (hv : fs[2]? = some v) (L : ∀ w ∈ u_ws RX2 TX2 4, w.before args s = true) (link : (Cond.fieldLink own idx "GossipMembership$Network" "place" "[I").before args s = true) (hdg : decode cc pc = .ok (.getfield idx, 3)) (kk : W p l e R s m args below meth c H locs cells slots Q (F0 m (pc + 3) ls (v :: rest))) : W p l e R s m args below meth c H locs cells slots Q (F0 m pc ls (.ref a :: rest)) :=
  va_get (D := G.1) (cl := gcl) (C := RX2) (T := TX2) (N := 4) S.1 S.2.1 L (fun _ h => h) S.2.2.2.1 hK.1 hw.1 q0 he rfl 2 (by decide) link (fun _ h => h) hv hdg kk
theorem gt_X2_3 {v : Value} (S : CallFix p m c cc nL s args Ts own) (hK : KK G s) (hw : WD G ws A s H locs) (q0 : Nat) (he : ws[q0]? = some (a, .inr (2, fs))) (hv : fs[3]? = some v) (L : ∀ w ∈ u_ws RX2 TX2 4, w.before args s = true) (link : (Cond.fieldLink own idx "GossipMembership$Network" "cutLinks" "[Z").before args s = true) (hdg : decode cc pc = .ok (.getfield idx, 3)) (kk : W p l e R s m args below meth c H locs cells slots Q (F0 m (pc + 3) ls (v :: rest))) : W p l e R s m args below meth c H locs cells slots Q (F0 m pc ls (.ref a :: rest)) :=
  va_get (D := G.1) (cl := gcl) (C := RX2) (T := TX2) (N := 4) S.1 S.2.1 L (fun _ h => h) S.2.2.2.1 hK.1 hw.1 q0 he rfl 3 (by decide) link (fun _ h => h) hv hdg kk
theorem gt_X3_0 {v : Value} (S : CallFix p m c cc nL s args Ts own) (hK : KK G s) (hw : WD G ws A s H locs) (q0 : Nat) (he : ws[q0]? = some (a, .inr (3, fs))) (hv : fs[0]? = some v) (L : ∀ w ∈ u_ws RX3 TX3 7, w.before args s = true) (link : (Cond.fieldLink own idx "GossipMembership$World" "network" "LGossipMembership$Network;").before args s = true) (hdg : decode cc pc = .ok (.getfield idx, 3)) (kk : W p l e R s m args below meth c H locs cells slots Q (F0 m (pc + 3) ls (v :: rest))) : W p l e R s m args below meth c H locs cells slots Q (F0 m pc ls (.ref a :: rest)) :=
  va_get (D := G.1) (cl := gcl) (C := RX3) (T := TX3) (N := 7) S.1 S.2.1 L (fun _ h => h) S.2.2.2.1 hK.1 hw.1 q0 he rfl 0 (by decide) link (fun _ h => h) hv hdg kk
theorem gt_X3_1 {v : Value} (S : CallFix p m c cc nL s args Ts own) (hK : KK G s) (hw : WD G ws A s H locs) (q0 : Nat) (he : ws[q0]? = some (a, .inr (3, fs))) (hv : fs[1]? = some v) (L : ∀ w ∈ u_ws RX3 TX3 7, w.before args s = true) (link : (Cond.fieldLink own idx "GossipMembership$World" "knowledge" "LGossipMembership$Knowledge;").before args s = true) (hdg : decode cc pc = .ok (.getfield idx, 3)) (kk : W p l e R s m args below meth c H locs cells slots Q (F0 m (pc + 3) ls (v :: rest))) : W p l e R s m args below meth c H locs cells slots Q (F0 m pc ls (.ref a :: rest)) :=
  va_get (D := G.1) (cl := gcl) (C := RX3) (T := TX3) (N := 7) S.1 S.2.1 L (fun _ h => h) S.2.2.2.1 hK.1 hw.1 q0 he rfl 1 (by decide) link (fun _ h => h) hv hdg kk
theorem gt_X3_2 {v : Value} (S : CallFix p m c cc nL s args Ts own) (hK : KK G s) (hw : WD G ws A s H locs) (q0 : Nat) (he : ws[q0]? = some (a, .inr (3, fs))) (hv : fs[2]? = some v) (L : ∀ w ∈ u_ws RX3 TX3 7, w.before args s = true) (link : (Cond.fieldLink own idx "GossipMembership$World" "helpers" "I").before args s = true) (hdg : decode cc pc = .ok (.getfield idx, 3)) (kk : W p l e R s m args below meth c H locs cells slots Q (F0 m (pc + 3) ls (v :: rest))) : W p l e R s m args below meth c H locs cells slots Q (F0 m pc ls (.ref a :: rest)) :=
  va_get (D := G.1) (cl := gcl) (C := RX3) (T := TX3) (N := 7) S.1 S.2.1 L (fun _ h => h) S.2.2.2.1 hK.1 hw.1 q0 he rfl 2 (by decide) link (fun _ h => h) hv hdg kk
theorem pt_X3_2 {x : Int32} (S : CallFix p m c cc nL s args Ts own) (hK : KK G s) (hw : WD G ws A s H locs) (q0 : Nat) (he : ws[q0]? = some (a, .inr (3, fs))) (L : ∀ w ∈ u_ws RX3 TX3 7, w.before args s = true) (link : (Cond.fieldLink own idx "GossipMembership$World" "helpers" "I").before args s = true) (hs : ws.set q0 (a, .inr (3, fs.set 2 (.int x))) = ws') (hlen : 2 < fs.length) (hdg : decode cc pc = .ok (.putfield idx, 3)) (kk : ∀ (H1 : Heap) (locs1 : List Loc), WD G ws' A s H1 locs1 → W p l e R s m args below meth c H1 locs1 cells slots Q (F0 m (pc + 3) ls rest)) : W p l e R s m args below meth c H locs cells slots Q (F0 m pc ls (.int x :: .ref a :: rest)) := by
  subst hs
  exact va_put (D := G.1) (cl := gcl) (C := RX3) (T := TX3) (N := 7) S.1 S.2.1 L (fun _ h => h) tyX3 tyX3_ok nmX3 S.2.2.2.1 hK.1 hw.1 hw.2.1 hw.2.2 q0 he rfl 2 (by decide) link (fun _ h => h) rfl (ty := .int) (by decide +kernel) rfl rfl hlen hdg (fun H1 locs1 hP hD hS => kk H1 locs1 ⟨hP, hD, hS⟩)
theorem gt_X3_3 {v : Value} (S : CallFix p m c cc nL s args Ts own) (hK : KK G s) (hw : WD G ws A s H locs) (q0 : Nat) (he : ws[q0]? = some (a, .inr (3, fs))) (hv : fs[3]? = some v) (L : ∀ w ∈ u_ws RX3 TX3 7, w.before args s = true) (link : (Cond.fieldLink own idx "GossipMembership$World" "drawSeed" "I").before args s = true) (hdg : decode cc pc = .ok (.getfield idx, 3)) (kk : W p l e R s m args below meth c H locs cells slots Q (F0 m (pc + 3) ls (v :: rest))) : W p l e R s m args below meth c H locs cells slots Q (F0 m pc ls (.ref a :: rest)) :=
  va_get (D := G.1) (cl := gcl) (C := RX3) (T := TX3) (N := 7) S.1 S.2.1 L (fun _ h => h) S.2.2.2.1 hK.1 hw.1 q0 he rfl 3 (by decide) link (fun _ h => h) hv hdg kk
theorem pt_X3_3 {x : Int32} (S : CallFix p m c cc nL s args Ts own) (hK : KK G s) (hw : WD G ws A s H locs) (q0 : Nat) (he : ws[q0]? = some (a, .inr (3, fs))) (L : ∀ w ∈ u_ws RX3 TX3 7, w.before args s = true) (link : (Cond.fieldLink own idx "GossipMembership$World" "drawSeed" "I").before args s = true) (hs : ws.set q0 (a, .inr (3, fs.set 3 (.int x))) = ws') (hlen : 3 < fs.length) (hdg : decode cc pc = .ok (.putfield idx, 3)) (kk : ∀ (H1 : Heap) (locs1 : List Loc), WD G ws' A s H1 locs1 → W p l e R s m args below meth c H1 locs1 cells slots Q (F0 m (pc + 3) ls rest)) : W p l e R s m args below meth c H locs cells slots Q (F0 m pc ls (.int x :: .ref a :: rest)) := by
  subst hs
  exact va_put (D := G.1) (cl := gcl) (C := RX3) (T := TX3) (N := 7) S.1 S.2.1 L (fun _ h => h) tyX3 tyX3_ok nmX3 S.2.2.2.1 hK.1 hw.1 hw.2.1 hw.2.2 q0 he rfl 3 (by decide) link (fun _ h => h) rfl (ty := .int) (by decide +kernel) rfl rfl hlen hdg (fun H1 locs1 hP hD hS => kk H1 locs1 ⟨hP, hD, hS⟩)
theorem gt_X3_4 {v : Value} (S : CallFix p m c cc nL s args Ts own) (hK : KK G s) (hw : WD G ws A s H locs) (q0 : Nat) (he : ws[q0]? = some (a, .inr (3, fs))) (hv : fs[4]? = some v) (L : ∀ w ∈ u_ws RX3 TX3 7, w.before args s = true) (link : (Cond.fieldLink own idx "GossipMembership$World" "declared" "I").before args s = true) (hdg : decode cc pc = .ok (.getfield idx, 3)) (kk : W p l e R s m args below meth c H locs cells slots Q (F0 m (pc + 3) ls (v :: rest))) : W p l e R s m args below meth c H locs cells slots Q (F0 m pc ls (.ref a :: rest)) :=
  va_get (D := G.1) (cl := gcl) (C := RX3) (T := TX3) (N := 7) S.1 S.2.1 L (fun _ h => h) S.2.2.2.1 hK.1 hw.1 q0 he rfl 4 (by decide) link (fun _ h => h) hv hdg kk
theorem pt_X3_4 {x : Int32} (S : CallFix p m c cc nL s args Ts own) (hK : KK G s) (hw : WD G ws A s H locs) (q0 : Nat) (he : ws[q0]? = some (a, .inr (3, fs))) (L : ∀ w ∈ u_ws RX3 TX3 7, w.before args s = true) (link : (Cond.fieldLink own idx "GossipMembership$World" "declared" "I").before args s = true) (hs : ws.set q0 (a, .inr (3, fs.set 4 (.int x))) = ws') (hlen : 4 < fs.length) (hdg : decode cc pc = .ok (.putfield idx, 3)) (kk : ∀ (H1 : Heap) (locs1 : List Loc), WD G ws' A s H1 locs1 → W p l e R s m args below meth c H1 locs1 cells slots Q (F0 m (pc + 3) ls rest)) : W p l e R s m args below meth c H locs cells slots Q (F0 m pc ls (.int x :: .ref a :: rest)) := by
  subst hs
  exact va_put (D := G.1) (cl := gcl) (C := RX3) (T := TX3) (N := 7) S.1 S.2.1 L (fun _ h => h) tyX3 tyX3_ok nmX3 S.2.2.2.1 hK.1 hw.1 hw.2.1 hw.2.2 q0 he rfl 4 (by decide) link (fun _ h => h) rfl (ty := .int) (by decide +kernel) rfl rfl hlen hdg (fun H1 locs1 hP hD hS => kk H1 locs1 ⟨hP, hD, hS⟩)
theorem gt_X3_5 {v : Value} (S : CallFix p m c cc nL s args Ts own) (hK : KK G s) (hw : WD G ws A s H locs) (q0 : Nat) (he : ws[q0]? = some (a, .inr (3, fs))) (hv : fs[5]? = some v) (L : ∀ w ∈ u_ws RX3 TX3 7, w.before args s = true) (link : (Cond.fieldLink own idx "GossipMembership$World" "declaredFalsely" "I").before args s = true) (hdg : decode cc pc = .ok (.getfield idx, 3)) (kk : W p l e R s m args below meth c H locs cells slots Q (F0 m (pc + 3) ls (v :: rest))) : W p l e R s m args below meth c H locs cells slots Q (F0 m pc ls (.ref a :: rest)) :=
  va_get (D := G.1) (cl := gcl) (C := RX3) (T := TX3) (N := 7) S.1 S.2.1 L (fun _ h => h) S.2.2.2.1 hK.1 hw.1 q0 he rfl 5 (by decide) link (fun _ h => h) hv hdg kk
theorem pt_X3_5 {x : Int32} (S : CallFix p m c cc nL s args Ts own) (hK : KK G s) (hw : WD G ws A s H locs) (q0 : Nat) (he : ws[q0]? = some (a, .inr (3, fs))) (L : ∀ w ∈ u_ws RX3 TX3 7, w.before args s = true) (link : (Cond.fieldLink own idx "GossipMembership$World" "declaredFalsely" "I").before args s = true) (hs : ws.set q0 (a, .inr (3, fs.set 5 (.int x))) = ws') (hlen : 5 < fs.length) (hdg : decode cc pc = .ok (.putfield idx, 3)) (kk : ∀ (H1 : Heap) (locs1 : List Loc), WD G ws' A s H1 locs1 → W p l e R s m args below meth c H1 locs1 cells slots Q (F0 m (pc + 3) ls rest)) : W p l e R s m args below meth c H locs cells slots Q (F0 m pc ls (.int x :: .ref a :: rest)) := by
  subst hs
  exact va_put (D := G.1) (cl := gcl) (C := RX3) (T := TX3) (N := 7) S.1 S.2.1 L (fun _ h => h) tyX3 tyX3_ok nmX3 S.2.2.2.1 hK.1 hw.1 hw.2.1 hw.2.2 q0 he rfl 5 (by decide) link (fun _ h => h) rfl (ty := .int) (by decide +kernel) rfl rfl hlen hdg (fun H1 locs1 hP hD hS => kk H1 locs1 ⟨hP, hD, hS⟩)
theorem gt_X3_6 {v : Value} (S : CallFix p m c cc nL s args Ts own) (hK : KK G s) (hw : WD G ws A s H locs) (q0 : Nat) (he : ws[q0]? = some (a, .inr (3, fs))) (hv : fs[6]? = some v) (L : ∀ w ∈ u_ws RX3 TX3 7, w.before args s = true) (link : (Cond.fieldLink own idx "GossipMembership$World" "messagesSent" "I").before args s = true) (hdg : decode cc pc = .ok (.getfield idx, 3)) (kk : W p l e R s m args below meth c H locs cells slots Q (F0 m (pc + 3) ls (v :: rest))) : W p l e R s m args below meth c H locs cells slots Q (F0 m pc ls (.ref a :: rest)) :=
  va_get (D := G.1) (cl := gcl) (C := RX3) (T := TX3) (N := 7) S.1 S.2.1 L (fun _ h => h) S.2.2.2.1 hK.1 hw.1 q0 he rfl 6 (by decide) link (fun _ h => h) hv hdg kk
theorem pt_X3_6 {x : Int32} (S : CallFix p m c cc nL s args Ts own) (hK : KK G s) (hw : WD G ws A s H locs) (q0 : Nat) (he : ws[q0]? = some (a, .inr (3, fs))) (L : ∀ w ∈ u_ws RX3 TX3 7, w.before args s = true) (link : (Cond.fieldLink own idx "GossipMembership$World" "messagesSent" "I").before args s = true) (hs : ws.set q0 (a, .inr (3, fs.set 6 (.int x))) = ws') (hlen : 6 < fs.length) (hdg : decode cc pc = .ok (.putfield idx, 3)) (kk : ∀ (H1 : Heap) (locs1 : List Loc), WD G ws' A s H1 locs1 → W p l e R s m args below meth c H1 locs1 cells slots Q (F0 m (pc + 3) ls rest)) : W p l e R s m args below meth c H locs cells slots Q (F0 m pc ls (.int x :: .ref a :: rest)) := by
  subst hs
  exact va_put (D := G.1) (cl := gcl) (C := RX3) (T := TX3) (N := 7) S.1 S.2.1 L (fun _ h => h) tyX3 tyX3_ok nmX3 S.2.2.2.1 hK.1 hw.1 hw.2.1 hw.2.2 q0 he rfl 6 (by decide) link (fun _ h => h) rfl (ty := .int) (by decide +kernel) rfl rfl hlen hdg (fun H1 locs1 hP hD hS => kk H1 locs1 ⟨hP, hD, hS⟩)
theorem gt_X4_0 {v : Value} (S : CallFix p m c cc nL s args Ts own) (hK : KK G s) (hw : WD G ws A s H locs) (q0 : Nat) (he : ws[q0]? = some (a, .inr (4, fs))) (hv : fs[0]? = some v) (L : ∀ w ∈ u_ws RX4 TX4 6, w.before args s = true) (link : (Cond.fieldLink own idx "GossipMembership" "world" "LGossipMembership$World;").before args s = true) (hdg : decode cc pc = .ok (.getfield idx, 3)) (kk : W p l e R s m args below meth c H locs cells slots Q (F0 m (pc + 3) ls (v :: rest))) : W p l e R s m args below meth c H locs cells slots Q (F0 m pc ls (.ref a :: rest)) :=
  va_get (D := G.1) (cl := gcl) (C := RX4) (T := TX4) (N := 6) S.1 S.2.1 L (fun _ h => h) S.2.2.2.1 hK.1 hw.1 q0 he rfl 0 (by decide) link (fun _ h => h) hv hdg kk
theorem gt_X4_1 {v : Value} (S : CallFix p m c cc nL s args Ts own) (hK : KK G s) (hw : WD G ws A s H locs) (q0 : Nat) (he : ws[q0]? = some (a, .inr (4, fs))) (hv : fs[1]? = some v) (L : ∀ w ∈ u_ws RX4 TX4 6, w.before args s = true) (link : (Cond.fieldLink own idx "GossipMembership" "savedWorld" "LGossipMembership$World;").before args s = true) (hdg : decode cc pc = .ok (.getfield idx, 3)) (kk : W p l e R s m args below meth c H locs cells slots Q (F0 m (pc + 3) ls (v :: rest))) : W p l e R s m args below meth c H locs cells slots Q (F0 m pc ls (.ref a :: rest)) :=
  va_get (D := G.1) (cl := gcl) (C := RX4) (T := TX4) (N := 6) S.1 S.2.1 L (fun _ h => h) S.2.2.2.1 hK.1 hw.1 q0 he rfl 1 (by decide) link (fun _ h => h) hv hdg kk
theorem gt_X4_2 {v : Value} (S : CallFix p m c cc nL s args Ts own) (hK : KK G s) (hw : WD G ws A s H locs) (q0 : Nat) (he : ws[q0]? = some (a, .inr (4, fs))) (hv : fs[2]? = some v) (L : ∀ w ∈ u_ws RX4 TX4 6, w.before args s = true) (link : (Cond.fieldLink own idx "GossipMembership" "somethingSaved" "Z").before args s = true) (hdg : decode cc pc = .ok (.getfield idx, 3)) (kk : W p l e R s m args below meth c H locs cells slots Q (F0 m (pc + 3) ls (v :: rest))) : W p l e R s m args below meth c H locs cells slots Q (F0 m pc ls (.ref a :: rest)) :=
  va_get (D := G.1) (cl := gcl) (C := RX4) (T := TX4) (N := 6) S.1 S.2.1 L (fun _ h => h) S.2.2.2.1 hK.1 hw.1 q0 he rfl 2 (by decide) link (fun _ h => h) hv hdg kk
theorem pt_X4_2 {x : Int32} (S : CallFix p m c cc nL s args Ts own) (hK : KK G s) (hw : WD G ws A s H locs) (q0 : Nat) (he : ws[q0]? = some (a, .inr (4, fs))) (L : ∀ w ∈ u_ws RX4 TX4 6, w.before args s = true) (link : (Cond.fieldLink own idx "GossipMembership" "somethingSaved" "Z").before args s = true) (hn : narrow .boolean (.int x) = .int x) (hfit : fits .boolean (.int x) = true) (hs : ws.set q0 (a, .inr (4, fs.set 2 (.int x))) = ws') (hlen : 2 < fs.length) (hdg : decode cc pc = .ok (.putfield idx, 3)) (kk : ∀ (H1 : Heap) (locs1 : List Loc), WD G ws' A s H1 locs1 → W p l e R s m args below meth c H1 locs1 cells slots Q (F0 m (pc + 3) ls rest)) : W p l e R s m args below meth c H locs cells slots Q (F0 m pc ls (.int x :: .ref a :: rest)) := by
  subst hs
  exact va_put (D := G.1) (cl := gcl) (C := RX4) (T := TX4) (N := 6) S.1 S.2.1 L (fun _ h => h) tyX4 tyX4_ok nmX4 S.2.2.2.1 hK.1 hw.1 hw.2.1 hw.2.2 q0 he rfl 2 (by decide) link (fun _ h => h) rfl (ty := .boolean) (by decide +kernel) hn hfit hlen hdg (fun H1 locs1 hP hD hS => kk H1 locs1 ⟨hP, hD, hS⟩)
theorem gt_X4_3 {v : Value} (S : CallFix p m c cc nL s args Ts own) (hK : KK G s) (hw : WD G ws A s H locs) (q0 : Nat) (he : ws[q0]? = some (a, .inr (4, fs))) (hv : fs[3]? = some v) (L : ∀ w ∈ u_ws RX4 TX4 6, w.before args s = true) (link : (Cond.fieldLink own idx "GossipMembership" "text" "LGossipMembership$CommandText;").before args s = true) (hdg : decode cc pc = .ok (.getfield idx, 3)) (kk : W p l e R s m args below meth c H locs cells slots Q (F0 m (pc + 3) ls (v :: rest))) : W p l e R s m args below meth c H locs cells slots Q (F0 m pc ls (.ref a :: rest)) :=
  va_get (D := G.1) (cl := gcl) (C := RX4) (T := TX4) (N := 6) S.1 S.2.1 L (fun _ h => h) S.2.2.2.1 hK.1 hw.1 q0 he rfl 3 (by decide) link (fun _ h => h) hv hdg kk
theorem gt_X4_4 {v : Value} (S : CallFix p m c cc nL s args Ts own) (hK : KK G s) (hw : WD G ws A s H locs) (q0 : Nat) (he : ws[q0]? = some (a, .inr (4, fs))) (hv : fs[4]? = some v) (L : ∀ w ∈ u_ws RX4 TX4 6, w.before args s = true) (link : (Cond.fieldLink own idx "GossipMembership" "failureKind" "I").before args s = true) (hdg : decode cc pc = .ok (.getfield idx, 3)) (kk : W p l e R s m args below meth c H locs cells slots Q (F0 m (pc + 3) ls (v :: rest))) : W p l e R s m args below meth c H locs cells slots Q (F0 m pc ls (.ref a :: rest)) :=
  va_get (D := G.1) (cl := gcl) (C := RX4) (T := TX4) (N := 6) S.1 S.2.1 L (fun _ h => h) S.2.2.2.1 hK.1 hw.1 q0 he rfl 4 (by decide) link (fun _ h => h) hv hdg kk
theorem pt_X4_4 {x : Int32} (S : CallFix p m c cc nL s args Ts own) (hK : KK G s) (hw : WD G ws A s H locs) (q0 : Nat) (he : ws[q0]? = some (a, .inr (4, fs))) (L : ∀ w ∈ u_ws RX4 TX4 6, w.before args s = true) (link : (Cond.fieldLink own idx "GossipMembership" "failureKind" "I").before args s = true) (hs : ws.set q0 (a, .inr (4, fs.set 4 (.int x))) = ws') (hlen : 4 < fs.length) (hdg : decode cc pc = .ok (.putfield idx, 3)) (kk : ∀ (H1 : Heap) (locs1 : List Loc), WD G ws' A s H1 locs1 → W p l e R s m args below meth c H1 locs1 cells slots Q (F0 m (pc + 3) ls rest)) : W p l e R s m args below meth c H locs cells slots Q (F0 m pc ls (.int x :: .ref a :: rest)) := by
  subst hs
  exact va_put (D := G.1) (cl := gcl) (C := RX4) (T := TX4) (N := 6) S.1 S.2.1 L (fun _ h => h) tyX4 tyX4_ok nmX4 S.2.2.2.1 hK.1 hw.1 hw.2.1 hw.2.2 q0 he rfl 4 (by decide) link (fun _ h => h) rfl (ty := .int) (by decide +kernel) rfl rfl hlen hdg (fun H1 locs1 hP hD hS => kk H1 locs1 ⟨hP, hD, hS⟩)
theorem gt_X4_5 {v : Value} (S : CallFix p m c cc nL s args Ts own) (hK : KK G s) (hw : WD G ws A s H locs) (q0 : Nat) (he : ws[q0]? = some (a, .inr (4, fs))) (hv : fs[5]? = some v) (L : ∀ w ∈ u_ws RX4 TX4 6, w.before args s = true) (link : (Cond.fieldLink own idx "GossipMembership" "failureNumber" "I").before args s = true) (hdg : decode cc pc = .ok (.getfield idx, 3)) (kk : W p l e R s m args below meth c H locs cells slots Q (F0 m (pc + 3) ls (v :: rest))) : W p l e R s m args below meth c H locs cells slots Q (F0 m pc ls (.ref a :: rest)) :=
  va_get (D := G.1) (cl := gcl) (C := RX4) (T := TX4) (N := 6) S.1 S.2.1 L (fun _ h => h) S.2.2.2.1 hK.1 hw.1 q0 he rfl 5 (by decide) link (fun _ h => h) hv hdg kk
theorem pt_X4_5 {x : Int32} (S : CallFix p m c cc nL s args Ts own) (hK : KK G s) (hw : WD G ws A s H locs) (q0 : Nat) (he : ws[q0]? = some (a, .inr (4, fs))) (L : ∀ w ∈ u_ws RX4 TX4 6, w.before args s = true) (link : (Cond.fieldLink own idx "GossipMembership" "failureNumber" "I").before args s = true) (hs : ws.set q0 (a, .inr (4, fs.set 5 (.int x))) = ws') (hlen : 5 < fs.length) (hdg : decode cc pc = .ok (.putfield idx, 3)) (kk : ∀ (H1 : Heap) (locs1 : List Loc), WD G ws' A s H1 locs1 → W p l e R s m args below meth c H1 locs1 cells slots Q (F0 m (pc + 3) ls rest)) : W p l e R s m args below meth c H locs cells slots Q (F0 m pc ls (.int x :: .ref a :: rest)) := by
  subst hs
  exact va_put (D := G.1) (cl := gcl) (C := RX4) (T := TX4) (N := 6) S.1 S.2.1 L (fun _ h => h) tyX4 tyX4_ok nmX4 S.2.2.2.1 hK.1 hw.1 hw.2.1 hw.2.2 q0 he rfl 5 (by decide) link (fun _ h => h) rfl (ty := .int) (by decide +kernel) rfl rfl hlen hdg (fun H1 locs1 hP hD hS => kk H1 locs1 ⟨hP, hD, hS⟩)
theorem gt_X5_0 {v : Value} (S : CallFix p m c cc nL s args Ts own) (hK : KK G s) (hw : WD G ws A s H locs) (q0 : Nat) (he : ws[q0]? = some (a, .inr (5, fs))) (hv : fs[0]? = some v) (L : ∀ w ∈ u_ws RX5 TX5 12, w.before args s = true) (link : (Cond.fieldLink own idx "GossipMembershipModel" "thrown" "I").before args s = true) (hdg : decode cc pc = .ok (.getfield idx, 3)) (kk : W p l e R s m args below meth c H locs cells slots Q (F0 m (pc + 3) ls (v :: rest))) : W p l e R s m args below meth c H locs cells slots Q (F0 m pc ls (.ref a :: rest)) :=
  va_get (D := G.1) (cl := gcl) (C := RX5) (T := TX5) (N := 12) S.1 S.2.1 L (fun _ h => h) S.2.2.2.1 hK.1 hw.1 q0 he rfl 0 (by decide) link (fun _ h => h) hv hdg kk
theorem pt_X5_0 {x : Int32} (S : CallFix p m c cc nL s args Ts own) (hK : KK G s) (hw : WD G ws A s H locs) (q0 : Nat) (he : ws[q0]? = some (a, .inr (5, fs))) (L : ∀ w ∈ u_ws RX5 TX5 12, w.before args s = true) (link : (Cond.fieldLink own idx "GossipMembershipModel" "thrown" "I").before args s = true) (hs : ws.set q0 (a, .inr (5, fs.set 0 (.int x))) = ws') (hlen : 0 < fs.length) (hdg : decode cc pc = .ok (.putfield idx, 3)) (kk : ∀ (H1 : Heap) (locs1 : List Loc), WD G ws' A s H1 locs1 → W p l e R s m args below meth c H1 locs1 cells slots Q (F0 m (pc + 3) ls rest)) : W p l e R s m args below meth c H locs cells slots Q (F0 m pc ls (.int x :: .ref a :: rest)) := by
  subst hs
  exact va_put (D := G.1) (cl := gcl) (C := RX5) (T := TX5) (N := 12) S.1 S.2.1 L (fun _ h => h) tyX5 tyX5_ok nmX5 S.2.2.2.1 hK.1 hw.1 hw.2.1 hw.2.2 q0 he rfl 0 (by decide) link (fun _ h => h) rfl (ty := .int) (by decide +kernel) rfl rfl hlen hdg (fun H1 locs1 hP hD hS => kk H1 locs1 ⟨hP, hD, hS⟩)
theorem gt_X5_1 {v : Value} (S : CallFix p m c cc nL s args Ts own) (hK : KK G s) (hw : WD G ws A s H locs) (q0 : Nat) (he : ws[q0]? = some (a, .inr (5, fs))) (hv : fs[1]? = some v) (L : ∀ w ∈ u_ws RX5 TX5 12, w.before args s = true) (link : (Cond.fieldLink own idx "GossipMembershipModel" "s" "[I").before args s = true) (hdg : decode cc pc = .ok (.getfield idx, 3)) (kk : W p l e R s m args below meth c H locs cells slots Q (F0 m (pc + 3) ls (v :: rest))) : W p l e R s m args below meth c H locs cells slots Q (F0 m pc ls (.ref a :: rest)) :=
  va_get (D := G.1) (cl := gcl) (C := RX5) (T := TX5) (N := 12) S.1 S.2.1 L (fun _ h => h) S.2.2.2.1 hK.1 hw.1 q0 he rfl 1 (by decide) link (fun _ h => h) hv hdg kk
theorem gt_X5_2 {v : Value} (S : CallFix p m c cc nL s args Ts own) (hK : KK G s) (hw : WD G ws A s H locs) (q0 : Nat) (he : ws[q0]? = some (a, .inr (5, fs))) (hv : fs[2]? = some v) (L : ∀ w ∈ u_ws RX5 TX5 12, w.before args s = true) (link : (Cond.fieldLink own idx "GossipMembershipModel" "saved" "[I").before args s = true) (hdg : decode cc pc = .ok (.getfield idx, 3)) (kk : W p l e R s m args below meth c H locs cells slots Q (F0 m (pc + 3) ls (v :: rest))) : W p l e R s m args below meth c H locs cells slots Q (F0 m pc ls (.ref a :: rest)) :=
  va_get (D := G.1) (cl := gcl) (C := RX5) (T := TX5) (N := 12) S.1 S.2.1 L (fun _ h => h) S.2.2.2.1 hK.1 hw.1 q0 he rfl 2 (by decide) link (fun _ h => h) hv hdg kk
theorem gt_X5_3 {v : Value} (S : CallFix p m c cc nL s args Ts own) (hK : KK G s) (hw : WD G ws A s H locs) (q0 : Nat) (he : ws[q0]? = some (a, .inr (5, fs))) (hv : fs[3]? = some v) (L : ∀ w ∈ u_ws RX5 TX5 12, w.before args s = true) (link : (Cond.fieldLink own idx "GossipMembershipModel" "hasSaved" "Z").before args s = true) (hdg : decode cc pc = .ok (.getfield idx, 3)) (kk : W p l e R s m args below meth c H locs cells slots Q (F0 m (pc + 3) ls (v :: rest))) : W p l e R s m args below meth c H locs cells slots Q (F0 m pc ls (.ref a :: rest)) :=
  va_get (D := G.1) (cl := gcl) (C := RX5) (T := TX5) (N := 12) S.1 S.2.1 L (fun _ h => h) S.2.2.2.1 hK.1 hw.1 q0 he rfl 3 (by decide) link (fun _ h => h) hv hdg kk
theorem pt_X5_3 {x : Int32} (S : CallFix p m c cc nL s args Ts own) (hK : KK G s) (hw : WD G ws A s H locs) (q0 : Nat) (he : ws[q0]? = some (a, .inr (5, fs))) (L : ∀ w ∈ u_ws RX5 TX5 12, w.before args s = true) (link : (Cond.fieldLink own idx "GossipMembershipModel" "hasSaved" "Z").before args s = true) (hn : narrow .boolean (.int x) = .int x) (hfit : fits .boolean (.int x) = true) (hs : ws.set q0 (a, .inr (5, fs.set 3 (.int x))) = ws') (hlen : 3 < fs.length) (hdg : decode cc pc = .ok (.putfield idx, 3)) (kk : ∀ (H1 : Heap) (locs1 : List Loc), WD G ws' A s H1 locs1 → W p l e R s m args below meth c H1 locs1 cells slots Q (F0 m (pc + 3) ls rest)) : W p l e R s m args below meth c H locs cells slots Q (F0 m pc ls (.int x :: .ref a :: rest)) := by
  subst hs
  exact va_put (D := G.1) (cl := gcl) (C := RX5) (T := TX5) (N := 12) S.1 S.2.1 L (fun _ h => h) tyX5 tyX5_ok nmX5 S.2.2.2.1 hK.1 hw.1 hw.2.1 hw.2.2 q0 he rfl 3 (by decide) link (fun _ h => h) rfl (ty := .boolean) (by decide +kernel) hn hfit hlen hdg (fun H1 locs1 hP hD hS => kk H1 locs1 ⟨hP, hD, hS⟩)
theorem gt_X5_4 {v : Value} (S : CallFix p m c cc nL s args Ts own) (hK : KK G s) (hw : WD G ws A s H locs) (q0 : Nat) (he : ws[q0]? = some (a, .inr (5, fs))) (hv : fs[4]? = some v) (L : ∀ w ∈ u_ws RX5 TX5 12, w.before args s = true) (link : (Cond.fieldLink own idx "GossipMembershipModel" "text" "[I").before args s = true) (hdg : decode cc pc = .ok (.getfield idx, 3)) (kk : W p l e R s m args below meth c H locs cells slots Q (F0 m (pc + 3) ls (v :: rest))) : W p l e R s m args below meth c H locs cells slots Q (F0 m pc ls (.ref a :: rest)) :=
  va_get (D := G.1) (cl := gcl) (C := RX5) (T := TX5) (N := 12) S.1 S.2.1 L (fun _ h => h) S.2.2.2.1 hK.1 hw.1 q0 he rfl 4 (by decide) link (fun _ h => h) hv hdg kk
theorem gt_X5_5 {v : Value} (S : CallFix p m c cc nL s args Ts own) (hK : KK G s) (hw : WD G ws A s H locs) (q0 : Nat) (he : ws[q0]? = some (a, .inr (5, fs))) (hv : fs[5]? = some v) (L : ∀ w ∈ u_ws RX5 TX5 12, w.before args s = true) (link : (Cond.fieldLink own idx "GossipMembershipModel" "length" "I").before args s = true) (hdg : decode cc pc = .ok (.getfield idx, 3)) (kk : W p l e R s m args below meth c H locs cells slots Q (F0 m (pc + 3) ls (v :: rest))) : W p l e R s m args below meth c H locs cells slots Q (F0 m pc ls (.ref a :: rest)) :=
  va_get (D := G.1) (cl := gcl) (C := RX5) (T := TX5) (N := 12) S.1 S.2.1 L (fun _ h => h) S.2.2.2.1 hK.1 hw.1 q0 he rfl 5 (by decide) link (fun _ h => h) hv hdg kk
theorem pt_X5_5 {x : Int32} (S : CallFix p m c cc nL s args Ts own) (hK : KK G s) (hw : WD G ws A s H locs) (q0 : Nat) (he : ws[q0]? = some (a, .inr (5, fs))) (L : ∀ w ∈ u_ws RX5 TX5 12, w.before args s = true) (link : (Cond.fieldLink own idx "GossipMembershipModel" "length" "I").before args s = true) (hs : ws.set q0 (a, .inr (5, fs.set 5 (.int x))) = ws') (hlen : 5 < fs.length) (hdg : decode cc pc = .ok (.putfield idx, 3)) (kk : ∀ (H1 : Heap) (locs1 : List Loc), WD G ws' A s H1 locs1 → W p l e R s m args below meth c H1 locs1 cells slots Q (F0 m (pc + 3) ls rest)) : W p l e R s m args below meth c H locs cells slots Q (F0 m pc ls (.int x :: .ref a :: rest)) := by
  subst hs
  exact va_put (D := G.1) (cl := gcl) (C := RX5) (T := TX5) (N := 12) S.1 S.2.1 L (fun _ h => h) tyX5 tyX5_ok nmX5 S.2.2.2.1 hK.1 hw.1 hw.2.1 hw.2.2 q0 he rfl 5 (by decide) link (fun _ h => h) rfl (ty := .int) (by decide +kernel) rfl rfl hlen hdg (fun H1 locs1 hP hD hS => kk H1 locs1 ⟨hP, hD, hS⟩)
theorem gt_X5_6 {v : Value} (S : CallFix p m c cc nL s args Ts own) (hK : KK G s) (hw : WD G ws A s H locs) (q0 : Nat) (he : ws[q0]? = some (a, .inr (5, fs))) (hv : fs[6]? = some v) (L : ∀ w ∈ u_ws RX5 TX5 12, w.before args s = true) (link : (Cond.fieldLink own idx "GossipMembershipModel" "failureKind" "I").before args s = true) (hdg : decode cc pc = .ok (.getfield idx, 3)) (kk : W p l e R s m args below meth c H locs cells slots Q (F0 m (pc + 3) ls (v :: rest))) : W p l e R s m args below meth c H locs cells slots Q (F0 m pc ls (.ref a :: rest)) :=
  va_get (D := G.1) (cl := gcl) (C := RX5) (T := TX5) (N := 12) S.1 S.2.1 L (fun _ h => h) S.2.2.2.1 hK.1 hw.1 q0 he rfl 6 (by decide) link (fun _ h => h) hv hdg kk
theorem pt_X5_6 {x : Int32} (S : CallFix p m c cc nL s args Ts own) (hK : KK G s) (hw : WD G ws A s H locs) (q0 : Nat) (he : ws[q0]? = some (a, .inr (5, fs))) (L : ∀ w ∈ u_ws RX5 TX5 12, w.before args s = true) (link : (Cond.fieldLink own idx "GossipMembershipModel" "failureKind" "I").before args s = true) (hs : ws.set q0 (a, .inr (5, fs.set 6 (.int x))) = ws') (hlen : 6 < fs.length) (hdg : decode cc pc = .ok (.putfield idx, 3)) (kk : ∀ (H1 : Heap) (locs1 : List Loc), WD G ws' A s H1 locs1 → W p l e R s m args below meth c H1 locs1 cells slots Q (F0 m (pc + 3) ls rest)) : W p l e R s m args below meth c H locs cells slots Q (F0 m pc ls (.int x :: .ref a :: rest)) := by
  subst hs
  exact va_put (D := G.1) (cl := gcl) (C := RX5) (T := TX5) (N := 12) S.1 S.2.1 L (fun _ h => h) tyX5 tyX5_ok nmX5 S.2.2.2.1 hK.1 hw.1 hw.2.1 hw.2.2 q0 he rfl 6 (by decide) link (fun _ h => h) rfl (ty := .int) (by decide +kernel) rfl rfl hlen hdg (fun H1 locs1 hP hD hS => kk H1 locs1 ⟨hP, hD, hS⟩)
theorem gt_X5_7 {v : Value} (S : CallFix p m c cc nL s args Ts own) (hK : KK G s) (hw : WD G ws A s H locs) (q0 : Nat) (he : ws[q0]? = some (a, .inr (5, fs))) (hv : fs[7]? = some v) (L : ∀ w ∈ u_ws RX5 TX5 12, w.before args s = true) (link : (Cond.fieldLink own idx "GossipMembershipModel" "failureAt" "I").before args s = true) (hdg : decode cc pc = .ok (.getfield idx, 3)) (kk : W p l e R s m args below meth c H locs cells slots Q (F0 m (pc + 3) ls (v :: rest))) : W p l e R s m args below meth c H locs cells slots Q (F0 m pc ls (.ref a :: rest)) :=
  va_get (D := G.1) (cl := gcl) (C := RX5) (T := TX5) (N := 12) S.1 S.2.1 L (fun _ h => h) S.2.2.2.1 hK.1 hw.1 q0 he rfl 7 (by decide) link (fun _ h => h) hv hdg kk
theorem pt_X5_7 {x : Int32} (S : CallFix p m c cc nL s args Ts own) (hK : KK G s) (hw : WD G ws A s H locs) (q0 : Nat) (he : ws[q0]? = some (a, .inr (5, fs))) (L : ∀ w ∈ u_ws RX5 TX5 12, w.before args s = true) (link : (Cond.fieldLink own idx "GossipMembershipModel" "failureAt" "I").before args s = true) (hs : ws.set q0 (a, .inr (5, fs.set 7 (.int x))) = ws') (hlen : 7 < fs.length) (hdg : decode cc pc = .ok (.putfield idx, 3)) (kk : ∀ (H1 : Heap) (locs1 : List Loc), WD G ws' A s H1 locs1 → W p l e R s m args below meth c H1 locs1 cells slots Q (F0 m (pc + 3) ls rest)) : W p l e R s m args below meth c H locs cells slots Q (F0 m pc ls (.int x :: .ref a :: rest)) := by
  subst hs
  exact va_put (D := G.1) (cl := gcl) (C := RX5) (T := TX5) (N := 12) S.1 S.2.1 L (fun _ h => h) tyX5 tyX5_ok nmX5 S.2.2.2.1 hK.1 hw.1 hw.2.1 hw.2.2 q0 he rfl 7 (by decide) link (fun _ h => h) rfl (ty := .int) (by decide +kernel) rfl rfl hlen hdg (fun H1 locs1 hP hD hS => kk H1 locs1 ⟨hP, hD, hS⟩)
theorem gt_X5_8 {v : Value} (S : CallFix p m c cc nL s args Ts own) (hK : KK G s) (hw : WD G ws A s H locs) (q0 : Nat) (he : ws[q0]? = some (a, .inr (5, fs))) (hv : fs[8]? = some v) (L : ∀ w ∈ u_ws RX5 TX5 12, w.before args s = true) (link : (Cond.fieldLink own idx "GossipMembershipModel" "sent" "[I").before args s = true) (hdg : decode cc pc = .ok (.getfield idx, 3)) (kk : W p l e R s m args below meth c H locs cells slots Q (F0 m (pc + 3) ls (v :: rest))) : W p l e R s m args below meth c H locs cells slots Q (F0 m pc ls (.ref a :: rest)) :=
  va_get (D := G.1) (cl := gcl) (C := RX5) (T := TX5) (N := 12) S.1 S.2.1 L (fun _ h => h) S.2.2.2.1 hK.1 hw.1 q0 he rfl 8 (by decide) link (fun _ h => h) hv hdg kk
theorem gt_X5_9 {v : Value} (S : CallFix p m c cc nL s args Ts own) (hK : KK G s) (hw : WD G ws A s H locs) (q0 : Nat) (he : ws[q0]? = some (a, .inr (5, fs))) (hv : fs[9]? = some v) (L : ∀ w ∈ u_ws RX5 TX5 12, w.before args s = true) (link : (Cond.fieldLink own idx "GossipMembershipModel" "sentMany" "I").before args s = true) (hdg : decode cc pc = .ok (.getfield idx, 3)) (kk : W p l e R s m args below meth c H locs cells slots Q (F0 m (pc + 3) ls (v :: rest))) : W p l e R s m args below meth c H locs cells slots Q (F0 m pc ls (.ref a :: rest)) :=
  va_get (D := G.1) (cl := gcl) (C := RX5) (T := TX5) (N := 12) S.1 S.2.1 L (fun _ h => h) S.2.2.2.1 hK.1 hw.1 q0 he rfl 9 (by decide) link (fun _ h => h) hv hdg kk
theorem pt_X5_9 {x : Int32} (S : CallFix p m c cc nL s args Ts own) (hK : KK G s) (hw : WD G ws A s H locs) (q0 : Nat) (he : ws[q0]? = some (a, .inr (5, fs))) (L : ∀ w ∈ u_ws RX5 TX5 12, w.before args s = true) (link : (Cond.fieldLink own idx "GossipMembershipModel" "sentMany" "I").before args s = true) (hs : ws.set q0 (a, .inr (5, fs.set 9 (.int x))) = ws') (hlen : 9 < fs.length) (hdg : decode cc pc = .ok (.putfield idx, 3)) (kk : ∀ (H1 : Heap) (locs1 : List Loc), WD G ws' A s H1 locs1 → W p l e R s m args below meth c H1 locs1 cells slots Q (F0 m (pc + 3) ls rest)) : W p l e R s m args below meth c H locs cells slots Q (F0 m pc ls (.int x :: .ref a :: rest)) := by
  subst hs
  exact va_put (D := G.1) (cl := gcl) (C := RX5) (T := TX5) (N := 12) S.1 S.2.1 L (fun _ h => h) tyX5 tyX5_ok nmX5 S.2.2.2.1 hK.1 hw.1 hw.2.1 hw.2.2 q0 he rfl 9 (by decide) link (fun _ h => h) rfl (ty := .int) (by decide +kernel) rfl rfl hlen hdg (fun H1 locs1 hP hD hS => kk H1 locs1 ⟨hP, hD, hS⟩)
theorem gt_X5_10 {v : Value} (S : CallFix p m c cc nL s args Ts own) (hK : KK G s) (hw : WD G ws A s H locs) (q0 : Nat) (he : ws[q0]? = some (a, .inr (5, fs))) (hv : fs[10]? = some v) (L : ∀ w ∈ u_ws RX5 TX5 12, w.before args s = true) (link : (Cond.fieldLink own idx "GossipMembershipModel" "spot" "I").before args s = true) (hdg : decode cc pc = .ok (.getfield idx, 3)) (kk : W p l e R s m args below meth c H locs cells slots Q (F0 m (pc + 3) ls (v :: rest))) : W p l e R s m args below meth c H locs cells slots Q (F0 m pc ls (.ref a :: rest)) :=
  va_get (D := G.1) (cl := gcl) (C := RX5) (T := TX5) (N := 12) S.1 S.2.1 L (fun _ h => h) S.2.2.2.1 hK.1 hw.1 q0 he rfl 10 (by decide) link (fun _ h => h) hv hdg kk
theorem pt_X5_10 {x : Int32} (S : CallFix p m c cc nL s args Ts own) (hK : KK G s) (hw : WD G ws A s H locs) (q0 : Nat) (he : ws[q0]? = some (a, .inr (5, fs))) (L : ∀ w ∈ u_ws RX5 TX5 12, w.before args s = true) (link : (Cond.fieldLink own idx "GossipMembershipModel" "spot" "I").before args s = true) (hs : ws.set q0 (a, .inr (5, fs.set 10 (.int x))) = ws') (hlen : 10 < fs.length) (hdg : decode cc pc = .ok (.putfield idx, 3)) (kk : ∀ (H1 : Heap) (locs1 : List Loc), WD G ws' A s H1 locs1 → W p l e R s m args below meth c H1 locs1 cells slots Q (F0 m (pc + 3) ls rest)) : W p l e R s m args below meth c H locs cells slots Q (F0 m pc ls (.int x :: .ref a :: rest)) := by
  subst hs
  exact va_put (D := G.1) (cl := gcl) (C := RX5) (T := TX5) (N := 12) S.1 S.2.1 L (fun _ h => h) tyX5 tyX5_ok nmX5 S.2.2.2.1 hK.1 hw.1 hw.2.1 hw.2.2 q0 he rfl 10 (by decide) link (fun _ h => h) rfl (ty := .int) (by decide +kernel) rfl rfl hlen hdg (fun H1 locs1 hP hD hS => kk H1 locs1 ⟨hP, hD, hS⟩)
theorem gt_X5_11 {v : Value} (S : CallFix p m c cc nL s args Ts own) (hK : KK G s) (hw : WD G ws A s H locs) (q0 : Nat) (he : ws[q0]? = some (a, .inr (5, fs))) (hv : fs[11]? = some v) (L : ∀ w ∈ u_ws RX5 TX5 12, w.before args s = true) (link : (Cond.fieldLink own idx "GossipMembershipModel" "isRead" "Z").before args s = true) (hdg : decode cc pc = .ok (.getfield idx, 3)) (kk : W p l e R s m args below meth c H locs cells slots Q (F0 m (pc + 3) ls (v :: rest))) : W p l e R s m args below meth c H locs cells slots Q (F0 m pc ls (.ref a :: rest)) :=
  va_get (D := G.1) (cl := gcl) (C := RX5) (T := TX5) (N := 12) S.1 S.2.1 L (fun _ h => h) S.2.2.2.1 hK.1 hw.1 q0 he rfl 11 (by decide) link (fun _ h => h) hv hdg kk
theorem pt_X5_11 {x : Int32} (S : CallFix p m c cc nL s args Ts own) (hK : KK G s) (hw : WD G ws A s H locs) (q0 : Nat) (he : ws[q0]? = some (a, .inr (5, fs))) (L : ∀ w ∈ u_ws RX5 TX5 12, w.before args s = true) (link : (Cond.fieldLink own idx "GossipMembershipModel" "isRead" "Z").before args s = true) (hn : narrow .boolean (.int x) = .int x) (hfit : fits .boolean (.int x) = true) (hs : ws.set q0 (a, .inr (5, fs.set 11 (.int x))) = ws') (hlen : 11 < fs.length) (hdg : decode cc pc = .ok (.putfield idx, 3)) (kk : ∀ (H1 : Heap) (locs1 : List Loc), WD G ws' A s H1 locs1 → W p l e R s m args below meth c H1 locs1 cells slots Q (F0 m (pc + 3) ls rest)) : W p l e R s m args below meth c H locs cells slots Q (F0 m pc ls (.int x :: .ref a :: rest)) := by
  subst hs
  exact va_put (D := G.1) (cl := gcl) (C := RX5) (T := TX5) (N := 12) S.1 S.2.1 L (fun _ h => h) tyX5 tyX5_ok nmX5 S.2.2.2.1 hK.1 hw.1 hw.2.1 hw.2.2 q0 he rfl 11 (by decide) link (fun _ h => h) rfl (ty := .boolean) (by decide +kernel) hn hfit hlen hdg (fun H1 locs1 hP hD hS => kk H1 locs1 ⟨hP, hD, hS⟩)
end GF
section GO
variable {p : Program} {l : Launch} {e : Env} {R : Room} {s : State} {m : MethodId} {args : Array Value} {below : List Frame} {meth : Method} {c : Code} {H : Heap} {locs : List Loc} {cells slots : Nat} {Q : State → Prop}
variable {cc : ByteArray} {nL : Nat} {Ts : List Cond} {own : String} {pc : Nat} {ls : Array Slot} {rest : List Value} {x y v : Int32}
theorem ior_to (S : CallFix p m c cc nL s args Ts own) (hv : x ||| y = v) (hdg : decode cc pc = .ok (.ior, 1)) (k : W p l e R s m args below meth c H locs cells slots Q (F0 m (pc + 1) ls (.int v :: rest))) : W p l e R s m args below meth c H locs cells slots Q (F0 m pc ls (.int y :: .int x :: rest)) :=
  lv_ior S.1 S.2.1 hdg (by rw [hv]; exact k)
theorem iand_to (S : CallFix p m c cc nL s args Ts own) (hv : x &&& y = v) (hdg : decode cc pc = .ok (.iand, 1)) (k : W p l e R s m args below meth c H locs cells slots Q (F0 m (pc + 1) ls (.int v :: rest))) : W p l e R s m args below meth c H locs cells slots Q (F0 m pc ls (.int y :: .int x :: rest)) :=
  lv_iand S.1 S.2.1 hdg (by rw [hv]; exact k)
theorem ixor_to (S : CallFix p m c cc nL s args Ts own) (hv : x ^^^ y = v) (hdg : decode cc pc = .ok (.ixor, 1)) (k : W p l e R s m args below meth c H locs cells slots Q (F0 m (pc + 1) ls (.int v :: rest))) : W p l e R s m args below meth c H locs cells slots Q (F0 m pc ls (.int y :: .int x :: rest)) :=
  lv_ixor S.1 S.2.1 hdg (by rw [hv]; exact k)
theorem iadd_to (S : CallFix p m c cc nL s args Ts own) (hv : x + y = v) (hdg : decode cc pc = .ok (.iadd, 1)) (k : W p l e R s m args below meth c H locs cells slots Q (F0 m (pc + 1) ls (.int v :: rest))) : W p l e R s m args below meth c H locs cells slots Q (F0 m pc ls (.int y :: .int x :: rest)) :=
  lv_iadd S.1 S.2.1 hdg (by rw [hv]; exact k)
theorem isub_to (S : CallFix p m c cc nL s args Ts own) (hv : x - y = v) (hdg : decode cc pc = .ok (.isub, 1)) (k : W p l e R s m args below meth c H locs cells slots Q (F0 m (pc + 1) ls (.int v :: rest))) : W p l e R s m args below meth c H locs cells slots Q (F0 m pc ls (.int y :: .int x :: rest)) :=
  lv_isub S.1 S.2.1 hdg (by rw [hv]; exact k)
theorem ishl_to (S : CallFix p m c cc nL s args Ts own) (hv : x <<< (y &&& 31) = v) (hdg : decode cc pc = .ok (.ishl, 1)) (k : W p l e R s m args below meth c H locs cells slots Q (F0 m (pc + 1) ls (.int v :: rest))) : W p l e R s m args below meth c H locs cells slots Q (F0 m pc ls (.int y :: .int x :: rest)) :=
  lv_ishl S.1 S.2.1 hdg (by rw [hv]; exact k)
theorem ishr_to (S : CallFix p m c cc nL s args Ts own) (hv : x >>> (y &&& 31) = v) (hdg : decode cc pc = .ok (.ishr, 1)) (k : W p l e R s m args below meth c H locs cells slots Q (F0 m (pc + 1) ls (.int v :: rest))) : W p l e R s m args below meth c H locs cells slots Q (F0 m pc ls (.int y :: .int x :: rest)) :=
  lv_ishr S.1 S.2.1 hdg (by rw [hv]; exact k)
/-- the same value on the stack in other words -/
theorem top_to (S : CallFix p m c cc nL s args Ts own) (hv : x = v) (k : W p l e R s m args below meth c H locs cells slots Q (F0 m pc ls (.int v :: rest))) : W p l e R s m args below meth c H locs cells slots Q (F0 m pc ls (.int x :: rest)) := by
  rw [hv]; exact k
end GO
theorem mp_set {G : GA} {a : Nat → Nat} {z z' k : St} {f : Nat → Int32} (h : f = fl z') : (mp G a z k).set 1 (a 1, .inl (G.2.2.1, (362, .inl f))) = mp G a z' k := by rw [h]; rfl
def Inv (z : St) : Prop := (∀ n, n < 8 → z 1 n = 0 ∨ z 1 n = 1) ∧ (∀ n, n < 8 → z 2 n = 0 ∨ z 2 n = 1) ∧ (∀ q, q < 64 → z 9 q = 0 ∨ z 9 q = 1) ∧ (∀ n, n < 8 → z 5 (8 * n + n) = 0) ∧ (∀ n b, n < 8 → b < 8 → z 9 (8 * n + b) = z 9 (8 * b + n)) ∧ ¬ z 0 1 < 0 ∧ z 0 4 = nI (z 0 4).toNatClampNeg ∧ (z 0 4).toNatClampNeg ≤ 3
section GS
variable {p : Program} {l : Launch} {e : Env} {R : Room} {s : State} {m : MethodId} {args : Array Value} {below : List Frame} {meth : Method} {c : Code} {H : Heap} {locs : List Loc} {cells slots : Nat} {Q : State → Prop}
variable {cc : ByteArray} {nL : Nat} {Ts : List Cond} {own : String} {pc : Nat} {ls : Array Slot} {rest : List Value}
/-- a static method that touches no cell -/
theorem met_ps {y : MethodName} {wd wd' : List Cond} {rm : Room} {maxL : Nat} {ret : Option FieldType} {av : List Value} (Qc : Array Value → State → Outcome → State → Prop) (hy : plainName y.cls = true) (hw : wd = Cond.code y cc maxL ret :: wd') (hlen : (lg_sl av).length ≤ maxL)
    (body : ∀ (p : Program) (e : Env) (s : State) (m : MethodId) (args : Array Value) (below : List Frame) (meth : Method) (c : Code) (R : Room) (Q : State → Prop) (H : Heap) (ls : Array Slot), R = rm → Q = MQ below Qc args s 0 0 (fun _ => False) → CallFix p m c cc maxL s args wd y.cls → meth.sig.returnType = ret → meth.locks = false → H = s.heap → lv_has ls maxL (lv_args 0 av) → W p l e R s m args below meth c H [] 0 0 Q (F0 m 0 ls [])) :
    Met l y wd rm (va_Pc av (fun _ => True)) Qc 0 0 (fun _ => False) := by
  refine Met.ofW (cc := cc) (maxL := maxL) (ret := ret) hy hw ?_
  intro p e s m args below meth c s₁ B hml hv
  obtain ⟨rfl, -⟩ := hv
  have hts := atoms_spec (ws := wd) B.pre
  have hown : s.vm.findClass y.cls = some m.cls := findClass_of_methodNamed B.named
  have hl := lv_entry av (n := maxL) hlen
  rw [lg_entry_eq]
  exact body p e s m _ below meth c _ _ _ _ rfl rfl ⟨B.exec, B.bytes, hml, hown, hts⟩ B.returns B.notSynchronized rfl hl
theorem en_p {post : Int32 → Prop} {v : Int32} {ty : FieldType} (hQ : Q = MQ below (vp_Si post) args s cells slots (fun _ => False)) (S : CallFix p m c cc nL s args Ts own) (hr : meth.sig.returnType = some ty) (hlocks : meth.locks = false) (hH : H = s.heap) (hn : narrow ty (.int v) = .int v) (hp : post v) (hdg : decode cc pc = .ok (.ireturn, 1)) :
    W p l e R s m args below meth c H [] cells slots Q (F0 m pc ls [.int v]) := by
  rw [hQ]
  exact W.zret (v := v) S.1 S.2.1 hr hn (fun t ht _ => ⟨v, rfl, hp, ht.trans hH⟩) (fun q h => by cases h) hdg hlocks
end GS
section GN
variable {p : Program} {l : Launch} {e : Env} {R : Room} {s : State} {m : MethodId} {args : Array Value} {below : List Frame} {meth : Method} {c : Code} {H : Heap} {locs : List Loc} {cells slots : Nat} {Q : State → Prop}
variable {cc : ByteArray} {nL : Nat} {Ts : List Cond} {own : String} {pc : Nat} {ls : Array Slot} {rest : List Value}
theorem nI_z {a : Nat} (h : a < 2 ^ 31) : nI a = 0 ↔ a = 0 := by
  rw [← nI_0]; exact nI_eq h (by decide)
theorem brN0_eq (S : CallFix p m c cc nL s args Ts own) {a : Nat} (ha : a < 2 ^ 31) {off : Int} {tgt : Nat} (hdg : decode cc pc = .ok (.ifCond .eq off, 3)) (ht : (pc : Int) + off = (tgt : Int)) (kt : a = 0 → W p l e R s m args below meth c H locs cells slots Q (F0 m tgt ls rest)) (kf : ¬ a = 0 → W p l e R s m args below meth c H locs cells slots Q (F0 m (pc + 3) ls rest)) : W p l e R s m args below meth c H locs cells slots Q (F0 m pc ls (.int (nI a) :: rest)) :=
  lv_if_eq S.1 S.2.1 hdg ht (fun h => kt ((nI_z ha).mp h)) (fun h => kf (fun h2 => h ((nI_z ha).mpr h2)))
theorem brN0_ne (S : CallFix p m c cc nL s args Ts own) {a : Nat} (ha : a < 2 ^ 31) {off : Int} {tgt : Nat} (hdg : decode cc pc = .ok (.ifCond .ne off, 3)) (ht : (pc : Int) + off = (tgt : Int)) (kt : ¬ a = 0 → W p l e R s m args below meth c H locs cells slots Q (F0 m tgt ls rest)) (kf : a = 0 → W p l e R s m args below meth c H locs cells slots Q (F0 m (pc + 3) ls rest)) : W p l e R s m args below meth c H locs cells slots Q (F0 m pc ls (.int (nI a) :: rest)) :=
  lv_if_ne S.1 S.2.1 hdg ht (fun h => kt (fun h2 => h ((nI_z ha).mpr h2))) (fun h => kf ((nI_z ha).mp h))
theorem brB1_eq (S : CallFix p m c cc nL s args Ts own) {b : Bool} {off : Int} {tgt : Nat} (hdg : decode cc pc = .ok (.if_icmp .eq off, 3)) (ht : (pc : Int) + off = (tgt : Int)) (kt : b = true → W p l e R s m args below meth c H locs cells slots Q (F0 m tgt ls rest)) (kf : b = false → W p l e R s m args below meth c H locs cells slots Q (F0 m (pc + 3) ls rest)) : W p l e R s m args below meth c H locs cells slots Q (F0 m pc ls (.int 1 :: .int (b2 b) :: rest)) :=
  lv_icmp_eq S.1 S.2.1 hdg ht (fun h => kt (b2_1.mp h)) (fun h => kf (by cases b with | true => exact absurd rfl h | false => rfl))
theorem brB1_ne (S : CallFix p m c cc nL s args Ts own) {b : Bool} {off : Int} {tgt : Nat} (hdg : decode cc pc = .ok (.if_icmp .ne off, 3)) (ht : (pc : Int) + off = (tgt : Int)) (kt : b = false → W p l e R s m args below meth c H locs cells slots Q (F0 m tgt ls rest)) (kf : b = true → W p l e R s m args below meth c H locs cells slots Q (F0 m (pc + 3) ls rest)) : W p l e R s m args below meth c H locs cells slots Q (F0 m pc ls (.int 1 :: .int (b2 b) :: rest)) :=
  lv_icmp_ne S.1 S.2.1 hdg ht (fun h => kt (by cases b with | true => exact absurd rfl h | false => rfl)) (fun h => kf (b2_1.mp h))
end GN
section GL
variable {p : Program} {l : Launch} {e : Env} {R : Room} {s : State} {m : MethodId} {args : Array Value} {below : List Frame} {meth : Method} {c : Code} {H : Heap} {locs : List Loc} {cells slots : Nat} {Q : State → Prop}
variable {cc : ByteArray} {nL : Nat} {Ts : List Cond} {own : String} {pc : Nat} {ls : Array Slot} {rest : List Value}
theorem lmul_to {x y v : Int64} (S : CallFix p m c cc nL s args Ts own) (hv : x * y = v) (hdg : decode cc pc = .ok (.lmul, 1)) (k : W p l e R s m args below meth c H locs cells slots Q (F0 m (pc + 1) ls (.long v :: rest))) : W p l e R s m args below meth c H locs cells slots Q (F0 m pc ls (.long y :: .long x :: rest)) :=
  lv_lmul S.1 S.2.1 hdg (by rw [hv]; exact k)
theorem ladd_to {x y v : Int64} (S : CallFix p m c cc nL s args Ts own) (hv : x + y = v) (hdg : decode cc pc = .ok (.ladd, 1)) (k : W p l e R s m args below meth c H locs cells slots Q (F0 m (pc + 1) ls (.long v :: rest))) : W p l e R s m args below meth c H locs cells slots Q (F0 m pc ls (.long y :: .long x :: rest)) :=
  lv_ladd S.1 S.2.1 hdg (by rw [hv]; exact k)
theorem lrem_to {x y v : Int64} (S : CallFix p m c cc nL s args Ts own) (hy : ¬ y = 0) (hv : x - x / y * y = v) (hdg : decode cc pc = .ok (.lrem, 1)) (k : W p l e R s m args below meth c H locs cells slots Q (F0 m (pc + 1) ls (.long v :: rest))) : W p l e R s m args below meth c H locs cells slots Q (F0 m pc ls (.long y :: .long x :: rest)) :=
  lv_lrem S.1 S.2.1 hdg hy (by rw [hv]; exact k)
theorem ldiv_to {x y v : Int64} (S : CallFix p m c cc nL s args Ts own) (hy : ¬ y = 0) (hv : x / y = v) (hdg : decode cc pc = .ok (.ldiv, 1)) (k : W p l e R s m args below meth c H locs cells slots Q (F0 m (pc + 1) ls (.long v :: rest))) : W p l e R s m args below meth c H locs cells slots Q (F0 m pc ls (.long y :: .long x :: rest)) :=
  lv_ldiv S.1 S.2.1 hdg hy (by rw [hv]; exact k)
theorem idiv_to {x y v : Int32} (S : CallFix p m c cc nL s args Ts own) (hy : ¬ y = 0) (hv : x / y = v) (hdg : decode cc pc = .ok (.idiv, 1)) (k : W p l e R s m args below meth c H locs cells slots Q (F0 m (pc + 1) ls (.int v :: rest))) : W p l e R s m args below meth c H locs cells slots Q (F0 m pc ls (.int y :: .int x :: rest)) :=
  lv_idiv S.1 S.2.1 hdg hy (by rw [hv]; exact k)
theorem irem_to {x y v : Int32} (S : CallFix p m c cc nL s args Ts own) (hy : ¬ y = 0) (hv : x - x / y * y = v) (hdg : decode cc pc = .ok (.irem, 1)) (k : W p l e R s m args below meth c H locs cells slots Q (F0 m (pc + 1) ls (.int v :: rest))) : W p l e R s m args below meth c H locs cells slots Q (F0 m pc ls (.int y :: .int x :: rest)) :=
  lv_irem S.1 S.2.1 hdg hy (by rw [hv]; exact k)
end GL
