/-! the class's text -/
abbrev txp (G : GA) (a : Nat → Nat) (k : St) : va_W := [(a 0, .inr (0, [.ref (a 1), .int (k 0 3)])), (a 1, .inl (G.2.2.2, (40, .inl (k 2))))]
/-- the signs are signs -/
def SG (x : Nat → Int32) : Prop := ∀ j, narrow .char (.int (x j)) = .int (x j)
def sg (x : Nat → Int32) (m p : Nat) : Int32 := if p < m then x p else 0
theorem sg_nar {x : Nat → Int32} (h : SG x) (m p : Nat) : narrow .char (.int (sg x m p)) = .int (sg x m p) := by
  unfold sg; split
  · exact h p
  · rfl
def dgs (c : Int32) : Nat := if c = 99 ∨ c = 114 then 1 else if c = 106 ∨ c = 112 then 2 else 0
theorem dgs_le (c : Int32) : dgs c ≤ 2 := by unfold dgs; split; · omega
                                             · split <;> omega
theorem dg_cases (c : Int32) : c = 99 ∨ c = 106 ∨ c = 112 ∨ c = 114 ∨ (¬ c = 99 ∧ ¬ c = 106 ∧ ¬ c = 112 ∧ ¬ c = 114) := by
  by_cases h1 : c = 99
  · exact Or.inl h1
  · by_cases h2 : c = 106
    · exact Or.inr (Or.inl h2)
    · by_cases h3 : c = 112
      · exact Or.inr (Or.inr (Or.inl h3))
      · by_cases h4 : c = 114
        · exact Or.inr (Or.inr (Or.inr (Or.inl h4)))
        · exact Or.inr (Or.inr (Or.inr (Or.inr ⟨h1, h2, h3, h4⟩)))
def isD (l : Int32) (p : Nat) (s : Int32) : Bool := if l = 114 then inB s 49 57 else inB s 48 (if l = 112 ∧ p = 2 then 51 else 55)
theorem inB_sg {x : Nat → Int32} {m p : Nat} {lo hi : Int32} (hlo : 0 < lo) : inB (sg x m p) lo hi = inB (hrx x m p) lo hi := by
  unfold sg hrx
  split
  · rfl
  · have h0 : inB 0 lo hi = false := by
      unfold inB; simp [hlo]
    have h1 : inB (-1) lo hi = false := by
      unfold inB
      have : (-1 : Int32) < lo := by
        rw [i_lt] at hlo ⊢
        have : (0 : Int32).toInt = 0 := rfl
        have : (-1 : Int32).toInt = -1 := rfl
        omega
      simp [this]
    rw [h0, h1]
theorem sg_hr {x : Nat → Int32} {m p : Nat} (h : p < m) : hrx x m p = sg x m p := by rw [hrx, sg, if_pos h, if_pos h]
theorem dgs_0 {x : Nat → Int32} {m p : Nat} (h : dgs (sg x m p) = 0) : isL (hrx x m p) = false := by
  by_cases e : p < m
  · rw [sg_hr e]
    unfold dgs at h
    unfold isL
    split at h
    · cases h
    · next h1 =>
      split at h
      · cases h
      · next h2 =>
        simp only [not_or] at h1 h2
        simp [h1, h2]
  · rw [hrx, if_neg e]; rfl
theorem cmd_0 {x : Nat → Int32} {m p : Nat} (h : dgs (sg x m p) = 0) : (cmd x m p).1 = p ∧ (cmd x m p).2.1 = false := by
  have h1 := dgs_0 h
  have h2 : (cm2 x m p).1 = p ∧ (cm2 x m p).2.1 = false := by
    unfold cm2 dgP dgB cm1
    rw [h1]
    exact ⟨rfl, rfl⟩
  have hn6 : ¬ hrx x m p = 106 := fun e => by rw [e] at h1; exact absurd h1 (by decide)
  have hn2 : ¬ hrx x m p = 112 := fun e => by rw [e] at h1; exact absurd h1 (by decide)
  unfold cmd
  rw [if_neg hn6, if_neg hn2]
  exact h2
theorem dgs_n0 {x : Nat → Int32} {m p : Nat} (h : ¬ dgs (sg x m p) = 0) : p < m ∧ isL (hrx x m p) = true := by
  have e : p < m := by
    refine Nat.lt_of_not_le fun h2 => h ?_
    rw [sg, if_neg (by omega)]; rfl
  refine ⟨e, ?_⟩
  rw [sg_hr e]
  unfold dgs at h
  unfold isL
  split at h
  · next h1 => rcases h1 with h1 | h1 <;> simp [h1]
  · split at h
    · next h1 => rcases h1 with h1 | h1 <;> simp [h1]
    · exact absurd rfl h
theorem cm2_1 {x : Nat → Int32} {m p : Nat} (h : ¬ dgs (sg x m p) = 0) : (cm2 x m p).2.1 = isD (sg x m p) 1 (sg x m (p + 1)) ∧ (cm2 x m p).1 = if isD (sg x m p) 1 (sg x m (p + 1)) = true then p + 2 else p + 1 := by
  obtain ⟨hp, hL⟩ := dgs_n0 h
  have hc : cm1 x m p = p + 1 := by rw [cm1, if_pos hL]
  have hb : dgB x m (cmLo (hrx x m p)) (cmHi (hrx x m p)) (cm1 x m p) (isL (hrx x m p)) = isD (sg x m p) 1 (sg x m (p + 1)) := by
    rw [hc, hL, dgB, Bool.true_and, sg_hr hp]
    unfold cmLo cmHi isD
    by_cases e : sg x m p = 114
    · rw [if_pos e, if_pos e, if_pos e, inB_sg (by decide)]
    · rw [if_neg e, if_neg e, if_neg e, if_neg (by rintro ⟨_, h⟩; cases h), inB_sg (by decide)]
  refine ⟨hb, ?_⟩
  show dgP x m (cmLo (hrx x m p)) (cmHi (hrx x m p)) (cm1 x m p) (isL (hrx x m p)) = _
  rw [dgP, hb, hc]
theorem cmd_s {x : Nat → Int32} {m p : Nat} (h : ¬ dgs (sg x m p) = 0) : ((cmd x m p).2.1 = if dgs (sg x m p) = 1 then isD (sg x m p) 1 (sg x m (p + 1)) else (isD (sg x m p) 1 (sg x m (p + 1)) && isD (sg x m p) 2 (sg x m (p + 2)))) ∧ (cmd x m p).1 = if isD (sg x m p) 1 (sg x m (p + 1)) = true then (if dgs (sg x m p) = 2 ∧ isD (sg x m p) 2 (sg x m (p + 2)) = true then p + 3 else p + 2) else p + 1 := by
  obtain ⟨hp, hL⟩ := dgs_n0 h
  obtain ⟨h1, h2⟩ := cm2_1 h
  have two : ∀ hi : Int32, isD (sg x m p) 2 (sg x m (p + 2)) = inB (sg x m (p + 2)) 48 hi → (dgB x m 48 hi (cm2 x m p).1 (cm2 x m p).2.1 = (isD (sg x m p) 1 (sg x m (p + 1)) && isD (sg x m p) 2 (sg x m (p + 2)))) ∧ dgP x m 48 hi (cm2 x m p).1 (cm2 x m p).2.1 = if isD (sg x m p) 1 (sg x m (p + 1)) = true then (if isD (sg x m p) 2 (sg x m (p + 2)) = true then p + 3 else p + 2) else p + 1 := by
    intro hi he
    rw [dgP, dgB, h1, h2]
    cases hb : isD (sg x m p) 1 (sg x m (p + 1))
    · simp
    · rw [if_pos rfl, ← inB_sg (by decide), ← he]
      simp
  have hs := sg_hr (x := x) hp
  unfold cmd
  rw [hs]
  by_cases e6 : sg x m p = 106
  · have hd : dgs (sg x m p) = 2 := by rw [e6]; decide
    have t := two 55 (by unfold isD; rw [e6]; rfl)
    rw [if_pos e6, hd]
    exact ⟨t.1, by rw [show (if isD (sg x m p) 1 (sg x m (p + 1)) = true then (if (2 : Nat) = 2 ∧ isD (sg x m p) 2 (sg x m (p + 2)) = true then p + 3 else p + 2) else p + 1) = (if isD (sg x m p) 1 (sg x m (p + 1)) = true then (if isD (sg x m p) 2 (sg x m (p + 2)) = true then p + 3 else p + 2) else p + 1) by simp]; exact t.2⟩
  · rw [if_neg e6]
    by_cases e2 : sg x m p = 112
    · have hd : dgs (sg x m p) = 2 := by rw [e2]; decide
      have t := two 51 (by unfold isD; rw [e2]; rfl)
      rw [if_pos e2, hd]
      exact ⟨t.1, by rw [show (if isD (sg x m p) 1 (sg x m (p + 1)) = true then (if (2 : Nat) = 2 ∧ isD (sg x m p) 2 (sg x m (p + 2)) = true then p + 3 else p + 2) else p + 1) = (if isD (sg x m p) 1 (sg x m (p + 1)) = true then (if isD (sg x m p) 2 (sg x m (p + 2)) = true then p + 3 else p + 2) else p + 1) by simp]; exact t.2⟩
    · rw [if_neg e2]
      have hd : dgs (sg x m p) = 1 := by
        have h9 := h
        unfold dgs at h9 ⊢
        split
        · rfl
        · next e => rw [if_neg e, if_neg (by simp [e6, e2])] at h9; exact absurd rfl h9
      rw [hd]
      exact ⟨h1, by rw [h2]; simp⟩
theorem cmd_fail {x : Nat → Int32} {m p k : Nat} (h : ¬ dgs (sg x m p) = 0) (hk : 1 ≤ k) (hk2 : k ≤ dgs (sg x m p)) (ho : ∀ j, 1 ≤ j → j < k → isD (sg x m p) j (sg x m (p + j)) = true) (hf : isD (sg x m p) k (sg x m (p + k)) = false) : (cmd x m p).2.1 = false ∧ (cmd x m p).1 = p + k := by
  obtain ⟨h1, h2⟩ := cmd_s h
  have hd := dgs_le (sg x m p)
  rcases (show k = 1 ∨ k = 2 by omega) with rfl | rfl
  · rw [h1, h2, hf]
    simp
  · have h11 := ho 1 (by decide) (by decide)
    have hd2 : dgs (sg x m p) = 2 := by omega
    rw [h1, h2, hf, h11, hd2]
    simp
theorem cmd_ok {x : Nat → Int32} {m p k : Nat} (h : ¬ dgs (sg x m p) = 0) (hk2 : dgs (sg x m p) < k) (ho : ∀ j, 1 ≤ j → j < k → isD (sg x m p) j (sg x m (p + j)) = true) : (cmd x m p).2.1 = true ∧ (cmd x m p).1 = p + (1 + dgs (sg x m p)) := by
  obtain ⟨h1, h2⟩ := cmd_s h
  have hd := dgs_le (sg x m p)
  have h11 := ho 1 (by decide) (by omega)
  rcases (show dgs (sg x m p) = 1 ∨ dgs (sg x m p) = 2 by omega) with hd2 | hd2
  · rw [h1, h2, h11, hd2]
    simp
  · have h12 := ho 2 (by decide) (by omega)
    rw [h1, h2, h11, h12, hd2]
    simp
theorem cmd_len {x : Nat → Int32} {m p : Nat} (h : (cmd x m p).2.1 = true) : (cmd x m p).1 = p + (1 + dgs (sg x m p)) := by
  by_cases e : dgs (sg x m p) = 0
  · rw [(cmd_0 e).2] at h; cases h
  · obtain ⟨h1, h2⟩ := cmd_s e
    have hd := dgs_le (sg x m p)
    rw [h1] at h
    rcases (show dgs (sg x m p) = 1 ∨ dgs (sg x m p) = 2 by omega) with hd2 | hd2
    · rw [hd2] at h
      rw [h2, hd2]
      simp at h
      simp [h]
    · rw [hd2] at h
      rw [h2, hd2]
      simp at h
      simp [h]
def ffc (x : Nat → Int32) (m p : Nat) : Int32 := if (cmd x m p).2.1 = true then -1 else nI (cmd x m p).1
theorem nI_m1 {n : Nat} (h : n < 2 ^ 31) : ¬ nI n = -1 := fun e => by
  have := congrArg Int32.toInt e
  rw [nI_toInt h] at this
  have : (-1 : Int32).toInt = -1 := rfl
  omega
theorem ffc_y {x : Nat → Int32} {m p : Nat} (hp : p ≤ m) (hm : m ≤ 40) (h : ffc x m p = -1) : (cmd x m p).2.1 = true := by
  cases e : (cmd x m p).2.1
  · exfalso
    rw [ffc, if_neg (by rw [e]; decide)] at h
    exact nI_m1 (by have := (cmd_le (x := x) hp).2; omega) h
  · rfl
theorem ffc_n {x : Nat → Int32} {m p : Nat} (h : ¬ ffc x m p = -1) : (cmd x m p).2.1 = false ∧ ffc x m p = nI (cmd x m p).1 := by
  cases e : (cmd x m p).2.1
  · exact ⟨rfl, by rw [ffc, if_neg (by rw [e]; decide)]⟩
  · exact absurd (by rw [ffc, if_pos e]) h
/-- the fault of a text -/
def flt (x : Nat → Int32) (m : Nat) : Int32 := if (scX x m false 41 0 zz).2.1 = true then -1 else nI (scX x m false 41 0 zz).1
theorem DP_f (x : Nat → Int32) (m p : Nat) (z : St) : DP x m false p z = (0, 0, z) := by rw [DP, if_neg (by decide)]
theorem dgB59 {x : Nat → Int32} {m p : Nat} (h : sg x m p = 59) : dgB x m 59 59 p true = true := by
  have e : p < m := by
    refine Nat.lt_of_not_le fun h2 => ?_
    rw [sg, if_neg (by omega)] at h
    exact absurd h (by decide)
  rw [dgB, sg_hr e, h]; decide
theorem dgB59n {x : Nat → Int32} {m p : Nat} (h : ¬ sg x m p = 59) : dgB x m 59 59 p true = false := by
  cases e : dgB x m 59 59 p true
  · rfl
  · obtain ⟨h1, _, h2⟩ := dgB_lt (by decide) e
    exfalso
    apply h
    rw [sg, if_pos h1]
    unfold inB at h2
    simp only [Bool.and_eq_true, Bool.not_eq_true', decide_eq_false_iff_not] at h2
    rw [i_lt, i_lt] at h2
    rw [i_eq]
    omega
