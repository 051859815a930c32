/-! a command, carried out -/
theorem dig {s hi : Int32} (h : inB s 48 hi = true) : ∃ n : Nat, (n : Int) + 48 ≤ hi.toInt ∧ n < 2 ^ 31 ∧ s - 48 = nI n := by
  obtain ⟨n, hn, rfl, h2, h3⟩ := inB_of h (by decide)
  have e : (48 : Int32).toInt = 48 := rfl
  refine ⟨n - 48, by omega, by omega, ?_⟩
  exact pk_sub (a := n) (b := 48) (by omega)
theorem dig9 {s : Int32} (h : inB s 49 57 = true) : ∃ n : Nat, 1 ≤ n ∧ n ≤ 9 ∧ s - 48 = nI n := by
  obtain ⟨n, hn, rfl, h2, h3⟩ := inB_of h (by decide)
  have e : (49 : Int32).toInt = 49 := rfl
  have e2 : (57 : Int32).toInt = 57 := rfl
  refine ⟨n - 48, by omega, by omega, ?_⟩
  exact pk_sub (a := n) (b := 48) (by omega)
theorem isD_in {x : Nat → Int32} {m p : Nat} {lo hi : Int32} (hlo : 0 < lo) (h : inB (sg x m p) lo hi = true) : p < m ∧ sg x m p = x p := by
  have e : p < m := by
    refine Nat.lt_of_not_le fun h2 => ?_
    rw [sg, if_neg (by omega)] at h
    unfold inB at h
    simp [hlo] at h
  exact ⟨e, by rw [sg, if_pos e]⟩
theorem cm2_v {x : Nat → Int32} {m p : Nat} (h : ¬ dgs (sg x m p) = 0) (h1 : isD (sg x m p) 1 (sg x m (p + 1)) = true) : (cm2 x m p).2.2 = sg x m (p + 1) - 48 := by
  obtain ⟨hp, hL⟩ := dgs_n0 h
  have hc : cm1 x m p = p + 1 := by rw [cm1, if_pos hL]
  have hb := (cm2_1 h).1
  rw [h1] at hb
  have hs : sg x m (p + 1) = x (p + 1) := by
    unfold isD at h1
    split at h1
    · exact (isD_in (by decide) h1).2
    · exact (isD_in (by decide) h1).2
  show dgV x m (cmLo (hrx x m p)) (cmHi (hrx x m p)) (cm1 x m p) (isL (hrx x m p)) = _
  rw [dgV, if_pos (show dgB x m (cmLo (hrx x m p)) (cmHi (hrx x m p)) (cm1 x m p) (isL (hrx x m p)) = true from hb), hc, hs]
theorem cmd_v {x : Nat → Int32} {m p : Nat} (hV : (cmd x m p).2.1 = true) : ¬ dgs (sg x m p) = 0 ∧ hrx x m p = sg x m p ∧ isD (sg x m p) 1 (sg x m (p + 1)) = true ∧ (cmd x m p).2.2.1 = sg x m (p + 1) - 48 ∧ (dgs (sg x m p) = 2 → isD (sg x m p) 2 (sg x m (p + 2)) = true ∧ (cmd x m p).2.2.2 = sg x m (p + 2) - 48) := by
  have h0 : ¬ dgs (sg x m p) = 0 := fun e => by rw [(cmd_0 e).2] at hV; cases hV
  obtain ⟨hs1, -⟩ := cmd_s h0
  have hd := dgs_le (sg x m p)
  rw [hs1] at hV
  have h1 : isD (sg x m p) 1 (sg x m (p + 1)) = true := by
    split at hV
    · exact hV
    · rw [Bool.and_eq_true] at hV; exact hV.1
  refine ⟨h0, sg_hr (dgs_n0 h0).1, h1, by rw [cmd_a, cm2_v h0 h1], fun h2 => ?_⟩
  rw [if_neg (by omega), Bool.and_eq_true] at hV
  refine ⟨hV.2, ?_⟩
  obtain ⟨c1, c2⟩ := cm2_1 h0
  rw [h1] at c1
  rw [h1, if_pos rfl] at c2
  have hs := sg_hr (x := x) (dgs_n0 h0).1
  unfold cmd
  rw [hs]
  by_cases e6 : sg x m p = 106
  · rw [if_pos e6]
    have hD : inB (sg x m (p + 2)) 48 55 = true := by
      have := hV.2; unfold isD at this; rw [e6] at this; exact this
    have hi := isD_in (by decide) hD
    show dgV x m 48 55 (cm2 x m p).1 (cm2 x m p).2.1 = _
    rw [c1, c2, dgV, dgB, Bool.true_and, ← inB_sg (by decide), hD, if_pos rfl, hi.2]
  · have e2 : sg x m p = 112 := by
      unfold dgs at h2
      split at h2
      · cases h2
      · split at h2
        · next h => exact h.resolve_left e6
        · cases h2
    rw [if_neg e6, if_pos e2]
    have hD : inB (sg x m (p + 2)) 48 51 = true := by
      have := hV.2; unfold isD at this; rw [e2] at this; exact this
    have hi := isD_in (by decide) hD
    show dgV x m 48 51 (cm2 x m p).1 (cm2 x m p).2.1 = _
    rw [c1, c2, dgV, dgB, Bool.true_and, ← inB_sg (by decide), hD, if_pos rfl, hi.2]
theorem DP_t (x : Nat → Int32) (m p : Nat) (z : St) : DP x m true p z = dsP (hrx x m p) (cmd x m p).2.2.1 (cmd x m p).2.2.2 z := by rw [DP, if_pos rfl]
theorem DP_c {x : Nat → Int32} {m p : Nat} {z : St} (hV : (cmd x m p).2.1 = true) (hl : sg x m p = 99) : ∃ n : Nat, n < 8 ∧ sg x m (p + 1) - 48 = nI n ∧ DP x m true p z = pC (nI n) z := by
  obtain ⟨h0, h1, h2, h3, h4⟩ := cmd_v hV
  have hD : inB (sg x m (p + 1)) 48 55 = true := by unfold isD at h2; rw [hl] at h2; exact h2
  obtain ⟨n, e1, e2, e3⟩ := dig hD
  have : (55 : Int32).toInt = 55 := rfl
  exact ⟨n, by omega, e3, by rw [DP_t, ds_c (h1.trans hl), h3, e3]⟩
theorem DP_j {x : Nat → Int32} {m p : Nat} {z : St} (hV : (cmd x m p).2.1 = true) (hl : sg x m p = 106) : ∃ n b : Nat, n < 8 ∧ b < 8 ∧ sg x m (p + 1) - 48 = nI n ∧ sg x m (p + 2) - 48 = nI b ∧ DP x m true p z = pJ (nI n) (nI b) z := by
  obtain ⟨h0, h1, h2, h3, h4⟩ := cmd_v hV
  have hd : dgs (sg x m p) = 2 := by rw [hl]; decide
  obtain ⟨h5, h6⟩ := h4 hd
  have hD : inB (sg x m (p + 1)) 48 55 = true := by unfold isD at h2; rw [hl] at h2; exact h2
  have hE : inB (sg x m (p + 2)) 48 55 = true := by unfold isD at h5; rw [hl] at h5; exact h5
  obtain ⟨n, e1, e2, e3⟩ := dig hD
  obtain ⟨b, f1, f2, f3⟩ := dig hE
  have : (55 : Int32).toInt = 55 := rfl
  refine ⟨n, b, by omega, by omega, e3, f3, ?_⟩
  rw [DP_t, ds_j (by rw [h1, hl]; decide) (h1.trans hl), h3, h6, e3, f3]
theorem DP_p {x : Nat → Int32} {m p : Nat} {z : St} (hV : (cmd x m p).2.1 = true) (hl : sg x m p = 112) : ∃ n b : Nat, n < 8 ∧ b < 4 ∧ sg x m (p + 1) - 48 = nI n ∧ sg x m (p + 2) - 48 = nI b ∧ DP x m true p z = pM (nI n) (nI b) z := by
  obtain ⟨h0, h1, h2, h3, h4⟩ := cmd_v hV
  have hd : dgs (sg x m p) = 2 := by rw [hl]; decide
  obtain ⟨h5, h6⟩ := h4 hd
  have hD : inB (sg x m (p + 1)) 48 55 = true := by unfold isD at h2; rw [hl] at h2; exact h2
  have hE : inB (sg x m (p + 2)) 48 51 = true := by unfold isD at h5; rw [hl] at h5; exact h5
  obtain ⟨n, e1, e2, e3⟩ := dig hD
  obtain ⟨b, f1, f2, f3⟩ := dig hE
  have : (55 : Int32).toInt = 55 := rfl
  have : (51 : Int32).toInt = 51 := rfl
  refine ⟨n, b, by omega, by omega, e3, f3, ?_⟩
  rw [DP_t, ds_p (by rw [h1, hl]; decide) (by rw [h1, hl]; decide) (h1.trans hl), h3, h6, e3, f3]
theorem DP_r {x : Nat → Int32} {m p : Nat} {z : St} (hV : (cmd x m p).2.1 = true) (hl : sg x m p = 114) : ∃ n : Nat, 1 ≤ n ∧ n ≤ 9 ∧ sg x m (p + 1) - 48 = nI n ∧ DP x m true p z = pR (nI n) z := by
  obtain ⟨h0, h1, h2, h3, h4⟩ := cmd_v hV
  have hD : inB (sg x m (p + 1)) 49 57 = true := by unfold isD at h2; rw [hl] at h2; exact h2
  obtain ⟨n, e1, e2, e3⟩ := dig9 hD
  exact ⟨n, e1, e2, e3, by rw [DP_t, ds_r (by rw [h1, hl]; decide) (by rw [h1, hl]; decide) (by rw [h1, hl]; decide), h3, e3]⟩
theorem inB_le : ∀ n, 1 ≤ n → n ≤ 9 → inB (nI n) 1 50 = true := by
  intro n h1 h2
  have : ∀ k, k < 10 → 1 ≤ k → inB (nI k) 1 50 = true := by decide
  exact this n (by omega) h1
theorem inB_3 : ∀ b, b < 4 → inB (nI b) 0 3 = true := by decide
theorem pR_n {n : Nat} (h1 : 1 ≤ n) (h2 : n ≤ 9) (z : St) : pR (nI n) z = (0, rds z n 0 0, rds z n) := by rw [pR, if_pos (inB_le n h1 h2), tN_q (by omega)]
theorem pM_n {n b : Nat} (h1 : n < 8) (h2 : b < 4) (z : St) : (pM (nI n) (nI b) z).1 = 0 := by rw [pM, on1_n h1, if_pos (inB_3 b h2)]
theorem pC_n {n : Nat} (h1 : n < 8) (z : St) : (pC (nI n) z).1 = 0 ∨ (pC (nI n) z).1 = 2 := by
  rw [pC, on1_n h1]
  split
  · exact Or.inr rfl
  · exact Or.inl rfl
theorem pJ_n {n b : Nat} (h1 : n < 8) (h2 : b < 8) (z : St) : (pJ (nI n) (nI b) z).1 = 0 ∨ (pJ (nI n) (nI b) z).1 = 2 ∨ (pJ (nI n) (nI b) z).1 = 3 := by
  rw [pJ, on2_n h1 h2]
  split
  · exact Or.inr (Or.inl rfl)
  · split
    · exact Or.inr (Or.inr rfl)
    · exact Or.inl rfl
theorem cmd_l {x : Nat → Int32} {m p : Nat} (hV : (cmd x m p).2.1 = true) : sg x m p = 99 ∨ sg x m p = 106 ∨ sg x m p = 112 ∨ sg x m p = 114 := by
  have h0 := (cmd_v hV).1
  unfold dgs at h0
  split at h0
  · next h => rcases h with h | h <;> simp [h]
  · split at h0
    · next h => rcases h with h | h <;> simp [h]
    · exact absurd rfl h0
