def xr (c : Int32) : Nat := if c = 0 then 0 else if c = 1 then 1 else 2
def kR (k : St) (F N : Int32) : St := st (st (st k 0 3 0) 0 1 F) 0 2 N
theorem rT_1 {x : Nat → Int32} {m : Nat} {z : St} (h : ¬ flt x m = -1) : rT x m z = (1, 0, z, 1, flt x m) := by
  obtain ⟨h1, h2⟩ := ri_f (z := z) h
  rw [rT, if_neg (by rw [h1]; decide), h2]
theorem rT_0 {x : Nat → Int32} {m n : Nat} {z t : St} (hv : (scX x m false 41 0 z).2.1 = true) (h : (scX x m true 41 0 z).2.2 = (n, t, 0)) : rT x m z = (0, nI n, t, 0, 0) := by
  rw [rT, if_pos hv, h]
  rfl
theorem rT_2 {x : Nat → Int32} {m n : Nat} {z t : St} {F : Int32} (hv : (scX x m false 41 0 z).2.1 = true) (h : (scX x m true 41 0 z).2.2 = (n, t, F)) (hF : ¬ F = 0) : rT x m z = (2, 0, t, F, nI n) := by
  rw [rT, if_pos hv, h]
  dsimp only
  rw [if_neg hF]
theorem DP_k {x : Nat → Int32} {m p : Nat} {z : St} (hV : (cmd x m p).2.1 = true) : (DP x m true p z).1 = 0 ∨ (DP x m true p z).1 = 2 ∨ (DP x m true p z).1 = 3 := by
  rcases cmd_l hV with h | h | h | h
  · obtain ⟨n, hn, _, e⟩ := DP_c (z := z) hV h
    rw [e]
    rcases pC_n hn z with h | h
    · exact Or.inl h
    · exact Or.inr (Or.inl h)
  · obtain ⟨n, b, hn, hb, _, _, e⟩ := DP_j (z := z) hV h
    rw [e]; exact pJ_n hn hb z
  · obtain ⟨n, b, hn, hb, _, _, e⟩ := DP_p (z := z) hV h
    rw [e]; exact Or.inl (pM_n hn hb z)
  · obtain ⟨n, h1, h2, _, e⟩ := DP_r (z := z) hV h
    rw [e, pR_n h1 h2]; exact Or.inl rfl
theorem DP_1 {x : Nat → Int32} {m p : Nat} {z : St} (hV : (cmd x m p).2.1 = true) : ¬ (DP x m true p z).1 = 1 := by
  rcases DP_k (z := z) hV with h | h | h <;> rw [h] <;> decide
theorem DP_xc {x : Nat → Int32} {m p : Nat} {z : St} : xc (DP x m true p z).1 ≤ 1 := by unfold xc; split <;> omega
