/-! the commands of a valid text, one behind the other -/
theorem sc_f (x : Nat → Int32) (m : Nat) : ∀ (q p : Nat) (z : St), (scX x m false q p z).2.1 = (scX x m false q p zz).2.1
  | 0, p, z => rfl
  | q + 1, p, z => by
    rw [scX, scX, DP_f, DP_f]
    split
    · split
      · exact sc_f x m q _ z
      · rfl
    · rfl
theorem sc_q (x : Nat → Int32) (m : Nat) : ∀ (q p : Nat) (z : St), (scX x m false q p z).1 = (scX x m false q p zz).1
  | 0, p, z => rfl
  | q + 1, p, z => by
    rw [scX, scX, DP_f, DP_f]
    split
    · split
      · exact sc_q x m q _ z
      · rfl
    · rfl
theorem sc_p (x : Nat → Int32) (m : Nat) : ∀ (q p : Nat) (z : St), p ≤ m → (scX x m false q p z).1 ≤ m
  | 0, p, z, h => h
  | q + 1, p, z, h => by
    have h1 := (cmd_le (x := x) h).2
    rw [scX, DP_f]
    split
    · next e =>
      split
      · exact sc_p x m q _ z (by have := e.2.2; omega)
      · exact h1
    · exact h1
def VL (x : Nat → Int32) (m n q : Nat) : Prop := (scX x m false (41 - n) q zz).2.1 = true
theorem vl_cmd {x : Nat → Int32} {m n q : Nat} (hn : n ≤ 40) (h : VL x m n q) : (cmd x m q).2.1 = true ∧ ((cmd x m q).1 < m → dgB x m 59 59 (cmd x m q).1 true = true ∧ VL x m (n + 1) ((cmd x m q).1 + 1)) := by
  unfold VL at h ⊢
  have hd : (DP x m false q zz).1 = 0 := by rw [DP_f]
  have hz : (DP x m false q zz).2.2 = zz := by rw [DP_f]
  by_cases hc : (cmd x m q).2.1 = true
  · refine ⟨hc, fun hlt => ?_⟩
    by_cases hg : dgB x m 59 59 (cmd x m q).1 true = true
    · refine ⟨hg, ?_⟩
      have := congrArg (fun v : SR => v.2.1) (scX_go (dn := false) (z := zz) hn hc hd hlt hg)
      dsimp only [adN] at this
      rw [hz] at this
      rw [← this]; exact h
    · have hg : dgB x m 59 59 (cmd x m q).1 true = false := by
        cases e : dgB x m 59 59 (cmd x m q).1 true
        · rfl
        · exact absurd e hg
      have := congrArg (fun v : SR => v.2.1) (scX_e2 (dn := false) (z := zz) hn hc hd hlt hg)
      dsimp only [adN] at this
      rw [this] at h; cases h
  · exfalso
    have := congrArg (fun v : SR => v.2.1) (scX_e1 (dn := false) (z := zz) (n := n) hn (fun h2 => hc h2.1))
    dsimp only [adN] at this
    rw [this] at h; exact hc h
theorem vl_lt {x : Nat → Int32} {m n q : Nat} (hn : n ≤ 40) (h : VL x m n q) (hq : q ≤ m) : q < m := by
  refine Nat.lt_of_le_of_ne hq fun e => ?_
  have h1 := (vl_cmd hn h).1
  rw [(cmd_0 (x := x) (m := m) (p := q) (by rw [sg, if_neg (by omega)]; rfl)).2] at h1
  cases h1
/-- where the run stands -/
def RI (x : Nat → Int32) (m n q : Nat) (z t : St) : Prop := (q < m ∧ VL x m n q ∧ scX x m true 41 0 z = adN n (scX x m true (41 - n) q t)) ∨ (m ≤ q ∧ (scX x m true 41 0 z).2.2 = (n, t, 0))
theorem ri_0 {x : Nat → Int32} {m : Nat} {z : St} (h : flt x m = -1) (hm : m ≤ 40) : RI x m 0 0 z z ∧ (scX x m false 41 0 z).2.1 = true := by
  have hv : VL x m 0 0 := by
    unfold flt at h
    split at h
    · assumption
    · exfalso
      refine nI_m1 ?_ h
      have := sc_p x m 41 0 zz (Nat.zero_le _)
      omega
  refine ⟨Or.inl ⟨vl_lt (by decide) hv (Nat.zero_le _), hv, (adN_0 _).symm⟩, ?_⟩
  rw [sc_f x m 41 0 z]; exact hv
theorem ri_f {x : Nat → Int32} {m : Nat} {z : St} (h : ¬ flt x m = -1) : (scX x m false 41 0 z).2.1 = false ∧ flt x m = nI (scX x m false 41 0 z).1 := by
  unfold flt at h ⊢
  rw [sc_f x m 41 0 z, sc_q x m 41 0 z]
  split
  · next e => rw [if_pos e] at h; exact absurd rfl h
  · next e => exact ⟨by cases e2 : (scX x m false 41 0 zz).2.1 <;> simp_all, rfl⟩
theorem ri_go {x : Nat → Int32} {m n q : Nat} {z t : St} (hn : n ≤ 39) (h : RI x m n q z t) (hq : q < m) (hF : (DP x m true q t).1 = 0) : RI x m (n + 1) ((cmd x m q).1 + 1) z (DP x m true q t).2.2 := by
  obtain ⟨_, hv, hs⟩ := h.resolve_right (fun h2 => by omega)
  obtain ⟨h1, h2⟩ := vl_cmd (by omega) hv
  by_cases hlt : (cmd x m q).1 < m
  · obtain ⟨h3, h4⟩ := h2 hlt
    exact Or.inl ⟨vl_lt (by omega) h4 (by omega), h4, by rw [hs, scX_go (by omega) h1 hF hlt h3]⟩
  · refine Or.inr ⟨by omega, ?_⟩
    rw [hs, scX_e1 (by omega) (fun h => hlt h.2.2), hF]
    rfl
theorem ri_x {x : Nat → Int32} {m n q : Nat} {z t : St} (hn : n ≤ 39) (h : RI x m n q z t) (hq : q < m) (hF : ¬ (DP x m true q t).1 = 0) : (scX x m true 41 0 z).2.2 = (n, (DP x m true q t).2.2, (DP x m true q t).1) := by
  obtain ⟨_, hv, hs⟩ := h.resolve_right (fun h2 => by omega)
  rw [hs, scX_e1 (by omega) (fun h => hF h.2.1), if_neg hF]
  rfl
theorem ri_e {x : Nat → Int32} {m n q : Nat} {z t : St} (h : RI x m n q z t) (hq : m ≤ q) : (scX x m true 41 0 z).2.2 = (n, t, 0) := (h.resolve_left (fun h2 => by omega)).2
