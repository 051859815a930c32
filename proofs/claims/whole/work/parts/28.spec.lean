def kAp (c : Int32) (m : Nat) (k : St) : St := if inB c 33 126 = true ∧ ¬ m = 40 then st (st k 2 m c) 0 3 (nI (m + 1)) else k
theorem inB_126 {v : Int32} (h : inB v 33 126 = true) : ∃ n : Nat, n < 127 ∧ v = nI n := by
  obtain ⟨n, _, e, h2, _⟩ := inB_of h (by decide)
  have : (126 : Int32).toInt = 126 := rfl
  exact ⟨n, by omega, e⟩
theorem chr_i2c : ∀ n, n < 127 → ((nI n).toUInt32 % 65536).toInt32 = nI n := by decide +kernel
theorem chr_nar : ∀ n, n < 127 → vp_nar .char (nI n) = nI n := by decide +kernel
theorem chr_narrow : ∀ n, n < 127 → narrow .char (.int (nI n)) = .int (nI n) := by decide +kernel
def pAv (v : Int32) (z : St) : PO := on1 v z (fun _ => (0, 0, z))
def pFs (z : St) : PO := if z 0 5 = 0 then (1, 0, z) else (0, 0, z)
theorem i1n {v : Int32} (h : ¬ v ≤ 1) : 1 < v := i_nl h
/-- the world ahead of the saved one -/
def adr (a : Nat → Nat) : Nat → Nat := fun i => cond (Nat.blt i 12) (a (15 + i)) (a (i - 9))
