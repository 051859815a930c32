/-! the text -/
/-- what is here, in a text of a length -/
def hrx (x : Nat → Int32) (m p : Nat) : Int32 := if p < m then x p else -1
def dgB (x : Nat → Int32) (m : Nat) (lo hi : Int32) (p : Nat) (r : Bool) : Bool := r && inB (hrx x m p) lo hi
def dgP (x : Nat → Int32) (m : Nat) (lo hi : Int32) (p : Nat) (r : Bool) : Nat := if dgB x m lo hi p r = true then p + 1 else p
def dgV (x : Nat → Int32) (m : Nat) (lo hi : Int32) (p : Nat) (r : Bool) : Int32 := if dgB x m lo hi p r = true then x p - 48 else 0
theorem dgB_lt {x : Nat → Int32} {m : Nat} {lo hi : Int32} {p : Nat} {r : Bool} (hlo : ¬ lo < 0) (h : dgB x m lo hi p r = true) : p < m ∧ r = true ∧ inB (x p) lo hi = true := by
  unfold dgB hrx at h
  rw [Bool.and_eq_true] at h
  by_cases e : p < m
  · rw [if_pos e] at h; exact ⟨e, h.1, h.2⟩
  · exfalso
    rw [if_neg e] at h
    have h2 := h.2
    unfold inB at h2
    simp only [Bool.and_eq_true, Bool.not_eq_true', decide_eq_false_iff_not] at h2
    rw [i_lt] at hlo h2
    have : (0 : Int32).toInt = 0 := rfl
    have : (-1 : Int32).toInt = -1 := rfl
    omega
def isL (c : Int32) : Bool := decide (c = 99) || (decide (c = 106) || (decide (c = 112) || decide (c = 114)))
def cm1 (x : Nat → Int32) (m p : Nat) : Nat := if isL (hrx x m p) = true then p + 1 else p
def cmLo (c : Int32) : Int32 := if c = 114 then 49 else 48
def cmHi (c : Int32) : Int32 := if c = 114 then 57 else 55
def cm2 (x : Nat → Int32) (m p : Nat) : Nat × Bool × Int32 := (dgP x m (cmLo (hrx x m p)) (cmHi (hrx x m p)) (cm1 x m p) (isL (hrx x m p)), dgB x m (cmLo (hrx x m p)) (cmHi (hrx x m p)) (cm1 x m p) (isL (hrx x m p)), dgV x m (cmLo (hrx x m p)) (cmHi (hrx x m p)) (cm1 x m p) (isL (hrx x m p)))
/-- a command read: where it ends, whether it is one, its numbers -/
def cmd (x : Nat → Int32) (m p : Nat) : Nat × Bool × Int32 × Int32 :=
  if hrx x m p = 106 then (dgP x m 48 55 (cm2 x m p).1 (cm2 x m p).2.1, dgB x m 48 55 (cm2 x m p).1 (cm2 x m p).2.1, (cm2 x m p).2.2, dgV x m 48 55 (cm2 x m p).1 (cm2 x m p).2.1)
  else if hrx x m p = 112 then (dgP x m 48 51 (cm2 x m p).1 (cm2 x m p).2.1, dgB x m 48 51 (cm2 x m p).1 (cm2 x m p).2.1, (cm2 x m p).2.2, dgV x m 48 51 (cm2 x m p).1 (cm2 x m p).2.1)
  else ((cm2 x m p).1, (cm2 x m p).2.1, (cm2 x m p).2.2, 0)
theorem isL_lt {x : Nat → Int32} {m p : Nat} (h : isL (hrx x m p) = true) : p < m := by
  unfold hrx at h
  by_cases e : p < m
  · exact e
  · rw [if_neg e] at h; exact absurd h (by decide)
theorem cmLo_0 (c : Int32) : ¬ cmLo c < 0 := by unfold cmLo; split <;> decide
theorem dgP_le {x : Nat → Int32} {m : Nat} {lo hi : Int32} {p : Nat} {r : Bool} (hlo : ¬ lo < 0) (h : p ≤ m) : p ≤ dgP x m lo hi p r ∧ dgP x m lo hi p r ≤ m := by
  unfold dgP
  split
  · next e => have := (dgB_lt hlo e).1; omega
  · omega
theorem cm1_le {x : Nat → Int32} {m p : Nat} (h : p ≤ m) : p ≤ cm1 x m p ∧ cm1 x m p ≤ m := by
  unfold cm1
  split
  · next e => have := isL_lt e; omega
  · omega
theorem cm2_le {x : Nat → Int32} {m p : Nat} (h : p ≤ m) : p ≤ (cm2 x m p).1 ∧ (cm2 x m p).1 ≤ m := by
  have h1 := cm1_le (x := x) h
  have h2 := dgP_le (x := x) (hi := cmHi (hrx x m p)) (r := isL (hrx x m p)) (cmLo_0 (hrx x m p)) h1.2
  exact ⟨by show p ≤ dgP _ _ _ _ _ _; omega, h2.2⟩
theorem cmd_le {x : Nat → Int32} {m p : Nat} (h : p ≤ m) : p ≤ (cmd x m p).1 ∧ (cmd x m p).1 ≤ m := by
  have h2 := cm2_le (x := x) h
  unfold cmd
  split
  · have := dgP_le (x := x) (lo := 48) (hi := 55) (r := (cm2 x m p).2.1) (by decide) h2.2
    exact ⟨by show p ≤ dgP _ _ _ _ _ _; omega, this.2⟩
  · split
    · have := dgP_le (x := x) (lo := 48) (hi := 51) (r := (cm2 x m p).2.1) (by decide) h2.2
      exact ⟨by show p ≤ dgP _ _ _ _ _ _; omega, this.2⟩
    · exact h2
theorem cmd_2 {x : Nat → Int32} {m p : Nat} (h : p ≤ m) (hr2 : (cmd x m p).2.1 = true) : p + 2 ≤ (cmd x m p).1 := by
  have key : (cm2 x m p).2.1 = true → p + 2 ≤ (cm2 x m p).1 := by
    intro h3
    have h4 := dgB_lt (cmLo_0 _) (show dgB x m (cmLo (hrx x m p)) (cmHi (hrx x m p)) (cm1 x m p) (isL (hrx x m p)) = true from h3)
    have h5 : cm1 x m p = p + 1 := by rw [cm1, if_pos h4.2.1]
    show p + 2 ≤ dgP _ _ _ _ _ _
    rw [dgP, if_pos (show dgB x m (cmLo (hrx x m p)) (cmHi (hrx x m p)) (cm1 x m p) (isL (hrx x m p)) = true from h3), h5]; exact Nat.le_refl _
  have hle := cm2_le (x := x) h
  unfold cmd at hr2 ⊢
  split at hr2
  · next e =>
    rw [if_pos e]
    have h4 := dgB_lt (by decide) hr2
    have := key h4.2.1
    have := dgP_le (x := x) (lo := 48) (hi := 55) (r := (cm2 x m p).2.1) (by decide) hle.2
    show p + 2 ≤ dgP _ _ _ _ _ _
    omega
  · next e =>
    rw [if_neg e]
    split at hr2
    · next e2 =>
      rw [if_pos e2]
      have h4 := dgB_lt (by decide) hr2
      have := key h4.2.1
      have := dgP_le (x := x) (lo := 48) (hi := 51) (r := (cm2 x m p).2.1) (by decide) hle.2
      show p + 2 ≤ dgP _ _ _ _ _ _
      omega
    · next e2 =>
      rw [if_neg e2]
      exact key hr2
def dsP (c a b : Int32) (z : St) : PO := if c = 99 then pC a z else if c = 106 then pJ a b z else if c = 112 then pM a b z else pR a z
/-- a code is 0 or more, and a call that fails answers 0 -/
def OKP (P : PO) : Prop := ¬ P.1 < 0 ∧ (¬ P.1 = 0 → P.2.1 = 0)
theorem okp_on1 {v : Int32} {z : St} {f : Nat → PO} (h : ∀ n, n < 8 → OKP (f n)) : OKP (on1 v z f) := by
  cases e : nd v
  · rw [on1_no e]; exact ⟨show ¬ (1 : Int32) < 0 by decide, fun _ => rfl⟩
  · obtain ⟨n, hn, rfl⟩ := nd_of e
    rw [on1_n hn]; exact h n hn
theorem okp_on2 {v w : Int32} {z : St} {f : Nat → Nat → PO} (h : ∀ n b, n < 8 → b < 8 → OKP (f n b)) : OKP (on2 v w z f) := by
  cases e : nd v
  · rw [on2_no1 e]; exact ⟨show ¬ (1 : Int32) < 0 by decide, fun _ => rfl⟩
  · cases e2 : nd w
    · rw [on2_no2 e2]; exact ⟨show ¬ (1 : Int32) < 0 by decide, fun _ => rfl⟩
    · obtain ⟨n, hn, rfl⟩ := nd_of e
      obtain ⟨b, hb, rfl⟩ := nd_of e2
      rw [on2_n hn hb]; exact h n b hn hb
theorem okp_ds (c a b : Int32) (z : St) : OKP (dsP c a b z) := by
  have h2 : ∀ (c v : Int32) (y : St), ¬ c < 0 → (¬ c = 0 → v = 0) → OKP (c, v, y) := fun c v y h1 h3 => ⟨h1, h3⟩
  unfold dsP
  split
  · refine okp_on1 fun n _ => ?_
    split
    · exact h2 _ _ _ (by decide) (fun _ => rfl)
    · exact h2 _ _ _ (by decide) (fun h => absurd rfl h)
  · split
    · refine okp_on2 fun n b _ _ => ?_
      split
      · exact h2 _ _ _ (by decide) (fun _ => rfl)
      · split
        · exact h2 _ _ _ (by decide) (fun _ => rfl)
        · exact h2 _ _ _ (by decide) (fun h => absurd rfl h)
    · split
      · refine okp_on1 fun n _ => ?_
        split
        · exact h2 _ _ _ (by decide) (fun h => absurd rfl h)
        · exact h2 _ _ _ (by decide) (fun _ => rfl)
      · unfold pR
        split
        · exact h2 _ _ _ (by decide) (fun h => absurd rfl h)
        · exact h2 _ _ _ (by decide) (fun _ => rfl)
theorem okp_le {P : PO} (h : OKP P) (h2 : P.1 ≤ 0) : P.1 = 0 := by
  have := h.1
  rw [i_lt] at this
  rw [i_le] at h2
  rw [i_eq]
  omega
theorem inv_ds {z : St} (h : Inv z) (c a b : Int32) : Inv (dsP c a b z).2.2 := by
  unfold dsP
  split
  · exact inv_pC h a
  · split
    · exact inv_pJ h a b
    · split
      · exact inv_pM h a b
      · exact inv_pR h a
def DP (x : Nat → Int32) (m : Nat) (dn : Bool) (p : Nat) (z : St) : PO := if dn = true then dsP (hrx x m p) (cmd x m p).2.2.1 (cmd x m p).2.2.2 z else (0, 0, z)
theorem inv_DP {z : St} (h : Inv z) (x : Nat → Int32) (m : Nat) (dn : Bool) (p : Nat) : Inv (DP x m dn p z).2.2 := by
  unfold DP; split
  · exact inv_ds h _ _ _
  · exact h
/-- where the commands end, whether all was read, how many, the state, the failure -/
abbrev SR : Type := Nat × Bool × Nat × St × Int32
def adN (n : Nat) (v : SR) : SR := (v.1, v.2.1, n + v.2.2.1, v.2.2.2.1, v.2.2.2.2)
def scX (x : Nat → Int32) (m : Nat) (dn : Bool) : Nat → Nat → St → SR
  | 0, p, z => (p, true, 0, z, 0)
  | q + 1, p, z => if (cmd x m p).2.1 = true ∧ (DP x m dn p z).1 = 0 ∧ (cmd x m p).1 < m then (if dgB x m 59 59 (cmd x m p).1 true = true then adN 1 (scX x m dn q ((cmd x m p).1 + 1) (DP x m dn p z).2.2) else ((cmd x m p).1, false, 1, (DP x m dn p z).2.2, 0)) else ((cmd x m p).1, (cmd x m p).2.1, (if (DP x m dn p z).1 = 0 then 1 else 0), (DP x m dn p z).2.2, (DP x m dn p z).1)
theorem adN_0 (v : SR) : adN 0 v = v := by unfold adN; rw [Nat.zero_add]
theorem adN_adN (n k : Nat) (v : SR) : adN n (adN k v) = adN (n + k) v := by unfold adN; rw [Nat.add_assoc]
theorem scX_go {x : Nat → Int32} {m : Nat} {dn : Bool} {n p : Nat} {z : St} (hn : n ≤ 40) (h1 : (cmd x m p).2.1 = true) (h2 : (DP x m dn p z).1 = 0) (h3 : (cmd x m p).1 < m) (h4 : dgB x m 59 59 (cmd x m p).1 true = true) : adN n (scX x m dn (41 - n) p z) = adN (n + 1) (scX x m dn (41 - (n + 1)) ((cmd x m p).1 + 1) (DP x m dn p z).2.2) := by
  obtain ⟨q, hq⟩ : ∃ q, q = 40 - n := ⟨_, rfl⟩
  rw [show 41 - n = q + 1 by omega, show 41 - (n + 1) = q by omega, scX, if_pos ⟨h1, h2, h3⟩, if_pos h4, adN_adN]
theorem scX_e1 {x : Nat → Int32} {m : Nat} {dn : Bool} {n p : Nat} {z : St} (hn : n ≤ 40) (h : ¬ ((cmd x m p).2.1 = true ∧ (DP x m dn p z).1 = 0 ∧ (cmd x m p).1 < m)) : adN n (scX x m dn (41 - n) p z) = ((cmd x m p).1, (cmd x m p).2.1, n + (if (DP x m dn p z).1 = 0 then 1 else 0), (DP x m dn p z).2.2, (DP x m dn p z).1) := by
  obtain ⟨q, hq⟩ : ∃ q, q = 40 - n := ⟨_, rfl⟩
  rw [show 41 - n = q + 1 by omega, scX, if_neg h]
  rfl
theorem scX_e2 {x : Nat → Int32} {m : Nat} {dn : Bool} {n p : Nat} {z : St} (hn : n ≤ 40) (h1 : (cmd x m p).2.1 = true) (h2 : (DP x m dn p z).1 = 0) (h3 : (cmd x m p).1 < m) (h4 : dgB x m 59 59 (cmd x m p).1 true = false) : adN n (scX x m dn (41 - n) p z) = ((cmd x m p).1, false, n + 1, (DP x m dn p z).2.2, 0) := by
  obtain ⟨q, hq⟩ : ∃ q, q = 40 - n := ⟨_, rfl⟩
  rw [show 41 - n = q + 1 by omega, scX, if_pos ⟨h1, h2, h3⟩, if_neg (by rw [h4]; decide)]
  rfl
theorem scX_false (x : Nat → Int32) (m : Nat) : ∀ (q p : Nat) (z : St), (scX x m false q p z).2.2.2 = (z, 0)
  | 0, p, z => rfl
  | q + 1, p, z => by
    have ih := scX_false x m q
    rw [scX]
    have hd : DP x m false p z = (0, 0, z) := by rw [DP, if_neg (by decide)]
    rw [hd]
    split
    · split
      · show ((scX x m false q _ z).2.2.2.1, (scX x m false q _ z).2.2.2.2) = (z, 0)
        have := ih ((cmd x m p).1 + 1) z
        rw [this]
      · rfl
    · rfl
theorem inv_scX (x : Nat → Int32) (m : Nat) (dn : Bool) : ∀ (q p : Nat) (z : St), Inv z → Inv (scX x m dn q p z).2.2.2.1
  | 0, p, z, h => h
  | q + 1, p, z, h => by
    have hD := inv_DP h x m dn p
    rw [scX]
    split
    · split
      · exact inv_scX x m dn q _ _ hD
      · exact hD
    · exact hD
theorem scX_le (x : Nat → Int32) (m : Nat) (dn : Bool) : ∀ (q p : Nat) (z : St), (scX x m dn q p z).2.2.1 ≤ q
  | 0, p, z => Nat.le_refl _
  | q + 1, p, z => by
    rw [scX]
    split
    · split
      · have := scX_le x m dn q ((cmd x m p).1 + 1) (DP x m dn p z).2.2
        show 1 + _ ≤ q + 1
        omega
      · show 1 ≤ q + 1; omega
    · show (if _ then 1 else 0) ≤ q + 1
      split <;> omega
abbrev RR : Type := Int32 × Int32 × St × Int32 × Int32
/-- a text run: its code, its number, the state, the failure's kind and number -/
def rT (x : Nat → Int32) (m : Nat) (z : St) : RR :=
  if (scX x m false 41 0 z).2.1 = true then (if (scX x m true 41 0 z).2.2.2.2 = 0 then (0, nI (scX x m true 41 0 z).2.2.1, (scX x m true 41 0 z).2.2.2.1, 0, 0) else (2, 0, (scX x m true 41 0 z).2.2.2.1, (scX x m true 41 0 z).2.2.2.2, nI (scX x m true 41 0 z).2.2.1))
  else (1, 0, z, 1, nI (scX x m false 41 0 z).1)
theorem inv_rT {z : St} (h : Inv z) (x : Nat → Int32) (m : Nat) : Inv (rT x m z).2.2.1 := by
  unfold rT
  split
  · split <;> exact inv_scX x m true 41 0 z h
  · exact h
def pF (q F N : Int32) (z : St) : PO := if inB q 0 1 = true then (if F = 0 then (2, 0, z) else (0, (if q = 0 then F else N), z)) else (1, 0, z)
def pAp (c : Int32) (m : Nat) (z : St) : PO := if inB c 33 126 = true then (if m = 40 then (2, 0, z) else (0, nI (m + 1), z)) else (1, 0, z)
def oAp (c : Int32) (m : Nat) (o : St) : St := if inB c 33 126 = true ∧ ¬ m = 40 then st (st o 2 m c) 0 2 (nI (m + 1)) else o
/-- the reference's numbers while it reads: the text's length, the failure's kind and number, the place, whether it is read -/
def TP (o : St) (x : Nat → Int32) (o' : St) (L F N S R : Int32) : Prop := (o' 0 1 = o 0 1 ∧ o' 1 = o 1 ∧ o' 2 = x) ∧ o' 0 2 = L ∧ o' 0 3 = F ∧ o' 0 4 = N ∧ o' 0 6 = S ∧ o' 0 7 = R
theorem TP.self {o a : St} {x : Nat → Int32} {L F N S R : Int32} (h : TP o x a L F N S R) : TP a x a L F N S R := ⟨⟨rfl, rfl, h.1.2.2⟩, h.2⟩
theorem TP.tr {o a b : St} {x : Nat → Int32} {L F N S R L2 F2 N2 S2 R2 : Int32} (h : TP o x a L F N S R) (h2 : TP a x b L2 F2 N2 S2 R2) : TP o x b L2 F2 N2 S2 R2 := ⟨⟨h2.1.1.trans h.1.1, h2.1.2.1.trans h.1.2.1, h2.1.2.2⟩, h2.2⟩
theorem TP.rt {o a b : St} {x : Nat → Int32} {L F N S R : Int32} (h : TP o x a L F N S R) (h2 : RT a b) : TP o x b L F N S R := by
  obtain ⟨⟨h1, h3, h4⟩, h5, h6, h7, h8, h9⟩ := h
  have e : ∀ j, ¬ j = 5 → ¬ j = 0 → b 0 j = a 0 j := fun j e1 e2 => h2 0 j (by decide) (fun h => e1 h.2) (fun h => e2 h.2)
  have e2 : ∀ f, ¬ f = 3 → ¬ f = 0 → b f = a f := fun f e1 e2 => funext fun j => h2 f j e1 (fun h => e2 h.1) (fun h => e2 h.1)
  exact ⟨⟨(e 1 (by decide) (by decide)).trans h1, (e2 1 (by decide) (by decide)).trans h3, (e2 2 (by decide) (by decide)).trans h4⟩, (e 2 (by decide) (by decide)).trans h5, (e 3 (by decide) (by decide)).trans h6, (e 4 (by decide) (by decide)).trans h7, (e 6 (by decide) (by decide)).trans h8, (e 7 (by decide) (by decide)).trans h9⟩
theorem TP.p0 {o a : St} {x : Nat → Int32} {L F N S R : Int32} (h : TP o x a L F N S R) (v : Int32) : TP o x (st a 0 0 v) L F N S R := h.rt (RT.put (RT.rf a) v)
theorem TP.p2 {o a : St} {x : Nat → Int32} {L F N S R : Int32} (h : TP o x a L F N S R) (v : Int32) : TP o x (st a 0 2 v) v F N S R :=
  ⟨⟨h.1.1, h.1.2.1, h.1.2.2⟩, st_s _ _ _ _, (st_k _ _ _ _ _ (by decide)).trans h.2.2.1, (st_k _ _ _ _ _ (by decide)).trans h.2.2.2.1, (st_k _ _ _ _ _ (by decide)).trans h.2.2.2.2.1, (st_k _ _ _ _ _ (by decide)).trans h.2.2.2.2.2⟩
theorem TP.p3 {o a : St} {x : Nat → Int32} {L F N S R : Int32} (h : TP o x a L F N S R) (v : Int32) : TP o x (st a 0 3 v) L v N S R :=
  ⟨⟨h.1.1, h.1.2.1, h.1.2.2⟩, (st_k _ _ _ _ _ (by decide)).trans h.2.1, st_s _ _ _ _, (st_k _ _ _ _ _ (by decide)).trans h.2.2.2.1, (st_k _ _ _ _ _ (by decide)).trans h.2.2.2.2.1, (st_k _ _ _ _ _ (by decide)).trans h.2.2.2.2.2⟩
theorem TP.p4 {o a : St} {x : Nat → Int32} {L F N S R : Int32} (h : TP o x a L F N S R) (v : Int32) : TP o x (st a 0 4 v) L F v S R :=
  ⟨⟨h.1.1, h.1.2.1, h.1.2.2⟩, (st_k _ _ _ _ _ (by decide)).trans h.2.1, (st_k _ _ _ _ _ (by decide)).trans h.2.2.1, st_s _ _ _ _, (st_k _ _ _ _ _ (by decide)).trans h.2.2.2.2.1, (st_k _ _ _ _ _ (by decide)).trans h.2.2.2.2.2⟩
theorem TP.p6 {o a : St} {x : Nat → Int32} {L F N S R : Int32} (h : TP o x a L F N S R) (v : Int32) : TP o x (st a 0 6 v) L F N v R :=
  ⟨⟨h.1.1, h.1.2.1, h.1.2.2⟩, (st_k _ _ _ _ _ (by decide)).trans h.2.1, (st_k _ _ _ _ _ (by decide)).trans h.2.2.1, (st_k _ _ _ _ _ (by decide)).trans h.2.2.2.1, st_s _ _ _ _, (st_k _ _ _ _ _ (by decide)).trans h.2.2.2.2.2⟩
theorem TP.p7 {o a : St} {x : Nat → Int32} {L F N S R : Int32} (h : TP o x a L F N S R) (v : Int32) : TP o x (st a 0 7 v) L F N S v :=
  ⟨⟨h.1.1, h.1.2.1, h.1.2.2⟩, (st_k _ _ _ _ _ (by decide)).trans h.2.1, (st_k _ _ _ _ _ (by decide)).trans h.2.2.1, (st_k _ _ _ _ _ (by decide)).trans h.2.2.2.1, (st_k _ _ _ _ _ (by decide)).trans h.2.2.2.2.1, st_s _ _ _ _⟩
/-- what is left of it behind a text run -/
def TQ (o : St) (x : Nat → Int32) (o' : St) (L F N : Int32) : Prop := (o' 0 1 = o 0 1 ∧ o' 1 = o 1 ∧ o' 2 = x) ∧ o' 0 2 = L ∧ o' 0 3 = F ∧ o' 0 4 = N
theorem TP.q {o a : St} {x : Nat → Int32} {L F N S R : Int32} (h : TP o x a L F N S R) : TQ o x a L F N := ⟨h.1, h.2.1, h.2.2.1, h.2.2.2.1⟩
theorem ds_c {c a b : Int32} {z : St} (h : c = 99) : dsP c a b z = pC a z := by rw [dsP, if_pos h]
theorem ds_j {c a b : Int32} {z : St} (h1 : ¬ c = 99) (h : c = 106) : dsP c a b z = pJ a b z := by rw [dsP, if_neg h1, if_pos h]
theorem ds_p {c a b : Int32} {z : St} (h1 : ¬ c = 99) (h2 : ¬ c = 106) (h : c = 112) : dsP c a b z = pM a b z := by rw [dsP, if_neg h1, if_neg h2, if_pos h]
theorem ds_r {c a b : Int32} {z : St} (h1 : ¬ c = 99) (h2 : ¬ c = 106) (h : ¬ c = 112) : dsP c a b z = pR a z := by rw [dsP, if_neg h1, if_neg h2, if_neg h]
theorem okp_lt {P : PO} (h : OKP P) (h2 : P.2.1 < 0) : P.1 = 0 := by
  by_cases e : P.1 = 0
  · exact e
  · rw [h.2 e] at h2; exact absurd h2 (by decide)
theorem cmd_a (x : Nat → Int32) (m p : Nat) : (cmd x m p).2.2.1 = (cm2 x m p).2.2 := by
  unfold cmd; split
  · rfl
  · split <;> rfl
