/-! what each call answers: its code, its number, the state behind it -/
abbrev PO : Type := Int32 × Int32 × St
def nd (v : Int32) : Bool := !decide (v < 0) && !decide (7 < v)
def tN (v : Int32) : Nat := v.toNatClampNeg
def inB (v lo hi : Int32) : Bool := !decide (v < lo) && !decide (hi < v)
theorem tN_n {n : Nat} (h : n < 8) : tN (nI n) = n := nI_clamp (by omega)
theorem inB_of {v lo hi : Int32} (h : inB v lo hi = true) (hlo : ¬ lo < 0) : ∃ n : Nat, n < 2 ^ 31 ∧ v = nI n ∧ (n : Int) ≤ hi.toInt ∧ lo.toInt ≤ n := by
  unfold inB at h
  simp only [Bool.and_eq_true, Bool.not_eq_true', decide_eq_false_iff_not] at h
  rw [i_lt] at h
  rw [i_lt] at h hlo
  have z0 : (0 : Int32).toInt = 0 := rfl
  have hv : ¬ v < 0 := by rw [i_lt]; omega
  obtain ⟨n, hn, rfl⟩ := nI_of hv
  rw [nI_toInt hn] at h
  exact ⟨n, hn, rfl, by omega, by omega⟩
theorem nd_of {v : Int32} (h : nd v = true) : ∃ n : Nat, n < 8 ∧ v = nI n := by
  obtain ⟨n, _, e, h2, _⟩ := inB_of (v := v) (lo := 0) (hi := 7) h (by decide)
  have : (7 : Int32).toInt = 7 := rfl
  exact ⟨n, by omega, e⟩
theorem nd_n : ∀ {n : Nat}, n < 8 → nd (nI n) = true := by decide
theorem nI_inj8 : ∀ {n b : Nat}, n < 8 → b < 8 → nI n = nI b → n = b := by
  intro n b hn hb h
  have := congrArg Int32.toInt h
  rw [nI_toInt (by omega), nI_toInt (by omega)] at this
  omega
def on1 (v : Int32) (z : St) (f : Nat → PO) : PO := if nd v = true then f (tN v) else (1, 0, z)
def on2 (v w : Int32) (z : St) (f : Nat → Nat → PO) : PO := if nd v = true ∧ nd w = true then f (tN v) (tN w) else (1, 0, z)
theorem on1_n {n : Nat} (h : n < 8) (z : St) (f : Nat → PO) : on1 (nI n) z f = f n := by rw [on1, if_pos (nd_n h), tN_n h]
theorem on1_no {v : Int32} (h : nd v = false) (z : St) (f : Nat → PO) : on1 v z f = (1, 0, z) := by rw [on1, if_neg (by rw [h]; decide)]
theorem on2_n {n b : Nat} (h : n < 8) (hb : b < 8) (z : St) (f : Nat → Nat → PO) : on2 (nI n) (nI b) z f = f n b := by rw [on2, if_pos ⟨nd_n h, nd_n hb⟩, tN_n h, tN_n hb]
theorem on2_no1 {v w : Int32} (h : nd v = false) (z : St) (f : Nat → Nat → PO) : on2 v w z f = (1, 0, z) := by rw [on2, if_neg (by rw [h]; simp)]
theorem on2_no2 {v w : Int32} (h : nd w = false) (z : St) (f : Nat → Nat → PO) : on2 v w z f = (1, 0, z) := by rw [on2, if_neg (by rw [h]; simp)]
def pS (k : Nat) (lo hi v : Int32) (z : St) : PO := if inB v lo hi = true then (0, z 0 k, st z 0 k v) else (1, 0, z)
def jn (z : St) (n b : Nat) : St := endq (adm z n b)
def pJ (v w : Int32) (z : St) : PO := on2 v w z (fun n b => if z 1 n = 1 then (2, 0, z) else if ¬ b = n ∧ wcn z n b = false then (3, 0, z) else (0, jn z n b 4 n, jn z n b))
def pC (v : Int32) (z : St) : PO := on1 v z (fun n => if z 1 n = 0 then (2, 0, z) else (0, nI (cup (endq (st z 1 n 0)) 8), endq (st z 1 n 0)))
def pM (v q : Int32) (z : St) : PO := on1 v z (fun n => if inB q 0 3 = true then (0, z 3 n, endq (st z 3 n q)) else (2, 0, z))
def pK (v w : Int32) (on : Bool) (z : St) : PO := on2 v w z (fun n b => if n = b then (2, 0, z) else (0, b2 (decide (z 9 (8 * n + b) = 1)), endq (sct z n b on)))
def pR (q : Int32) (z : St) : PO := if inB q 1 50 = true then (0, rds z (tN q) 0 0, rds z (tN q)) else (1, 0, z)
/-- the rounds until agreement, at most m -/
noncomputable def ru (z : St) : Nat → Nat
  | 0 => 0
  | m + 1 => if ru z m = m ∧ agB (rds z m) = false then m + 1 else ru z m
theorem ru_eq {z : St} : ∀ (m d : Nat), d ≤ m → (∀ j, j < d → agB (rds z j) = false) → (d = m ∨ agB (rds z d) = true) → ru z m = d
  | 0, d, h, _, _ => by rw [ru]; omega
  | m + 1, d, h, h1, h2 => by
    rw [ru]
    by_cases e : d = m + 1
    · subst e
      rw [ru_eq m m (Nat.le_refl _) (fun j hj => h1 j (by omega)) (Or.inl rfl), if_pos ⟨rfl, h1 m (by omega)⟩]
    · have h3 : agB (rds z d) = true := h2.resolve_left e
      rw [ru_eq m d (by omega) h1 (Or.inr h3), if_neg]
      intro h4
      rw [← h4.1, h3] at h4
      exact absurd h4.2 (by decide)
noncomputable def pU (q : Int32) (z : St) : PO := if inB q 1 100 = true then (if agB (rds z (ru z (tN q))) = true then (0, nI (ru z (tN q)), rds z (ru z (tN q))) else (2, 0, rds z (ru z (tN q)))) else (1, 0, z)
def pUp (v : Int32) (z : St) : PO := on1 v z (fun n => (0, b2 (decide (z 1 n = 1)), z))
def pA1 (f : Nat) (v : Int32) (z : St) : PO := on1 v z (fun n => (0, z f n, z))
def pRe (v w : Int32) (z : St) : PO := on2 v w z (fun n b => (0, b2 (cnn z n b), z))
def pV (f : Nat) (v w : Int32) (z : St) : PO := on2 v w z (fun n b => if n = b then (2, 0, z) else (0, z f (8 * n + b), z))
def pD (v w : Int32) (z : St) : PO := on2 v w z (fun n b => if n = b then (2, 0, z) else if z 5 (8 * n + b) = 2 then (0, z 7 (8 * n + b), z) else (3, 0, z))
def pCt (v w : Int32) (z : St) : PO := on2 v w z (fun n b => (0, z 8 (8 * n + b), z))
def pT (v w x i : Int32) (z : St) : PO := on2 v w z (fun n b => if z 1 n = 0 then (2, 0, z) else if inB x 1 3 = true ∧ inB i 0 1000 = true then (0, b2 (tkb z n b x i), endq (tk z n b x i)) else (3, 0, z))
def pAl (v : Int32) (z : St) : PO := on1 v z (fun n => (0, nI (mk (nst z n 1) 8), z))
/-! endings that commute -/
theorem endq_st (z : St) (v : Int32) : endq (st z 0 9 v) = endq z := by
  funext f k
  unfold endq
  simp only [st_at]
  by_cases h : f = 0 ∧ k = 9
  · simp [h]
  · simp [h]
theorem endq_endq (z : St) : endq (endq z) = endq z := endq_st z _
theorem chg_st (z : St) (v : Int32) (n b : Nat) : chg (st z 0 9 v) n b = chg z n b := by
  unfold chg
  rw [st_comm _ _ _ _ _ _ _ (by omega), endq_st, st_k _ _ _ _ _ (by decide)]
theorem endq_chg (z : St) (n b : Nat) : endq (chg z n b) = chg z n b := endq_endq _
theorem rpl_st (z : St) (v : Int32) (q : Nat) (x i : Int32) : rpl (st z 0 9 v) q x i = st (rpl z q x i) 0 9 v := by
  unfold rpl
  rw [st_k _ _ _ _ _ (by decide), st_k _ _ _ _ _ (by decide)]
  split
  all_goals
    funext f k
    simp only [st_at]
    by_cases h : f = 0 ∧ k = 9
    · obtain ⟨rfl, rfl⟩ := h; simp
    · simp [h]
theorem tkb_st (z : St) (v : Int32) (n b : Nat) (x i : Int32) : tkb (st z 0 9 v) n b x i = tkb z n b x i := by
  unfold tkb slf owg
  simp only [st_g _ _ 4 _ _ (by decide : (4 : Nat) ≠ 0), st_g _ _ 5 _ _ (by decide : (5 : Nat) ≠ 0), st_g _ _ 6 _ _ (by decide : (6 : Nat) ≠ 0)]
theorem tk_endq (z : St) (n b : Nat) (x i : Int32) : tk (endq z) n b x i = endq (tk z n b x i) := by
  unfold tk
  rw [show endq z = st z 0 9 (z 0 0) from rfl, tkb_st]
  split
  · split
    · rw [st_comm z 0 9 _ 4 n _ (by omega), st_k z 0 9 7 _ (by decide), st_comm _ 0 9 _ 0 7 _ (by omega), chg_st, endq_chg]
    · rw [rpl_st, chg_st, endq_chg]
  · rfl
theorem tkb_endq (z : St) (n b : Nat) (x i : Int32) : tkb (endq z) n b x i = tkb z n b x i := tkb_st z _ n b x i
theorem toS_endq (z : St) (n b : Nat) : toS (endq z) n b = toS z n b := by
  unfold toS endq; rw [st_f _ _ _ _ _ _ (by decide)]
theorem toI_endq (z : St) (n b : Nat) : toI (endq z) n b = toI z n b := by
  unfold toI endq; rw [st_f _ _ _ _ _ _ (by decide), st_f _ _ _ _ _ _ (by decide)]
theorem inK_endq (n b : Nat) (z : St) : ∀ k, inK n b (endq z) k = endq (inK n b z k)
  | 0 => rfl
  | k + 1 => by
    rw [inK, inK, inK_endq n b z k, toS_endq, toI_endq]
    split
    · rfl
    · rw [tk_endq]
theorem intr_endq (z : St) (n b : Nat) : intr (endq z) n b = endq (intr z n b) := by
  unfold intr
  rw [inK_endq, tk_endq, show endq (inK n b z 8) 4 n = inK n b z 8 4 n from st_f _ _ _ _ _ _ (by decide)]
/-- what the reference does before it greets -/
def jn0 (z : St) (n : Nat) : St := st (st (st z 4 n (z 4 n + z 2 n)) 2 n 1) 1 n 1
theorem jn0_eq {z : St} (iz : Inv z) {n : Nat} (hn : n < 8) : chg (fga (jn0 z n) n 8) n n = endq (ad0 z n) := by
  have e : (st (if st z 1 n 1 2 n = 1 then st (st z 1 n 1) 4 n (st z 1 n 1 4 n + 1) else st z 1 n 1) 2 n 1) = jn0 z n := by
    have e2 : st z 1 n 1 2 n = z 2 n := st_f _ _ _ _ _ _ (by decide)
    have e4 : st z 1 n 1 4 n = z 4 n := st_f _ _ _ _ _ _ (by decide)
    unfold jn0
    rw [e2, e4]
    rcases iz.2.1 n hn with h | h
    · rw [if_neg (by rw [h]; decide), h, Int32.add_zero, st_self]
      exact st_comm _ _ _ _ _ _ _ (by omega)
    · rw [if_pos h, h]
      rw [st_comm z 1 n 1 4 n _ (by omega)]
      exact st_comm _ _ _ _ _ _ _ (by omega)
  unfold ad0
  dsimp only
  rw [e]
  rfl
theorem fga_1 (z : St) (n : Nat) : ∀ k, (fga z n k) 1 = z 1 ∧ (fga z n k) 3 = z 3 ∧ (fga z n k) 9 = z 9
  | 0 => ⟨rfl, rfl, rfl⟩
  | k + 1 => by
    have h := fga_1 z n k
    unfold fga
    refine ⟨?_, ?_, ?_⟩
    · rw [st_g _ _ _ _ _ (by decide), st_g _ _ _ _ _ (by decide), st_g _ _ _ _ _ (by decide)]; exact h.1
    · rw [st_g _ _ _ _ _ (by decide), st_g _ _ _ _ _ (by decide), st_g _ _ _ _ _ (by decide)]; exact h.2.1
    · rw [st_g _ _ _ _ _ (by decide), st_g _ _ _ _ _ (by decide), st_g _ _ _ _ _ (by decide)]; exact h.2.2
theorem ad0_cnn {z : St} {n b : Nat} (iz : Inv z) (hn : n < 8) : cnn (ad0 z n) n b = (!decide (n = b) && wcn z n b) := by
  have h1 : ad0 z n 1 = upd (z 1) n 1 ∧ ad0 z n 3 = z 3 ∧ ad0 z n 9 = z 9 := by
    have e := jn0_eq iz hn
    have f1 := fga_1 (jn0 z n) n 8
    have c : ∀ (f : Nat), f ≠ 0 → f ≠ 8 → ad0 z n f = fga (jn0 z n) n 8 f := by
      intro f h0 h8
      have h := congrFun e f
      rw [chg, endq, endq, st_g _ _ _ _ _ h0, st_g _ _ _ _ _ h0, st_g _ _ _ _ _ h8] at h
      exact h.symm
    refine ⟨?_, ?_, ?_⟩
    · rw [c 1 (by decide) (by decide), f1.1, jn0, st, st_g _ _ _ _ _ (by decide), st_g _ _ _ _ _ (by decide)]; rfl
    · rw [c 3 (by decide) (by decide), f1.2.1, jn0, st_g _ _ _ _ _ (by decide), st_g _ _ _ _ _ (by decide), st_g _ _ _ _ _ (by decide)]
    · rw [c 9 (by decide) (by decide), f1.2.2, jn0, st_g _ _ _ _ _ (by decide), st_g _ _ _ _ _ (by decide), st_g _ _ _ _ _ (by decide)]
  unfold cnn wcn
  rw [h1.1, h1.2.1, h1.2.2]
  by_cases e : n = b
  · simp [e]
  · simp [e, upd, Ne.symm e]
theorem jn_eq {z : St} (iz : Inv z) {n b : Nat} (hn : n < 8) (h : ¬ (¬ b = n ∧ wcn z n b = false)) : jn z n b = if b = n then chg (fga (jn0 z n) n 8) n n else intr (chg (fga (jn0 z n) n 8) n n) n b := by
  unfold jn adm
  rw [ad0_cnn iz hn, jn0_eq iz hn]
  by_cases e : b = n
  · subst e
    simp
  · have hw : wcn z n b = true := by
      cases hh : wcn z n b
      · exact absurd ⟨e, hh⟩ h
      · rfl
    rw [hw, if_neg e]
    simp [Ne.symm e, intr_endq]
/-! agreement, as the reference asks -/
theorem cnn_sym {z : St} (iz : Inv z) {n b : Nat} (hn : n < 8) (hb : b < 8) : cnn z n b = cnn z b n := by
  unfold cnn wcn
  rw [iz.2.2.2.2.1 n b hn hb]
  by_cases h1 : n = b
  · subst h1; rfl
  · by_cases h2 : z 3 n = z 3 b
    · simp [h1, Ne.symm h1, h2]
      by_cases h3 : z 1 n = 1 <;> by_cases h4 : z 1 b = 1 <;> simp [h3, h4]
    · simp [h2, Ne.symm h2]
theorem cdR_z {z : St} {i : Nat} : ∀ k, cdR z i k = 0 ↔ ∀ j, j < k → i < j → cnn z i j = true → cdf z i j 8 = 0
  | 0 => by simp [cdR]
  | k + 1 => by
    have ih := cdR_z (z := z) (i := i) k
    unfold cdR
    constructor
    · intro h j hj hij hc
      by_cases e : j = k
      · subst e
        rw [if_pos ⟨hij, hc⟩] at h
        omega
      · refine ih.mp ?_ j (by omega) hij hc
        split at h <;> omega
    · intro h
      have h1 := ih.mpr (fun j hj => h j (by omega))
      split
      · next e => have := h k (by omega) e.1 e.2; omega
      · exact h1
theorem cdT_z {z : St} : ∀ k, cdT z k = 0 ↔ ∀ i, i < k → cdR z i 8 = 0
  | 0 => by simp [cdT]
  | k + 1 => by
    have ih := cdT_z (z := z) k
    unfold cdT
    constructor
    · intro h i hi
      by_cases e : i = k
      · subst e; omega
      · exact ih.mp (by omega) i (by omega)
    · intro h
      have h1 := ih.mpr (fun i hi => h i (by omega))
      have := h k (by omega)
      omega
/-- every one that reaches another one is up to date -/
def kn1 (z : St) (i : Nat) : Nat → Bool
  | 0 => true
  | j + 1 => kn1 z i j && (!cnn z i j || utd z i j)
def knA (z : St) : Nat → Bool
  | 0 => true
  | i + 1 => knA z i && kn1 z i 8
theorem kn1_t {z : St} {i : Nat} : ∀ k, kn1 z i k = true ↔ ∀ j, j < k → cnn z i j = true → utd z i j = true
  | 0 => by simp [kn1]
  | k + 1 => by
    have ih := kn1_t (z := z) (i := i) k
    unfold kn1
    rw [Bool.and_eq_true, ih]
    constructor
    · intro h j hj hc
      by_cases e : j = k
      · subst e
        have h2 := h.2
        rw [hc] at h2
        simpa using h2
      · exact h.1 j (by omega) hc
    · intro h
      refine ⟨fun j hj => h j (by omega), ?_⟩
      cases hc : cnn z i k
      · rfl
      · have := h k (by omega) hc
        simp [this]
theorem knA_t {z : St} : ∀ k, knA z k = true ↔ ∀ i, i < k → kn1 z i 8 = true
  | 0 => by simp [knA]
  | k + 1 => by
    have ih := knA_t (z := z) k
    unfold knA
    rw [Bool.and_eq_true, ih]
    constructor
    · intro h i hi
      by_cases e : i = k
      · subst e; exact h.2
      · exact h.1 i (by omega)
    · intro h
      exact ⟨fun i hi => h i (by omega), h k (by omega)⟩
theorem agB_kn {z : St} (iz : Inv z) : agB z = (decide (cdT z 8 = 0) && knA z 8) := by
  by_cases h : Agr z
  · rw [agB_t h]
    have h1 : cdT z 8 = 0 := (cdT_z 8).mpr fun i _ => (cdR_z 8).mpr fun j hj hij hc => by
      have h2 := h i j hij hj hc
      unfold twa at h2
      simp only [Bool.and_eq_true, decide_eq_true_eq] at h2
      exact h2.2.2
    have h2 : knA z 8 = true := (knA_t 8).mpr fun i hi => (kn1_t 8).mpr fun j hj hc => by
      rcases Nat.lt_trichotomy i j with hij | hij | hij
      · have h2 := h i j hij hj hc
        unfold twa at h2
        simp only [Bool.and_eq_true] at h2
        exact h2.1
      · subst hij
        unfold cnn at hc
        simp at hc
      · have h2 := h j i hij hi (by rw [cnn_sym iz hj hi]; exact hc)
        unfold twa at h2
        simp only [Bool.and_eq_true] at h2
        exact h2.2.1
    rw [h1, h2]
    rfl
  · rw [agB_f h]
    cases h1 : decide (cdT z 8 = 0)
    · rfl
    · cases h2 : knA z 8
      · rfl
      · exfalso
        refine h fun i j hij hj hc => ?_
        have a := (kn1_t 8).mp ((knA_t 8).mp h2 i (by omega)) j hj hc
        have b := (kn1_t 8).mp ((knA_t 8).mp h2 j hj) i (by omega) (by rw [← cnn_sym iz (by omega) hj]; exact hc)
        have c := (cdR_z 8).mp ((cdT_z 8).mp (of_decide_eq_true h1) i (by omega)) j hj hij hc
        unfold twa
        rw [a, b, c]
        rfl
/-! what the calls keep -/
theorem inv_pS {z : St} (h : Inv z) {k : Nat} {lo hi v : Int32} (hk : k = 2 ∨ k = 3) : Inv (pS k lo hi v z).2.2 := by
  unfold pS; split
  · exact inv_o h (by decide) (by omega)
  · exact h
theorem inv_pSs {z : St} (h : Inv z) {v : Int32} : Inv (pS 1 0 2147483647 v z).2.2 := by
  unfold pS; split
  · next e =>
    obtain ⟨n, hn, rfl, _⟩ := inB_of e (by decide)
    exact inv_s h (nI_pos hn)
  · exact h
theorem inv_pSh {z : St} (h : Inv z) {v : Int32} : Inv (pS 4 0 3 v z).2.2 := by
  unfold pS; split
  · next e =>
    obtain ⟨n, hn, rfl, h3, _⟩ := inB_of e (by decide)
    have : (3 : Int32).toInt = 3 := rfl
    obtain ⟨a1, a2, a3, a4, a5, a6, a7⟩ := h
    show Inv (st z 0 4 (nI n))
    refine ⟨fun n hn => ?_, fun n hn => ?_, fun n hn => ?_, fun n hn => ?_, fun n b hn hb => ?_, ?_, ?_⟩
    · rw [st_f _ _ _ _ _ _ (by decide)]; exact a1 n hn
    · rw [st_f _ _ _ _ _ _ (by decide)]; exact a2 n hn
    · rw [st_f _ _ _ _ _ _ (by decide)]; exact a3 n hn
    · rw [st_f _ _ _ _ _ _ (by decide)]; exact a4 n hn
    · rw [st_f _ _ _ _ _ _ (by decide), st_f _ _ _ _ _ _ (by decide)]; exact a5 n b hn hb
    · rw [st_k _ _ _ _ _ (by decide)]; exact a6
    · rw [st_s, nI_clamp hn]; exact ⟨rfl, by omega⟩
  · exact h
theorem inv_jn {z : St} (h : Inv z) {n b : Nat} (hn : n < 8) (hb : b < 8) : Inv (jn z n b) := inv_endq (inv_adm h hn hb)
theorem inv_on1 {z : St} (h : Inv z) {v : Int32} {f : Nat → PO} (hf : ∀ n, n < 8 → Inv (f n).2.2) : Inv (on1 v z f).2.2 := by
  cases e : nd v
  · rw [on1_no e]; exact h
  · obtain ⟨n, hn, rfl⟩ := nd_of e
    rw [on1_n hn]; exact hf n hn
theorem inv_on2 {z : St} (h : Inv z) {v w : Int32} {f : Nat → Nat → PO} (hf : ∀ n b, n < 8 → b < 8 → Inv (f n b).2.2) : Inv (on2 v w z f).2.2 := by
  cases e : nd v
  · rw [on2_no1 e]; exact h
  · cases e2 : nd w
    · rw [on2_no2 e2]; exact h
    · obtain ⟨n, hn, rfl⟩ := nd_of e
      obtain ⟨b, hb, rfl⟩ := nd_of e2
      rw [on2_n hn hb]; exact hf n b hn hb
theorem inv_pJ {z : St} (h : Inv z) (v w : Int32) : Inv (pJ v w z).2.2 := inv_on2 h fun n b hn hb => by
  split
  · exact h
  · split
    · exact h
    · exact inv_jn h hn hb
theorem inv_pC {z : St} (h : Inv z) (v : Int32) : Inv (pC v z).2.2 := inv_on1 h fun n hn => by
  split
  · exact h
  · exact inv_endq (inv_1 h (Or.inl rfl) (Or.inl rfl))
theorem inv_pM {z : St} (h : Inv z) (v q : Int32) : Inv (pM v q z).2.2 := inv_on1 h fun n hn => by
  split
  · exact inv_endq (inv_o h (by decide) (by simp))
  · exact h
theorem inv_pK {z : St} (h : Inv z) (v w : Int32) (on : Bool) : Inv (pK v w on z).2.2 := inv_on2 h fun n b hn hb => by
  split
  · exact h
  · exact inv_endq (inv_sct h hn hb on)
theorem inv_pR {z : St} (h : Inv z) (q : Int32) : Inv (pR q z).2.2 := by
  unfold pR; split
  · exact inv_rds h _
  · exact h
theorem inv_pU {z : St} (h : Inv z) (q : Int32) : Inv (pU q z).2.2 := by
  unfold pU; split
  · split <;> exact inv_rds h _
  · exact h
theorem inv_pT {z : St} (h : Inv z) (v w x i : Int32) : Inv (pT v w x i z).2.2 := inv_on2 h fun n b hn hb => by
  split
  · exact h
  · split
    · exact inv_endq (inv_tk h hn hb x i)
    · exact h
/-! the reference's other numbers: all the same but the list of a message and the code -/
def RT (k k' : St) : Prop := ∀ f j, ¬ f = 3 → ¬ (f = 0 ∧ j = 5) → ¬ (f = 0 ∧ j = 0) → k' f j = k f j
theorem RT.rf (k : St) : RT k k := fun _ _ _ _ _ => rfl
theorem RT.tr {a b c : St} (h : RT a b) (h2 : RT b c) : RT a c := fun f j h3 h4 h5 => (h2 f j h3 h4 h5).trans (h f j h3 h4 h5)
theorem RT.sc {a b c : St} (h : RT a b) (h2 : SC b c) : RT a c := fun f j h3 h4 h5 => (h2 f j h3 h4).trans (h f j h3 h4 h5)
theorem RT.put {a b : St} (h : RT a b) (x : Int32) : RT a (st b 0 0 x) := fun f j h3 h4 h5 => by rw [st_at, if_neg h5]; exact h f j h3 h4 h5
theorem RT.both {a b : St} (h : RT a b) (f k : Nat) (x : Int32) : RT (st a f k x) (st b f k x) := fun g j h3 h4 h5 => by rw [st_at, st_at, h g j h3 h4 h5]
theorem cup_add {z : St} {k : Nat} (h : z 1 k = 0 ∨ z 1 k = 1) : nI (cup z k) + z 1 k = nI (cup z (k + 1)) := by
  rw [cup]
  rcases h with h | h
  · rw [if_neg (by rw [h]; decide), h]; exact Int32.add_zero _
  · rw [if_pos h, h]; exact nI_1 _
theorem inB_50 {v : Int32} (h : inB v 1 50 = true) : ∃ n : Nat, n ≤ 50 ∧ v = nI n := by
  obtain ⟨n, _, e, h2, _⟩ := inB_of h (by decide)
  have : (50 : Int32).toInt = 50 := rfl
  exact ⟨n, by omega, e⟩
theorem inB_100 {v : Int32} (h : inB v 1 100 = true) : ∃ n : Nat, n ≤ 100 ∧ v = nI n := by
  obtain ⟨n, _, e, h2, _⟩ := inB_of h (by decide)
  have : (100 : Int32).toInt = 100 := rfl
  exact ⟨n, by omega, e⟩
theorem tN_q {n : Nat} (h : n ≤ 100) : tN (nI n) = n := nI_clamp (by omega)
theorem wcn_m {z : St} (iz : Inv z) {n b : Nat} (hn : n < 8) (hb : b < 8) : wcn z n b = (!decide (z 1 b = 0) && (decide (z 3 n = z 3 b) && decide (z 9 (8 * n + b) = 0))) := by
  unfold wcn
  rcases iz.1 b hb with h | h <;> rcases iz.2.2.1 (8 * n + b) (by omega) with h9 | h9 <;> rw [h, h9] <;> simp
def vr (v w : Int32) : Int32 := if nd v = true ∧ nd w = true then (if tN v = tN w then 2 else 0) else 1
theorem vr_n {n b : Nat} (h : n < 8) (hb : b < 8) : vr (nI n) (nI b) = if n = b then 2 else 0 := by rw [vr, if_pos ⟨nd_n h, nd_n hb⟩, tN_n h, tN_n hb]
theorem vr_yes {v w : Int32} (h : vr v w ≤ 0) : ∃ n b : Nat, n < 8 ∧ b < 8 ∧ ¬ n = b ∧ v = nI n ∧ w = nI b ∧ vr (nI n) (nI b) = 0 := by
  by_cases e : nd v = true ∧ nd w = true
  · obtain ⟨n, hn, rfl⟩ := nd_of e.1
    obtain ⟨b, hb, rfl⟩ := nd_of e.2
    rw [vr_n hn hb] at h
    by_cases e2 : n = b
    · rw [if_pos e2] at h; exact absurd h (by decide)
    · exact ⟨n, b, hn, hb, e2, rfl, rfl, by rw [vr_n hn hb, if_neg e2]⟩
  · rw [vr, if_neg e] at h; exact absurd h (by decide)
theorem vr_on2 {v w : Int32} {z : St} {f : Nat → Nat → PO} (h : ¬ vr v w ≤ 0) (hf : ∀ n, n < 8 → f n n = (2, 0, z)) : on2 v w z f = (vr v w, 0, z) := by
  by_cases e : nd v = true ∧ nd w = true
  · obtain ⟨n, hn, rfl⟩ := nd_of e.1
    obtain ⟨b, hb, rfl⟩ := nd_of e.2
    rw [vr_n hn hb] at h ⊢
    by_cases e2 : n = b
    · subst e2; rw [on2_n hn hn, if_pos rfl, hf n hn]
    · rw [if_neg e2] at h; exact absurd (by decide) h
  · rw [vr, on2, if_neg e, if_neg e]
theorem pV_no {v w : Int32} (z : St) (k : Nat) (h : ¬ vr v w ≤ 0) : pV k v w z = (vr v w, 0, z) := vr_on2 h fun n _ => by rw [if_pos rfl]
theorem pD_no {v w : Int32} (z : St) (h : ¬ vr v w ≤ 0) : pD v w z = (vr v w, 0, z) := vr_on2 h fun n _ => by rw [if_pos rfl]
theorem da_1 {a X c u : Bool} (h : (a && X) = true) (h2 : c = false ∨ u = true) : (1 : Int32) = b2 ((a && (!c || u)) && X) := by
  revert h h2; cases a <;> cases X <;> cases c <;> cases u <;> simp [b2]
theorem da_0 {a X c u : Bool} (h : (a && X) = false ∨ (c = true ∧ u = false)) : (0 : Int32) = b2 ((a && (!c || u)) && X) := by
  revert h; cases a <;> cases X <;> cases c <;> cases u <;> simp [b2]
