/-! what the simulation does, as functions of its state -/
def endq (z : St) : St := st z 0 9 (z 0 0)
def chg (z : St) (n b : Nat) : St := endq (st z 8 (8 * n + b) (z 0 3))
def rpl (z : St) (q : Nat) (x i : Int32) : St := if x = 2 then st (st (st z 5 q x) 6 q i) 7 q (z 0 0 + z 0 2) else st (st z 5 q x) 6 q i
def owg (z : St) (q : Nat) (x i : Int32) : Bool := if z 5 q = 0 then true else if i = z 6 q then decide (x = 2 ∧ z 5 q = 1 ∨ x = 3 ∧ ¬ z 5 q = 3) else decide (¬ i ≤ z 6 q)
def slf (z : St) (n : Nat) (x i : Int32) : Bool := decide (¬ x = 1 ∧ z 4 n ≤ i)
def tkb (z : St) (n b : Nat) (x i : Int32) : Bool := if b = n then slf z n x i else owg z (8 * n + b) x i
def tk (z : St) (n b : Nat) (x i : Int32) : St := if tkb z n b x i = true then (if b = n then chg (st (st z 4 n (i + 1)) 0 7 (z 0 7 + 1)) n b else chg (rpl z (8 * n + b) x i) n b) else z
def toS (z : St) (t b : Nat) : Int32 := if b = t then 1 else z 5 (8 * t + b)
def toI (z : St) (t b : Nat) : Int32 := if b = t then z 4 t else z 6 (8 * t + b)
/-- a set of nodes below K, bit k for node k -/
def mk (f : Nat → Bool) : Nat → Nat
  | 0 => 0
  | k + 1 => if f k = true then mk f k + 2 ^ k else mk f k
theorem mk_lt (f : Nat → Bool) : ∀ k, mk f k < 2 ^ k
  | 0 => by simp [mk]
  | k + 1 => by
    have h := mk_lt f k
    unfold mk
    split <;> (rw [Nat.pow_succ]; omega)
theorem mk_ext {f g : Nat → Bool} : ∀ k, (∀ j, j < k → f j = g j) → mk f k = mk g k
  | 0, _ => rfl
  | k + 1, h => by
    unfold mk
    rw [mk_ext k (fun j hj => h j (by omega)), h k (by omega)]
theorem mk_bit (f : Nat → Bool) : ∀ k j, (mk f k).testBit j = (decide (j < k) && f j)
  | 0, j => by simp [mk]
  | k + 1, j => by
    have h := mk_lt f k
    unfold mk
    by_cases hf : f k = true
    · rw [if_pos hf, Nat.add_comm]
      rcases Nat.lt_trichotomy j k with hj | hj | hj
      · rw [Nat.testBit_two_pow_add_gt hj, mk_bit f k j]
        simp [hj, Nat.lt_succ_of_lt hj]
      · subst hj
        rw [Nat.testBit_two_pow_add_eq, Nat.testBit_lt_two_pow h]
        simp [hf]
      · have h2 : 2 ^ k + mk f k < 2 ^ j := Nat.lt_of_lt_of_le (by rw [Nat.pow_succ]; omega : 2 ^ k + mk f k < 2 ^ (k + 1)) (Nat.pow_le_pow_right (by omega) hj)
        rw [Nat.testBit_lt_two_pow h2]
        simp [show ¬ j < k + 1 by omega]
    · rw [if_neg hf, mk_bit f k j]
      by_cases hj : j = k
      · subst hj; simp [hf]
      · have : decide (j < k + 1) = decide (j < k) := by rw [decide_eq_decide]; omega
        rw [this]
theorem mk_or (f g : Nat → Bool) (k : Nat) : mk f k ||| mk g k = mk (fun j => f j || g j) k := by
  apply Nat.eq_of_testBit_eq
  intro j
  rw [Nat.testBit_or, mk_bit, mk_bit, mk_bit, ← Bool.and_or_distrib_left]
theorem mk_256 (f : Nat → Bool) : mk f 8 < 256 := mk_lt f 8
theorem bit_sh : ∀ m, m < 256 → ∀ k, k < 8 → (nI m >>> (nI k &&& 31)) &&& 1 = b2 (m.testBit k) := by decide +kernel
theorem bit_set : ∀ m, m < 256 → ∀ k, k < 8 → nI m ||| ((1 : Int32) <<< (nI k &&& 31)) = nI (m ||| 2 ^ k) := by decide +kernel
theorem bit_clr : ∀ m, m < 256 → ∀ k, k < 8 → nI m &&& (((1 : Int32) <<< (nI k &&& 31)) ^^^ (-1)) = nI (m &&& (255 ^^^ 2 ^ k)) := by decide +kernel
theorem bit_or : ∀ m, m < 256 → ∀ k, k < 256 → nI m ||| nI k = nI (m ||| k) := by
  intro m hm k hk
  unfold nI
  apply Int32.toBitVec_inj.mp
  simp [Int32.toBitVec_or]
theorem bit_p : ∀ k, k < 8 → (1 : Int32) <<< (nI k &&& 31) = nI (2 ^ k) := by decide +kernel
theorem mk_sh (f : Nat → Bool) {k : Nat} (hk : k < 8) : (nI (mk f 8) >>> (nI k &&& 31)) &&& 1 = b2 (f k) := by
  rw [bit_sh _ (mk_256 f) _ hk, mk_bit]
  simp [hk]
theorem mk_step (f : Nat → Bool) {k : Nat} (hk : k < 8) (hf : f k = true) : nI (mk f k) ||| ((1 : Int32) <<< (nI k &&& 31)) = nI (mk f (k + 1)) := by
  have h1 := mk_lt f k
  have h2 : 2 ^ k ≤ 2 ^ 8 := Nat.pow_le_pow_right (by omega) (by omega)
  rw [bit_set _ (by omega) _ hk]
  congr 1
  rw [mk, if_pos hf, Nat.or_comm]
  have := Nat.two_pow_add_eq_or_of_lt h1 1
  simp at this
  omega
theorem mk_skip (f : Nat → Bool) {k : Nat} (hf : f k = false) : mk f (k + 1) = mk f k := by rw [mk, if_neg (by simp [hf])]
theorem mk_del (f : Nat → Bool) {h : Nat} (hh : h < 8) : nI (mk f 8) &&& (((1 : Int32) <<< (nI h &&& 31)) ^^^ (-1)) = nI (mk (fun j => f j && !decide (j = h)) 8) := by
  rw [bit_clr _ (mk_256 f) _ hh]
  congr 1
  apply Nat.eq_of_testBit_eq
  intro j
  rw [Nat.testBit_and, Nat.testBit_xor, mk_bit, mk_bit, Nat.testBit_two_pow, show (255 : Nat) = 2 ^ 8 - 1 from rfl, Nat.testBit_two_pow_sub_one]
  by_cases h1 : j < 8
  · by_cases h2 : j = h
    · subst h2; simp [h1]
    · simp [h1, h2, Ne.symm h2]
  · simp [h1]
theorem mk_ins (f : Nat → Bool) {h : Nat} (hh : h < 8) : nI (mk f 8) ||| ((1 : Int32) <<< (nI h &&& 31)) = nI (mk (fun j => f j || decide (j = h)) 8) := by
  rw [bit_set _ (mk_256 f) _ hh]
  congr 1
  apply Nat.eq_of_testBit_eq
  intro j
  rw [Nat.testBit_or, mk_bit, mk_bit, Nat.testBit_two_pow]
  by_cases h1 : j < 8
  · by_cases h2 : j = h
    · subst h2; simp [h1]
    · simp [h1, h2, Ne.symm h2]
  · have h3 : j ≠ h := by omega
    simp [h1, Ne.symm h3]
theorem mk_none (k : Nat) : mk (fun _ => false) k = 0 := by
  induction k with
  | zero => rfl
  | succ k ih => rw [mk_skip _ rfl, ih]
theorem mk_0 (f : Nat → Bool) : mk f 8 = 0 ↔ ∀ j, j < 8 → f j = false := by
  constructor
  · intro h j hj
    have := mk_bit f 8 j
    rw [h] at this
    simp [hj] at this
    exact this
  · intro h
    rw [mk_ext 8 (g := fun _ => false) (fun j hj => h j hj), mk_none]
/-- the nodes in a state in the views of a node -/
def nst (z : St) (n : Nat) (w : Int32) : Nat → Bool := fun k => decide (z 5 (8 * n + k) = w)
/-- the most urgent: the greatest counter, the lowest of such, apart from a set -/
def mu (z : St) (n : Nat) (t : Nat → Bool) : Nat → Option Nat
  | 0 => none
  | k + 1 => if t k = false ∧ (match mu z n t k with | none => 0 | some y => z 8 (8 * n + y)) < z 8 (8 * n + k) then some k else mu z n t k
def muV (z : St) (n : Nat) (o : Option Nat) : Int32 := match o with
  | none => 0
  | some y => z 8 (8 * n + y)
def oI (o : Option Nat) : Int32 := match o with
  | none => -1
  | some y => nI y
theorem mu_s (z : St) (n : Nat) (t : Nat → Bool) (k : Nat) : mu z n t (k + 1) = if t k = false ∧ muV z n (mu z n t k) < z 8 (8 * n + k) then some k else mu z n t k := rfl
theorem mu_lt (z : St) (n : Nat) (t : Nat → Bool) : ∀ k y, mu z n t k = some y → y < k
  | 0, y, h => by cases h
  | k + 1, y, h => by
    rw [mu_s] at h
    split at h
    · cases h; omega
    · have := mu_lt z n t k y h; omega
def smc (z : St) (n : Nat) : Nat → Int32
  | 0 => 0
  | k + 1 => smc z n k + z 8 (8 * n + k)
def utd (z : St) (n b : Nat) : Bool := decide (z 5 (8 * n + b) = 1 ∧ z 6 (8 * n + b) = z 4 b)
def dfr (z : St) (q y : Nat) : Bool := decide (¬ (z 5 q = z 5 y ∧ z 6 q = z 6 y))
/-- how many third nodes of which two nodes' views differ -/
def cdf (z : St) (n b : Nat) : Nat → Nat
  | 0 => 0
  | k + 1 => if ¬ k = n ∧ ¬ k = b ∧ dfr z (8 * n + k) (8 * b + k) = true then cdf z n b k + 1 else cdf z n b k
theorem cdf_le (z : St) (n b : Nat) : ∀ k, cdf z n b k ≤ k
  | 0 => Nat.le_refl _
  | k + 1 => by
    have := cdf_le z n b k
    unfold cdf
    split <;> omega
def fga (z : St) (n : Nat) : Nat → St
  | 0 => z
  | k + 1 => st (st (st (fga z n k) 5 (8 * n + k) 0) 6 (8 * n + k) 0) 8 (8 * n + k) 0
def fgt (z : St) (n : Nat) : St := st (fga z n 8) 8 (8 * n + n) (fga z n 8 0 3)
def wcn (z : St) (n b : Nat) : Bool := decide (z 1 b = 1) && (decide (z 3 n = z 3 b) && !decide (z 9 (8 * n + b) = 1))
def cnn (z : St) (n b : Nat) : Bool := !decide (n = b) && (decide (z 1 n = 1) && wcn z n b)
def sct (z : St) (n b : Nat) (on : Bool) : St := st (st z 9 (8 * n + b) (b2 on)) 9 (8 * b + n) (b2 on)
def cup (z : St) : Nat → Nat
  | 0 => 0
  | k + 1 => if z 1 k = 1 then cup z k + 1 else cup z k
theorem inv_o {z : St} (h : Inv z) {f k : Nat} {x : Int32} (hf : f ≠ 1 ∧ f ≠ 2 ∧ f ≠ 5 ∧ f ≠ 9) (h0 : ¬ (f = 0 ∧ (k = 1 ∨ k = 4))) : Inv (st z f k x) := by
  obtain ⟨a1, a2, a3, a4, a5, a6, a7⟩ := h
  refine ⟨fun n hn => ?_, fun n hn => ?_, fun n hn => ?_, fun n hn => ?_, fun n b hn hb => ?_, ?_, ?_⟩
  · rw [st_f _ _ _ _ _ _ (Ne.symm hf.1)]; exact a1 n hn
  · rw [st_f _ _ _ _ _ _ (Ne.symm hf.2.1)]; exact a2 n hn
  · rw [st_f _ _ _ _ _ _ (Ne.symm hf.2.2.2)]; exact a3 n hn
  · rw [st_f _ _ _ _ _ _ (Ne.symm hf.2.2.1)]; exact a4 n hn
  · rw [st_f _ _ _ _ _ _ (Ne.symm hf.2.2.2), st_f _ _ _ _ _ _ (Ne.symm hf.2.2.2)]; exact a5 n b hn hb
  · rw [st_at, if_neg (fun e => h0 ⟨e.1.symm, Or.inl e.2.symm⟩)]; exact a6
  · rw [show st z f k x 0 4 = z 0 4 by rw [st_at, if_neg (fun e => h0 ⟨e.1.symm, Or.inr e.2.symm⟩)]]; exact a7
theorem inv_5 {z : St} (h : Inv z) {k : Nat} {x : Int32} (hk : ∀ n, n < 8 → 8 * n + n = k → x = 0) : Inv (st z 5 k x) := by
  obtain ⟨a1, a2, a3, a4, a5, a6, a7⟩ := h
  refine ⟨fun n hn => ?_, fun n hn => ?_, fun n hn => ?_, fun n hn => ?_, fun n b hn hb => ?_, ?_, ?_⟩
  · rw [st_f _ _ _ _ _ _ (by decide)]; exact a1 n hn
  · rw [st_f _ _ _ _ _ _ (by decide)]; exact a2 n hn
  · rw [st_f _ _ _ _ _ _ (by decide)]; exact a3 n hn
  · rw [st_at]
    split
    · next e => exact hk n hn e.2
    · exact a4 n hn
  · rw [st_f _ _ _ _ _ _ (by decide), st_f _ _ _ _ _ _ (by decide)]; exact a5 n b hn hb
  · rw [st_f _ _ _ _ _ _ (by decide)]; exact a6
  · rw [st_f _ _ _ _ _ _ (by decide)]; exact a7
theorem inv_1 {z : St} (h : Inv z) {f k : Nat} {x : Int32} (hf : f = 1 ∨ f = 2) (hx : x = 0 ∨ x = 1) : Inv (st z f k x) := by
  obtain ⟨a1, a2, a3, a4, a5, a6, a7⟩ := h
  refine ⟨fun n hn => ?_, fun n hn => ?_, fun n hn => ?_, fun n hn => ?_, fun n b hn hb => ?_, ?_, ?_⟩
  · rw [st_at]; split
    · exact hx
    · exact a1 n hn
  · rw [st_at]; split
    · exact hx
    · exact a2 n hn
  · rw [st_f _ _ _ _ _ _ (by omega)]; exact a3 n hn
  · rw [st_f _ _ _ _ _ _ (by omega)]; exact a4 n hn
  · rw [st_f _ _ _ _ _ _ (by omega), st_f _ _ _ _ _ _ (by omega)]; exact a5 n b hn hb
  · rw [st_f _ _ _ _ _ _ (by omega)]; exact a6
  · rw [st_f _ _ _ _ _ _ (by omega)]; exact a7
theorem inv_s {z : St} (h : Inv z) {x : Int32} (hx : ¬ x < 0) : Inv (st z 0 1 x) := by
  obtain ⟨a1, a2, a3, a4, a5, a6, a7⟩ := h
  refine ⟨fun n hn => ?_, fun n hn => ?_, fun n hn => ?_, fun n hn => ?_, fun n b hn hb => ?_, ?_, ?_⟩
  · rw [st_f _ _ _ _ _ _ (by decide)]; exact a1 n hn
  · rw [st_f _ _ _ _ _ _ (by decide)]; exact a2 n hn
  · rw [st_f _ _ _ _ _ _ (by decide)]; exact a3 n hn
  · rw [st_f _ _ _ _ _ _ (by decide)]; exact a4 n hn
  · rw [st_f _ _ _ _ _ _ (by decide), st_f _ _ _ _ _ _ (by decide)]; exact a5 n b hn hb
  · rw [st_s]; exact hx
  · rw [st_k _ _ _ _ _ (by decide)]; exact a7
theorem inv_endq {z : St} (h : Inv z) : Inv (endq z) := inv_o h (by decide) (by decide)
theorem inv_chg {z : St} (h : Inv z) (n b : Nat) : Inv (chg z n b) := inv_endq (inv_o h (by decide) (by simp))
theorem inv_rpl {z : St} (h : Inv z) {n b : Nat} (hn : n < 8) (hb : b < 8) (hne : ¬ b = n) (x i : Int32) : Inv (rpl z (8 * n + b) x i) := by
  have h5 : Inv (st z 5 (8 * n + b) x) := inv_5 h (fun n2 h2 e => by omega)
  have h6 : Inv (st (st z 5 (8 * n + b) x) 6 (8 * n + b) i) := inv_o h5 (by decide) (by simp)
  unfold rpl
  split
  · exact inv_o h6 (by decide) (by simp)
  · exact h6
theorem inv_tk {z : St} (h : Inv z) {n b : Nat} (hn : n < 8) (hb : b < 8) (x i : Int32) : Inv (tk z n b x i) := by
  unfold tk
  split
  · split
    · exact inv_chg (inv_o (inv_o h (by decide) (by simp)) (by decide) (by decide)) _ _
    · next e => exact inv_chg (inv_rpl h hn hb e x i) _ _
  · exact h
theorem inv_fga {z : St} (h : Inv z) (n : Nat) : ∀ k, Inv (fga z n k)
  | 0 => h
  | k + 1 => inv_o (inv_o (inv_5 (inv_fga h n k) (fun _ _ _ => rfl)) (by decide) (by simp)) (by decide) (by simp)
theorem inv_fgt {z : St} (h : Inv z) (n : Nat) : Inv (fgt z n) := inv_o (inv_fga h n 8) (by decide) (by simp)
theorem inv_sct {z : St} (h : Inv z) {n b : Nat} (hn : n < 8) (hb : b < 8) (on : Bool) : Inv (sct z n b on) := by
  obtain ⟨a1, a2, a3, a4, a5, a6, a7⟩ := h
  have ho : b2 on = 0 ∨ b2 on = 1 := by cases on <;> simp [b2]
  refine ⟨fun n hn => ?_, fun n hn => ?_, fun q hq => ?_, fun n hn => ?_, fun n2 b2' hn2 hb2 => ?_, ?_, ?_⟩
  · rw [sct, st_f _ _ _ _ _ _ (by decide), st_f _ _ _ _ _ _ (by decide)]; exact a1 n hn
  · rw [sct, st_f _ _ _ _ _ _ (by decide), st_f _ _ _ _ _ _ (by decide)]; exact a2 n hn
  · rw [sct, st_at]; split
    · exact ho
    · rw [st_at]; split
      · exact ho
      · exact a3 q hq
  · rw [sct, st_f _ _ _ _ _ _ (by decide), st_f _ _ _ _ _ _ (by decide)]; exact a4 n hn
  · simp only [sct, st_at, true_and]
    by_cases h1 : n2 = n ∧ b2' = b
    · obtain ⟨rfl, rfl⟩ := h1; simp
    · by_cases h2 : n2 = b ∧ b2' = n
      · obtain ⟨rfl, rfl⟩ := h2; simp
      · have e1 : ¬ (8 * n2 + b2' = 8 * b + n) := by omega
        have e2 : ¬ (8 * n2 + b2' = 8 * n + b) := by omega
        have e3 : ¬ (8 * b2' + n2 = 8 * b + n) := by omega
        have e4 : ¬ (8 * b2' + n2 = 8 * n + b) := by omega
        simp [e1, e2, e3, e4]
        exact a5 n2 b2' hn2 hb2
  · rw [sct, st_f _ _ _ _ _ _ (by decide), st_f _ _ _ _ _ _ (by decide)]; exact a6
  · rw [sct, st_f _ _ _ _ _ _ (by decide), st_f _ _ _ _ _ _ (by decide)]; exact a7
