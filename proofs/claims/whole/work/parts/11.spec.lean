section GP
variable {p : Program} {l : Launch} {e : Env} {R : Room} {s : State} {m : MethodId} {args : Array Value} {below : List Frame} {meth : Method} {c : Code} {H : Heap} {locs : List Loc} {cells slots : Nat} {Q : State → Prop}
variable {cc : ByteArray} {nL : Nat} {Ts : List Cond} {own : String} {pc : Nat} {ls : Array Slot} {rest : List Value}
set_option maxRecDepth 100000 in
/-- GossipMembershipModel.pair -/
theorem c_X5_pair (l : Launch) (n b : Nat) : Met l yX5_pair wsX5_pair ({ frames := 0, cells := 0, slots := 0, locals := 0 }) (va_Pc [.int (nI n), .int (nI b)] (fun _ => True)) (vp_Si (fun r => r = nI (8 * n + b))) 0 0 (fun _ => False) := by
  refine Met.ofW (cc := cX5_pair) (maxL := 2) (ret := (some .int)) (by decide) rfl ?_
  intro p e s m args below meth c s₁ B hml hv
  obtain ⟨rfl, -⟩ := hv
  have hx := B.exec
  have hb := B.bytes
  have hr := B.returns
  have hlk := B.notSynchronized
  have hl := lv_entry ([.int (nI n), .int (nI b)]) (n := 2) (Nat.le_of_ble_eq_true rfl)
  rw [lg_entry_eq]
  generalize (lg_sl ([.int (nI n), .int (nI b)]) ++ List.replicate (2 - (lg_sl ([.int (nI n), .int (nI b)])).length) Slot.unset).toArray = ls at hl ⊢
  have hl : lv_has ls 2 [(0, .int (nI n)), (1, .int (nI b))] := hl
  refine lv_bipush (v := nI 8) hx hb dX5_pair_0 (by decide) ?_
  refine lv_iload_n hx hb dX5_pair_2 rfl (lv_at hl 0 rfl) ?_
  refine lv_imul hx hb dX5_pair_3 ?_
  rw [pk_mul]
  refine lv_iload_n hx hb dX5_pair_4 rfl (lv_at hl 1 rfl) ?_
  refine lv_iadd hx hb dX5_pair_5 ?_
  rw [nI_add]
  exact W.iret (v := nI (8 * n + b)) hx hb hr (fun t ht hW => ⟨_, rfl, rfl, ht⟩) (fun q h => by cases h) dX5_pair_6 hlk
theorem hd_X5_pair : yX5_pair.cls ≠ "java/lang/invoke/MethodHandle" ∧ yX5_pair.cls ≠ "java/lang/invoke/VarHandle" ∧ (parseMethodDescriptor yX5_pair.desc).map (fun d => d.parameters.length) = some 2 := by decide +kernel
theorem pr_m {idx n b : Nat} (S : CallFix p m c cc nL s args Ts own) (hsz : ls.size = nL) (hg : GoodIn Ts (va_wsS own idx yX5_pair wsX5_pair)) (hR : 1 ≤ R.frames ∧ 21 ≤ R.locals) (hc : cells ≤ R.cells) (hs : slots ≤ R.slots) (hrest : (rest.map fun v => v.category).sum ≤ 8) (hdg : decode cc pc = .ok (.invokestatic idx, 3))
    (kk : W p l e R s m args below meth c H locs cells slots Q (F0 m (pc + 3) ls (.int (nI (8 * n + b)) :: rest))) : W p l e R s m args below meth c H locs cells slots Q (F0 m pc ls (.int (nI b) :: .int (nI n) :: rest)) := by
  refine vp_callSi (va_runS (As := [.int (nI n), .int (nI b)]) (rest := rest) S (c_X5_pair l n b) (va_cwS 2 S.2.2.2.2 hg rfl rfl rfl hd_X5_pair ⟨hR.1, hR.2⟩) ⟨blind_T, fun U hU hW => ⟨rfl, trivial⟩⟩ rfl rfl hsz rfl (lv_room hrest) hdg ⟨hc, hs⟩).run (fun r hp => ?_)
  rw [hp]
  exact kk
end GP
/-! what the reference computes, in the same words -/
def SC (k k' : St) : Prop := ∀ f j, ¬ f = 3 → ¬ (f = 0 ∧ j = 5) → k' f j = k f j
theorem SC.rf (k : St) : SC k k := fun _ _ _ _ => rfl
theorem SC.tr {a b c : St} (h : SC a b) (h2 : SC b c) : SC a c := fun f j h3 h4 => (h2 f j h3 h4).trans (h f j h3 h4)
theorem i_lt (a b : Int32) : a < b ↔ a.toInt < b.toInt := Int32.lt_iff_toInt_lt
theorem i_le (a b : Int32) : a ≤ b ↔ a.toInt ≤ b.toInt := Int32.le_iff_toInt_le
theorem i_eq (a b : Int32) : a = b ↔ a.toInt = b.toInt := Int32.toInt_inj.symm
def wrs (z : St) (q : Nat) (x : Int32) : Bool := decide (x = 2 ∧ z 5 q = 1 ∨ x = 3 ∧ ¬ z 5 q = 3)
theorem owg_0 {z : St} {q : Nat} {x i : Int32} (h : z 5 q = 0) : owg z q x i = true := by rw [owg, if_pos h]
theorem owg_gt {z : St} {q : Nat} {x i : Int32} (h : ¬ z 5 q = 0) (h2 : z 6 q < i) : owg z q x i = true := by
  have a : ¬ i = z 6 q := by intro e; rw [e, i_lt] at h2; omega
  have b : ¬ i ≤ z 6 q := by rw [i_le]; rw [i_lt] at h2; omega
  rw [owg, if_neg h, if_neg a]; simp [b]
theorem owg_lt {z : St} {q : Nat} {x i : Int32} (h : ¬ z 5 q = 0) (h2 : i < z 6 q) : owg z q x i = false := by
  have a : ¬ i = z 6 q := by intro e; rw [e, i_lt] at h2; omega
  have b : i ≤ z 6 q := by rw [i_le]; rw [i_lt] at h2; omega
  rw [owg, if_neg h, if_neg a]; simp [b]
theorem owg_eq {z : St} {q : Nat} {x i : Int32} (h : ¬ z 5 q = 0) (h1 : ¬ z 6 q < i) (h2 : ¬ i < z 6 q) : owg z q x i = wrs z q x := by
  have a : i = z 6 q := by rw [i_eq]; rw [i_lt] at h1 h2; omega
  rw [owg, if_neg h, if_pos a]; rfl
def bec (z : St) (n b : Nat) (x i : Int32) : St := chg (rpl z (8 * n + b) x i) n b
def rft (z : St) (n : Nat) (x i : Int32) : St := if slf z n x i = true then chg (st (st z 4 n (i + 1)) 0 7 (z 0 7 + 1)) n n else z
theorem muV_0 (z : St) (n : Nat) (t : Nat → Bool) : ∀ k, ¬ muV z n (mu z n t k) < 0
  | 0 => by show ¬ (0 : Int32) < 0; decide
  | k + 1 => by
    have ih := muV_0 z n t k
    rw [mu_s]
    split
    · next h =>
      show ¬ z 8 (8 * n + k) < 0
      rw [i_lt] at ih ⊢
      have := h.2
      rw [i_lt] at this
      intro h3
      have : (0 : Int32).toInt = 0 := rfl
      omega
    · exact ih
theorem mu_le0 {z : St} {n : Nat} {t : Nat → Bool} {k : Nat} (h : z 8 (8 * n + k) ≤ 0) : mu z n t (k + 1) = mu z n t k := by
  rw [mu_s, if_neg]
  intro h2
  have := muV_0 z n t k
  have h3 := h2.2
  rw [i_lt] at this h3
  rw [i_le] at h
  have : (0 : Int32).toInt = 0 := rfl
  omega
theorem mu_bit {z : St} {n : Nat} {t : Nat → Bool} {k : Nat} (h : t k = true) : mu z n t (k + 1) = mu z n t k := by
  rw [mu_s, if_neg (fun h2 => by rw [h2.1] at h; cases h)]
theorem mu_not {z : St} {n : Nat} {t : Nat → Bool} {k y : Nat} (hy : mu z n t k = some y) (h : z 8 (8 * n + k) ≤ z 8 (8 * n + y)) : mu z n t (k + 1) = some y := by
  rw [mu_s, if_neg, hy]
  intro h2
  have h3 := h2.2
  rw [hy] at h3
  have h3 : z 8 (8 * n + y) < z 8 (8 * n + k) := h3
  rw [i_lt] at h3
  rw [i_le] at h
  omega
theorem mu_yes {z : St} {n : Nat} {t : Nat → Bool} {k y : Nat} (hy : mu z n t k = some y) (ht : t k = false) (h : ¬ z 8 (8 * n + k) ≤ z 8 (8 * n + y)) : mu z n t (k + 1) = some k := by
  rw [mu_s, if_pos]
  refine ⟨ht, ?_⟩
  rw [hy]
  show z 8 (8 * n + y) < z 8 (8 * n + k)
  rw [i_lt]
  rw [i_le] at h
  omega
theorem mu_first {z : St} {n : Nat} {t : Nat → Bool} {k : Nat} (hn : mu z n t k = none) (ht : t k = false) (h : ¬ z 8 (8 * n + k) ≤ 0) : mu z n t (k + 1) = some k := by
  rw [mu_s, if_pos]
  refine ⟨ht, ?_⟩
  rw [hn]
  show (0 : Int32) < z 8 (8 * n + k)
  rw [i_lt]
  rw [i_le] at h
  omega
/-- nodes of others' whose states lie between -/
def vwd (z : St) (n : Nat) (lo hi : Int32) : Nat → Bool := fun k => !decide (k = n) && (!decide (z 5 (8 * n + k) < lo) && !decide (hi < z 5 (8 * n + k)))
theorem i_1 (x : Int32) : (!decide (x < 1) && !decide (1 < x)) = decide (x = 1) := by
  rw [← decide_not, ← decide_not, ← Bool.decide_and, decide_eq_decide, i_lt, i_lt, i_eq]
  have : (1 : Int32).toInt = 1 := rfl
  omega
theorem i_12 (x : Int32) : (!decide (x < 1) && !decide (2 < x)) = (decide (x = 1) || decide (x = 2)) := by
  rw [← decide_not, ← decide_not, ← Bool.decide_and, ← Bool.decide_or, decide_eq_decide, i_lt, i_lt, i_eq, i_eq]
  have : (1 : Int32).toInt = 1 := rfl
  have : (2 : Int32).toInt = 2 := rfl
  omega
theorem vwd_1 {z : St} (h : Inv z) {n : Nat} (hn : n < 8) : ∀ k, vwd z n 1 1 k = nst z n 1 k := by
  intro k
  unfold vwd nst
  by_cases e : k = n
  · subst e
    rw [h.2.2.2.1 k hn]
    simp
  · rw [i_1]; simp [e]
theorem vwd_2 {z : St} (h : Inv z) {n : Nat} (hn : n < 8) : ∀ k, vwd z n 1 2 k = prt z n k := by
  intro k
  unfold vwd prt nst
  by_cases e : k = n
  · subst e
    rw [h.2.2.2.1 k hn]
    simp
  · rw [i_12]; simp [e]
theorem prt_n {z : St} (h : Inv z) {n : Nat} (hn : n < 8) : prt z n n = false := by
  unfold prt nst
  rw [h.2.2.2.1 n hn]
  simp
theorem st_self (z : St) (f k : Nat) : st z f k (z f k) = z := by
  funext g j
  rw [st_at]
  split
  · next h => rw [h.1, h.2]
  · rfl
theorem tk_dead {t : St} {n k : Nat} (hk : ¬ k = n) (h : t 5 (8 * n + k) = 2) : tk t n k 3 (t 6 (8 * n + k)) = bec t n k 3 (t 6 (8 * n + k)) := by
  have e : tkb t n k 3 (t 6 (8 * n + k)) = true := by
    rw [tkb, if_neg hk, owg, if_neg (by rw [h]; decide), if_pos rfl, h]
    simp
  rw [tk, if_pos e, if_neg hk]
  rfl
theorem tk_sus {t : St} {n k : Nat} (hk : ¬ k = n) (h : t 5 (8 * n + k) = 1) : tk t n k 2 (t 6 (8 * n + k)) = bec t n k 2 (t 6 (8 * n + k)) := by
  have e : tkb t n k 2 (t 6 (8 * n + k)) = true := by
    rw [tkb, if_neg hk, owg, if_neg (by rw [h]; decide), if_pos rfl, h]
    simp
  rw [tk, if_pos e, if_neg hk]
  rfl
theorem tk_sus2 {t : St} {n k : Nat} (hk : ¬ k = n) (h : t 5 (8 * n + k) = 2) : tk t n k 2 (t 6 (8 * n + k)) = t := by
  have e : tkb t n k 2 (t 6 (8 * n + k)) = false := by
    rw [tkb, if_neg hk, owg, if_neg (by rw [h]; decide), if_pos rfl, h]
    simp
  rw [tk, if_neg (by rw [e]; decide)]
theorem chg_5 (z : St) (n b q : Nat) : chg z n b 5 q = z 5 q := by
  unfold chg endq
  rw [st_f _ _ _ _ _ _ (by decide), st_f _ _ _ _ _ _ (by decide)]
theorem rpl_5 (z : St) (q : Nat) (x i : Int32) (j : Nat) (h : j ≠ q) : rpl z q x i 5 j = z 5 j := by
  unfold rpl
  split
  · rw [st_f _ _ _ _ _ _ (by decide), st_f _ _ _ _ _ _ (by decide), st_k _ _ _ _ _ h]
  · rw [st_f _ _ _ _ _ _ (by decide), st_k _ _ _ _ _ h]
theorem tk_5 (z : St) (n b : Nat) (x i : Int32) (j : Nat) (h : b ≠ n → j ≠ 8 * n + b) : tk z n b x i 5 j = z 5 j := by
  unfold tk
  split
  · split
    · rw [chg_5, st_f _ _ _ _ _ _ (by decide), st_f _ _ _ _ _ _ (by decide)]
    · next e => rw [chg_5, rpl_5 _ _ _ _ _ (h e)]
  · rfl
theorem dcS_5 (t : St) (n k j : Nat) (h : j ≠ 8 * n + k) : dcS n k t 5 j = t 5 j := by
  unfold dcS
  split
  · rw [st_f _ _ _ _ _ _ (by decide), st_f _ _ _ _ _ _ (by decide), tk_5 _ _ _ _ _ _ (fun _ => h)]
  · rw [st_f _ _ _ _ _ _ (by decide), tk_5 _ _ _ _ _ _ (fun _ => h)]
theorem dcK_5 (z : St) (n : Nat) : ∀ k j, k ≤ j → dcK z n k 5 (8 * n + j) = z 5 (8 * n + j)
  | 0, _, _ => rfl
  | k + 1, j, h => by
    unfold dcK
    split
    · rw [dcS_5 _ _ _ _ (by omega)]; exact dcK_5 z n k j (by omega)
    · exact dcK_5 z n k j (by omega)
theorem dz_5 (z : St) (f : Nat → Bool) (q : Nat) : dz z f 5 q = z 5 q := by
  unfold dz
  split
  · rfl
  · rw [st_f _ _ _ _ _ _ (by decide)]
theorem hpK_5 (n y : Nat) (w : HS) (q : Nat) : ∀ d, (hpK n y w d).1 5 q = w.1 5 q
  | 0 => rfl
  | d + 1 => by
    have := hpK_5 n y w q d
    unfold hpK hpS
    split
    · exact this
    · show dz _ _ 5 q = _
      rw [dz_5]; exact this
theorem dv_cnt {z : St} {f : Nat → Bool} (h : ¬ cnt f 8 = 0) : dv z f = some (nth f (sd (z 0 1) / 256 % cnt f 8) 8) := by rw [dv, if_neg h]
theorem mk_cnt {f : Nat → Bool} : mk f 8 = 0 ↔ cnt f 8 = 0 := by
  rw [mk_0]
  exact ⟨fun h => cnt_z 8 h, fun h => cnt_0 8 h⟩
def cmA (z : St) (n b : Nat) : Bool := decide (z 5 (8 * n + b) = 2 ∨ z 5 (8 * n + b) = 3)
abbrev CS : Type := (Nat → Bool) × List Nat
def cmS (z : St) (a : Bool) (n b : Nat) (w : CS) : CS := match mu z n w.1 8 with
  | none => w
  | some y => (fun j => w.1 j || decide (j = y), if a = true ∧ y = b then w.2 else w.2 ++ [y])
def cmK (z : St) (a : Bool) (n b : Nat) (w : CS) : Nat → CS
  | 0 => w
  | j + 1 => cmS z a n b (cmK z a n b w j)
def cm0 (a : Bool) (b : Nat) : CS := (fun _ => false, if a = true then [b] else [])
def dcr (z : St) (n : Nat) (q : Nat → Bool) : Nat → St
  | 0 => z
  | k + 1 => st (dcr z n q k) 8 (8 * n + k) (dcr z n q k 8 (8 * n + k) - b2 (q k))
def cmF (z : St) (n b : Nat) : CS := cmK z (cmA z n b) n b (cm0 (cmA z n b) b) 3
def cmZ (z : St) (n b : Nat) : St := dcr z n (cmF z n b).1 8
def tlL (n b : Nat) (z : St) : List Nat → St
  | [] => z
  | y :: l => tlL n b (tk z b y (toS z n y) (toI z n y)) l
def snR (z : St) (n b : Nat) : St := tlL n b (st (cmZ z n b) 0 8 (cmZ z n b 0 8 + 1)) (cmF z n b).2
theorem cmS_len (z : St) (a : Bool) (n b : Nat) (w : CS) : (cmS z a n b w).2.length ≤ w.2.length + 1 := by
  unfold cmS
  split
  · omega
  · dsimp only
    split
    · omega
    · simp
theorem cmS_lt (z : St) (a : Bool) (n b : Nat) (w : CS) (h : ∀ y ∈ w.2, y < 8) : ∀ y ∈ (cmS z a n b w).2, y < 8 := by
  unfold cmS
  split
  · exact h
  · next y0 hy =>
    dsimp only
    split
    · exact h
    · intro y hy2
      rcases List.mem_append.mp hy2 with h3 | h3
      · exact h y h3
      · have := List.mem_singleton.mp h3
        rw [this]
        exact mu_lt _ _ _ 8 _ hy
theorem cm0_len (a : Bool) (b : Nat) : (cm0 a b).2.length ≤ 1 := by unfold cm0; dsimp only; split <;> simp
theorem cm0_lt (a : Bool) {b : Nat} (hb : b < 8) : ∀ y ∈ (cm0 a b).2, y < 8 := by
  unfold cm0; dsimp only; split
  · intro y hy; rw [List.mem_singleton.mp hy]; exact hb
  · intro y hy; cases hy
theorem cmK_len (z : St) (a : Bool) (n b : Nat) : ∀ j, (cmK z a n b (cm0 a b) j).2.length ≤ j + 1
  | 0 => cm0_len a b
  | j + 1 => by
    have := cmK_len z a n b j
    have h2 := cmS_len z a n b (cmK z a n b (cm0 a b) j)
    unfold cmK
    omega
theorem cmK_lt (z : St) (a : Bool) (n : Nat) {b : Nat} (hb : b < 8) : ∀ j, ∀ y ∈ (cmK z a n b (cm0 a b) j).2, y < 8
  | 0 => cm0_lt a hb
  | j + 1 => cmS_lt z a n b _ (cmK_lt z a n hb j)
theorem tkb_self (z : St) (n : Nat) (x i : Int32) : tkb z n n x i = slf z n x i := by rw [tkb, if_pos rfl]
theorem tk_self (z : St) (n : Nat) (x i : Int32) : tk z n n x i = rft z n x i := by rw [tk, tkb_self, if_pos rfl, rft]
theorem nst_n {z : St} (h : Inv z) {n : Nat} (hn : n < 8) {w : Int32} (hw : ¬ w = 0) : nst z n w n = false := by
  unfold nst
  rw [h.2.2.2.1 n hn]
  simp
  exact fun e => hw e.symm
theorem dcK_skip {z t : St} {n k : Nat} (ht : t = dcK z n k) (h : k = n ∨ ¬ t 5 (8 * n + k) = 2 ∨ t 0 0 < t 7 (8 * n + k)) (iz : Inv z) (hn : n < 8) : t = dcK z n (k + 1) := by
  rw [dcK, ← ht, if_neg]
  intro h2
  rcases h with h | h | h
  · subst h
    rw [nst_n iz hn (by decide)] at h2
    cases h2.1
  · have e := dcK_5 z n k k (Nat.le_refl _)
    rw [← ht] at e
    have h3 := h2.1
    unfold nst at h3
    rw [← e] at h3
    exact h (of_decide_eq_true h3)
  · exact h2.2 h
theorem dcK_yes {z t z8 z9 : St} {n k : Nat} (ht : t = dcK z n k) (hk : ¬ k = n) (h5 : t 5 (8 * n + k) = 2) (h7 : ¬ t 0 0 < t 7 (8 * n + k)) (e8 : z8 = bec t n k 3 (t 6 (8 * n + k))) (e9 : z9 = st z8 0 5 (z8 0 5 + 1)) : (cnn z9 n k = true → st z9 0 6 (z9 0 6 + 1) = dcK z n (k + 1)) ∧ (cnn z9 n k = false → z9 = dcK z n (k + 1)) := by
  have e := dcK_5 z n k k (Nat.le_refl _)
  rw [← ht, h5] at e
  have hs : nst z n 2 k = true := by unfold nst; rw [← e]; rfl
  have hi : toI t n k = t 6 (8 * n + k) := by rw [toI, if_neg hk]
  have h8 : tk t n k 3 (toI t n k) = z8 := by rw [hi, tk_dead hk h5, e8]
  rw [dcK, ← ht, if_pos ⟨hs, h7⟩]
  unfold dcS
  dsimp only
  rw [h8, ← e9]
  exact ⟨fun h => by rw [if_pos h], fun h => by rw [if_neg (by rw [h]; decide)]⟩
theorem hpr_5 (z : St) (n y q : Nat) : (hpr z n y).1 5 q = z 5 q := hpK_5 n y (hp0 z n y) q _
theorem trn_none {z : St} {n : Nat} (h : dv (dco z n) (prt (dco z n) n) = none) : trn z n = dco z n := by
  unfold trn; rw [h]
theorem trn_yes {z z1 z2 : St} {n y : Nat} (e1 : z1 = dco z n) (e2 : z2 = dz z1 (prt z1 n)) (h : dv z1 (prt z1 n) = some y) (c : cnn z2 n y = true) : trn z n = snM (snM z2 n y) y n := by
  subst e2; subst e1
  unfold trn; rw [h]; dsimp only; rw [if_pos c]
theorem trn_help {z z1 z2 : St} {n y : Nat} (e1 : z1 = dco z n) (e2 : z2 = dz z1 (prt z1 n)) (h : dv z1 (prt z1 n) = some y) (c : cnn z2 n y = false) (b : (hpr z2 n y).2.2 = true) : trn z n = (hpr z2 n y).1 := by
  subst e2; subst e1
  unfold trn; rw [h]; dsimp only; rw [if_neg (by rw [c]; decide), if_pos b]
theorem trn_sus {z z1 z2 : St} {n y : Nat} (e1 : z1 = dco z n) (e2 : z2 = dz z1 (prt z1 n)) (h : dv z1 (prt z1 n) = some y) (c : cnn z2 n y = false) (b : (hpr z2 n y).2.2 = false) : trn z n = tk (hpr z2 n y).1 n y 2 (toI (hpr z2 n y).1 n y) := by
  subst e2; subst e1
  unfold trn; rw [h]; dsimp only; rw [if_neg (by rw [c]; decide), if_neg (by rw [b]; decide)]
theorem inv_bec {z : St} (h : Inv z) {n b : Nat} (hn : n < 8) (hb : b < 8) (hne : ¬ b = n) (x i : Int32) : Inv (bec z n b x i) := inv_chg (inv_rpl h hn hb hne x i) _ _
/-- a piece of news taken in, and a number elsewhere -/
def awy (b y f k : Nat) : Prop := (f = 0 ∧ k = 8) ∨ (f = 8 ∧ ¬ k = 8 * b + y)
theorem awy_r {b y f k g j : Nat} (h : awy b y f k) (hg : ¬ g = 8 ∧ ¬ (g = 0 ∧ j = 8)) (s : St) (v : Int32) : st s f k v g j = s g j := by
  rw [st_at, if_neg]
  intro e
  rcases h with h | h <;> omega
theorem awy_c {b y f k g j : Nat} (h : awy b y f k) (hg : ¬ (f = g ∧ k = j)) (s : St) (v w : Int32) : st (st s f k v) g j w = st (st s g j w) f k v := st_comm s f k v g j w hg
theorem chg_awy {b y f k : Nat} (h : awy b y f k) (s : St) (v : Int32) : chg (st s f k v) b y = st (chg s b y) f k v := by
  unfold chg endq
  rw [awy_r h (by omega) s v, awy_c h (by rcases h with h | h <;> omega) s v, awy_r h (by omega) _ v]
  exact awy_c h (by rcases h with h | h <;> omega) _ v _
theorem rpl_awy {b y f k : Nat} (h : awy b y f k) (s : St) (v x i : Int32) : rpl (st s f k v) (8 * b + y) x i = st (rpl s (8 * b + y) x i) f k v := by
  unfold rpl
  rw [awy_r h (by omega) s v, awy_r h (by omega) s v]
  split
  · rw [awy_c h (by rcases h with h | h <;> omega) s v, awy_c h (by rcases h with h | h <;> omega) _ v, awy_c h (by rcases h with h | h <;> omega) _ v]
  · rw [awy_c h (by rcases h with h | h <;> omega) s v, awy_c h (by rcases h with h | h <;> omega) _ v]
theorem tk_awy {b y f k : Nat} (h : awy b y f k) (s : St) (v x i : Int32) : tk (st s f k v) b y x i = st (tk s b y x i) f k v := by
  have e : tkb (st s f k v) b y x i = tkb s b y x i := by
    unfold tkb slf owg
    rw [awy_r h (by omega) s v, awy_r h (by omega) s v, awy_r h (by omega) s v]
  unfold tk
  rw [e]
  split
  · split
    · rw [awy_r h (by omega) s v, awy_c h (by rcases h with h | h <;> omega) s v, awy_c h (by rcases h with h | h <;> omega) _ v, chg_awy h]
    · rw [rpl_awy h, chg_awy h]
  · rfl
theorem toS_awy {b y f k : Nat} (h : awy b y f k) (s : St) (v : Int32) (n j : Nat) : toS (st s f k v) n j = toS s n j := by
  unfold toS
  rw [awy_r h (by omega) s v]
theorem toI_awy {b y f k : Nat} (h : awy b y f k) (s : St) (v : Int32) (n j : Nat) : toI (st s f k v) n j = toI s n j := by
  unfold toI
  rw [awy_r h (by omega) s v, awy_r h (by omega) s v]
theorem tk_at {b y f k : Nat} (h : awy b y f k) (s : St) (x i : Int32) : tk s b y x i f k = s f k := by
  have e := tk_awy h s (s f k) x i
  rw [st_self] at e
  rw [e, st_s]
theorem tlL_awy {n b f k : Nat} : ∀ (l : List Nat), (∀ y ∈ l, awy b y f k) → ∀ (s : St) (v : Int32), tlL n b (st s f k v) l = st (tlL n b s l) f k v
  | [], _, _, _ => rfl
  | y :: l, h, s, v => by
    have h1 := h y List.mem_cons_self
    show tlL n b (tk (st s f k v) b y (toS (st s f k v) n y) (toI (st s f k v) n y)) l = _
    rw [toS_awy h1, toI_awy h1, tk_awy h1, tlL_awy l (fun w hw => h w (List.mem_cons_of_mem _ hw))]
    rfl
theorem tlL_at {n b f k : Nat} : ∀ (l : List Nat), (∀ y ∈ l, awy b y f k) → ∀ (s : St), tlL n b s l f k = s f k
  | [], _, _ => rfl
  | y :: l, h, s => by
    show tlL n b (tk s b y (toS s n y) (toI s n y)) l f k = _
    rw [tlL_at l (fun w hw => h w (List.mem_cons_of_mem _ hw)), tk_at (h y List.mem_cons_self)]
theorem tlL_app (n b : Nat) : ∀ (l : List Nat) (s : St) (y : Nat), tlL n b s (l ++ [y]) = tk (tlL n b s l) b y (toS (tlL n b s l) n y) (toI (tlL n b s l) n y)
  | [], _, _ => rfl
  | x :: l, s, y => tlL_app n b l _ y
theorem mu_free {z : St} {n : Nat} {q : Nat → Bool} : ∀ k y, mu z n q k = some y → q y = false
  | 0, y, h => by cases h
  | k + 1, y, h => by
    rw [mu_s] at h
    split at h
    · next e => cases h; exact e.1
    · exact mu_free k y h
theorem mu_congr {z z' : St} {n : Nat} {q : Nat → Bool} : ∀ k, (∀ j, j < k → q j = false → z' 8 (8 * n + j) = z 8 (8 * n + j)) → mu z' n q k = mu z n q k
  | 0, _ => rfl
  | k + 1, h => by
    have ih := mu_congr (z := z) (z' := z') (n := n) (q := q) k (fun j hj => h j (by omega))
    have hv : muV z' n (mu z n q k) = muV z n (mu z n q k) := by
      cases e : mu z n q k with
      | none => rfl
      | some y => exact h y (by have := mu_lt _ _ _ _ _ e; omega) (mu_free _ _ e)
    rw [mu_s, mu_s, ih, hv]
    by_cases hq : q k = false
    · rw [h k (by omega) hq]
    · simp [hq]
theorem dcr_at (z : St) (n : Nat) (q : Nat → Bool) : ∀ k f j, dcr z n q k f j = if f = 8 ∧ 8 * n ≤ j ∧ j < 8 * n + k then z 8 j - b2 (q (j - 8 * n)) else z f j
  | 0, f, j => by
    rw [if_neg (by omega)]; rfl
  | k + 1, f, j => by
    rw [dcr, st_at, dcr_at z n q k, dcr_at z n q k]
    by_cases h : f = 8 ∧ j = 8 * n + k
    · obtain ⟨rfl, rfl⟩ := h
      rw [if_pos ⟨rfl, rfl⟩, if_neg (by omega), if_pos (by omega)]
      have : 8 * n + k - 8 * n = k := by omega
      rw [this]
    · rw [if_neg h]
      by_cases h2 : f = 8 ∧ 8 * n ≤ j ∧ j < 8 * n + k
      · rw [if_pos h2, if_pos (by omega)]
      · rw [if_neg h2, if_neg (by omega)]
theorem dcr_none (z : St) (n : Nat) : dcr z n (fun _ => false) 8 = z := by
  funext f j
  rw [dcr_at]
  split
  · next h => rw [h.1]; exact Int32.sub_zero _
  · rfl
theorem dcr_ins (z : St) {n y : Nat} (hy : y < 8) {q : Nat → Bool} (hq : q y = false) : dcr z n (fun j => q j || decide (j = y)) 8 = st (dcr z n q 8) 8 (8 * n + y) (dcr z n q 8 8 (8 * n + y) - 1) := by
  funext f j
  rw [st_at, dcr_at, dcr_at, dcr_at]
  by_cases h : f = 8 ∧ j = 8 * n + y
  · obtain ⟨rfl, rfl⟩ := h
    have e : 8 * n + y - 8 * n = y := by omega
    rw [if_pos (by omega), if_pos (by omega), if_pos (by omega), e, hq]
    simp [b2]
  · rw [if_neg h]
    by_cases h2 : f = 8 ∧ 8 * n ≤ j ∧ j < 8 * n + 8
    · rw [if_pos h2, if_pos h2]
      have e : ¬ j - 8 * n = y := by omega
      simp [e]
    · rw [if_neg h2, if_neg h2]
theorem cmA_eq {z : St} {n b : Nat} (h : ¬ n = b) : cmA z n b = snA z n b := by
  unfold cmA snA toS
  rw [if_neg (fun e => h e.symm)]
theorem snK_cm {z : St} {n b : Nat} (hn : ¬ n = b) (hn8 : n < 8) (hb : b < 8) : ∀ j, snK (snA z n b) n b (snH z n b, fun _ => false) j = (tlL n b (dcr z n (cmK z (snA z n b) n b (cm0 (snA z n b) b) j).1 8) (cmK z (snA z n b) n b (cm0 (snA z n b) b) j).2, (cmK z (snA z n b) n b (cm0 (snA z n b) b) j).1)
  | 0 => by
    show (snH z n b, fun _ => false) = (tlL n b (dcr z n (fun _ => false) 8) (if snA z n b = true then [b] else []), fun _ => false)
    rw [dcr_none, snH]
    congr 1
    by_cases h : snA z n b = true
    · rw [if_pos h, if_pos h]; rfl
    · rw [if_neg h, if_neg h]; rfl
  | j + 1 => by
    have ih := snK_cm (z := z) hn hn8 hb j
    have hlt := cmK_lt z (snA z n b) n hb j
    rw [snK, ih, cmK]
    generalize cmK z (snA z n b) n b (cm0 (snA z n b) b) j = w at hlt ⊢
    obtain ⟨q, L⟩ := w
    dsimp only at hlt ⊢
    have hw : ∀ k, k < 8 → ∀ y ∈ L, awy b y 8 (8 * n + k) := fun k hk y hy => Or.inr ⟨rfl, by have := hlt y hy; omega⟩
    have hmu : mu (tlL n b (dcr z n q 8) L) n q 8 = mu z n q 8 := by
      refine mu_congr 8 (fun k hk hqk => ?_)
      rw [tlL_at L (hw k hk), dcr_at, if_pos (by omega)]
      have : 8 * n + k - 8 * n = k := by omega
      rw [this, hqk]
      exact Int32.sub_zero _
    unfold snS cmS
    dsimp only
    rw [hmu]
    cases hm : mu z n q 8 with
    | none => rfl
    | some y =>
      have hy8 := mu_lt _ _ _ _ _ hm
      have hqy := mu_free _ _ hm
      dsimp only
      have e1 : st (tlL n b (dcr z n q 8) L) 8 (8 * n + y) (tlL n b (dcr z n q 8) L 8 (8 * n + y) - 1) = tlL n b (dcr z n (fun j => q j || decide (j = y)) 8) L := by
        rw [dcr_ins z hy8 hqy, tlL_awy L (hw y hy8), tlL_at L (hw y hy8)]
      rw [e1]
      congr 1
      by_cases h : snA z n b = true ∧ y = b
      · rw [if_pos h, if_pos h]
      · rw [if_neg h, if_neg h, tlL_app]
theorem snR_eq {z : St} {n b : Nat} (hn : ¬ n = b) (hn8 : n < 8) (hb : b < 8) : snR z n b = snM z n b := by
  have h := snK_cm (z := z) hn hn8 hb 3
  have hlt := cmK_lt z (snA z n b) n hb 3
  unfold snR snM snd cmZ cmF
  rw [cmA_eq hn, h]
  dsimp only
  have hw : ∀ y ∈ (cmK z (snA z n b) n b (cm0 (snA z n b) b) 3).2, awy b y 0 8 := fun y _ => Or.inl ⟨rfl, rfl⟩
  rw [tlL_awy _ hw, tlL_at _ hw]
/-- the reference's list of a message -/
def CL (w : St) (L : List Nat) : Prop := w 0 5 = nI L.length ∧ ∀ i, i < L.length → w 3 i = nI (L.getD i 0)
theorem CL_nil {w : St} (h : w 0 5 = 0) : CL w [] := ⟨h, fun i hi => absurd hi (Nat.not_lt_zero _)⟩
theorem CL_one (w : St) (y : Nat) : CL (st (st w 3 0 (nI y)) 0 5 1) [y] := by
  refine ⟨by rw [st_s]; rfl, fun i hi => ?_⟩
  have : i = 0 := by simp at hi; omega
  subst this
  rw [st_f _ _ _ _ _ _ (by decide), st_s]; rfl
theorem CL_add {w : St} {L : List Nat} (h : CL w L) (y : Nat) : CL (st (st w 3 L.length (nI y)) 0 5 (st w 3 L.length (nI y) 0 5 + 1)) (L ++ [y]) := by
  obtain ⟨h1, h2⟩ := h
  refine ⟨?_, fun i hi => ?_⟩
  · rw [st_s, st_f _ _ _ _ _ _ (by decide), h1, List.length_append]
    exact nI_1 _
  · rw [st_f _ _ _ _ _ _ (by decide), st_at]
    rw [List.length_append] at hi
    by_cases e : i = L.length
    · subst e
      rw [if_pos ⟨rfl, rfl⟩]
      simp
    · have hi2 : i < L.length := by simp at hi; omega
      rw [if_neg (fun h => e h.2), h2 i hi2]
      simp [List.getD, List.getElem?_append_left hi2]
theorem SC_5 {a b : St} (h : SC a b) (x : Int32) : SC a (st b 0 5 x) := fun f j h3 h4 => by rw [st_at, if_neg h4]; exact h f j h3 h4
theorem SC_3 {a b : St} (h : SC a b) (i : Nat) (x : Int32) : SC a (st b 3 i x) := fun f j h3 h4 => by rw [st_f _ _ _ _ _ _ h3]; exact h f j h3 h4
