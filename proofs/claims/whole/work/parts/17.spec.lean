/-! the measures in floating point are numbers -/
theorem f_n64 {r : UInt64} (h : FP.Core.val64 r ≠ .nan) : vf_n64 r := by
  unfold vf_n64
  rw [UInt64.le_iff_toNat_le, UInt64.toNat_and, show (0x7fffffffffffffff : UInt64).toNat = 2 ^ 63 - 1 from rfl, Nat.and_two_pow_sub_one_eq_mod, show (0x7ff0000000000000 : UInt64).toNat = 2047 * 2 ^ 52 from rfl]
  refine Nat.le_of_not_lt fun hgt => h ?_
  have hlt := r.toNat_lt
  unfold FP.Core.val64 FP.Core.decode
  have hE : FP.Core.fieldE FP.Core.b64 r.toNat = FP.Core.b64.exps - 1 := by
    show r.toNat / 2 ^ 52 % 2 ^ 11 = 2 ^ 11 - 1
    omega
  have hT : ¬ FP.Core.fieldT FP.Core.b64 r.toNat = 0 := by
    show ¬ r.toNat % 2 ^ 52 = 0
    omega
  rw [if_pos hE, if_neg hT]
theorem f_n32 {r : UInt32} (h : FP.Core.val32 r ≠ .nan) : vf_n32 r := by
  unfold vf_n32
  rw [UInt32.le_iff_toNat_le, UInt32.toNat_and, show (0x7fffffff : UInt32).toNat = 2 ^ 31 - 1 from rfl, Nat.and_two_pow_sub_one_eq_mod, show (0x7f800000 : UInt32).toNat = 255 * 2 ^ 23 from rfl]
  refine Nat.le_of_not_lt fun hgt => h ?_
  have hlt := r.toNat_lt
  unfold FP.Core.val32 FP.Core.decode
  have hE : FP.Core.fieldE FP.Core.b32 r.toNat = FP.Core.b32.exps - 1 := by
    show r.toNat / 2 ^ 23 % 2 ^ 8 = 2 ^ 8 - 1
    omega
  have hT : ¬ FP.Core.fieldT FP.Core.b32 r.toNat = 0 := by
    show ¬ r.toNat % 2 ^ 23 = 0
    omega
  rw [if_pos hE, if_neg hT]
theorem f_bd (f : FP.Core.Fmt) (s : Bool) (c : Nat) (q : Int) : FP.Core.bound f s c q ≠ .nan ∧ (0 < c → ∀ t k, FP.Core.bound f s c q ≠ .fin t 0 k) := by
  unfold FP.Core.bound
  split
  · exact ⟨(fun h => by cases h), (fun hc t k h => by cases h; exact absurd hc (Nat.lt_irrefl 0))⟩
  · exact ⟨(fun h => by cases h), (fun _ t k h => by cases h)⟩
theorem f_rr (f : FP.Core.Fmt) (s : Bool) (n d : Nat) (e : Int) : FP.Core.roundRatio f s n d e ≠ .nan := by
  unfold FP.Core.roundRatio
  split
  · exact fun h => by cases h
  · unfold FP.Core.roundAt FP.Core.settle
    split
    · exact (f_bd _ _ _ _).1
    · exact (f_bd _ _ _ _).1
theorem f_rn {f : FP.Core.Fmt} {d : FP.Core.Datum} (h : d ≠ .nan) : FP.Core.round f d ≠ .nan := by
  cases d with
  | nan => exact absurd rfl h
  | inf s => exact fun h => by cases h
  | fin s c q => exact f_rr _ _ _ _ _
/-- a whole number other than 0 is rounded to one -/
theorem f_nz {f : FP.Core.Fmt} (hf : FP.Core.Good f) (hq : f.qmin ≤ 0) (hp : 1 ≤ f.p) (s : Bool) {c : Nat} (hc : 0 < c) : ∀ t k, FP.Core.roundRatio f s c 1 0 ≠ .fin t 0 k := by
  have hN : 1 ≤ FP.Core.nearest (FP.Core.unitsNum c 0 (FP.Core.quantum f c 1 0)) (FP.Core.unitsDen 1 0 (FP.Core.quantum f c 1 0)) := by
    refine FP.Core.nearest_ge (FP.Core.unitsDen_pos (by decide) _ _) ?_
    obtain ⟨q, hqd⟩ : ∃ q, q = FP.Core.quantum f c 1 0 := ⟨_, rfl⟩
    rw [← hqd]
    unfold FP.Core.unitsNum FP.Core.unitsDen
    have hl : FP.Core.leading c 1 ≤ (c.log2 : Int) := by
      unfold FP.Core.leading
      dsimp only
      have : (Nat.log2 1 : Int) = 0 := rfl
      rw [this]
      split <;> omega
    by_cases h0 : q ≤ 0
    · have : (q - 0).toNat = 0 := by omega
      rw [this]
      have h2 : 1 ≤ 2 ^ (0 - q).toNat := Nat.one_le_two_pow
      have := Nat.mul_le_mul hc h2
      omega
    · have h3 : (0 - q).toNat = 0 := by omega
      rw [h3]
      have hle : q ≤ (c.log2 : Int) := by
        rw [hqd]; unfold FP.Core.quantum; omega
      have h4 : (q - 0).toNat ≤ c.log2 := by omega
      have h5 := Nat.pow_le_pow_right (show 0 < 2 by decide) h4
      have h6 := Nat.log2_self_le (show c ≠ 0 by omega)
      omega
  intro t k
  unfold FP.Core.roundRatio
  rw [if_neg (by omega)]
  unfold FP.Core.roundAt FP.Core.settle
  split
  · exact (f_bd _ _ _ _).2 hN t k
  · exact (f_bd _ _ _ _).2 (by unfold FP.Core.Fmt.tails; exact Nat.two_pow_pos _) t k
theorem f_qn {f : FP.Core.Fmt} {d e : FP.Core.Datum} (hd : ∃ s c q, d = .fin s c q) (he : e ≠ .nan) (hz : ∀ t k, e ≠ .fin t 0 k) : FP.Core.quotient f d e ≠ .nan := by
  obtain ⟨s, c, q, rfl⟩ := hd
  cases e with
  | nan => exact absurd rfl he
  | inf t => exact fun h => by cases h
  | fin t d r =>
    show (if d = 0 then (if c = 0 then FP.Core.Datum.nan else .inf (s != t)) else FP.Core.roundRatio f (s != t) c d (q - r)) ≠ .nan
    rw [if_neg (fun h => hz t r (by rw [h]))]
    exact f_rr _ _ _ _ _
theorem f_in {f : FP.Core.Fmt} {d e : FP.Core.Datum} (hd : d ≠ .nan) (he : ∃ s c q, e = .fin s c q) (hz : ∀ t k, e ≠ .fin t 0 k) : FP.Core.quotient f d e ≠ .nan := by
  obtain ⟨t, d2, r, rfl⟩ := he
  cases d with
  | nan => exact absurd rfl hd
  | inf t => exact fun h => by cases h
  | fin s c q => exact f_qn ⟨s, c, q, rfl⟩ (fun h => by cases h) hz
def d8 : UInt64 := 4620693217682128896
theorem d8_v : ∃ s c q, FP.Core.val64 d8 = .fin s c q ∧ ¬ c = 0 := ⟨false, 4503599627370496, -49, by decide +kernel, by decide⟩
/-- the average of eight counters -/
def avg (x : Int32) : UInt64 := FP.ddiv (FP.i2d x) d8
theorem avg_v (x : Int32) : FP.Core.val64 (avg x) ≠ .nan := by
  obtain ⟨s, c, q, e, hc⟩ := d8_v
  show FP.Core.val64 (FP.Core.ddiv (FP.Core.i2d x) d8) ≠ .nan
  rw [FP.Core.val64_ddiv, FP.Core.val64_i2d]
  refine f_in (f_rn (fun h => by cases h)) ⟨s, c, q, e⟩ (fun t k h => ?_)
  rw [e] at h
  cases h
  exact hc rfl
theorem avg_n (x : Int32) : vf_n64 (avg x) := f_n64 (avg_v x)
/-- the share of the false ones -/
def shr (x y : Int32) : UInt32 := FP.fdiv (FP.i2f x) (FP.i2f y)
theorem i2f_nz {y : Int32} (h : ¬ y = 0) : FP.Core.val32 (FP.Core.i2f y) ≠ .nan ∧ ∀ t k, FP.Core.val32 (FP.Core.i2f y) ≠ .fin t 0 k := by
  have e : FP.Core.val32 (FP.Core.i2f y) = FP.Core.roundRatio FP.Core.b32 (decide (y.toInt < 0)) y.toInt.natAbs 1 0 := FP.Core.val32_of32 (FP.Core.round_fits FP.Core.good_b32 _)
  rw [e]
  refine ⟨f_rr _ _ _ _ _, f_nz FP.Core.good_b32 (by decide) (by decide) _ ?_⟩
  have : y.toInt ≠ 0 := fun h2 => h (by rw [i_eq, h2]; rfl)
  omega
theorem i2f_fin (x : Int32) : ∃ s c q, FP.Core.val32 (FP.Core.i2f x) = .fin s c q := by
  have e : FP.Core.val32 (FP.Core.i2f x) = FP.Core.roundRatio FP.Core.b32 (decide (x.toInt < 0)) x.toInt.natAbs 1 0 := FP.Core.val32_of32 (FP.Core.round_fits FP.Core.good_b32 _)
  rw [e]
  have hx : x.toInt.natAbs ≤ 2 ^ 31 := by
    have h1 := x.toInt_lt
    have h2 := x.le_toInt
    omega
  by_cases h0 : x.toInt.natAbs = 0
  · rw [h0]; exact ⟨_, 0, _, rfl⟩
  · have hl : FP.Core.leading x.toInt.natAbs 1 ≤ 31 := by
      unfold FP.Core.leading
      dsimp only
      have h1 : (Nat.log2 1 : Int) = 0 := rfl
      have h2 : x.toInt.natAbs.log2 < 32 := (Nat.log2_lt h0).mpr (by omega)
      rw [h1]
      split <;> omega
    have hq : FP.Core.quantum FP.Core.b32 x.toInt.natAbs 1 0 ≤ 8 := by
      unfold FP.Core.quantum
      have : FP.Core.b32.qmin = -149 := by decide
      rw [this]
      have : ((FP.Core.b32.p : Int)) = 24 := rfl
      rw [this]
      omega
    have hm : FP.Core.b32.qmax = 104 := by decide
    unfold FP.Core.roundRatio
    rw [if_neg h0]
    unfold FP.Core.roundAt FP.Core.settle FP.Core.bound
    split
    · rw [if_pos (by rw [hm]; omega)]; exact ⟨_, _, _, rfl⟩
    · rw [if_pos (by rw [hm]; omega)]; exact ⟨_, _, _, rfl⟩
theorem shr_v (x : Int32) {y : Int32} (h : ¬ y = 0) : FP.Core.val32 (shr x y) ≠ .nan := by
  show FP.Core.val32 (FP.Core.fdiv (FP.Core.i2f x) (FP.Core.i2f y)) ≠ .nan
  rw [FP.Core.val32_fdiv]
  exact f_qn (i2f_fin x) (i2f_nz h).1 (i2f_nz h).2
theorem shr_n (x : Int32) {y : Int32} (h : ¬ y = 0) : vf_n32 (shr x y) := f_n32 (shr_v x h)
theorem shd_v {r : UInt32} (h : FP.Core.val32 r ≠ .nan) : FP.Core.val64 (FP.f2d r) ≠ .nan := by
  have e : FP.f2d r = FP.Core.f2d r := by
    unfold FP.f2d
    rw [if_neg (fun h2 => h ((FP.Core.fIsNaN_iff r).mp h2))]
  rw [e, FP.Core.val64_f2d]
  exact f_rn h
theorem shd_n {r : UInt32} (h : FP.Core.val32 r ≠ .nan) : vf_n64 (FP.f2d r) := f_n64 (shd_v h)
theorem zero32_v : FP.Core.val32 0 ≠ .nan := by decide +kernel
/-! the same world by another name -/
theorem arrV_ext {cA : ClassId} {n : Nat} {f g : Nat → Value} (h : ∀ k, k < n → g k = f k) : arrV cA n g = arrV cA n f := by
  unfold arrV
  have : (fun j : Fin n => g j.val) = (fun j : Fin n => f j.val) := funext fun j => h j.val j.isLt
  rw [this]
theorem cel_to (cA : ClassId) (n : Nat) (f g : Nat → Int32) (hfg : ∀ k, k < n → g k = f k) : vp_cell cA (n, .inl g) = vp_cell cA (n, .inl f) := by
  rw [vp_cell_i, vp_cell_i]
  exact arrV_ext (fun j hj => by rw [hfg j hj])
theorem wp_to {G : GA} {a : Nat → Nat} {z z' : St} {H : Heap} (h : va_P G.1 gcl (wp G a z) H) (h0 : ∀ k, k < 10 → z' 0 k = z 0 k) (h1 : ∀ k, k < 8 → z' 1 k = z 1 k) (h2 : ∀ k, k < 8 → z' 2 k = z 2 k) (h3 : ∀ k, k < 8 → z' 3 k = z 3 k) (h4 : ∀ k, k < 8 → z' 4 k = z 4 k) (h5 : ∀ k, k < 64 → z' 5 k = z 5 k) (h6 : ∀ k, k < 64 → z' 6 k = z 6 k) (h7 : ∀ k, k < 64 → z' 7 k = z 7 k) (h8 : ∀ k, k < 64 → z' 8 k = z 8 k) (h9 : ∀ k, k < 64 → z' 9 k = z 9 k) : va_P G.1 gcl (wp G a z') H := by
  have cell := cel_to
  intro k q hq
  match k, hq with
  | 0, hq => cases hq; have := h 0 _ rfl; rw [← h0 4 (by decide), ← h0 1 (by decide), ← h0 5 (by decide), ← h0 6 (by decide), ← h0 8 (by decide)] at this; exact this
  | 1, hq => cases hq; exact h 1 _ rfl
  | 2, hq => cases hq; exact (h 2 _ rfl).trans (congrArg some (cell _ _ _ _ h1).symm)
  | 3, hq => cases hq; exact (h 3 _ rfl).trans (congrArg some (cell _ _ _ _ h2).symm)
  | 4, hq => cases hq; exact (h 4 _ rfl).trans (congrArg some (cell _ _ _ _ h3).symm)
  | 5, hq => cases hq; exact (h 5 _ rfl).trans (congrArg some (cell _ _ _ _ h9).symm)
  | 6, hq => cases hq; have := h 6 _ rfl; rw [← h0 2 (by decide), ← h0 3 (by decide), ← h0 0 (by decide), ← h0 9 (by decide), ← h0 7 (by decide)] at this; exact this
  | 7, hq => cases hq; exact (h 7 _ rfl).trans (congrArg some (cell _ _ _ _ h4).symm)
  | 8, hq => cases hq; exact (h 8 _ rfl).trans (congrArg some (cell _ _ _ _ h5).symm)
  | 9, hq => cases hq; exact (h 9 _ rfl).trans (congrArg some (cell _ _ _ _ h6).symm)
  | 10, hq => cases hq; exact (h 10 _ rfl).trans (congrArg some (cell _ _ _ _ h7).symm)
  | 11, hq => cases hq; exact (h 11 _ rfl).trans (congrArg some (cell _ _ _ _ h8).symm)
  | k + 12, hq => cases hq
/-- a whole row replaced -/
def sr (o : St) (f : Nat) (g : Nat → Int32) : St := fun f2 => if f2 = f then g else o f2
theorem sr_s (o : St) (f : Nat) (g : Nat → Int32) : sr o f g f = g := if_pos rfl
theorem sr_n (o : St) (f : Nat) (g : Nat → Int32) {f2 : Nat} (h : ¬ f2 = f) : sr o f g f2 = o f2 := if_neg h
/-- a state of a row of numbers -/
def ufo : Nat → Nat
  | 0 => 0
  | 1 => 10
  | 2 => 18
  | 3 => 26
  | 4 => 34
  | 5 => 42
  | 6 => 106
  | 7 => 170
  | 8 => 234
  | _ => 298
def uf (g : Nat → Int32) : St := fun f k => g (ufo f + k)
theorem fl_uf (g : Nat → Int32) : fl (uf g) = g := by
  funext i
  unfold fl uf
  split
  · show g (0 + i) = g i
    rw [Nat.zero_add]
  · split
    · show g (10 + (i - 10)) = g i
      exact congrArg g (by omega)
    · split
      · show g (18 + (i - 18)) = g i
        exact congrArg g (by omega)
      · split
        · show g (26 + (i - 26)) = g i
          exact congrArg g (by omega)
        · split
          · show g (34 + (i - 34)) = g i
            exact congrArg g (by omega)
          · split
            · show g (42 + (i - 42)) = g i
              exact congrArg g (by omega)
            · split
              · show g (106 + (i - 106)) = g i
                exact congrArg g (by omega)
              · split
                · show g (170 + (i - 170)) = g i
                  exact congrArg g (by omega)
                · split
                  · show g (234 + (i - 234)) = g i
                    exact congrArg g (by omega)
                  · show g (298 + (i - 298)) = g i
                    exact congrArg g (by omega)
theorem mp_to {G : GA} {a : Nat → Nat} {z z' o o' : St} {H : Heap} (h : va_P G.1 gcl (mp G a z o) H) (hz : ∀ k, k < 362 → fl z' k = fl z k) (h0 : ∀ k, k < 8 → o' 0 k = o 0 k) (h1 : ∀ k, k < 362 → o' 1 k = o 1 k) (h2 : ∀ k, k < 40 → o' 2 k = o 2 k) (h3 : ∀ k, k < 8 → o' 3 k = o 3 k) : va_P G.1 gcl (mp G a z' o') H := by
  intro k q hq
  match k, hq with
  | 0, hq => cases hq; have := h 0 _ rfl; rw [← h0 0 (by decide), ← h0 1 (by decide), ← h0 2 (by decide), ← h0 3 (by decide), ← h0 4 (by decide), ← h0 5 (by decide), ← h0 6 (by decide), ← h0 7 (by decide)] at this; exact this
  | 1, hq => cases hq; exact (h 1 _ rfl).trans (congrArg some (cel_to _ _ _ _ hz).symm)
  | 2, hq => cases hq; exact (h 2 _ rfl).trans (congrArg some (cel_to _ _ _ _ h1).symm)
  | 3, hq => cases hq; exact (h 3 _ rfl).trans (congrArg some (cel_to _ _ _ _ h2).symm)
  | 4, hq => cases hq; exact (h 4 _ rfl).trans (congrArg some (cel_to _ _ _ _ h3).symm)
  | k + 5, hq => cases hq
def pRs (hs : Bool) (y z : St) : PO := if hs = true then (0, 0, y) else (1, 0, z)
section GW2
variable {p : Program} {l : Launch} {e : Env} {R : Room} {s : State} {m : MethodId} {args : Array Value} {below : List Frame} {meth : Method} {c : Code} {H : Heap} {locs : List Loc} {cells slots : Nat} {Q : State → Prop}
variable {cc : ByteArray} {nL : Nat} {Ts : List Cond} {own : String} {pc : Nat} {ls : Array Slot} {rest : List Value} {G : GA} {A : Nat → Prop} {ws ws' : va_W}
theorem en_d {U : Type} {post : UInt64 → U → Prop} {pic : U → va_W} {v : UInt64} (u : U) (hQ : Q = MQ below (va_Qd post (fun u t => va_P G.1 gcl (pic u) t.heap) A) args s cells slots A) (S : CallFix p m c cc nL s args Ts own) (hr : meth.sig.returnType = some .double) (hlocks : meth.locks = false) (hw : WD G (pic u) A s H locs) (hp : post v u) (hdg : decode cc pc = .ok (.dreturn, 1)) :
    W p l e R s m args below meth c H locs cells slots Q (F0 m pc ls [.double v]) := by
  rw [hQ]
  exact W.dret (v := v) S.1 S.2.1 hr (fun t ht _ => ⟨⟨v, u, rfl, hp, by show va_P _ _ _ t.heap; rw [ht]; exact hw.1⟩, hw.2.2.F ht⟩) hw.2.2.2.2 hdg hlocks
theorem en_f {U : Type} {post : UInt32 → U → Prop} {pic : U → va_W} {v : UInt32} (u : U) (hQ : Q = MQ below (va_Qf post (fun u t => va_P G.1 gcl (pic u) t.heap) A) args s cells slots A) (S : CallFix p m c cc nL s args Ts own) (hr : meth.sig.returnType = some .float) (hlocks : meth.locks = false) (hw : WD G (pic u) A s H locs) (hp : post v u) (hdg : decode cc pc = .ok (.freturn, 1)) :
    W p l e R s m args below meth c H locs cells slots Q (F0 m pc ls [.float v]) := by
  rw [hQ]
  exact W.fret (v := v) S.1 S.2.1 hr (fun t ht _ => ⟨⟨v, u, rfl, hp, by show va_P _ _ _ t.heap; rw [ht]; exact hw.1⟩, hw.2.2.F ht⟩) hw.2.2.2.2 hdg hlocks
theorem wd_mp {z z' o o' : St} {a : Nat → Nat} (hw : WD G (mp G a z o) A s H locs) (hz : ∀ k, k < 362 → fl z' k = fl z k) (h0 : ∀ k, k < 8 → o' 0 k = o 0 k) (h1 : ∀ k, k < 362 → o' 1 k = o 1 k) (h2 : ∀ k, k < 40 → o' 2 k = o 2 k) (h3 : ∀ k, k < 8 → o' 3 k = o 3 k) : WD G (mp G a z' o') A s H locs := ⟨mp_to hw.1 hz h0 h1 h2 h3, va_D.same (w := mp G a z o) (w' := mp G a z' o') rfl hw.2.1, hw.2.2⟩
theorem wd_wp {z z' : St} {a : Nat → Nat} (hw : WD G (wp G a z) A s H locs) (h0 : ∀ k, k < 10 → z' 0 k = z 0 k) (h1 : ∀ k, k < 8 → z' 1 k = z 1 k) (h2 : ∀ k, k < 8 → z' 2 k = z 2 k) (h3 : ∀ k, k < 8 → z' 3 k = z 3 k) (h4 : ∀ k, k < 8 → z' 4 k = z 4 k) (h5 : ∀ k, k < 64 → z' 5 k = z 5 k) (h6 : ∀ k, k < 64 → z' 6 k = z 6 k) (h7 : ∀ k, k < 64 → z' 7 k = z 7 k) (h8 : ∀ k, k < 64 → z' 8 k = z 8 k) (h9 : ∀ k, k < 64 → z' 9 k = z 9 k) : WD G (wp G a z') A s H locs := ⟨wp_to hw.1 h0 h1 h2 h3 h4 h5 h6 h7 h8 h9, va_D.same (w := wp G a z) (w' := wp G a z') rfl hw.2.1, hw.2.2⟩
end GW2
