theorem dJ6_bitCount_0f7a4_0 : decode cJ6_bitCount_0f7a4 0 = .ok (.iload_n 0, 1) := by decide +kernel
theorem dJ6_bitCount_0f7a4_1 : decode cJ6_bitCount_0f7a4 1 = .ok (.iload_n 0, 1) := by decide +kernel
theorem dJ6_bitCount_0f7a4_2 : decode cJ6_bitCount_0f7a4 2 = .ok (.iconst 1, 1) := by decide +kernel
theorem dJ6_bitCount_0f7a4_3 : decode cJ6_bitCount_0f7a4 3 = .ok (.iushr, 1) := by decide +kernel
theorem dJ6_bitCount_0f7a4_4 : decode cJ6_bitCount_0f7a4 4 = .ok (.ldc_w 265, 3) := by decide +kernel
theorem dJ6_bitCount_0f7a4_7 : decode cJ6_bitCount_0f7a4 7 = .ok (.iand, 1) := by decide +kernel
theorem dJ6_bitCount_0f7a4_8 : decode cJ6_bitCount_0f7a4 8 = .ok (.isub, 1) := by decide +kernel
theorem dJ6_bitCount_0f7a4_9 : decode cJ6_bitCount_0f7a4 9 = .ok (.istore_n 0, 1) := by decide +kernel
theorem dJ6_bitCount_0f7a4_10 : decode cJ6_bitCount_0f7a4 10 = .ok (.iload_n 0, 1) := by decide +kernel
theorem dJ6_bitCount_0f7a4_11 : decode cJ6_bitCount_0f7a4 11 = .ok (.ldc_w 266, 3) := by decide +kernel
theorem dJ6_bitCount_0f7a4_14 : decode cJ6_bitCount_0f7a4 14 = .ok (.iand, 1) := by decide +kernel
theorem dJ6_bitCount_0f7a4_15 : decode cJ6_bitCount_0f7a4 15 = .ok (.iload_n 0, 1) := by decide +kernel
theorem dJ6_bitCount_0f7a4_16 : decode cJ6_bitCount_0f7a4 16 = .ok (.iconst 2, 1) := by decide +kernel
theorem dJ6_bitCount_0f7a4_17 : decode cJ6_bitCount_0f7a4 17 = .ok (.iushr, 1) := by decide +kernel
theorem dJ6_bitCount_0f7a4_18 : decode cJ6_bitCount_0f7a4 18 = .ok (.ldc_w 266, 3) := by decide +kernel
theorem dJ6_bitCount_0f7a4_21 : decode cJ6_bitCount_0f7a4 21 = .ok (.iand, 1) := by decide +kernel
theorem dJ6_bitCount_0f7a4_22 : decode cJ6_bitCount_0f7a4 22 = .ok (.iadd, 1) := by decide +kernel
theorem dJ6_bitCount_0f7a4_23 : decode cJ6_bitCount_0f7a4 23 = .ok (.istore_n 0, 1) := by decide +kernel
theorem dJ6_bitCount_0f7a4_24 : decode cJ6_bitCount_0f7a4 24 = .ok (.iload_n 0, 1) := by decide +kernel
theorem dJ6_bitCount_0f7a4_25 : decode cJ6_bitCount_0f7a4 25 = .ok (.iload_n 0, 1) := by decide +kernel
theorem dJ6_bitCount_0f7a4_26 : decode cJ6_bitCount_0f7a4 26 = .ok (.iconst 4, 1) := by decide +kernel
theorem dJ6_bitCount_0f7a4_27 : decode cJ6_bitCount_0f7a4 27 = .ok (.iushr, 1) := by decide +kernel
theorem dJ6_bitCount_0f7a4_28 : decode cJ6_bitCount_0f7a4 28 = .ok (.iadd, 1) := by decide +kernel
theorem dJ6_bitCount_0f7a4_29 : decode cJ6_bitCount_0f7a4 29 = .ok (.ldc_w 267, 3) := by decide +kernel
theorem dJ6_bitCount_0f7a4_32 : decode cJ6_bitCount_0f7a4 32 = .ok (.iand, 1) := by decide +kernel
theorem dJ6_bitCount_0f7a4_33 : decode cJ6_bitCount_0f7a4 33 = .ok (.istore_n 0, 1) := by decide +kernel
theorem dJ6_bitCount_0f7a4_34 : decode cJ6_bitCount_0f7a4 34 = .ok (.iload_n 0, 1) := by decide +kernel
theorem dJ6_bitCount_0f7a4_35 : decode cJ6_bitCount_0f7a4 35 = .ok (.iload_n 0, 1) := by decide +kernel
theorem dJ6_bitCount_0f7a4_36 : decode cJ6_bitCount_0f7a4 36 = .ok (.bipush 8, 2) := by decide +kernel
theorem dJ6_bitCount_0f7a4_38 : decode cJ6_bitCount_0f7a4 38 = .ok (.iushr, 1) := by decide +kernel
theorem dJ6_bitCount_0f7a4_39 : decode cJ6_bitCount_0f7a4 39 = .ok (.iadd, 1) := by decide +kernel
theorem dJ6_bitCount_0f7a4_40 : decode cJ6_bitCount_0f7a4 40 = .ok (.istore_n 0, 1) := by decide +kernel
theorem dJ6_bitCount_0f7a4_41 : decode cJ6_bitCount_0f7a4 41 = .ok (.iload_n 0, 1) := by decide +kernel
theorem dJ6_bitCount_0f7a4_42 : decode cJ6_bitCount_0f7a4 42 = .ok (.iload_n 0, 1) := by decide +kernel
theorem dJ6_bitCount_0f7a4_43 : decode cJ6_bitCount_0f7a4 43 = .ok (.bipush 16, 2) := by decide +kernel
theorem dJ6_bitCount_0f7a4_45 : decode cJ6_bitCount_0f7a4 45 = .ok (.iushr, 1) := by decide +kernel
theorem dJ6_bitCount_0f7a4_46 : decode cJ6_bitCount_0f7a4 46 = .ok (.iadd, 1) := by decide +kernel
theorem dJ6_bitCount_0f7a4_47 : decode cJ6_bitCount_0f7a4 47 = .ok (.istore_n 0, 1) := by decide +kernel
theorem dJ6_bitCount_0f7a4_48 : decode cJ6_bitCount_0f7a4 48 = .ok (.iload_n 0, 1) := by decide +kernel
theorem dJ6_bitCount_0f7a4_49 : decode cJ6_bitCount_0f7a4 49 = .ok (.bipush 63, 2) := by decide +kernel
theorem dJ6_bitCount_0f7a4_51 : decode cJ6_bitCount_0f7a4 51 = .ok (.iand, 1) := by decide +kernel
theorem dJ6_bitCount_0f7a4_52 : decode cJ6_bitCount_0f7a4 52 = .ok (.ireturn, 1) := by decide +kernel
/-- Integer.bitCount, as it computes -/
def us (x y : Int32) : Int32 := (x.toUInt32 >>> (y.toUInt32 &&& Int32.toUInt32 31)).toInt32
def bc1 (x : Int32) : Int32 := x - (us x 1 &&& 1431655765)
def bc2 (x : Int32) : Int32 := (x &&& 858993459) + (us x 2 &&& 858993459)
def bc3 (x : Int32) : Int32 := (x + us x 4) &&& 252645135
def bc4 (x : Int32) : Int32 := x + us x 8
def bc5 (x : Int32) : Int32 := x + us x 16
def bcI (x : Int32) : Int32 := bc5 (bc4 (bc3 (bc2 (bc1 x)))) &&& 63
def pop8 (m : Nat) : Nat := m % 2 + m / 2 % 2 + m / 4 % 2 + m / 8 % 2 + m / 16 % 2 + m / 32 % 2 + m / 64 % 2 + m / 128 % 2
theorem bc_pop : ∀ m, m < 256 → bcI (nI m) = nI (pop8 m) := by decide +kernel
set_option maxRecDepth 100000 in
theorem c_J6_bitCount_0f7a4 (l : Launch) (x : Int32) : Met l yJ6_bitCount_0f7a4 wsJ6_bitCount_0f7a4 ({ frames := 0, cells := 0, slots := 0, locals := 0 }) (va_Pc [.int x] (fun _ => True)) (vp_Si (fun r => r = bcI x)) 0 0 (fun _ => False) := by
  refine met_ps (cc := cJ6_bitCount_0f7a4) (maxL := 1) (ret := some .int) (vp_Si (fun r => r = bcI x)) (by decide) rfl (Nat.le_of_ble_eq_true rfl) ?_
  intro p e s m args below meth c R Q H ls hR hQ S hr hlk hH hl
  have hl : lv_has ls 1 [(0, .int x)] := hl
  have k265 : (Cond.constant RJ6 265 (1431655765)).before args s = true := S.2.2.2.2 _ (by decide +kernel : (Cond.constant RJ6 265 (1431655765)) ∈ wsJ6_bitCount_0f7a4)
  have k266 : (Cond.constant RJ6 266 (858993459)).before args s = true := S.2.2.2.2 _ (by decide +kernel : (Cond.constant RJ6 266 (858993459)) ∈ wsJ6_bitCount_0f7a4)
  have k267 : (Cond.constant RJ6 267 (252645135)).before args s = true := S.2.2.2.2 _ (by decide +kernel : (Cond.constant RJ6 267 (252645135)) ∈ wsJ6_bitCount_0f7a4)
  refine lv_iload_n S.1 S.2.1 dJ6_bitCount_0f7a4_0 rfl (lv_at hl 0 rfl) ?_
  refine lv_iload_n S.1 S.2.1 dJ6_bitCount_0f7a4_1 rfl (lv_at hl 0 rfl) ?_
  refine lv_iconst (v := 1) S.1 S.2.1 dJ6_bitCount_0f7a4_2 (by decide) ?_
  refine lv_iushr S.1 S.2.1 dJ6_bitCount_0f7a4_3 rfl ?_
  refine lv_ldcw (v := 1431655765) S.1 S.2.1 S.2.2.2.1 k265 dJ6_bitCount_0f7a4_4 ?_
  refine lv_iand S.1 S.2.1 dJ6_bitCount_0f7a4_7 ?_
  refine lv_isub S.1 S.2.1 dJ6_bitCount_0f7a4_8 ?_
  refine lv_topi (fun x1 e1 => ?_)
  refine lv_istore_n (lv' := [(0, .int x1)]) S.1 S.2.1 dJ6_bitCount_0f7a4_9 rfl hl (by decide) rfl (fun ls hl => ?_)
  refine lv_iload_n S.1 S.2.1 dJ6_bitCount_0f7a4_10 rfl (lv_at hl 0 rfl) ?_
  refine lv_ldcw (v := 858993459) S.1 S.2.1 S.2.2.2.1 k266 dJ6_bitCount_0f7a4_11 ?_
  refine lv_iand S.1 S.2.1 dJ6_bitCount_0f7a4_14 ?_
  refine lv_iload_n S.1 S.2.1 dJ6_bitCount_0f7a4_15 rfl (lv_at hl 0 rfl) ?_
  refine lv_iconst (v := 2) S.1 S.2.1 dJ6_bitCount_0f7a4_16 (by decide) ?_
  refine lv_iushr S.1 S.2.1 dJ6_bitCount_0f7a4_17 rfl ?_
  refine lv_ldcw (v := 858993459) S.1 S.2.1 S.2.2.2.1 k266 dJ6_bitCount_0f7a4_18 ?_
  refine lv_iand S.1 S.2.1 dJ6_bitCount_0f7a4_21 ?_
  refine lv_iadd S.1 S.2.1 dJ6_bitCount_0f7a4_22 ?_
  refine lv_topi (fun x2 e2 => ?_)
  refine lv_istore_n (lv' := [(0, .int x2)]) S.1 S.2.1 dJ6_bitCount_0f7a4_23 rfl hl (by decide) rfl (fun ls hl => ?_)
  refine lv_iload_n S.1 S.2.1 dJ6_bitCount_0f7a4_24 rfl (lv_at hl 0 rfl) ?_
  refine lv_iload_n S.1 S.2.1 dJ6_bitCount_0f7a4_25 rfl (lv_at hl 0 rfl) ?_
  refine lv_iconst (v := 4) S.1 S.2.1 dJ6_bitCount_0f7a4_26 (by decide) ?_
  refine lv_iushr S.1 S.2.1 dJ6_bitCount_0f7a4_27 rfl ?_
  refine lv_iadd S.1 S.2.1 dJ6_bitCount_0f7a4_28 ?_
  refine lv_ldcw (v := 252645135) S.1 S.2.1 S.2.2.2.1 k267 dJ6_bitCount_0f7a4_29 ?_
  refine lv_iand S.1 S.2.1 dJ6_bitCount_0f7a4_32 ?_
  refine lv_topi (fun x3 e3 => ?_)
  refine lv_istore_n (lv' := [(0, .int x3)]) S.1 S.2.1 dJ6_bitCount_0f7a4_33 rfl hl (by decide) rfl (fun ls hl => ?_)
  refine lv_iload_n S.1 S.2.1 dJ6_bitCount_0f7a4_34 rfl (lv_at hl 0 rfl) ?_
  refine lv_iload_n S.1 S.2.1 dJ6_bitCount_0f7a4_35 rfl (lv_at hl 0 rfl) ?_
  refine lv_bipush (v := 8) S.1 S.2.1 dJ6_bitCount_0f7a4_36 (by decide) ?_
  refine lv_iushr S.1 S.2.1 dJ6_bitCount_0f7a4_38 rfl ?_
  refine lv_iadd S.1 S.2.1 dJ6_bitCount_0f7a4_39 ?_
  refine lv_topi (fun x4 e4 => ?_)
  refine lv_istore_n (lv' := [(0, .int x4)]) S.1 S.2.1 dJ6_bitCount_0f7a4_40 rfl hl (by decide) rfl (fun ls hl => ?_)
  refine lv_iload_n S.1 S.2.1 dJ6_bitCount_0f7a4_41 rfl (lv_at hl 0 rfl) ?_
  refine lv_iload_n S.1 S.2.1 dJ6_bitCount_0f7a4_42 rfl (lv_at hl 0 rfl) ?_
  refine lv_bipush (v := 16) S.1 S.2.1 dJ6_bitCount_0f7a4_43 (by decide) ?_
  refine lv_iushr S.1 S.2.1 dJ6_bitCount_0f7a4_45 rfl ?_
  refine lv_iadd S.1 S.2.1 dJ6_bitCount_0f7a4_46 ?_
  refine lv_topi (fun x5 e5 => ?_)
  refine lv_istore_n (lv' := [(0, .int x5)]) S.1 S.2.1 dJ6_bitCount_0f7a4_47 rfl hl (by decide) rfl (fun ls hl => ?_)
  refine lv_iload_n S.1 S.2.1 dJ6_bitCount_0f7a4_48 rfl (lv_at hl 0 rfl) ?_
  refine lv_bipush (v := 63) S.1 S.2.1 dJ6_bitCount_0f7a4_49 (by decide) ?_
  refine lv_iand S.1 S.2.1 dJ6_bitCount_0f7a4_51 ?_
  exact en_p hQ S hr hlk hH rfl (by subst e5 e4 e3 e2 e1; rfl) dJ6_bitCount_0f7a4_52
theorem hd_J6_bitCount_0f7a4 : yJ6_bitCount_0f7a4.cls ≠ "java/lang/invoke/MethodHandle" ∧ yJ6_bitCount_0f7a4.cls ≠ "java/lang/invoke/VarHandle" ∧ (parseMethodDescriptor yJ6_bitCount_0f7a4.desc).map (fun d => d.parameters.length) = some 1 := by decide +kernel
def cnt (f : Nat → Bool) : Nat → Nat
  | 0 => 0
  | k + 1 => if f k = true then cnt f k + 1 else cnt f k
theorem cnt_le (f : Nat → Bool) : ∀ k, cnt f k ≤ k
  | 0 => Nat.le_refl _
  | k + 1 => by
    have := cnt_le f k
    unfold cnt
    split <;> omega
theorem cnt_mono (f : Nat → Bool) {i : Nat} : ∀ k, i ≤ k → cnt f i ≤ cnt f k
  | 0, h => by have : i = 0 := by omega
               rw [this]; exact Nat.le_refl _
  | k + 1, h => by
    by_cases e : i = k + 1
    · rw [e]; exact Nat.le_refl _
    · have := cnt_mono f (i := i) k (by omega)
      rw [cnt]
      split <;> omega
theorem cnt_ext {f g : Nat → Bool} : ∀ k, (∀ j, j < k → f j = g j) → cnt f k = cnt g k
  | 0, _ => rfl
  | k + 1, h => by
    unfold cnt
    rw [cnt_ext k (fun j hj => h j (by omega)), h k (by omega)]
theorem cnt_0 {f : Nat → Bool} : ∀ k, cnt f k = 0 → ∀ j, j < k → f j = false
  | 0, _, j, hj => by omega
  | k + 1, h, j, hj => by
    unfold cnt at h
    split at h
    · omega
    · next e =>
      by_cases hjk : j = k
      · rw [hjk]; simpa using e
      · exact cnt_0 k h j (by omega)
theorem cnt_z {f : Nat → Bool} : ∀ k, (∀ j, j < k → f j = false) → cnt f k = 0
  | 0, _ => rfl
  | k + 1, h => by
    unfold cnt
    rw [h k (by omega), if_neg (by decide)]
    exact cnt_z k (fun j hj => h j (by omega))
/-- the node of a set with i of it below -/
def nth (f : Nat → Bool) (i : Nat) : Nat → Nat
  | 0 => 0
  | k + 1 => if f k = true ∧ cnt f k = i then k else nth f i k
theorem nth_u {f : Nat → Bool} {i k : Nat} (hf : f k = true) (hc : cnt f k = i) : ∀ K, k < K → nth f i K = k
  | 0, h => by omega
  | K + 1, h => by
    unfold nth
    by_cases e : k = K
    · subst e; rw [if_pos ⟨hf, hc⟩]
    · have h1 : cnt f (k + 1) ≤ cnt f K := cnt_mono f K (by omega)
      have h2 : cnt f (k + 1) = cnt f k + 1 := by rw [cnt, if_pos hf]
      rw [if_neg (by intro h3; omega)]
      exact nth_u hf hc K (by omega)
theorem nth_in {f : Nat → Bool} {i : Nat} : ∀ K, i < cnt f K → nth f i K < K ∧ f (nth f i K) = true
  | 0, h => by simp [cnt] at h
  | K + 1, h => by
    unfold nth
    by_cases e : f K = true ∧ cnt f K = i
    · rw [if_pos e]; exact ⟨by omega, e.1⟩
    · rw [if_neg e]
      have h1 : i < cnt f K := by
        unfold cnt at h
        split at h
        · next e2 =>
          by_cases e3 : cnt f K = i
          · exact absurd ⟨e2, e3⟩ e
          · omega
        · exact h
      have := nth_in K h1
      exact ⟨by omega, this.2⟩
theorem pop_cnt (f : Nat → Bool) : pop8 (mk f 8) = cnt f 8 := by
  unfold mk mk mk mk mk mk mk mk mk cnt cnt cnt cnt cnt cnt cnt cnt cnt
  cases f 0 <;> cases f 1 <;> cases f 2 <;> cases f 3 <;> cases f 4 <;> cases f 5 <;> cases f 6 <;> cases f 7 <;> rfl
theorem bc_cnt (f : Nat → Bool) : bcI (nI (mk f 8)) = nI (cnt f 8) := by rw [bc_pop _ (mk_256 f), pop_cnt]
def sd (x : Int32) : Nat := (x.toNatClampNeg * 1103515245 + 12345) % 2147483648
theorem sd_lt (x : Int32) : sd x < 2 ^ 31 := Nat.mod_lt _ (by decide)
def dz (z : St) (f : Nat → Bool) : St := if cnt f 8 = 0 then z else st z 0 1 (nI (sd (z 0 1)))
def dv (z : St) (f : Nat → Bool) : Option Nat := if cnt f 8 = 0 then none else some (nth f (sd (z 0 1) / 256 % cnt f 8) 8)
theorem dv_in {z : St} {f : Nat → Bool} {y : Nat} (h : dv z f = some y) : y < 8 ∧ f y = true := by
  unfold dv at h
  split at h
  · cases h
  · next e =>
    cases h
    exact nth_in 8 (Nat.mod_lt _ (by omega))
theorem dz_none {z : St} {f : Nat → Bool} (h : dv z f = none) : dz z f = z := by
  unfold dv at h
  unfold dz
  split at h
  · next e => rw [if_pos e]
  · cases h
theorem oI_some {o : Option Nat} (h : ¬ oI o = -1) : ∃ y, o = some y := by
  cases o with
  | none => exact absurd rfl h
  | some y => exact ⟨y, rfl⟩
theorem oI_none {o : Option Nat} (hb : ∀ y, o = some y → y < 8) (h : oI o = -1) : o = none := by
  cases o with
  | none => rfl
  | some y =>
    have hy := hb y rfl
    exact absurd h ((by decide : ∀ y, y < 8 → ¬ nI y = -1) y hy)
theorem inv_dz {z : St} (h : Inv z) (f : Nat → Bool) : Inv (dz z f) := by
  unfold dz
  split
  · exact h
  · exact inv_s h (nI_pos (sd_lt _))
/-- who can be a partner -/
def prt (z : St) (n : Nat) : Nat → Bool := fun k => nst z n 1 k || nst z n 2 k
/-- declarations -/
def dcS (n k : Nat) (t : St) : St :=
  let t1 := tk t n k 3 (toI t n k)
  let t2 := st t1 0 5 (t1 0 5 + 1)
  if cnn t2 n k = true then st t2 0 6 (t2 0 6 + 1) else t2
def dcK (z : St) (n : Nat) : Nat → St
  | 0 => z
  | k + 1 => if nst z n 2 k = true ∧ ¬ dcK z n k 0 0 < dcK z n k 7 (8 * n + k) then dcS n k (dcK z n k) else dcK z n k
def dco (z : St) (n : Nat) : St := dcK z n 8
theorem inv_dcS {t : St} (h : Inv t) {n k : Nat} (hn : n < 8) (hk : k < 8) : Inv (dcS n k t) := by
  have h2 : Inv (st (tk t n k 3 (toI t n k)) 0 5 ((tk t n k 3 (toI t n k)) 0 5 + 1)) := inv_o (inv_tk h hn hk _ _) (by decide) (by decide)
  unfold dcS
  dsimp only
  split
  · exact inv_o h2 (by decide) (by decide)
  · exact h2
theorem inv_dcK {z : St} (h : Inv z) {n : Nat} (hn : n < 8) : ∀ k, k ≤ 8 → Inv (dcK z n k)
  | 0, _ => h
  | k + 1, hk => by
    have := inv_dcK h hn k (by omega)
    unfold dcK
    split
    · exact inv_dcS this hn (by omega)
    · exact this
theorem inv_dco {z : St} (h : Inv z) {n : Nat} (hn : n < 8) : Inv (dco z n) := inv_dcK h hn 8 (by omega)
/-- helpers -/
def hm (z : St) : Nat := (z 0 4).toNatClampNeg
abbrev HS : Type := St × (Nat → Bool) × Bool
def hpS (n y : Nat) (w : HS) : HS := match dv w.1 w.2.1 with
  | none => w
  | some h => (dz w.1 w.2.1, (fun j => w.2.1 j && !decide (j = h)), (w.2.2 || (cnn (dz w.1 w.2.1) n h && cnn (dz w.1 w.2.1) h y)))
def hpK (n y : Nat) (w : HS) : Nat → HS
  | 0 => w
  | d + 1 => hpS n y (hpK n y w d)
def hp0 (z : St) (n y : Nat) : HS := (z, (fun j => nst z n 1 j && !decide (j = y)), false)
def hpr (z : St) (n y : Nat) : HS := hpK n y (hp0 z n y) (hm z)
theorem dz_04 (z : St) (f : Nat → Bool) : dz z f 0 4 = z 0 4 := by
  unfold dz
  split
  · rfl
  · rw [st_k _ _ _ _ _ (by decide)]
theorem hpK_04 (n y : Nat) (w : HS) : ∀ d, (hpK n y w d).1 0 4 = w.1 0 4
  | 0 => rfl
  | d + 1 => by
    have := hpK_04 n y w d
    unfold hpK hpS
    split
    · exact this
    · show dz _ _ 0 4 = _
      rw [dz_04]; exact this
theorem hpK_stop (n y : Nat) (w : HS) {d : Nat} (h : dv (hpK n y w d).1 (hpK n y w d).2.1 = none) : ∀ i, hpK n y w (d + i) = hpK n y w d
  | 0 => rfl
  | i + 1 => by
    have e := hpK_stop n y w h i
    show hpS n y (hpK n y w (d + i)) = _
    rw [e]
    unfold hpS
    rw [h]
theorem inv_hpK {w : HS} (h : Inv w.1) (n y : Nat) : ∀ d, Inv (hpK n y w d).1
  | 0 => h
  | d + 1 => by
    have := inv_hpK h n y d
    unfold hpK hpS
    split
    · exact this
    · exact inv_dz this _
/-- a message -/
def snA (z : St) (f t : Nat) : Bool := decide (toS z f t = 2 ∨ toS z f t = 3)
def snH (z : St) (f t : Nat) : St := if snA z f t = true then tk z t t (toS z f t) (toI z f t) else z
abbrev SS : Type := St × (Nat → Bool)
def snS (a : Bool) (f t : Nat) (w : SS) : SS := match mu w.1 f w.2 8 with
  | none => w
  | some y =>
    let z1 := st w.1 8 (8 * f + y) (w.1 8 (8 * f + y) - 1)
    (if a = true ∧ y = t then z1 else tk z1 t y (toS z1 f y) (toI z1 f y), fun j => w.2 j || decide (j = y))
def snK (a : Bool) (f t : Nat) (w : SS) : Nat → SS
  | 0 => w
  | j + 1 => snS a f t (snK a f t w j)
def snd (z : St) (f t : Nat) : St := (snK (snA z f t) f t (snH z f t, fun _ => false) 3).1
def snM (z : St) (f t : Nat) : St := st (snd z f t) 0 8 (snd z f t 0 8 + 1)
theorem snK_stop (a : Bool) (f t : Nat) (w : SS) {d : Nat} (h : mu (snK a f t w d).1 f (snK a f t w d).2 8 = none) : ∀ i, snK a f t w (d + i) = snK a f t w d
  | 0 => rfl
  | i + 1 => by
    have e := snK_stop a f t w h i
    show snS a f t (snK a f t w (d + i)) = _
    rw [e]
    unfold snS
    rw [h]
theorem inv_snS {w : SS} (h : Inv w.1) (a : Bool) {f t : Nat} (ht : t < 8) : Inv (snS a f t w).1 := by
  unfold snS
  split
  · exact h
  · next y hy =>
    have hy8 := mu_lt _ _ _ 8 y hy
    have h1 : Inv (st w.1 8 (8 * f + y) (w.1 8 (8 * f + y) - 1)) := inv_o h (by decide) (by simp)
    dsimp only
    split
    · exact h1
    · exact inv_tk h1 ht hy8 _ _
theorem inv_snK {w : SS} (h : Inv w.1) (a : Bool) {f t : Nat} (ht : t < 8) : ∀ j, Inv (snK a f t w j).1
  | 0 => h
  | j + 1 => inv_snS (inv_snK h a ht j) a ht
theorem inv_snH {z : St} (h : Inv z) {f t : Nat} (ht : t < 8) : Inv (snH z f t) := by
  unfold snH
  split
  · exact inv_tk h ht ht _ _
  · exact h
theorem inv_snM {z : St} (h : Inv z) {f t : Nat} (ht : t < 8) : Inv (snM z f t) := inv_o (inv_snK (w := (snH z f t, fun _ => false)) (inv_snH h ht) _ ht 3) (by decide) (by decide)
/-- a turn -/
def trn (z : St) (n : Nat) : St := match dv (dco z n) (prt (dco z n) n) with
  | none => dco z n
  | some y =>
    let z2 := dz (dco z n) (prt (dco z n) n)
    if cnn z2 n y = true then snM (snM z2 n y) y n
    else if (hpr z2 n y).2.2 = true then (hpr z2 n y).1 else tk (hpr z2 n y).1 n y 2 (toI (hpr z2 n y).1 n y)
theorem inv_trn {z : St} (h : Inv z) {n : Nat} (hn : n < 8) : Inv (trn z n) := by
  have h1 := inv_dco h hn
  unfold trn
  split
  · exact h1
  · next y hy =>
    have hy8 := (dv_in hy).1
    have h2 := inv_dz h1 (prt (dco z n) n)
    dsimp only
    split
    · exact inv_snM (inv_snM h2 hy8) hn
    · have h3 : Inv (hpr (dz (dco z n) (prt (dco z n) n)) n y).1 := inv_hpK (w := hp0 _ n y) h2 n y _
      split
      · exact h3
      · exact inv_tk h3 hn hy8 _ _
def rdK (z : St) : Nat → St
  | 0 => z
  | k + 1 => if rdK z k 1 k = 1 then trn (rdK z k) k else rdK z k
def rd (z : St) : St := rdK (st z 0 0 (z 0 0 + 1)) 8
def rds (z : St) : Nat → St
  | 0 => z
  | d + 1 => rd (rds z d)
theorem inv_rdK {z : St} (h : Inv z) : ∀ k, k ≤ 8 → Inv (rdK z k)
  | 0, _ => h
  | k + 1, hk => by
    have := inv_rdK h k (by omega)
    unfold rdK
    split
    · exact inv_trn this (by omega)
    · exact this
theorem inv_rd {z : St} (h : Inv z) : Inv (rd z) := inv_rdK (inv_o h (by decide) (by decide)) 8 (by omega)
theorem inv_rds {z : St} (h : Inv z) : ∀ d, Inv (rds z d)
  | 0 => h
  | d + 1 => inv_rd (inv_rds h d)
/-- agreement -/
def twa (z : St) (n b : Nat) : Bool := utd z n b && (utd z b n && decide (cdf z n b 8 = 0))
def Agr (z : St) : Prop := ∀ i j, i < j → j < 8 → cnn z i j = true → twa z i j = true
noncomputable def agB (z : St) : Bool := @decide (Agr z) (Classical.propDecidable _)
theorem agB_t {z : St} (h : Agr z) : agB z = true := by unfold agB; exact @decide_eq_true _ (Classical.propDecidable _) h
theorem agB_f {z : St} (h : ¬ Agr z) : agB z = false := by unfold agB; exact @decide_eq_false _ (Classical.propDecidable _) h
def cdR (z : St) (i : Nat) : Nat → Nat
  | 0 => 0
  | j + 1 => if i < j ∧ cnn z i j = true then cdR z i j + cdf z i j 8 else cdR z i j
def cdT (z : St) : Nat → Nat
  | 0 => 0
  | i + 1 => cdT z i + cdR z i 8
theorem cdR_0 (z : St) (i : Nat) : ∀ j, j ≤ i + 1 → cdR z i j = 0
  | 0, _ => rfl
  | j + 1, h => by
    unfold cdR
    rw [if_neg (by omega)]
    exact cdR_0 z i j (by omega)
theorem cdR_le (z : St) (i : Nat) : ∀ j, cdR z i j ≤ 8 * j
  | 0 => by simp [cdR]
  | j + 1 => by
    have := cdR_le z i j
    have h2 := cdf_le z i j 8
    unfold cdR
    split <;> omega
theorem cdT_le (z : St) : ∀ i, cdT z i ≤ 64 * i
  | 0 => by simp [cdT]
  | i + 1 => by
    have := cdT_le z i
    have h2 := cdR_le z i 8
    unfold cdT
    omega
/-- joining -/
def inK (n b : Nat) (z : St) : Nat → St
  | 0 => z
  | k + 1 => if toS (inK n b z k) b k = 0 then inK n b z k else tk (inK n b z k) n k (toS (inK n b z k) b k) (toI (inK n b z k) b k)
def intr (z : St) (n b : Nat) : St := tk (inK n b z 8) b n 1 (inK n b z 8 4 n)
def ad0 (z : St) (n : Nat) : St :=
  let z1 := st z 1 n 1
  let z2 := if z1 2 n = 1 then st z1 4 n (z1 4 n + 1) else z1
  fgt (st z2 2 n 1) n
def adm (z : St) (n b : Nat) : St := if cnn (ad0 z n) n b = true then intr (ad0 z n) n b else ad0 z n
theorem inv_inK {z : St} (h : Inv z) {n : Nat} (hn : n < 8) (b : Nat) : ∀ k, k ≤ 8 → Inv (inK n b z k)
  | 0, _ => h
  | k + 1, hk => by
    have := inv_inK h hn b k (by omega)
    unfold inK
    split
    · exact this
    · exact inv_tk this hn (by omega) _ _
theorem inv_intr {z : St} (h : Inv z) {n b : Nat} (hn : n < 8) (hb : b < 8) : Inv (intr z n b) := inv_tk (inv_inK h hn b 8 (by omega)) hb hn _ _
theorem inv_ad0 {z : St} (h : Inv z) (n : Nat) : Inv (ad0 z n) := by
  have h1 : Inv (st z 1 n 1) := inv_1 h (Or.inl rfl) (Or.inr rfl)
  unfold ad0
  dsimp only
  refine inv_fgt (inv_1 ?_ (Or.inr rfl) (Or.inr rfl)) n
  split
  · exact inv_o h1 (by decide) (by simp)
  · exact h1
theorem inv_adm {z : St} (h : Inv z) {n b : Nat} (hn : n < 8) (hb : b < 8) : Inv (adm z n b) := by
  unfold adm
  split
  · exact inv_intr (inv_ad0 h n) hn hb
  · exact inv_ad0 h n
