theorem i8 {v : Int32} (h : ¬ v < 8) : 7 < v := by
  rw [i_lt] at h ⊢
  have e8 : (8 : Int32).toInt = 8 := rfl
  have e7 : (7 : Int32).toInt = 7 := rfl
  omega
theorem i8b {v : Int32} (h : v < 8) : ¬ 7 < v := by
  rw [i_lt] at h ⊢
  have e8 : (8 : Int32).toInt = 8 := rfl
  have e7 : (7 : Int32).toInt = 7 := rfl
  omega
theorem hd_X4_requireNode : yX4_requireNode.cls ≠ "java/lang/invoke/MethodHandle" ∧ yX4_requireNode.cls ≠ "java/lang/invoke/VarHandle" ∧ (parseMethodDescriptor yX4_requireNode.desc).map (fun d => d.parameters.length) = some 1 := by decide +kernel
set_option maxHeartbeats 4000000 in
set_option maxRecDepth 100000 in
theorem c_X4_requireNode (l : Launch) (G : GA)  (sz : Nat) (v : Int32) : vx_Met l yX4_requireNode wsX4_requireNode ({ frames := 6, cells := xc (((rn v, 0, zz) : PO) : PO).1, slots := 6 * xc (((rn v, 0, zz) : PO) : PO).1, locals := 90 }) (va_Pc [.int (v)] (PX l G ([] : va_W) sz)) (va_Qv (fun (u : Unit) => (((rn v, 0, zz) : PO) : PO).1 = 0) (fun (u : Unit) t => va_P G.1 gcl ([] : va_W) t.heap) (va_A ([] : va_W) sz)) (vx_X (fun (u : Unit) => ¬ (((rn v, 0, zz) : PO) : PO).1 = 0) (fun E u t => E = ex3 xIOE xIOE xIOE (((rn v, 0, zz) : PO) : PO).1 ∧ va_P G.1 gcl ([] : va_W) t.heap) (va_A ([] : va_W) sz)) (xc (((rn v, 0, zz) : PO) : PO).1) (6 * xc (((rn v, 0, zz) : PO) : PO).1) (va_A ([] : va_W) sz) := by
  refine met_x (cc := cX4_requireNode) (maxL := 1) (ret := none) (fun A => va_Qv (fun (u : Unit) => (((rn v, 0, zz) : PO) : PO).1 = 0) (fun (u : Unit) t => va_P G.1 gcl ([] : va_W) t.heap) A) (fun A => vx_X (fun (u : Unit) => ¬ (((rn v, 0, zz) : PO) : PO).1 = 0) (fun E u t => E = ex3 xIOE xIOE xIOE (((rn v, 0, zz) : PO) : PO).1 ∧ va_P G.1 gcl ([] : va_W) t.heap) A) (by decide) rfl (Nat.le_of_ble_eq_true rfl) ?_
  intro p e s m args below meth c R Q A H ls hR hQ S hr hlk htab hK hX hsz hH hAe hA hw hl
  have hl : lv_has ls 1 [(0, .int (v))] := hl
  have m1IOE : Cond.classLink RX4 239 xIOE ∈ wsX4_requireNode := by decide +kernel
  have m2IOE : Cond.initialized xIOE ∈ wsX4_requireNode := by decide +kernel
  have m3IOE : ∀ w ∈ (vx_atS RX4 243 xIOE ["java/lang/RuntimeException", "java/lang/Exception"]).filter goodWord, w ∈ wsX4_requireNode := by decide +kernel
  refine lv_iload_n S.1 S.2.1 dX4_requireNode_0 rfl (lv_at hl 0 rfl) ?_
  refine lv_if_lt (tgt := 10) S.1 S.2.1 dX4_requireNode_1 (by decide) (fun c1 => ?_) (fun c1 => ?_)
  · skip
    have hp9 : ((rn v, 0, zz) : PO) = (1, 0, zz) := (by first | (simp [rn, nd, c1]; done) | (have h7 := i8 c1; simp [rn, nd, h7, c1]; done))
    exact th_IOE (text := "there is no such node") S hX hw hl.1 hlk htab (by decide) m1IOE m2IOE m3IOE dX4_requireNode_10 dX4_requireNode_13 dX4_requireNode_14 dX4_requireNode_16 dX4_requireNode_19 hQ () (by rw [hp9]; exact by decide) (by rw [hp9]; rfl) rfl (by rw [hR]; exact Nat.le_of_ble_eq_true rfl) (by rw [hR]; exact Nat.le_of_ble_eq_true rfl) (by rw [hR]; show 0 + 1 ≤ xc (((rn v, 0, zz) : PO)).1; rw [hp9]; decide) (by rw [hR]; show 0 + 6 ≤ 6 * xc (((rn v, 0, zz) : PO)).1; rw [hp9]; decide) (by rw [hp9]; decide) (by rw [hp9]; decide)
  · skip
    refine lv_iload_n S.1 S.2.1 dX4_requireNode_4 rfl (lv_at hl 0 rfl) ?_
    refine lv_bipush (v := 8) S.1 S.2.1 dX4_requireNode_5 (by decide) ?_
    refine lv_icmp_lt (tgt := 20) S.1 S.2.1 dX4_requireNode_7 (by decide) (fun c2 => ?_) (fun c2 => ?_)
    · skip
      have hp9 : ((rn v, 0, zz) : PO) = (0, 0, zz) := (by have h7 := i8b c2; simp [rn, nd, h7, c1, c2])
      exact ret_x hQ (Nat.zero_le _) (Nat.zero_le _) (en_v () rfl S hr hlk hw (by rw [hp9]) dX4_requireNode_20)
    · skip
      have hp9 : ((rn v, 0, zz) : PO) = (1, 0, zz) := (by first | (simp [rn, nd, c1, c2]; done) | (have h7 := i8 c2; simp [rn, nd, h7, c1, c2]; done))
      exact th_IOE (text := "there is no such node") S hX hw hl.1 hlk htab (by decide) m1IOE m2IOE m3IOE dX4_requireNode_10 dX4_requireNode_13 dX4_requireNode_14 dX4_requireNode_16 dX4_requireNode_19 hQ () (by rw [hp9]; exact by decide) (by rw [hp9]; rfl) rfl (by rw [hR]; exact Nat.le_of_ble_eq_true rfl) (by rw [hR]; exact Nat.le_of_ble_eq_true rfl) (by rw [hR]; show 0 + 1 ≤ xc (((rn v, 0, zz) : PO)).1; rw [hp9]; decide) (by rw [hR]; show 0 + 6 ≤ 6 * xc (((rn v, 0, zz) : PO)).1; rw [hp9]; decide) (by rw [hp9]; decide) (by rw [hp9]; decide)
