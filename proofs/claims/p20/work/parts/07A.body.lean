set_option maxHeartbeats 4000000 in
set_option maxRecDepth 100000 in
theorem c_X5_bitOf (l : Launch) (G : mG) (f : mF) (b o : Int32) : Met l yX5_bitOf wsX5_bitOf ({ frames := 0, cells := 0, slots := 0, locals := 0 }) (va_Pc [.int b, .int o] (mW G f)) (va_Qi (fun (r : Int32) (u : mS) => u.2 = f ∧ r = ((b >>> (o &&& 31)) &&& 1)) (fun (u : mS) t => mW G u.2 t) (mA G)) 0 0 (mA G) := by
  refine mMet [.int b, .int o] (cc := cX5_bitOf) (maxL := 2) (ret := (some .int)) (by decide) rfl (Nat.le_of_ble_eq_true rfl) ?_
  intro p e s m below meth c ls hx hb hr hml hts hown hlk hnm hC hH hl
  have hl : lv_has ls 2 [(0, .int b), (1, .int o)] := hl
  refine lv_iload_n hx hb dX5_bitOf_0 rfl (lv_at hl 0 rfl) ?_
  refine lv_iload_n hx hb dX5_bitOf_1 rfl (lv_at hl 1 rfl) ?_
  refine lv_ishr hx hb dX5_bitOf_2 ?_
  refine lv_topi (fun x_1 ex_1 => ?_)
  refine lv_iconst (v := 1) hx hb dX5_bitOf_3 (by decide) ?_
  refine lv_iand hx hb dX5_bitOf_4 ?_
  refine lv_topi (fun x_2 ex_2 => ?_)
  exact m_iret (v := x_2) hx hb hr hlk hC hH (fun _ => (0, 0)) ⟨rfl, by rw [ex_2, ex_1]⟩ (Nat.le_of_ble_eq_true rfl) (Nat.le_of_ble_eq_true rfl) dX5_bitOf_5
set_option maxHeartbeats 4000000 in
set_option maxRecDepth 100000 in
theorem c_X2_itemPlace (l : Launch) (G : mG) (f : mF) (j i : Int32) (hi : 0 ≤ i.toInt ∧ i.toInt ≤ 8) : Met l yX2_itemPlace wsX2_itemPlace ({ frames := 0, cells := 0, slots := 0, locals := 0 }) (va_Pc [.int j, .int i] (mW G f)) (va_Qi (fun (r : Int32) (u : mS) => u.2 = f ∧ ((j.toInt = 2 ∧ r.toInt = 8 + i.toInt) ∨ (j.toInt ≠ 2 ∧ r.toInt = i.toInt))) (fun (u : mS) t => mW G u.2 t) (mA G)) 0 0 (mA G) := by
  refine mMet [.int j, .int i] (cc := cX2_itemPlace) (maxL := 2) (ret := (some .int)) (by decide) rfl (Nat.le_of_ble_eq_true rfl) ?_
  intro p e s m below meth c ls hx hb hr hml hts hown hlk hnm hC hH hl
  have hl : lv_has ls 2 [(0, .int j), (1, .int i)] := hl
  refine lv_iload_n hx hb dX2_itemPlace_0 rfl (lv_at hl 0 rfl) ?_
  refine lv_iconst (v := 2) hx hb dX2_itemPlace_1 (by decide) ?_
  refine lv_icmp_ne (tgt := 10) hx hb dX2_itemPlace_2 (by decide) (fun c_1 => ?_) (fun c_1 => ?_)
  · skip
    have ic_1 : (j.toInt : Int) ≠ 2 := ic_ne rfl kI_2 c_1
    refine lv_iconst (v := 0) hx hb dX2_itemPlace_10 (by decide) ?_
    refine lv_iload_n hx hb dX2_itemPlace_11 rfl (lv_at hl 1 rfl) ?_
    refine lv_iadd hx hb dX2_itemPlace_12 ?_
    refine lv_topi (fun x_2 ex_2 => ?_)
    have ix_2 : x_2.toInt = 0 + i.toInt := ic_add ex_2 kI_0 rfl (by omega) (by omega)
    exact m_iret (v := x_2) hx hb hr hlk hC hH (fun _ => (0, 0)) ⟨rfl, by omega⟩ (Nat.le_of_ble_eq_true rfl) (Nat.le_of_ble_eq_true rfl) dX2_itemPlace_13
  · skip
    have ic_1 : (j.toInt : Int) = 2 := ic_eq rfl kI_2 c_1
    refine lv_bipush (v := 8) hx hb dX2_itemPlace_5 (by decide) ?_
    refine lv_goto (tgt := 11) hx hb dX2_itemPlace_7 (by decide) ?_
    refine lv_iload_n hx hb dX2_itemPlace_11 rfl (lv_at hl 1 rfl) ?_
    refine lv_iadd hx hb dX2_itemPlace_12 ?_
    refine lv_topi (fun x_3 ex_3 => ?_)
    have ix_3 : x_3.toInt = 8 + i.toInt := ic_add ex_3 kI_8 rfl (by omega) (by omega)
    exact m_iret (v := x_3) hx hb hr hlk hC hH (fun _ => (0, 0)) ⟨rfl, by omega⟩ (Nat.le_of_ble_eq_true rfl) (Nat.le_of_ble_eq_true rfl) dX2_itemPlace_13
set_option maxHeartbeats 4000000 in
set_option maxRecDepth 100000 in
theorem c_X2_sortOf (l : Launch) (G : mG) (f : mF) (q : Nat) (b : tBo) (hb_ : BF G f q b) (ht : yB b < 3) (j : Int32) : Met l yX2_sortOf wsX2_sortOf ({ frames := 0, cells := 0, slots := 0, locals := 0 }) (va_Pc [.ref q, .int j] (mW G f)) (va_Qi (fun (r : Int32) (u : mS) => u.2 = f ∧ ((0 ≤ j.toInt ∧ j.toInt < 8 ∧ r = nI (srt (yB b) j.toNatClampNeg)) ∨ ((j.toInt < 0 ∨ 8 ≤ j.toInt) ∧ r = 0))) (fun (u : mS) t => mW G u.2 t) (mA G)) 0 0 (mA G) := by
  refine mMet [.ref q, .int j] (cc := cX2_sortOf) (maxL := 2) (ret := (some .int)) (by decide) rfl (Nat.le_of_ble_eq_true rfl) ?_
  intro p e s m below meth c ls hx hb hr hml hts hown hlk hnm hC hH hl
  have hl : lv_has ls 2 [(0, .ref q), (1, .int j)] := hl
  refine lv_iload_n hx hb dX2_sortOf_0 rfl (lv_at hl 1 rfl) ?_
  refine lv_if_lt (tgt := 26) hx hb dX2_sortOf_1 (by decide) (fun c_1 => ?_) (fun c_1 => ?_)
  · skip
    have ic_1 : (j.toInt : Int) < 0 := ic_lt rfl kI_0 c_1
    refine lv_iconst (v := 0) hx hb dX2_sortOf_26 (by decide) ?_
    exact m_iret (v := 0) hx hb hr hlk hC hH (fun _ => (0, 0)) ⟨rfl, Or.inr ⟨by omega, rfl⟩⟩ (Nat.le_of_ble_eq_true rfl) (Nat.le_of_ble_eq_true rfl) dX2_sortOf_27
  · skip
    have ic_1 : (j.toInt : Int) ≥ 0 := ic_nlt rfl kI_0 c_1
    refine lv_iload_n hx hb dX2_sortOf_4 rfl (lv_at hl 1 rfl) ?_
    refine lv_bipush (v := 8) hx hb dX2_sortOf_5 (by decide) ?_
    refine lv_icmp_ge (tgt := 26) hx hb dX2_sortOf_7 (by decide) (fun c_2 => ?_) (fun c_2 => ?_)
    · skip
      have ic_2 : (8 : Int) ≤ j.toInt := ic_le kI_8 rfl c_2
      refine lv_iconst (v := 0) hx hb dX2_sortOf_26 (by decide) ?_
      exact m_iret (v := 0) hx hb hr hlk hC hH (fun _ => (0, 0)) ⟨rfl, Or.inr ⟨by omega, rfl⟩⟩ (Nat.le_of_ble_eq_true rfl) (Nat.le_of_ble_eq_true rfl) dX2_sortOf_27
    · skip
      have ic_2 : (8 : Int) > j.toInt := ic_nle kI_8 rfl c_2
      refine m_gets hx hb hC.2.2.1 hH hown (hts (.fieldLink RX2 23 "LazyState$Body" "SORTS" "[I") (by decide +kernel)) dX2_sortOf_10 ?_
      refine lv_aload_n hx hb dX2_sortOf_13 rfl (lv_at hl 0 rfl) ?_
      have F_3 : f q = some (.inr (2, [.int (nI (yB b)), .ref (caB b), .ref (iaB b), .int (siB b), va_rf (bfB b)])) := hb_.1
      have tI_3 : (nI (yB b)).toInt = ((yB b : Nat) : Int) := nI_toInt (by omega)
      refine m_get (ci := 2) (v := .int (nI (yB b))) (C := RX2) (T := TX2) (N := 5) hx hb hC hH hts in_X2_sortOf_X2 hown F_3 rfl 0 (by decide) (hts (.fieldLink RX2 19 "LazyState$Body" "type" "I") (by decide +kernel)) rfl dX2_sortOf_14 ?_
      refine lv_bipush (v := 8) hx hb dX2_sortOf_17 (by decide) ?_
      refine lv_imul hx hb dX2_sortOf_19 ?_
      refine lv_topi (fun x_4 ex_4 => ?_)
      have ix_4 : x_4.toInt = ((yB b : Nat) : Int) * 8 := ic_mul ex_4 tI_3 kI_8 (by omega) (by omega)
      refine lv_iload_n hx hb dX2_sortOf_20 rfl (lv_at hl 1 rfl) ?_
      refine lv_iadd hx hb dX2_sortOf_21 ?_
      refine lv_topi (fun x_5 ex_5 => ?_)
      have ix_5 : x_5.toInt = x_4.toInt + j.toInt := ic_add ex_5 rfl rfl (by omega) (by omega)
      refine m_ti hx hb hC.2.2.2.1 hH (vp_in_iff.mpr ⟨by omega, by omega⟩) dX2_sortOf_22 ?_
      refine lv_topi (fun x_6 ex_6 => ?_)
      have sq_ : x_6 = nI (srt (yB b) j.toNatClampNeg) := by rw [ex_6, show x_5.toNatClampNeg = 8 * yB b + j.toNatClampNeg from by have := ic_clN (rfl : x_5.toInt = _) (by omega); have := ic_clN (rfl : j.toInt = _) (by omega); omega]; exact srt_I (yB b) ht j.toNatClampNeg (by have := ic_clN (rfl : j.toInt = _) (by omega); omega)
      refine lv_goto (tgt := 27) hx hb dX2_sortOf_23 (by decide) ?_
      exact m_iret (v := x_6) hx hb hr hlk hC hH (fun _ => (0, 0)) ⟨rfl, Or.inl ⟨by omega, by omega, sq_⟩⟩ (Nat.le_of_ble_eq_true rfl) (Nat.le_of_ble_eq_true rfl) dX2_sortOf_27
set_option maxHeartbeats 4000000 in
set_option maxRecDepth 100000 in
theorem c_X2_hasItem (l : Launch) (G : mG) (f : mF) (q : Nat) (b : tBo) (hb_ : BF G f q b) (ht : yB b < 3) (j : Int32) (v : Int64) (hjj : 0 ≤ j.toInt ∧ j.toInt < 8) : Met l yX2_hasItem wsX2_hasItem ({ frames := 0, cells := 0, slots := 0, locals := 0 }) (va_Pc [.ref q, .int j, .long v] (mW G f)) (va_Qi (fun (r : Int32) (u : mS) => u.2 = f ∧ ((r.toInt = 1 ∧ (0 ≤ v.toInt ∧ v.toInt < ((cB b).1 j.toNatClampNeg).toInt)) ∨ (r.toInt = 0 ∧ ¬ (0 ≤ v.toInt ∧ v.toInt < ((cB b).1 j.toNatClampNeg).toInt)))) (fun (u : mS) t => mW G u.2 t) (mA G)) 0 0 (mA G) := by
  refine mMet [.ref q, .int j, .long v] (cc := cX2_hasItem) (maxL := 4) (ret := (some .boolean)) (by decide) rfl (Nat.le_of_ble_eq_true rfl) ?_
  intro p e s m below meth c ls hx hb hr hml hts hown hlk hnm hC hH hl
  have hl : lv_has ls 4 [(0, .ref q), (1, .int j), (2, .long v)] := hl
  refine lv_lload_n hx hb dX2_hasItem_0 rfl (lv_at hl 2 rfl) ?_
  refine lv_lconst (v := 0) hx hb dX2_hasItem_1 (by decide) ?_
  refine W.lcmp hx hb dX2_hasItem_2 ?_
  refine lv_if_lt (tgt := 21) hx hb dX2_hasItem_3 (by decide) (fun c_1 => ?_) (fun c_1 => ?_)
  · skip
    have ic_1 : (v.toInt : Int) < 0 := lc_lt rfl kJ_0 ((lg_cmp_lt _ _).mp c_1)
    refine lv_iconst (v := 0) hx hb dX2_hasItem_21 (by decide) ?_
    exact m_zret (v := 0) hx hb hr (by rfl) hlk hC hH (fun _ => (0, 0)) ⟨rfl, Or.inr ⟨kI_0, fun z_ => by omega⟩⟩ (Nat.le_of_ble_eq_true rfl) (Nat.le_of_ble_eq_true rfl) dX2_hasItem_22
  · skip
    have ic_1 : (v.toInt : Int) ≥ 0 := lc_nlt rfl kJ_0 (fun q_ => c_1 ((lg_cmp_lt _ _).mpr q_))
    refine lv_lload_n hx hb dX2_hasItem_6 rfl (lv_at hl 2 rfl) ?_
    refine lv_aload_n hx hb dX2_hasItem_7 rfl (lv_at hl 0 rfl) ?_
    have F_2 : f q = some (.inr (2, [.int (nI (yB b)), .ref (caB b), .ref (iaB b), .int (siB b), va_rf (bfB b)])) := hb_.1
    have tI_2 : (nI (yB b)).toInt = ((yB b : Nat) : Int) := nI_toInt (by omega)
    refine m_get (ci := 2) (v := .ref (caB b)) (C := RX2) (T := TX2) (N := 5) hx hb hC hH hts in_X2_hasItem_X2 hown F_2 rfl 1 (by decide) (hts (.fieldLink RX2 9 "LazyState$Body" "cells" "[J") (by decide +kernel)) rfl dX2_hasItem_8 ?_
    refine lv_iload_n hx hb dX2_hasItem_11 rfl (lv_at hl 1 rfl) ?_
    have hg_3 : f (caB b) = some (.inl (gk G 1, 8, .inr (.inl ((cB b).1)))) := hb_.2.1
    refine m_lald hx hb hC hH hg_3 (vp_in_iff.mpr ⟨by omega, by omega⟩) dX2_hasItem_12 ?_
    refine lv_topl (fun y_4 ey_4 => ?_)
    have cx_ : y_4 = (cB b).1 j.toNatClampNeg := ey_4
    refine W.lcmp hx hb dX2_hasItem_13 ?_
    refine lv_if_ge (tgt := 21) hx hb dX2_hasItem_14 (by decide) (fun c_5 => ?_) (fun c_5 => ?_)
    · skip
      have ic_5 : (y_4.toInt : Int) ≤ v.toInt := lc_le rfl rfl ((lg_cmp_ge _ _).mp c_5)
      refine lv_iconst (v := 0) hx hb dX2_hasItem_21 (by decide) ?_
      exact m_zret (v := 0) hx hb hr (by rfl) hlk hC hH (fun _ => (0, 0)) ⟨rfl, Or.inr ⟨kI_0, fun z_ => by rw [← cx_] at z_; omega⟩⟩ (Nat.le_of_ble_eq_true rfl) (Nat.le_of_ble_eq_true rfl) dX2_hasItem_22
    · skip
      have ic_5 : (y_4.toInt : Int) > v.toInt := lc_nle rfl rfl (fun q_ => c_5 ((lg_cmp_ge _ _).mpr q_))
      refine lv_iconst (v := 1) hx hb dX2_hasItem_17 (by decide) ?_
      refine lv_goto (tgt := 22) hx hb dX2_hasItem_18 (by decide) ?_
      exact m_zret (v := 1) hx hb hr (by rfl) hlk hC hH (fun _ => (0, 0)) ⟨rfl, Or.inl ⟨kI_1, by omega, by rw [← cx_]; omega⟩⟩ (Nat.le_of_ble_eq_true rfl) (Nat.le_of_ble_eq_true rfl) dX2_hasItem_22
set_option maxHeartbeats 4000000 in
set_option maxRecDepth 100000 in
theorem c_X2_hasBlankRow (l : Launch) (G : mG) (f : mF) (q : Nat) (b : tBo) (hb_ : BF G f q b) (ht : yB b < 3) (j v : Int32) (hjj : 0 ≤ j.toInt ∧ j.toInt < 8) : Met l yX2_hasBlankRow wsX2_hasBlankRow ({ frames := 1, cells := 0, slots := 0, locals := 21 }) (va_Pc [.ref q, .int j, .int v] (mW G f)) (va_Qi (fun (r : Int32) (u : mS) => u.2 = f ∧ ((r.toInt = 1 ∧ ((cB b).1 j.toNatClampNeg = v.toInt64 ∧ ∀ i, i < 8 → (cB b).2 (plc j.toNatClampNeg i) = 0)) ∨ (r.toInt = 0 ∧ ¬ ((cB b).1 j.toNatClampNeg = v.toInt64 ∧ ∀ i, i < 8 → (cB b).2 (plc j.toNatClampNeg i) = 0)))) (fun (u : mS) t => mW G u.2 t) (mA G)) 0 0 (mA G) := by
  refine mMet [.ref q, .int j, .int v] (cc := cX2_hasBlankRow) (maxL := 4) (ret := (some .boolean)) (by decide) rfl (Nat.le_of_ble_eq_true rfl) ?_
  intro p e s m below meth c ls hx hb hr hml hts hown hlk hnm hC hH hl
  have hl : lv_has ls 4 [(0, .ref q), (1, .int j), (2, .int v)] := hl
  refine lv_aload_n hx hb dX2_hasBlankRow_0 rfl (lv_at hl 0 rfl) ?_
  have F_1 : f q = some (.inr (2, [.int (nI (yB b)), .ref (caB b), .ref (iaB b), .int (siB b), va_rf (bfB b)])) := hb_.1
  have tI_1 : (nI (yB b)).toInt = ((yB b : Nat) : Int) := nI_toInt (by omega)
  refine m_get (ci := 2) (v := .ref (caB b)) (C := RX2) (T := TX2) (N := 5) hx hb hC hH hts in_X2_hasBlankRow_X2 hown F_1 rfl 1 (by decide) (hts (.fieldLink RX2 9 "LazyState$Body" "cells" "[J") (by decide +kernel)) rfl dX2_hasBlankRow_1 ?_
  refine lv_iload_n hx hb dX2_hasBlankRow_4 rfl (lv_at hl 1 rfl) ?_
  have hg_2 : f (caB b) = some (.inl (gk G 1, 8, .inr (.inl ((cB b).1)))) := hb_.2.1
  refine m_lald hx hb hC hH hg_2 (vp_in_iff.mpr ⟨by omega, by omega⟩) dX2_hasBlankRow_5 ?_
  refine lv_topl (fun y_3 ey_3 => ?_)
  refine lv_iload_n hx hb dX2_hasBlankRow_6 rfl (lv_at hl 2 rfl) ?_
  refine lv_i2l hx hb dX2_hasBlankRow_7 rfl ?_
  refine lv_topl (fun y_4 ey_4 => ?_)
  have iy_4 : y_4.toInt = v.toInt := lc_i2l ey_4 rfl
  have gy_4 := ic_rng v
  refine W.lcmp hx hb dX2_hasBlankRow_8 ?_
  refine lv_if_eq (tgt := 14) hx hb dX2_hasBlankRow_9 (by decide) (fun c_5 => ?_) (fun c_5 => ?_)
  · skip
    have ic_5 : (y_3.toInt : Int) = y_4.toInt := lc_eq rfl rfl ((lg_cmp_eq _ _).mp c_5)
    have ce_ : (cB b).1 j.toNatClampNeg = v.toInt64 := by rw [← ey_3, ← ey_4]; exact Int64.toInt_inj.mp ic_5
    refine lv_iconst (v := 0) hx hb dX2_hasBlankRow_14 (by decide) ?_
    refine lv_istore_n (lv' := [(3, .int 0), (0, .ref q), (1, .int j), (2, .int v)]) hx hb dX2_hasBlankRow_15 rfl hl (by decide) rfl (fun ls hl => ?_)
    have loop_16 : ∀ (fuel_ : Nat) (k3 : Int32) (h0_ : 0 ≤ k3.toInt) (h1_ : k3.toInt ≤ 8) (hz : ∀ i : Nat, (i : Int) < k3.toInt → (cB b).2 (plc j.toNatClampNeg i) = 0) (_ : ((8 : Int) - k3.toInt).toNat < fuel_) (H : Heap) (locs : List Loc) (ls : Array Slot) (_ : mH G s f H locs) (_ : lv_has ls 4 [(0, .ref q), (1, .int j), (2, .int v), (3, .int k3)]), W p l e ({ frames := 1, cells := 0, slots := 0, locals := 21 } : Room) s m ([.ref q, .int j, .int v] : List Value).toArray below meth c H locs 0 0 (MQ below (va_Qi (fun (r : Int32) (u : mS) => u.2 = f ∧ ((r.toInt = 1 ∧ ((cB b).1 j.toNatClampNeg = v.toInt64 ∧ ∀ i, i < 8 → (cB b).2 (plc j.toNatClampNeg i) = 0)) ∨ (r.toInt = 0 ∧ ¬ ((cB b).1 j.toNatClampNeg = v.toInt64 ∧ ∀ i, i < 8 → (cB b).2 (plc j.toNatClampNeg i) = 0)))) (fun (u : mS) t => mW G u.2 t) (mA G)) ([.ref q, .int j, .int v] : List Value).toArray s 0 0 (mA G)) (F0 m 16 ls []) := by
      intro N_16
      induction N_16 with
      | zero => intro k3 h0_ h1_ hz hN; omega
      | succ N_16 ih_16 =>
        intro k3 h0_ h1_ hz hN_16 H locs ls hH hl
        refine lv_iload_n hx hb dX2_hasBlankRow_16 rfl (lv_at hl 3 rfl) ?_
        refine lv_bipush (v := 8) hx hb dX2_hasBlankRow_17 (by decide) ?_
        refine lv_icmp_ge (tgt := 43) hx hb dX2_hasBlankRow_19 (by decide) (fun c_6 => ?_) (fun c_6 => ?_)
        · skip
          have ic_6 : (8 : Int) ≤ k3.toInt := ic_le kI_8 rfl c_6
          refine lv_iconst (v := 1) hx hb dX2_hasBlankRow_43 (by decide) ?_
          exact m_zret (v := 1) hx hb hr (by rfl) hlk hC hH (fun _ => (0, 0)) ⟨rfl, Or.inl ⟨kI_1, ce_, fun i_ hi_ => hz i_ (by omega)⟩⟩ (Nat.le_of_ble_eq_true rfl) (Nat.le_of_ble_eq_true rfl) dX2_hasBlankRow_44
        · skip
          have ic_6 : (8 : Int) > k3.toInt := ic_nle kI_8 rfl c_6
          refine lv_aload_n hx hb dX2_hasBlankRow_22 rfl (lv_at hl 0 rfl) ?_
          refine m_get (ci := 2) (v := .ref (iaB b)) (C := RX2) (T := TX2) (N := 5) hx hb hC hH hts in_X2_hasBlankRow_X2 hown F_1 rfl 2 (by decide) (hts (.fieldLink RX2 15 "LazyState$Body" "items" "[I") (by decide +kernel)) rfl dX2_hasBlankRow_23 ?_
          refine lv_iload_n hx hb dX2_hasBlankRow_26 rfl (lv_at hl 1 rfl) ?_
          refine lv_iload_n hx hb dX2_hasBlankRow_27 rfl (lv_at hl 3 rfl) ?_
          refine m_goi hH (va_runS (As := [.int j, .int k3]) (rest := [.ref (iaB b)]) ⟨hx, hb, hml, hown, hts⟩ (c_X2_itemPlace l G f j k3 (by omega)) (va_cwS 2 hts gX2_hasBlankRow_X2_itemPlace rfl rfl rfl (by decide +kernel) ⟨Nat.le_of_ble_eq_true rfl, Nat.le_of_ble_eq_true rfl⟩) (m_preS hC hH) rfl rfl hl.1 rfl (lv_room (Nat.le_of_ble_eq_true rfl)) dX2_hasBlankRow_28 ⟨Nat.le_of_ble_eq_true rfl, Nat.le_of_ble_eq_true rfl⟩) (fun r_7 rho_9 f_8 H locs hw hH => ?_)
          obtain ⟨hu, hr_7⟩ := hw
          have hu : f_8 = f := hu
          rw [hu] at hH
          try dsimp only at hr_7
          have hg_10 : f (iaB b) = some (.inl (gk G 0, 16, .inl ((cB b).2))) := hb_.2.2
          refine m_iald hx hb hC hH hg_10 (vp_in_iff.mpr ⟨by omega, by omega⟩) dX2_hasBlankRow_31 ?_
          refine lv_topi (fun x_11 ex_11 => ?_)
          have it_ : x_11 = (cB b).2 (plc j.toNatClampNeg k3.toNatClampNeg) := by rw [ex_11, (show r_7.toNatClampNeg = plc j.toNatClampNeg k3.toNatClampNeg from by have := ic_clN (rfl : r_7.toInt = _) (by omega); have := ic_clN (rfl : j.toInt = _) (by omega); have := ic_clN (rfl : k3.toInt = _) (by omega); unfold plc; rcases hr_7 with y_ | y_; (rw [if_pos (by omega)]; omega); (rw [if_neg (by omega)]; omega))]
          refine lv_if_eq (tgt := 37) hx hb dX2_hasBlankRow_32 (by decide) (fun c_12 => ?_) (fun c_12 => ?_)
          · skip
            have ic_12 : (x_11.toInt : Int) = 0 := ic_eq rfl kI_0 c_12
            obtain ⟨x_13, ex_13⟩ : ∃ y : Int32, y = k3 + 1 := ⟨_, rfl⟩
            have ix_13 : x_13.toInt = k3.toInt + 1 := ic_add ex_13 rfl kI_1 (by omega) (by omega)
            refine lv_iinc (v := x_13) (lv' := [(3, .int x_13), (0, .ref q), (1, .int j), (2, .int v)]) hx hb dX2_hasBlankRow_37 hl (k := 3) rfl (by rw [ex_13]; rfl) (by decide) rfl (fun ls hl => ?_)
            refine lv_goto (tgt := 16) hx hb dX2_hasBlankRow_40 (by decide) ?_
            exact ih_16 x_13 (by omega) (by omega) (fun i_ hi_ => (Decidable.em (i_ = k3.toNatClampNeg)).elim (fun z_ => by rw [z_, ← it_]; exact Int32.toInt_inj.mp ic_12) (fun z_ => hz i_ (by have := ic_clN (rfl : k3.toInt = _) (by omega); omega))) (by omega) _ _ _ hH (lv_sub hl [1, 2, 3, 0] rfl)
          · skip
            have ic_12 : (x_11.toInt : Int) ≠ 0 := ic_ne rfl kI_0 c_12
            refine lv_iconst (v := 0) hx hb dX2_hasBlankRow_35 (by decide) ?_
            exact m_zret (v := 0) hx hb hr (by rfl) hlk hC hH (fun _ => (0, 0)) ⟨rfl, Or.inr ⟨kI_0, fun z_ => by have w_ := z_.2 k3.toNatClampNeg (by have := ic_clN (rfl : k3.toInt = _) (by omega); omega); rw [← it_] at w_; rw [w_] at ic_12; exact ic_12 rfl⟩⟩ (Nat.le_of_ble_eq_true rfl) (Nat.le_of_ble_eq_true rfl) dX2_hasBlankRow_36
    exact loop_16 (((8 : Int) - 0).toNat + 1) 0 (by have := kI_0; omega) (by have := kI_0; omega) (fun i_ hi_ => by have := kI_0; omega) (by have := kI_0; omega) _ _ _ hH (lv_sub hl [1, 2, 3, 0] rfl)
  · skip
    have ic_5 : (y_3.toInt : Int) ≠ y_4.toInt := lc_ne rfl rfl (fun q_ => c_5 ((lg_cmp_eq _ _).mpr q_))
    have ce_ : ¬ (cB b).1 j.toNatClampNeg = v.toInt64 := fun z_ => by rw [← ey_3, ← ey_4] at z_; rw [z_] at ic_5; exact ic_5 rfl
    refine lv_iconst (v := 0) hx hb dX2_hasBlankRow_12 (by decide) ?_
    exact m_zret (v := 0) hx hb hr (by rfl) hlk hC hH (fun _ => (0, 0)) ⟨rfl, Or.inr ⟨kI_0, fun z_ => ce_ z_.1⟩⟩ (Nat.le_of_ble_eq_true rfl) (Nat.le_of_ble_eq_true rfl) dX2_hasBlankRow_13
set_option maxHeartbeats 4000000 in
set_option maxRecDepth 100000 in
theorem c_X2_hasSameItems (l : Launch) (G : mG) (f : mF) (q : Nat) (b : tBo) (hb_ : BF G f q b) (ht : yB b < 3) (q2 : Nat) (b2 : tBo) (hb2_ : BF G f q2 b2) (ht2 : yB b2 < 3) (j : Int32) (hjj : 0 ≤ j.toInt ∧ j.toInt < 8) : Met l yX2_hasSameItems wsX2_hasSameItems ({ frames := 1, cells := 0, slots := 0, locals := 21 }) (va_Pc [.ref q, .ref q2, .int j] (mW G f)) (va_Qi (fun (r : Int32) (u : mS) => u.2 = f ∧ ((r.toInt = 1 ∧ (∀ i, i < 8 → (cB b).2 (plc j.toNatClampNeg i) = (cB b2).2 (plc j.toNatClampNeg i))) ∨ (r.toInt = 0 ∧ ¬ (∀ i, i < 8 → (cB b).2 (plc j.toNatClampNeg i) = (cB b2).2 (plc j.toNatClampNeg i))))) (fun (u : mS) t => mW G u.2 t) (mA G)) 0 0 (mA G) := by
  refine mMet [.ref q, .ref q2, .int j] (cc := cX2_hasSameItems) (maxL := 4) (ret := (some .boolean)) (by decide) rfl (Nat.le_of_ble_eq_true rfl) ?_
  intro p e s m below meth c ls hx hb hr hml hts hown hlk hnm hC hH hl
  have hl : lv_has ls 4 [(0, .ref q), (1, .ref q2), (2, .int j)] := hl
  refine lv_iconst (v := 0) hx hb dX2_hasSameItems_0 (by decide) ?_
  refine lv_istore_n (lv' := [(3, .int 0), (0, .ref q), (1, .ref q2), (2, .int j)]) hx hb dX2_hasSameItems_1 rfl hl (by decide) rfl (fun ls hl => ?_)
  have loop_2 : ∀ (fuel_ : Nat) (k3 : Int32) (h0_ : 0 ≤ k3.toInt) (h1_ : k3.toInt ≤ 8) (hz : ∀ i : Nat, (i : Int) < k3.toInt → (cB b).2 (plc j.toNatClampNeg i) = (cB b2).2 (plc j.toNatClampNeg i)) (_ : ((8 : Int) - k3.toInt).toNat < fuel_) (H : Heap) (locs : List Loc) (ls : Array Slot) (_ : mH G s f H locs) (_ : lv_has ls 4 [(0, .ref q), (1, .ref q2), (2, .int j), (3, .int k3)]), W p l e ({ frames := 1, cells := 0, slots := 0, locals := 21 } : Room) s m ([.ref q, .ref q2, .int j] : List Value).toArray below meth c H locs 0 0 (MQ below (va_Qi (fun (r : Int32) (u : mS) => u.2 = f ∧ ((r.toInt = 1 ∧ (∀ i, i < 8 → (cB b).2 (plc j.toNatClampNeg i) = (cB b2).2 (plc j.toNatClampNeg i))) ∨ (r.toInt = 0 ∧ ¬ (∀ i, i < 8 → (cB b).2 (plc j.toNatClampNeg i) = (cB b2).2 (plc j.toNatClampNeg i))))) (fun (u : mS) t => mW G u.2 t) (mA G)) ([.ref q, .ref q2, .int j] : List Value).toArray s 0 0 (mA G)) (F0 m 2 ls []) := by
    intro N_2
    induction N_2 with
    | zero => intro k3 h0_ h1_ hz hN; omega
    | succ N_2 ih_2 =>
      intro k3 h0_ h1_ hz hN_2 H locs ls hH hl
      refine lv_iload_n hx hb dX2_hasSameItems_2 rfl (lv_at hl 3 rfl) ?_
      refine lv_bipush (v := 8) hx hb dX2_hasSameItems_3 (by decide) ?_
      refine lv_icmp_ge (tgt := 39) hx hb dX2_hasSameItems_5 (by decide) (fun c_1 => ?_) (fun c_1 => ?_)
      · skip
        have ic_1 : (8 : Int) ≤ k3.toInt := ic_le kI_8 rfl c_1
        refine lv_iconst (v := 1) hx hb dX2_hasSameItems_39 (by decide) ?_
        exact m_zret (v := 1) hx hb hr (by rfl) hlk hC hH (fun _ => (0, 0)) ⟨rfl, Or.inl ⟨kI_1, fun i_ hi_ => hz i_ (by omega)⟩⟩ (Nat.le_of_ble_eq_true rfl) (Nat.le_of_ble_eq_true rfl) dX2_hasSameItems_40
      · skip
        have ic_1 : (8 : Int) > k3.toInt := ic_nle kI_8 rfl c_1
        refine lv_aload_n hx hb dX2_hasSameItems_8 rfl (lv_at hl 0 rfl) ?_
        have F_2 : f q = some (.inr (2, [.int (nI (yB b)), .ref (caB b), .ref (iaB b), .int (siB b), va_rf (bfB b)])) := hb_.1
        have tI_2 : (nI (yB b)).toInt = ((yB b : Nat) : Int) := nI_toInt (by omega)
        refine m_get (ci := 2) (v := .ref (iaB b)) (C := RX2) (T := TX2) (N := 5) hx hb hC hH hts in_X2_hasSameItems_X2 hown F_2 rfl 2 (by decide) (hts (.fieldLink RX2 15 "LazyState$Body" "items" "[I") (by decide +kernel)) rfl dX2_hasSameItems_9 ?_
        refine lv_iload_n hx hb dX2_hasSameItems_12 rfl (lv_at hl 2 rfl) ?_
        refine lv_iload_n hx hb dX2_hasSameItems_13 rfl (lv_at hl 3 rfl) ?_
        refine m_goi hH (va_runS (As := [.int j, .int k3]) (rest := [.ref (iaB b)]) ⟨hx, hb, hml, hown, hts⟩ (c_X2_itemPlace l G f j k3 (by omega)) (va_cwS 2 hts gX2_hasSameItems_X2_itemPlace rfl rfl rfl (by decide +kernel) ⟨Nat.le_of_ble_eq_true rfl, Nat.le_of_ble_eq_true rfl⟩) (m_preS hC hH) rfl rfl hl.1 rfl (lv_room (Nat.le_of_ble_eq_true rfl)) dX2_hasSameItems_14 ⟨Nat.le_of_ble_eq_true rfl, Nat.le_of_ble_eq_true rfl⟩) (fun r_3 rho_5 f_4 H locs hw hH => ?_)
        obtain ⟨hu, hr_3⟩ := hw
        have hu : f_4 = f := hu
        rw [hu] at hH
        try dsimp only at hr_3
        have hg_6 : f (iaB b) = some (.inl (gk G 0, 16, .inl ((cB b).2))) := hb_.2.2
        refine m_iald hx hb hC hH hg_6 (vp_in_iff.mpr ⟨by omega, by omega⟩) dX2_hasSameItems_17 ?_
        refine lv_topi (fun x_7 ex_7 => ?_)
        have it1_ : x_7 = (cB b).2 (plc j.toNatClampNeg k3.toNatClampNeg) := by rw [ex_7, (show r_3.toNatClampNeg = plc j.toNatClampNeg k3.toNatClampNeg from by have := ic_clN (rfl : r_3.toInt = _) (by omega); have := ic_clN (rfl : j.toInt = _) (by omega); have := ic_clN (rfl : k3.toInt = _) (by omega); unfold plc; rcases hr_3 with y_ | y_; (rw [if_pos (by omega)]; omega); (rw [if_neg (by omega)]; omega))]
        refine lv_aload_n hx hb dX2_hasSameItems_18 rfl (lv_at hl 1 rfl) ?_
        have F_8 : f q2 = some (.inr (2, [.int (nI (yB b2)), .ref (caB b2), .ref (iaB b2), .int (siB b2), va_rf (bfB b2)])) := hb2_.1
        have tI_8 : (nI (yB b2)).toInt = ((yB b2 : Nat) : Int) := nI_toInt (by omega)
        refine m_get (ci := 2) (v := .ref (iaB b2)) (C := RX2) (T := TX2) (N := 5) hx hb hC hH hts in_X2_hasSameItems_X2 hown F_8 rfl 2 (by decide) (hts (.fieldLink RX2 15 "LazyState$Body" "items" "[I") (by decide +kernel)) rfl dX2_hasSameItems_19 ?_
        refine lv_iload_n hx hb dX2_hasSameItems_22 rfl (lv_at hl 2 rfl) ?_
        refine lv_iload_n hx hb dX2_hasSameItems_23 rfl (lv_at hl 3 rfl) ?_
        refine m_goi hH (va_runS (As := [.int j, .int k3]) (rest := [.ref (iaB b2), .int x_7]) ⟨hx, hb, hml, hown, hts⟩ (c_X2_itemPlace l G f j k3 (by omega)) (va_cwS 2 hts gX2_hasSameItems_X2_itemPlace rfl rfl rfl (by decide +kernel) ⟨Nat.le_of_ble_eq_true rfl, Nat.le_of_ble_eq_true rfl⟩) (m_preS hC hH) rfl rfl hl.1 rfl (lv_room (Nat.le_of_ble_eq_true rfl)) dX2_hasSameItems_24 ⟨Nat.le_of_ble_eq_true rfl, Nat.le_of_ble_eq_true rfl⟩) (fun r_9 rho_11 f_10 H locs hw hH => ?_)
        obtain ⟨hu, hr_9⟩ := hw
        have hu : f_10 = f := hu
        rw [hu] at hH
        try dsimp only at hr_9
        have hg_12 : f (iaB b2) = some (.inl (gk G 0, 16, .inl ((cB b2).2))) := hb2_.2.2
        refine m_iald hx hb hC hH hg_12 (vp_in_iff.mpr ⟨by omega, by omega⟩) dX2_hasSameItems_27 ?_
        refine lv_topi (fun x_13 ex_13 => ?_)
        have it2_ : x_13 = (cB b2).2 (plc j.toNatClampNeg k3.toNatClampNeg) := by rw [ex_13, (show r_9.toNatClampNeg = plc j.toNatClampNeg k3.toNatClampNeg from by have := ic_clN (rfl : r_9.toInt = _) (by omega); have := ic_clN (rfl : j.toInt = _) (by omega); have := ic_clN (rfl : k3.toInt = _) (by omega); unfold plc; rcases hr_9 with y_ | y_; (rw [if_pos (by omega)]; omega); (rw [if_neg (by omega)]; omega))]
        refine lv_icmp_eq (tgt := 33) hx hb dX2_hasSameItems_28 (by decide) (fun c_14 => ?_) (fun c_14 => ?_)
        · skip
          have ic_14 : (x_7.toInt : Int) = x_13.toInt := ic_eq rfl rfl c_14
          obtain ⟨x_15, ex_15⟩ : ∃ y : Int32, y = k3 + 1 := ⟨_, rfl⟩
          have ix_15 : x_15.toInt = k3.toInt + 1 := ic_add ex_15 rfl kI_1 (by omega) (by omega)
          refine lv_iinc (v := x_15) (lv' := [(3, .int x_15), (0, .ref q), (1, .ref q2), (2, .int j)]) hx hb dX2_hasSameItems_33 hl (k := 3) rfl (by rw [ex_15]; rfl) (by decide) rfl (fun ls hl => ?_)
          refine lv_goto (tgt := 2) hx hb dX2_hasSameItems_36 (by decide) ?_
          exact ih_2 x_15 (by omega) (by omega) (fun i_ hi_ => (Decidable.em (i_ = k3.toNatClampNeg)).elim (fun z_ => by rw [z_, ← it1_, ← it2_]; exact Int32.toInt_inj.mp ic_14) (fun z_ => hz i_ (by have := ic_clN (rfl : k3.toInt = _) (by omega); omega))) (by omega) _ _ _ hH (lv_sub hl [1, 2, 3, 0] rfl)
        · skip
          have ic_14 : (x_7.toInt : Int) ≠ x_13.toInt := ic_ne rfl rfl c_14
          refine lv_iconst (v := 0) hx hb dX2_hasSameItems_31 (by decide) ?_
          exact m_zret (v := 0) hx hb hr (by rfl) hlk hC hH (fun _ => (0, 0)) ⟨rfl, Or.inr ⟨kI_0, fun z_ => by have w_ := z_ k3.toNatClampNeg (by have := ic_clN (rfl : k3.toInt = _) (by omega); omega); rw [← it1_, ← it2_] at w_; rw [w_] at ic_14; exact ic_14 rfl⟩⟩ (Nat.le_of_ble_eq_true rfl) (Nat.le_of_ble_eq_true rfl) dX2_hasSameItems_32
  exact loop_2 (((8 : Int) - 0).toNat + 1) 0 (by have := kI_0; omega) (by have := kI_0; omega) (fun i_ hi_ => by have := kI_0; omega) (by have := kI_0; omega) _ _ _ hH (lv_sub hl [1, 2, 3, 0] rfl)
set_option maxHeartbeats 4000000 in
set_option maxRecDepth 100000 in
theorem c_X2_hasSameField (l : Launch) (G : mG) (f : mF) (q : Nat) (b : tBo) (hb_ : BF G f q b) (ht : yB b < 3) (q2 : Nat) (b2 : tBo) (hb2_ : BF G f q2 b2) (ht2 : yB b2 < 3) (j : Int32) (hjj : 0 ≤ j.toInt ∧ j.toInt < 8) : Met l yX2_hasSameField wsX2_hasSameField ({ frames := 2, cells := 0, slots := 0, locals := 44 }) (va_Pc [.ref q, .ref q2, .int j] (mW G f)) (va_Qi (fun (r : Int32) (u : mS) => u.2 = f ∧ ((r.toInt = 1 ∧ sameF (yB b) j.toNatClampNeg (cB b) (cB b2)) ∨ (r.toInt = 0 ∧ ¬ sameF (yB b) j.toNatClampNeg (cB b) (cB b2)))) (fun (u : mS) t => mW G u.2 t) (mA G)) 0 0 (mA G) := by
  refine mMet [.ref q, .ref q2, .int j] (cc := cX2_hasSameField) (maxL := 3) (ret := (some .boolean)) (by decide) rfl (Nat.le_of_ble_eq_true rfl) ?_
  intro p e s m below meth c ls hx hb hr hml hts hown hlk hnm hC hH hl
  have hl : lv_has ls 3 [(0, .ref q), (1, .ref q2), (2, .int j)] := hl
  refine lv_aload_n hx hb dX2_hasSameField_0 rfl (lv_at hl 0 rfl) ?_
  have F_1 : f q = some (.inr (2, [.int (nI (yB b)), .ref (caB b), .ref (iaB b), .int (siB b), va_rf (bfB b)])) := hb_.1
  have tI_1 : (nI (yB b)).toInt = ((yB b : Nat) : Int) := nI_toInt (by omega)
  refine m_get (ci := 2) (v := .ref (caB b)) (C := RX2) (T := TX2) (N := 5) hx hb hC hH hts in_X2_hasSameField_X2 hown F_1 rfl 1 (by decide) (hts (.fieldLink RX2 9 "LazyState$Body" "cells" "[J") (by decide +kernel)) rfl dX2_hasSameField_1 ?_
  refine lv_iload_n hx hb dX2_hasSameField_4 rfl (lv_at hl 2 rfl) ?_
  have hg_2 : f (caB b) = some (.inl (gk G 1, 8, .inr (.inl ((cB b).1)))) := hb_.2.1
  refine m_lald hx hb hC hH hg_2 (vp_in_iff.mpr ⟨by omega, by omega⟩) dX2_hasSameField_5 ?_
  refine lv_topl (fun y_3 ey_3 => ?_)
  refine lv_aload_n hx hb dX2_hasSameField_6 rfl (lv_at hl 1 rfl) ?_
  have F_4 : f q2 = some (.inr (2, [.int (nI (yB b2)), .ref (caB b2), .ref (iaB b2), .int (siB b2), va_rf (bfB b2)])) := hb2_.1
  have tI_4 : (nI (yB b2)).toInt = ((yB b2 : Nat) : Int) := nI_toInt (by omega)
  refine m_get (ci := 2) (v := .ref (caB b2)) (C := RX2) (T := TX2) (N := 5) hx hb hC hH hts in_X2_hasSameField_X2 hown F_4 rfl 1 (by decide) (hts (.fieldLink RX2 9 "LazyState$Body" "cells" "[J") (by decide +kernel)) rfl dX2_hasSameField_7 ?_
  refine lv_iload_n hx hb dX2_hasSameField_10 rfl (lv_at hl 2 rfl) ?_
  have hg_5 : f (caB b2) = some (.inl (gk G 1, 8, .inr (.inl ((cB b2).1)))) := hb2_.2.1
  refine m_lald hx hb hC hH hg_5 (vp_in_iff.mpr ⟨by omega, by omega⟩) dX2_hasSameField_11 ?_
  refine lv_topl (fun y_6 ey_6 => ?_)
  refine W.lcmp hx hb dX2_hasSameField_12 ?_
  refine lv_if_eq (tgt := 18) hx hb dX2_hasSameField_13 (by decide) (fun c_7 => ?_) (fun c_7 => ?_)
  · skip
    have ic_7 : (y_3.toInt : Int) = y_6.toInt := lc_eq rfl rfl ((lg_cmp_eq _ _).mp c_7)
    have ce_ : (cB b).1 j.toNatClampNeg = (cB b2).1 j.toNatClampNeg := by rw [← ey_3, ← ey_6]; exact Int64.toInt_inj.mp ic_7
    refine lv_aload_n hx hb dX2_hasSameField_18 rfl (lv_at hl 0 rfl) ?_
    refine lv_iload_n hx hb dX2_hasSameField_19 rfl (lv_at hl 2 rfl) ?_
    refine m_goi hH (va_runV (As := [.int j]) (rest := []) ⟨hx, hb, hml, hown, hts⟩ (c_X2_sortOf l G f q b hb_ (by omega) j) (cwV 1 hts gX2_hasSameField_X2_sortOf rfl rfl rfl (by decide +kernel) ⟨Nat.le_of_ble_eq_true rfl, Nat.le_of_ble_eq_true rfl⟩) (m_preV (ci := 2) hC hH F_1 rfl) rfl rfl hl.1 rfl (lv_room (Nat.le_of_ble_eq_true rfl)) dX2_hasSameField_20 ⟨Nat.le_of_ble_eq_true rfl, Nat.le_of_ble_eq_true rfl⟩) (fun r_8 rho_10 f_9 H locs hw hH => ?_)
    obtain ⟨hu, hr_8⟩ := hw
    have hu : f_9 = f := hu
    rw [hu] at hH
    try dsimp only at hr_8
    have so_ : r_8.toInt = ((srt (yB b) j.toNatClampNeg : Nat) : Int) := by rw [(hr_8.resolve_right (fun z_ => by omega)).2.2]; exact nI_toInt (by have := srt_b (yB b) ht j.toNatClampNeg (by have := ic_clN (rfl : j.toInt = _) (by omega); omega); omega)
    refine lv_iconst (v := 3) hx hb dX2_hasSameField_23 (by decide) ?_
    refine lv_icmp_ne (tgt := 36) hx hb dX2_hasSameField_24 (by decide) (fun c_11 => ?_) (fun c_11 => ?_)
    · skip
      have ic_11 : (r_8.toInt : Int) ≠ 3 := ic_ne rfl kI_3 c_11
      refine lv_iconst (v := 1) hx hb dX2_hasSameField_36 (by decide) ?_
      refine lv_goto (tgt := 41) hx hb dX2_hasSameField_37 (by decide) ?_
      exact m_zret (v := 1) hx hb hr (by rfl) hlk hC hH (fun _ => (0, 0)) ⟨rfl, Or.inl ⟨kI_1, ce_, fun z_ => absurd z_ (by omega)⟩⟩ (Nat.le_of_ble_eq_true rfl) (Nat.le_of_ble_eq_true rfl) dX2_hasSameField_41
    · skip
      have ic_11 : (r_8.toInt : Int) = 3 := ic_eq rfl kI_3 c_11
      refine lv_aload_n hx hb dX2_hasSameField_27 rfl (lv_at hl 0 rfl) ?_
      refine lv_aload_n hx hb dX2_hasSameField_28 rfl (lv_at hl 1 rfl) ?_
      refine lv_iload_n hx hb dX2_hasSameField_29 rfl (lv_at hl 2 rfl) ?_
      refine m_goi hH (va_runV (As := [.ref q2, .int j]) (rest := []) ⟨hx, hb, hml, hown, hts⟩ (c_X2_hasSameItems l G f q b hb_ (by omega) q2 b2 hb2_ (by omega) j (by omega)) (cwV 2 hts gX2_hasSameField_X2_hasSameItems rfl rfl rfl (by decide +kernel) ⟨Nat.le_of_ble_eq_true rfl, Nat.le_of_ble_eq_true rfl⟩) (m_preV (ci := 2) hC hH F_1 rfl) rfl rfl hl.1 rfl (lv_room (Nat.le_of_ble_eq_true rfl)) dX2_hasSameField_30 ⟨Nat.le_of_ble_eq_true rfl, Nat.le_of_ble_eq_true rfl⟩) (fun r_12 rho_14 f_13 H locs hw hH => ?_)
      obtain ⟨hu, hr_12⟩ := hw
      have hu : f_13 = f := hu
      rw [hu] at hH
      try dsimp only at hr_12
      refine lv_if_eq (tgt := 40) hx hb dX2_hasSameField_33 (by decide) (fun c_15 => ?_) (fun c_15 => ?_)
      · skip
        have ic_15 : (r_12.toInt : Int) = 0 := ic_eq rfl kI_0 c_15
        refine lv_iconst (v := 0) hx hb dX2_hasSameField_40 (by decide) ?_
        exact m_zret (v := 0) hx hb hr (by rfl) hlk hC hH (fun _ => (0, 0)) ⟨rfl, Or.inr ⟨kI_0, fun z_ => (hr_12.resolve_left (fun y_ => by omega)).2 (z_.2 (by omega))⟩⟩ (Nat.le_of_ble_eq_true rfl) (Nat.le_of_ble_eq_true rfl) dX2_hasSameField_41
      · skip
        have ic_15 : (r_12.toInt : Int) ≠ 0 := ic_ne rfl kI_0 c_15
        refine lv_iconst (v := 1) hx hb dX2_hasSameField_36 (by decide) ?_
        refine lv_goto (tgt := 41) hx hb dX2_hasSameField_37 (by decide) ?_
        exact m_zret (v := 1) hx hb hr (by rfl) hlk hC hH (fun _ => (0, 0)) ⟨rfl, Or.inl ⟨kI_1, ce_, fun z_ => (hr_12.resolve_right (fun y_ => by omega)).2⟩⟩ (Nat.le_of_ble_eq_true rfl) (Nat.le_of_ble_eq_true rfl) dX2_hasSameField_41
  · skip
    have ic_7 : (y_3.toInt : Int) ≠ y_6.toInt := lc_ne rfl rfl (fun q_ => c_7 ((lg_cmp_eq _ _).mpr q_))
    have ce_ : ¬ (cB b).1 j.toNatClampNeg = (cB b2).1 j.toNatClampNeg := fun z_ => by rw [← ey_3, ← ey_6] at z_; rw [z_] at ic_7; exact ic_7 rfl
    refine lv_iconst (v := 0) hx hb dX2_hasSameField_16 (by decide) ?_
    exact m_zret (v := 0) hx hb hr (by rfl) hlk hC hH (fun _ => (0, 0)) ⟨rfl, Or.inr ⟨kI_0, fun z_ => ce_ z_.1⟩⟩ (Nat.le_of_ble_eq_true rfl) (Nat.le_of_ble_eq_true rfl) dX2_hasSameField_17
set_option maxHeartbeats 4000000 in
set_option maxRecDepth 100000 in
theorem c_X2_renewRow (l : Launch) (G : mG) (f : mF) (q : Nat) (b : tBo) (hb_ : BF G f q b) (ht : yB b < 3) (hs1 : q ≠ caB b) (hs2 : q ≠ iaB b) (hs3 : caB b ≠ iaB b) (j v : Int32) (hjj : 0 ≤ j.toInt ∧ j.toInt < 8) : Met l yX2_renewRow wsX2_renewRow ({ frames := 1, cells := 0, slots := 0, locals := 21 }) (va_Pc [.ref q, .int j, .int v] (mW G f)) (va_Qv (fun (u : mS) => u.2 = va_up (va_up f (caB b) (some (.inl (gk G 1, 8, .inr (.inl ((renB (cB b) j.toNatClampNeg v.toInt64).1)))))) (iaB b) (some (.inl (gk G 0, 16, .inl ((renB (cB b) j.toNatClampNeg v.toInt64).2))))) (fun (u : mS) t => mW G u.2 t) (mA G)) 0 0 (mA G) := by
  refine mMet [.ref q, .int j, .int v] (cc := cX2_renewRow) (maxL := 4) (ret := none) (by decide) rfl (Nat.le_of_ble_eq_true rfl) ?_
  intro p e s m below meth c ls hx hb hr hml hts hown hlk hnm hC hH hl
  have hl : lv_has ls 4 [(0, .ref q), (1, .int j), (2, .int v)] := hl
  refine lv_aload_n hx hb dX2_renewRow_0 rfl (lv_at hl 0 rfl) ?_
  have F_1 : f q = some (.inr (2, [.int (nI (yB b)), .ref (caB b), .ref (iaB b), .int (siB b), va_rf (bfB b)])) := hb_.1
  have tI_1 : (nI (yB b)).toInt = ((yB b : Nat) : Int) := nI_toInt (by omega)
  refine m_get (ci := 2) (v := .ref (caB b)) (C := RX2) (T := TX2) (N := 5) hx hb hC hH hts in_X2_renewRow_X2 hown F_1 rfl 1 (by decide) (hts (.fieldLink RX2 9 "LazyState$Body" "cells" "[J") (by decide +kernel)) rfl dX2_renewRow_1 ?_
  refine lv_iload_n hx hb dX2_renewRow_4 rfl (lv_at hl 1 rfl) ?_
  refine lv_iload_n hx hb dX2_renewRow_5 rfl (lv_at hl 2 rfl) ?_
  refine lv_i2l hx hb dX2_renewRow_6 rfl ?_
  refine lv_topl (fun y_2 ey_2 => ?_)
  have iy_2 : y_2.toInt = v.toInt := lc_i2l ey_2 rfl
  have gy_2 := ic_rng v
  have hg_3 : f (caB b) = some (.inl (gk G 1, 8, .inr (.inl ((cB b).1)))) := hb_.2.1
  refine m_last hx hb hC hH hg_3 (vp_in_iff.mpr ⟨by omega, by omega⟩) dX2_renewRow_7 (fun H locs hH => ?_)
  obtain ⟨f_4, ef_4⟩ : ∃ zz_ : mF, zz_ = va_up f (caB b) (some (.inl (gk G 1, 8, .inr (.inl (vp_updL (cB b).1 j.toNatClampNeg y_2))))) := ⟨_, rfl⟩
  rw [← ef_4] at hH
  have Fc_ : f_4 = va_up f (caB b) (some (.inl (gk G 1, 8, .inr (.inl ((renB (cB b) j.toNatClampNeg v.toInt64).1))))) := by rw [ef_4, ey_2]; rfl
  have Fq_ := upk hb_.1 ef_4 hs1
  have Fi_ := upk hb_.2.2 ef_4 (Ne.symm hs3)
  refine lv_iconst (v := 0) hx hb dX2_renewRow_8 (by decide) ?_
  refine lv_istore_n (lv' := [(3, .int 0), (0, .ref q), (1, .int j), (2, .int v)]) hx hb dX2_renewRow_9 rfl hl (by decide) rfl (fun ls hl => ?_)
  have loop_10 : ∀ (fuel_ : Nat) (k3 : Int32) (fL : mF) (itL : Nat → Int32) (h0_ : 0 ≤ k3.toInt) (h1_ : k3.toInt ≤ 8) (FqL : fL q = some (.inr (2, [.int (nI (yB b)), .ref (caB b), .ref (iaB b), .int (siB b), va_rf (bfB b)]))) (FiL : fL (iaB b) = some (.inl (gk G 0, 16, .inl (itL)))) (eL : fL = va_up f_4 (iaB b) (some (.inl (gk G 0, 16, .inl (itL))))) (hz : ∀ x, itL x = if plc j.toNatClampNeg 0 ≤ x ∧ x < plc j.toNatClampNeg 0 + k3.toNatClampNeg then 0 else (cB b).2 x) (_ : ((8 : Int) - k3.toInt).toNat < fuel_) (H : Heap) (locs : List Loc) (ls : Array Slot) (_ : mH G s fL H locs) (_ : lv_has ls 4 [(0, .ref q), (1, .int j), (2, .int v), (3, .int k3)]), W p l e ({ frames := 1, cells := 0, slots := 0, locals := 21 } : Room) s m ([.ref q, .int j, .int v] : List Value).toArray below meth c H locs 0 0 (MQ below (va_Qv (fun (u : mS) => u.2 = va_up (va_up f (caB b) (some (.inl (gk G 1, 8, .inr (.inl ((renB (cB b) j.toNatClampNeg v.toInt64).1)))))) (iaB b) (some (.inl (gk G 0, 16, .inl ((renB (cB b) j.toNatClampNeg v.toInt64).2))))) (fun (u : mS) t => mW G u.2 t) (mA G)) ([.ref q, .int j, .int v] : List Value).toArray s 0 0 (mA G)) (F0 m 10 ls []) := by
    intro N_10
    induction N_10 with
    | zero => intro k3 fL itL h0_ h1_ FqL FiL eL hz hN; omega
    | succ N_10 ih_10 =>
      intro k3 fL itL h0_ h1_ FqL FiL eL hz hN_10 H locs ls hH hl
      refine lv_iload_n hx hb dX2_renewRow_10 rfl (lv_at hl 3 rfl) ?_
      refine lv_bipush (v := 8) hx hb dX2_renewRow_11 (by decide) ?_
      refine lv_icmp_ge (tgt := 33) hx hb dX2_renewRow_13 (by decide) (fun c_5 => ?_) (fun c_5 => ?_)
      · skip
        have ic_5 : (8 : Int) ≤ k3.toInt := ic_le kI_8 rfl c_5
        exact m_vret hx hb hr hlk hC hH (fun _ => (0, 0)) (by rw [eL, Fc_]; rw [show k3.toNatClampNeg = 8 from by have := ic_clN (rfl : k3.toInt = _) (by omega); omega] at hz; rw [show itL = (renB (cB b) j.toNatClampNeg v.toInt64).2 from funext hz]) (Nat.le_of_ble_eq_true rfl) (Nat.le_of_ble_eq_true rfl) dX2_renewRow_33
      · skip
        have ic_5 : (8 : Int) > k3.toInt := ic_nle kI_8 rfl c_5
        refine lv_aload_n hx hb dX2_renewRow_16 rfl (lv_at hl 0 rfl) ?_
        refine m_get (ci := 2) (v := .ref (iaB b)) (C := RX2) (T := TX2) (N := 5) hx hb hC hH hts in_X2_renewRow_X2 hown FqL rfl 2 (by decide) (hts (.fieldLink RX2 15 "LazyState$Body" "items" "[I") (by decide +kernel)) rfl dX2_renewRow_17 ?_
        refine lv_iload_n hx hb dX2_renewRow_20 rfl (lv_at hl 1 rfl) ?_
        refine lv_iload_n hx hb dX2_renewRow_21 rfl (lv_at hl 3 rfl) ?_
        refine m_goi hH (va_runS (As := [.int j, .int k3]) (rest := [.ref (iaB b)]) ⟨hx, hb, hml, hown, hts⟩ (c_X2_itemPlace l G fL j k3 (by omega)) (va_cwS 2 hts gX2_renewRow_X2_itemPlace rfl rfl rfl (by decide +kernel) ⟨Nat.le_of_ble_eq_true rfl, Nat.le_of_ble_eq_true rfl⟩) (m_preS hC hH) rfl rfl hl.1 rfl (lv_room (Nat.le_of_ble_eq_true rfl)) dX2_renewRow_22 ⟨Nat.le_of_ble_eq_true rfl, Nat.le_of_ble_eq_true rfl⟩) (fun r_6 rho_8 f_7 H locs hw hH => ?_)
        obtain ⟨hu, hr_6⟩ := hw
        have hu : f_7 = fL := hu
        rw [hu] at hH
        try dsimp only at hr_6
        refine lv_iconst (v := 0) hx hb dX2_renewRow_25 (by decide) ?_
        refine m_iast hx hb hC hH FiL (vp_in_iff.mpr ⟨by omega, by omega⟩) dX2_renewRow_26 (fun H locs hH => ?_)
        obtain ⟨f_9, ef_9⟩ : ∃ zz_ : mF, zz_ = va_up fL (iaB b) (some (.inl (gk G 0, 16, .inl (upd itL r_6.toNatClampNeg 0)))) := ⟨_, rfl⟩
        rw [← ef_9] at hH
        have Fj_10 : f_9 (iaB b) = some (.inl (gk G 0, 16, .inl (upd itL r_6.toNatClampNeg 0))) := by rw [ef_9]; exact va_up_self _ _ _
        have Fp_10 := upk FqL ef_9 hs2
        have eL2_ : f_9 = va_up f_4 (iaB b) (some (.inl (gk G 0, 16, .inl (upd itL r_6.toNatClampNeg 0)))) := by rw [ef_9, eL]; exact bx_uu _ _ _ _
        have hz2_ : ∀ x, (upd itL r_6.toNatClampNeg 0) x = if plc j.toNatClampNeg 0 ≤ x ∧ x < plc j.toNatClampNeg 0 + (k3.toNatClampNeg + 1) then 0 else (cB b).2 x := by rw [(show r_6.toNatClampNeg = plc j.toNatClampNeg k3.toNatClampNeg from by have := ic_clN (rfl : r_6.toInt = _) (by omega); have := ic_clN (rfl : j.toInt = _) (by omega); have := ic_clN (rfl : k3.toInt = _) (by omega); unfold plc; rcases hr_6 with y_ | y_; (rw [if_pos (by omega)]; omega); (rw [if_neg (by omega)]; omega)), plc0]; exact zr_step hz
        obtain ⟨x_11, ex_11⟩ : ∃ y : Int32, y = k3 + 1 := ⟨_, rfl⟩
        have ix_11 : x_11.toInt = k3.toInt + 1 := ic_add ex_11 rfl kI_1 (by omega) (by omega)
        refine lv_iinc (v := x_11) (lv' := [(3, .int x_11), (0, .ref q), (1, .int j), (2, .int v)]) hx hb dX2_renewRow_27 hl (k := 3) rfl (by rw [ex_11]; rfl) (by decide) rfl (fun ls hl => ?_)
        refine lv_goto (tgt := 10) hx hb dX2_renewRow_30 (by decide) ?_
        exact ih_10 x_11 f_9 (upd itL r_6.toNatClampNeg 0) (by omega) (by omega) Fp_10 Fj_10 eL2_ (by rw [show x_11.toNatClampNeg = k3.toNatClampNeg + 1 from by have := ic_clN (rfl : x_11.toInt = _) (by omega); have := ic_clN (rfl : k3.toInt = _) (by omega); omega]; exact hz2_) (by omega) _ _ _ hH (lv_sub hl [1, 2, 3, 0] rfl)
  exact loop_10 (((8 : Int) - 0).toNat + 1) 0 f_4 ((cB b).2) (by have := kI_0; omega) (by have := kI_0; omega) Fq_ Fi_ (up_self Fi_) (fun x => by rw [show (0 : Int32).toNatClampNeg = 0 from rfl, if_neg (by omega)]) (by have := kI_0; omega) _ _ _ hH (lv_sub hl [1, 2, 3, 0] rfl)
set_option maxHeartbeats 4000000 in
set_option maxRecDepth 100000 in
theorem c_X2_copyFrom (l : Launch) (G : mG) (f : mF) (q : Nat) (b : tBo) (hb_ : BF G f q b) (ht : yB b < 3) (q2 : Nat) (b2 : tBo) (hb2_ : BF G f q2 b2) (ht2 : yB b2 < 3) (hs1 : q ≠ caB b) (hs2 : q ≠ iaB b) (hs3 : caB b ≠ iaB b) (hs4 : q2 ≠ caB b) (hs5 : iaB b2 ≠ caB b) : Met l yX2_copyFrom wsX2_copyFrom ({ frames := 1, cells := 0, slots := 0, locals := 60 }) (va_Pc [.ref q, .ref q2] (mW G f)) (va_Qv (fun (u : mS) => u.2 = va_up (va_up f (caB b) (some (.inl (gk G 1, 8, .inr (.inl ((va_cpy (cB b2).1 (cB b).1 0 0 8, va_cpy (cB b2).2 (cB b).2 0 0 16).1)))))) (iaB b) (some (.inl (gk G 0, 16, .inl ((va_cpy (cB b2).1 (cB b).1 0 0 8, va_cpy (cB b2).2 (cB b).2 0 0 16).2))))) (fun (u : mS) t => mW G u.2 t) (mA G)) 0 0 (mA G) := by
  refine mMet [.ref q, .ref q2] (cc := cX2_copyFrom) (maxL := 2) (ret := none) (by decide) rfl (Nat.le_of_ble_eq_true rfl) ?_
  intro p e s m below meth c ls hx hb hr hml hts hown hlk hnm hC hH hl
  have hl : lv_has ls 2 [(0, .ref q), (1, .ref q2)] := hl
  refine lv_aload_n hx hb dX2_copyFrom_0 rfl (lv_at hl 1 rfl) ?_
  have F_1 : f q2 = some (.inr (2, [.int (nI (yB b2)), .ref (caB b2), .ref (iaB b2), .int (siB b2), va_rf (bfB b2)])) := hb2_.1
  have tI_1 : (nI (yB b2)).toInt = ((yB b2 : Nat) : Int) := nI_toInt (by omega)
  refine m_get (ci := 2) (v := .ref (caB b2)) (C := RX2) (T := TX2) (N := 5) hx hb hC hH hts in_X2_copyFrom_X2 hown F_1 rfl 1 (by decide) (hts (.fieldLink RX2 9 "LazyState$Body" "cells" "[J") (by decide +kernel)) rfl dX2_copyFrom_1 ?_
  refine lv_iconst (v := 0) hx hb dX2_copyFrom_4 (by decide) ?_
  refine lv_aload_n hx hb dX2_copyFrom_5 rfl (lv_at hl 0 rfl) ?_
  have F_2 : f q = some (.inr (2, [.int (nI (yB b)), .ref (caB b), .ref (iaB b), .int (siB b), va_rf (bfB b)])) := hb_.1
  have tI_2 : (nI (yB b)).toInt = ((yB b : Nat) : Int) := nI_toInt (by omega)
  refine m_get (ci := 2) (v := .ref (caB b)) (C := RX2) (T := TX2) (N := 5) hx hb hC hH hts in_X2_copyFrom_X2 hown F_2 rfl 1 (by decide) (hts (.fieldLink RX2 9 "LazyState$Body" "cells" "[J") (by decide +kernel)) rfl dX2_copyFrom_6 ?_
  refine lv_iconst (v := 0) hx hb dX2_copyFrom_9 (by decide) ?_
  refine lv_bipush (v := 8) hx hb dX2_copyFrom_10 (by decide) ?_
  have hg_3 : f (caB b2) = some (.inl (gk G 1, 8, .inr (.inl ((cB b2).1)))) := hb2_.2.1
  have hg_4 : f (caB b) = some (.inl (gk G 1, 8, .inr (.inl ((cB b).1)))) := hb_.2.1
  refine m_copyl (rest := []) (sp := 0) (dp := 0) (n := 8) hx hb (hml.trans hl.1.symm) hC hH hown (hts (.methodLink RX2 40 arraycopyName) (by decide +kernel)) (hts (.native arraycopyName) (by decide +kernel)) (hts (.static arraycopyName) (by decide +kernel)) (hts (.initialized "java/lang/System") (by decide +kernel)) hg_3 hg_4 (by decide) (by decide) (by decide) (by decide) (by decide) (Nat.le_of_ble_eq_true rfl) (by decide) dX2_copyFrom_12 (fun H locs hH => ?_)
  obtain ⟨f_5, ef_5⟩ : ∃ zz_ : mF, zz_ = va_up f (caB b) (some (.inl (gk G 1, 8, .inr (.inl (va_cpy ((cB b2).1) ((cB b).1) (0 : Int32).toNatClampNeg (0 : Int32).toNatClampNeg (8 : Int32).toNatClampNeg))))) := ⟨_, rfl⟩
  rw [← ef_5] at hH
  have ec_ : f_5 = va_up f (caB b) (some (.inl (gk G 1, 8, .inr (.inl ((va_cpy (cB b2).1 (cB b).1 0 0 8, va_cpy (cB b2).2 (cB b).2 0 0 16).1))))) := ef_5
  have Q1_ := upk hb_.1 ef_5 hs1
  have Q2_ := upk hb2_.1 ef_5 hs4
  have I1_ := upk hb_.2.2 ef_5 (Ne.symm hs3)
  have I2_ := upk hb2_.2.2 ef_5 hs5
  refine lv_aload_n hx hb dX2_copyFrom_15 rfl (lv_at hl 1 rfl) ?_
  refine m_get (ci := 2) (v := .ref (iaB b2)) (C := RX2) (T := TX2) (N := 5) hx hb hC hH hts in_X2_copyFrom_X2 hown Q2_ rfl 2 (by decide) (hts (.fieldLink RX2 15 "LazyState$Body" "items" "[I") (by decide +kernel)) rfl dX2_copyFrom_16 ?_
  refine lv_iconst (v := 0) hx hb dX2_copyFrom_19 (by decide) ?_
  refine lv_aload_n hx hb dX2_copyFrom_20 rfl (lv_at hl 0 rfl) ?_
  refine m_get (ci := 2) (v := .ref (iaB b)) (C := RX2) (T := TX2) (N := 5) hx hb hC hH hts in_X2_copyFrom_X2 hown Q1_ rfl 2 (by decide) (hts (.fieldLink RX2 15 "LazyState$Body" "items" "[I") (by decide +kernel)) rfl dX2_copyFrom_21 ?_
  refine lv_iconst (v := 0) hx hb dX2_copyFrom_24 (by decide) ?_
  refine lv_bipush (v := 16) hx hb dX2_copyFrom_25 (by decide) ?_
  refine m_copyi (rest := []) (sp := 0) (dp := 0) (n := 16) hx hb (hml.trans hl.1.symm) hC hH hown (hts (.methodLink RX2 40 arraycopyName) (by decide +kernel)) (hts (.native arraycopyName) (by decide +kernel)) (hts (.static arraycopyName) (by decide +kernel)) (hts (.initialized "java/lang/System") (by decide +kernel)) I2_ I1_ (by decide) (by decide) (by decide) (by decide) (by decide) (Nat.le_of_ble_eq_true rfl) (by decide) dX2_copyFrom_27 (fun H locs hH => ?_)
  obtain ⟨f_6, ef_6⟩ : ∃ zz_ : mF, zz_ = va_up f_5 (iaB b) (some (.inl (gk G 0, 16, .inl (va_cpy ((cB b2).2) ((cB b).2) (0 : Int32).toNatClampNeg (0 : Int32).toNatClampNeg (16 : Int32).toNatClampNeg)))) := ⟨_, rfl⟩
  rw [← ef_6] at hH
  have ei_ : f_6 = va_up (va_up f (caB b) (some (.inl (gk G 1, 8, .inr (.inl ((va_cpy (cB b2).1 (cB b).1 0 0 8, va_cpy (cB b2).2 (cB b).2 0 0 16).1)))))) (iaB b) (some (.inl (gk G 0, 16, .inl ((va_cpy (cB b2).1 (cB b).1 0 0 8, va_cpy (cB b2).2 (cB b).2 0 0 16).2)))) := by rw [ef_6, ec_]; rfl
  exact m_vret hx hb hr hlk hC hH (fun _ => (0, 0)) ei_ (Nat.le_of_ble_eq_true rfl) (Nat.le_of_ble_eq_true rfl) dX2_copyFrom_30
