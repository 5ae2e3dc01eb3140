set_option maxHeartbeats 4000000 in
set_option maxRecDepth 100000 in
theorem c_J6_bitCount_0f7a4 (l : Launch) (G : mG) (f : mF) (x0 : Int32) : Met l yJ6_bitCount_0f7a4 wsJ6_bitCount_0f7a4 ({ frames := 0, cells := 0, slots := 0, locals := 0 }) (va_Pc [.int x0] (mW G f)) (va_Qi (fun (r : Int32) (u : mS) => u.2 = f ∧ r.toBitVec = pcV x0.toBitVec) (fun (u : mS) t => mW G u.2 t) (mA G)) 0 0 (mA G) := by
  refine mMet [.int x0] (cc := cJ6_bitCount_0f7a4) (maxL := 1) (ret := (some .int)) (by decide) rfl (Nat.le_of_ble_eq_true rfl) ?_
  intro p e s m below meth c ls hx hb hr hml hts hown hlk hnm hC hH hl
  have hl : lv_has ls 1 [(0, .int x0)] := hl
  refine lv_iload_n hx hb dJ6_bitCount_0f7a4_0 rfl (lv_at hl 0 rfl) ?_
  refine lv_iload_n hx hb dJ6_bitCount_0f7a4_1 rfl (lv_at hl 0 rfl) ?_
  refine lv_iconst (v := 1) hx hb dJ6_bitCount_0f7a4_2 (by decide) ?_
  refine lv_iushr hx hb dJ6_bitCount_0f7a4_3 rfl ?_
  refine lv_topi (fun x_1 ex_1 => ?_)
  refine lv_ldcw (v := 1431655765) hx hb hown (hts (.constant RJ6 265 (1431655765)) (by decide +kernel)) dJ6_bitCount_0f7a4_4 ?_
  refine lv_iand hx hb dJ6_bitCount_0f7a4_7 ?_
  refine lv_topi (fun x_2 ex_2 => ?_)
  refine lv_isub hx hb dJ6_bitCount_0f7a4_8 ?_
  refine lv_topi (fun x_3 ex_3 => ?_)
  refine lv_istore_n (lv' := [(0, .int x_3)]) hx hb dJ6_bitCount_0f7a4_9 rfl hl (by decide) rfl (fun ls hl => ?_)
  refine lv_iload_n hx hb dJ6_bitCount_0f7a4_10 rfl (lv_at hl 0 rfl) ?_
  refine lv_ldcw (v := 858993459) hx hb hown (hts (.constant RJ6 266 (858993459)) (by decide +kernel)) dJ6_bitCount_0f7a4_11 ?_
  refine lv_iand hx hb dJ6_bitCount_0f7a4_14 ?_
  refine lv_topi (fun x_4 ex_4 => ?_)
  refine lv_iload_n hx hb dJ6_bitCount_0f7a4_15 rfl (lv_at hl 0 rfl) ?_
  refine lv_iconst (v := 2) hx hb dJ6_bitCount_0f7a4_16 (by decide) ?_
  refine lv_iushr hx hb dJ6_bitCount_0f7a4_17 rfl ?_
  refine lv_topi (fun x_5 ex_5 => ?_)
  refine lv_ldcw (v := 858993459) hx hb hown (hts (.constant RJ6 266 (858993459)) (by decide +kernel)) dJ6_bitCount_0f7a4_18 ?_
  refine lv_iand hx hb dJ6_bitCount_0f7a4_21 ?_
  refine lv_topi (fun x_6 ex_6 => ?_)
  refine lv_iadd hx hb dJ6_bitCount_0f7a4_22 ?_
  refine lv_topi (fun x_7 ex_7 => ?_)
  refine lv_istore_n (lv' := [(0, .int x_7)]) hx hb dJ6_bitCount_0f7a4_23 rfl hl (by decide) rfl (fun ls hl => ?_)
  refine lv_iload_n hx hb dJ6_bitCount_0f7a4_24 rfl (lv_at hl 0 rfl) ?_
  refine lv_iload_n hx hb dJ6_bitCount_0f7a4_25 rfl (lv_at hl 0 rfl) ?_
  refine lv_iconst (v := 4) hx hb dJ6_bitCount_0f7a4_26 (by decide) ?_
  refine lv_iushr hx hb dJ6_bitCount_0f7a4_27 rfl ?_
  refine lv_topi (fun x_8 ex_8 => ?_)
  refine lv_iadd hx hb dJ6_bitCount_0f7a4_28 ?_
  refine lv_topi (fun x_9 ex_9 => ?_)
  refine lv_ldcw (v := 252645135) hx hb hown (hts (.constant RJ6 267 (252645135)) (by decide +kernel)) dJ6_bitCount_0f7a4_29 ?_
  refine lv_iand hx hb dJ6_bitCount_0f7a4_32 ?_
  refine lv_topi (fun x_10 ex_10 => ?_)
  refine lv_istore_n (lv' := [(0, .int x_10)]) hx hb dJ6_bitCount_0f7a4_33 rfl hl (by decide) rfl (fun ls hl => ?_)
  refine lv_iload_n hx hb dJ6_bitCount_0f7a4_34 rfl (lv_at hl 0 rfl) ?_
  refine lv_iload_n hx hb dJ6_bitCount_0f7a4_35 rfl (lv_at hl 0 rfl) ?_
  refine lv_bipush (v := 8) hx hb dJ6_bitCount_0f7a4_36 (by decide) ?_
  refine lv_iushr hx hb dJ6_bitCount_0f7a4_38 rfl ?_
  refine lv_topi (fun x_11 ex_11 => ?_)
  refine lv_iadd hx hb dJ6_bitCount_0f7a4_39 ?_
  refine lv_topi (fun x_12 ex_12 => ?_)
  refine lv_istore_n (lv' := [(0, .int x_12)]) hx hb dJ6_bitCount_0f7a4_40 rfl hl (by decide) rfl (fun ls hl => ?_)
  refine lv_iload_n hx hb dJ6_bitCount_0f7a4_41 rfl (lv_at hl 0 rfl) ?_
  refine lv_iload_n hx hb dJ6_bitCount_0f7a4_42 rfl (lv_at hl 0 rfl) ?_
  refine lv_bipush (v := 16) hx hb dJ6_bitCount_0f7a4_43 (by decide) ?_
  refine lv_iushr hx hb dJ6_bitCount_0f7a4_45 rfl ?_
  refine lv_topi (fun x_13 ex_13 => ?_)
  refine lv_iadd hx hb dJ6_bitCount_0f7a4_46 ?_
  refine lv_topi (fun x_14 ex_14 => ?_)
  refine lv_istore_n (lv' := [(0, .int x_14)]) hx hb dJ6_bitCount_0f7a4_47 rfl hl (by decide) rfl (fun ls hl => ?_)
  refine lv_iload_n hx hb dJ6_bitCount_0f7a4_48 rfl (lv_at hl 0 rfl) ?_
  refine lv_bipush (v := 63) hx hb dJ6_bitCount_0f7a4_49 (by decide) ?_
  refine lv_iand hx hb dJ6_bitCount_0f7a4_51 ?_
  refine lv_topi (fun x_15 ex_15 => ?_)
  exact m_iret (v := x_15) hx hb hr hlk hC hH (fun _ => (0, 0)) ⟨rfl, by rw [ex_15, ex_14, ex_13, ex_12, ex_11, ex_10, ex_9, ex_8, ex_7, ex_6, ex_5, ex_4, ex_3, ex_2, ex_1]; rfl⟩ (Nat.le_of_ble_eq_true rfl) (Nat.le_of_ble_eq_true rfl) dJ6_bitCount_0f7a4_52
set_option maxHeartbeats 4000000 in
set_option maxRecDepth 100000 in
theorem c_X0_fits (l : Launch) (G : mG) (f : mF) (q : Nat) (kd a : Int32) (b : Int64) (c_ d_ e_ : Int32) (Fq : f q = some (.inr (0, [.int kd, .int a, .long b, .int c_, .int d_, .int e_]))) (K : Nat) (hK : K < 18) (hk : kd.toInt = K) (w_ : Int32) (v : Int64) (J : Nat) (hJ : J < 5) (hw_ : w_.toInt = J) : Met l yX0_fits wsX0_fits ({ frames := 0, cells := 0, slots := 0, locals := 0 }) (va_Pc [.ref q, .int w_, .long v] (mW G f)) (va_Qi (fun (r : Int32) (u : mS) => u.2 = f ∧ ((r.toInt = 1 ∧ fitA K J v.toInt) ∨ (r.toInt = 0 ∧ ¬ fitA K J v.toInt))) (fun (u : mS) t => mW G u.2 t) (mA G)) 0 0 (mA G) := by
  refine mMet [.ref q, .int w_, .long v] (cc := cX0_fits) (maxL := 5) (ret := (some .boolean)) (by decide) rfl (Nat.le_of_ble_eq_true rfl) ?_
  intro p e s m below meth c ls hx hb hr hml hts hown hlk hnm hC hH hl
  have hl : lv_has ls 5 [(0, .ref q), (1, .int w_), (2, .long v)] := hl
  refine m_gets hx hb hC.2.2.2.2.1 hH hown (hts (.fieldLink RX0 33 "LazyState$Act" "MOST" "[I") (by decide +kernel)) dX0_fits_0 ?_
  refine lv_aload_n hx hb dX0_fits_3 rfl (lv_at hl 0 rfl) ?_
  refine m_get (ci := 0) (v := .int kd) (C := RX0) (T := TX0) (N := 6) hx hb hC hH hts in_X0_fits_X0 hown Fq rfl 0 (by decide) (hts (.fieldLink RX0 7 "LazyState$Act" "kind" "I") (by decide +kernel)) rfl dX0_fits_4 ?_
  refine lv_iconst (v := 5) hx hb dX0_fits_7 (by decide) ?_
  refine lv_imul hx hb dX0_fits_8 ?_
  refine lv_topi (fun x_1 ex_1 => ?_)
  have ix_1 : x_1.toInt = kd.toInt * 5 := ic_mul ex_1 rfl kI_5 (by omega) (by omega)
  refine lv_iload_n hx hb dX0_fits_9 rfl (lv_at hl 1 rfl) ?_
  refine lv_iadd hx hb dX0_fits_10 ?_
  refine lv_topi (fun x_2 ex_2 => ?_)
  have ix_2 : x_2.toInt = x_1.toInt + w_.toInt := ic_add ex_2 rfl rfl (by omega) (by omega)
  refine m_ti hx hb hC.2.2.2.2.2 hH (vp_in_iff.mpr ⟨by omega, by omega⟩) dX0_fits_11 ?_
  refine lv_topi (fun x_3 ex_3 => ?_)
  have mq_ : x_3 = mostF (5 * K + J) := by rw [ex_3, show x_2.toNatClampNeg = 5 * K + J from by have := ic_clN (rfl : x_2.toInt = _) (by omega); omega]
  refine lv_istore (lv' := [(4, .int x_3), (0, .ref q), (1, .int w_), (2, .long v)]) hx hb dX0_fits_12 hl (by decide) rfl (fun ls hl => ?_)
  refine lv_iload hx hb dX0_fits_14 (lv_at hl 0 rfl) ?_
  refine lv_iconst (v := (-1)) hx hb dX0_fits_16 (by decide) ?_
  refine lv_icmp_eq (tgt := 34) hx hb dX0_fits_17 (by decide) (fun c_4 => ?_) (fun c_4 => ?_)
  · skip
    have ic_4 : (x_3.toInt : Int) = (-1) := ic_eq rfl kI_m1 c_4
    have eq_ : x_3 = -1 := c_4
    refine lv_iconst (v := 1) hx hb dX0_fits_34 (by decide) ?_
    refine lv_goto (tgt := 39) hx hb dX0_fits_35 (by decide) ?_
    exact m_zret (v := 1) hx hb hr (by rfl) hlk hC hH (fun _ => (0, 0)) ⟨rfl, Or.inl ⟨kI_1, by rw [fitA, ← mq_]; first | exact Or.inl eq_ | exact Or.inr ⟨by omega, by omega⟩⟩⟩ (Nat.le_of_ble_eq_true rfl) (Nat.le_of_ble_eq_true rfl) dX0_fits_39
  · skip
    have ic_4 : (x_3.toInt : Int) ≠ (-1) := ic_ne rfl kI_m1 c_4
    have ne_ : ¬ x_3 = -1 := c_4
    refine lv_lload_n hx hb dX0_fits_20 rfl (lv_at hl 3 rfl) ?_
    refine lv_lconst (v := 0) hx hb dX0_fits_21 (by decide) ?_
    refine W.lcmp hx hb dX0_fits_22 ?_
    refine lv_if_lt (tgt := 38) hx hb dX0_fits_23 (by decide) (fun c_5 => ?_) (fun c_5 => ?_)
    · skip
      have ic_5 : (v.toInt : Int) < 0 := lc_lt rfl kJ_0 ((lg_cmp_lt _ _).mp c_5)
      refine lv_iconst (v := 0) hx hb dX0_fits_38 (by decide) ?_
      exact m_zret (v := 0) hx hb hr (by rfl) hlk hC hH (fun _ => (0, 0)) ⟨rfl, Or.inr ⟨kI_0, fun q => by rw [fitA, ← mq_] at q; rcases q with q | q; exact absurd (q ▸ ne_) (by simp); omega⟩⟩ (Nat.le_of_ble_eq_true rfl) (Nat.le_of_ble_eq_true rfl) dX0_fits_39
    · skip
      have ic_5 : (v.toInt : Int) ≥ 0 := lc_nlt rfl kJ_0 (fun q_ => c_5 ((lg_cmp_lt _ _).mpr q_))
      refine lv_lload_n hx hb dX0_fits_26 rfl (lv_at hl 3 rfl) ?_
      refine lv_iload hx hb dX0_fits_27 (lv_at hl 0 rfl) ?_
      refine lv_i2l hx hb dX0_fits_29 rfl ?_
      refine lv_topl (fun y_6 ey_6 => ?_)
      have iy_6 : y_6.toInt = x_3.toInt := lc_i2l ey_6 rfl
      have gy_6 := ic_rng x_3
      refine W.lcmp hx hb dX0_fits_30 ?_
      refine lv_if_gt (tgt := 38) hx hb dX0_fits_31 (by decide) (fun c_7 => ?_) (fun c_7 => ?_)
      · skip
        have ic_7 : (y_6.toInt : Int) < v.toInt := lc_lt rfl rfl ((lg_cmp_gt _ _).mp c_7)
        refine lv_iconst (v := 0) hx hb dX0_fits_38 (by decide) ?_
        exact m_zret (v := 0) hx hb hr (by rfl) hlk hC hH (fun _ => (0, 0)) ⟨rfl, Or.inr ⟨kI_0, fun q => by rw [fitA, ← mq_] at q; rcases q with q | q; exact absurd (q ▸ ne_) (by simp); omega⟩⟩ (Nat.le_of_ble_eq_true rfl) (Nat.le_of_ble_eq_true rfl) dX0_fits_39
      · skip
        have ic_7 : (y_6.toInt : Int) ≥ v.toInt := lc_nlt rfl rfl (fun q_ => c_7 ((lg_cmp_gt _ _).mpr q_))
        refine lv_iconst (v := 1) hx hb dX0_fits_34 (by decide) ?_
        refine lv_goto (tgt := 39) hx hb dX0_fits_35 (by decide) ?_
        exact m_zret (v := 1) hx hb hr (by rfl) hlk hC hH (fun _ => (0, 0)) ⟨rfl, Or.inl ⟨kI_1, by rw [fitA, ← mq_]; first | exact Or.inl eq_ | exact Or.inr ⟨by omega, by omega⟩⟩⟩ (Nat.le_of_ble_eq_true rfl) (Nat.le_of_ble_eq_true rfl) dX0_fits_39
set_option maxHeartbeats 4000000 in
set_option maxRecDepth 100000 in
theorem c_X0_isAsTold (l : Launch) (G : mG) (f : mF) (q : Nat) (kd a : Int32) (b : Int64) (c_ d_ e_ : Int32) (Fq : f q = some (.inr (0, [.int kd, .int a, .long b, .int c_, .int d_, .int e_]))) (K : Nat) (hK : K < 18) (hk : kd.toInt = K) : Met l yX0_isAsTold wsX0_isAsTold ({ frames := 1, cells := 0, slots := 0, locals := 24 }) (va_Pc [.ref q] (mW G f)) (va_Qi (fun (r : Int32) (u : mS) => u.2 = f ∧ ((r.toInt = 1 ∧ okA (kd, a, b, c_, d_, e_)) ∨ (r.toInt = 0 ∧ ¬ okA (kd, a, b, c_, d_, e_)))) (fun (u : mS) t => mW G u.2 t) (mA G)) 0 0 (mA G) := by
  refine mMet [.ref q] (cc := cX0_isAsTold) (maxL := 1) (ret := (some .boolean)) (by decide) rfl (Nat.le_of_ble_eq_true rfl) ?_
  intro p e s m below meth c ls hx hb hr hml hts hown hlk hnm hC hH hl
  have hl : lv_has ls 1 [(0, .ref q)] := hl
  refine lv_aload_n hx hb dX0_isAsTold_0 rfl (lv_at hl 0 rfl) ?_
  refine lv_iconst (v := 0) hx hb dX0_isAsTold_1 (by decide) ?_
  refine lv_aload_n hx hb dX0_isAsTold_2 rfl (lv_at hl 0 rfl) ?_
  refine m_get (ci := 0) (v := .int a) (C := RX0) (T := TX0) (N := 6) hx hb hC hH hts in_X0_isAsTold_X0 hown Fq rfl 1 (by decide) (hts (.fieldLink RX0 13 "LazyState$Act" "a" "I") (by decide +kernel)) rfl dX0_isAsTold_3 ?_
  refine lv_i2l hx hb dX0_isAsTold_6 rfl ?_
  refine lv_topl (fun y_1 ey_1 => ?_)
  have iy_1 : y_1.toInt = a.toInt := lc_i2l ey_1 rfl
  have gy_1 := ic_rng a
  refine m_goi hH (va_runV (As := [.int 0, .long y_1]) (rest := []) ⟨hx, hb, hml, hown, hts⟩ (c_X0_fits l G f q kd a b c_ d_ e_ Fq K hK hk 0 y_1 0 (by decide) kI_0) (cwV 2 hts gX0_isAsTold_X0_fits rfl rfl rfl (by decide +kernel) ⟨Nat.le_of_ble_eq_true rfl, Nat.le_of_ble_eq_true rfl⟩) (m_preV (ci := 0) hC hH Fq rfl) rfl rfl hl.1 rfl (lv_room (Nat.le_of_ble_eq_true rfl)) dX0_isAsTold_7 ⟨Nat.le_of_ble_eq_true rfl, Nat.le_of_ble_eq_true rfl⟩) (fun r_2 rho_4 f_3 H locs hw hH => ?_)
  obtain ⟨hu, hr_2⟩ := hw
  have hu : f_3 = f := hu
  rw [hu] at hH
  rw [show y_1.toInt = a.toInt from iy_1] at hr_2
  refine lv_if_eq (tgt := 68) hx hb dX0_isAsTold_10 (by decide) (fun c_5 => ?_) (fun c_5 => ?_)
  · skip
    have ic_5 : (r_2.toInt : Int) = 0 := ic_eq rfl kI_0 c_5
    refine lv_iconst (v := 0) hx hb dX0_isAsTold_68 (by decide) ?_
    exact m_zret (v := 0) hx hb hr (by rfl) hlk hC hH (fun _ => (0, 0)) ⟨rfl, Or.inr ⟨kI_0, okA_no6 K hk (fun f0 f1 f2 f3 f4 => (hr_2.resolve_left (fun q => by omega)).2 f0)⟩⟩ (Nat.le_of_ble_eq_true rfl) (Nat.le_of_ble_eq_true rfl) dX0_isAsTold_69
  · skip
    have ic_5 : (r_2.toInt : Int) ≠ 0 := ic_ne rfl kI_0 c_5
    refine lv_aload_n hx hb dX0_isAsTold_13 rfl (lv_at hl 0 rfl) ?_
    refine lv_iconst (v := 1) hx hb dX0_isAsTold_14 (by decide) ?_
    refine lv_aload_n hx hb dX0_isAsTold_15 rfl (lv_at hl 0 rfl) ?_
    refine m_get (ci := 0) (v := .long b) (C := RX0) (T := TX0) (N := 6) hx hb hC hH hts in_X0_isAsTold_X0 hown Fq rfl 2 (by decide) (hts (.fieldLink RX0 16 "LazyState$Act" "b" "J") (by decide +kernel)) rfl dX0_isAsTold_16 ?_
    refine m_goi hH (va_runV (As := [.int 1, .long b]) (rest := []) ⟨hx, hb, hml, hown, hts⟩ (c_X0_fits l G f q kd a b c_ d_ e_ Fq K hK hk 1 b 1 (by decide) kI_1) (cwV 2 hts gX0_isAsTold_X0_fits rfl rfl rfl (by decide +kernel) ⟨Nat.le_of_ble_eq_true rfl, Nat.le_of_ble_eq_true rfl⟩) (m_preV (ci := 0) hC hH Fq rfl) rfl rfl hl.1 rfl (lv_room (Nat.le_of_ble_eq_true rfl)) dX0_isAsTold_19 ⟨Nat.le_of_ble_eq_true rfl, Nat.le_of_ble_eq_true rfl⟩) (fun r_6 rho_8 f_7 H locs hw hH => ?_)
    obtain ⟨hu, hr_6⟩ := hw
    have hu : f_7 = f := hu
    rw [hu] at hH
    skip
    refine lv_if_eq (tgt := 68) hx hb dX0_isAsTold_22 (by decide) (fun c_9 => ?_) (fun c_9 => ?_)
    · skip
      have ic_9 : (r_6.toInt : Int) = 0 := ic_eq rfl kI_0 c_9
      refine lv_iconst (v := 0) hx hb dX0_isAsTold_68 (by decide) ?_
      exact m_zret (v := 0) hx hb hr (by rfl) hlk hC hH (fun _ => (0, 0)) ⟨rfl, Or.inr ⟨kI_0, okA_no6 K hk (fun f0 f1 f2 f3 f4 => (hr_6.resolve_left (fun q => by omega)).2 f1)⟩⟩ (Nat.le_of_ble_eq_true rfl) (Nat.le_of_ble_eq_true rfl) dX0_isAsTold_69
    · skip
      have ic_9 : (r_6.toInt : Int) ≠ 0 := ic_ne rfl kI_0 c_9
      refine lv_aload_n hx hb dX0_isAsTold_25 rfl (lv_at hl 0 rfl) ?_
      refine lv_iconst (v := 2) hx hb dX0_isAsTold_26 (by decide) ?_
      refine lv_aload_n hx hb dX0_isAsTold_27 rfl (lv_at hl 0 rfl) ?_
      refine m_get (ci := 0) (v := .int c_) (C := RX0) (T := TX0) (N := 6) hx hb hC hH hts in_X0_isAsTold_X0 hown Fq rfl 3 (by decide) (hts (.fieldLink RX0 20 "LazyState$Act" "c" "I") (by decide +kernel)) rfl dX0_isAsTold_28 ?_
      refine lv_i2l hx hb dX0_isAsTold_31 rfl ?_
      refine lv_topl (fun y_10 ey_10 => ?_)
      have iy_10 : y_10.toInt = c_.toInt := lc_i2l ey_10 rfl
      have gy_10 := ic_rng c_
      refine m_goi hH (va_runV (As := [.int 2, .long y_10]) (rest := []) ⟨hx, hb, hml, hown, hts⟩ (c_X0_fits l G f q kd a b c_ d_ e_ Fq K hK hk 2 y_10 2 (by decide) kI_2) (cwV 2 hts gX0_isAsTold_X0_fits rfl rfl rfl (by decide +kernel) ⟨Nat.le_of_ble_eq_true rfl, Nat.le_of_ble_eq_true rfl⟩) (m_preV (ci := 0) hC hH Fq rfl) rfl rfl hl.1 rfl (lv_room (Nat.le_of_ble_eq_true rfl)) dX0_isAsTold_32 ⟨Nat.le_of_ble_eq_true rfl, Nat.le_of_ble_eq_true rfl⟩) (fun r_11 rho_13 f_12 H locs hw hH => ?_)
      obtain ⟨hu, hr_11⟩ := hw
      have hu : f_12 = f := hu
      rw [hu] at hH
      rw [show y_10.toInt = c_.toInt from iy_10] at hr_11
      refine lv_if_eq (tgt := 68) hx hb dX0_isAsTold_35 (by decide) (fun c_14 => ?_) (fun c_14 => ?_)
      · skip
        have ic_14 : (r_11.toInt : Int) = 0 := ic_eq rfl kI_0 c_14
        refine lv_iconst (v := 0) hx hb dX0_isAsTold_68 (by decide) ?_
        exact m_zret (v := 0) hx hb hr (by rfl) hlk hC hH (fun _ => (0, 0)) ⟨rfl, Or.inr ⟨kI_0, okA_no6 K hk (fun f0 f1 f2 f3 f4 => (hr_11.resolve_left (fun q => by omega)).2 f2)⟩⟩ (Nat.le_of_ble_eq_true rfl) (Nat.le_of_ble_eq_true rfl) dX0_isAsTold_69
      · skip
        have ic_14 : (r_11.toInt : Int) ≠ 0 := ic_ne rfl kI_0 c_14
        refine lv_aload_n hx hb dX0_isAsTold_38 rfl (lv_at hl 0 rfl) ?_
        refine lv_iconst (v := 3) hx hb dX0_isAsTold_39 (by decide) ?_
        refine lv_aload_n hx hb dX0_isAsTold_40 rfl (lv_at hl 0 rfl) ?_
        refine m_get (ci := 0) (v := .int d_) (C := RX0) (T := TX0) (N := 6) hx hb hC hH hts in_X0_isAsTold_X0 hown Fq rfl 4 (by decide) (hts (.fieldLink RX0 23 "LazyState$Act" "d" "I") (by decide +kernel)) rfl dX0_isAsTold_41 ?_
        refine lv_i2l hx hb dX0_isAsTold_44 rfl ?_
        refine lv_topl (fun y_15 ey_15 => ?_)
        have iy_15 : y_15.toInt = d_.toInt := lc_i2l ey_15 rfl
        have gy_15 := ic_rng d_
        refine m_goi hH (va_runV (As := [.int 3, .long y_15]) (rest := []) ⟨hx, hb, hml, hown, hts⟩ (c_X0_fits l G f q kd a b c_ d_ e_ Fq K hK hk 3 y_15 3 (by decide) kI_3) (cwV 2 hts gX0_isAsTold_X0_fits rfl rfl rfl (by decide +kernel) ⟨Nat.le_of_ble_eq_true rfl, Nat.le_of_ble_eq_true rfl⟩) (m_preV (ci := 0) hC hH Fq rfl) rfl rfl hl.1 rfl (lv_room (Nat.le_of_ble_eq_true rfl)) dX0_isAsTold_45 ⟨Nat.le_of_ble_eq_true rfl, Nat.le_of_ble_eq_true rfl⟩) (fun r_16 rho_18 f_17 H locs hw hH => ?_)
        obtain ⟨hu, hr_16⟩ := hw
        have hu : f_17 = f := hu
        rw [hu] at hH
        rw [show y_15.toInt = d_.toInt from iy_15] at hr_16
        refine lv_if_eq (tgt := 68) hx hb dX0_isAsTold_48 (by decide) (fun c_19 => ?_) (fun c_19 => ?_)
        · skip
          have ic_19 : (r_16.toInt : Int) = 0 := ic_eq rfl kI_0 c_19
          refine lv_iconst (v := 0) hx hb dX0_isAsTold_68 (by decide) ?_
          exact m_zret (v := 0) hx hb hr (by rfl) hlk hC hH (fun _ => (0, 0)) ⟨rfl, Or.inr ⟨kI_0, okA_no6 K hk (fun f0 f1 f2 f3 f4 => (hr_16.resolve_left (fun q => by omega)).2 f3)⟩⟩ (Nat.le_of_ble_eq_true rfl) (Nat.le_of_ble_eq_true rfl) dX0_isAsTold_69
        · skip
          have ic_19 : (r_16.toInt : Int) ≠ 0 := ic_ne rfl kI_0 c_19
          refine lv_aload_n hx hb dX0_isAsTold_51 rfl (lv_at hl 0 rfl) ?_
          refine lv_iconst (v := 4) hx hb dX0_isAsTold_52 (by decide) ?_
          refine lv_aload_n hx hb dX0_isAsTold_53 rfl (lv_at hl 0 rfl) ?_
          refine m_get (ci := 0) (v := .int e_) (C := RX0) (T := TX0) (N := 6) hx hb hC hH hts in_X0_isAsTold_X0 hown Fq rfl 5 (by decide) (hts (.fieldLink RX0 26 "LazyState$Act" "e" "I") (by decide +kernel)) rfl dX0_isAsTold_54 ?_
          refine lv_i2l hx hb dX0_isAsTold_57 rfl ?_
          refine lv_topl (fun y_20 ey_20 => ?_)
          have iy_20 : y_20.toInt = e_.toInt := lc_i2l ey_20 rfl
          have gy_20 := ic_rng e_
          refine m_goi hH (va_runV (As := [.int 4, .long y_20]) (rest := []) ⟨hx, hb, hml, hown, hts⟩ (c_X0_fits l G f q kd a b c_ d_ e_ Fq K hK hk 4 y_20 4 (by decide) kI_4) (cwV 2 hts gX0_isAsTold_X0_fits rfl rfl rfl (by decide +kernel) ⟨Nat.le_of_ble_eq_true rfl, Nat.le_of_ble_eq_true rfl⟩) (m_preV (ci := 0) hC hH Fq rfl) rfl rfl hl.1 rfl (lv_room (Nat.le_of_ble_eq_true rfl)) dX0_isAsTold_58 ⟨Nat.le_of_ble_eq_true rfl, Nat.le_of_ble_eq_true rfl⟩) (fun r_21 rho_23 f_22 H locs hw hH => ?_)
          obtain ⟨hu, hr_21⟩ := hw
          have hu : f_22 = f := hu
          rw [hu] at hH
          rw [show y_20.toInt = e_.toInt from iy_20] at hr_21
          refine lv_if_eq (tgt := 68) hx hb dX0_isAsTold_61 (by decide) (fun c_24 => ?_) (fun c_24 => ?_)
          · skip
            have ic_24 : (r_21.toInt : Int) = 0 := ic_eq rfl kI_0 c_24
            refine lv_iconst (v := 0) hx hb dX0_isAsTold_68 (by decide) ?_
            exact m_zret (v := 0) hx hb hr (by rfl) hlk hC hH (fun _ => (0, 0)) ⟨rfl, Or.inr ⟨kI_0, okA_no6 K hk (fun f0 f1 f2 f3 f4 => (hr_21.resolve_left (fun q => by omega)).2 f4)⟩⟩ (Nat.le_of_ble_eq_true rfl) (Nat.le_of_ble_eq_true rfl) dX0_isAsTold_69
          · skip
            have ic_24 : (r_21.toInt : Int) ≠ 0 := ic_ne rfl kI_0 c_24
            refine lv_iconst (v := 1) hx hb dX0_isAsTold_64 (by decide) ?_
            refine lv_goto (tgt := 69) hx hb dX0_isAsTold_65 (by decide) ?_
            exact m_zret (v := 1) hx hb hr (by rfl) hlk hC hH (fun _ => (0, 0)) ⟨rfl, Or.inl ⟨kI_1, okA_mk6 K hK hk (hr_2.resolve_right (fun q => by omega)).2 (hr_6.resolve_right (fun q => by omega)).2 (hr_11.resolve_right (fun q => by omega)).2 (hr_16.resolve_right (fun q => by omega)).2 (hr_21.resolve_right (fun q => by omega)).2⟩⟩ (Nat.le_of_ble_eq_true rfl) (Nat.le_of_ble_eq_true rfl) dX0_isAsTold_69
set_option maxHeartbeats 4000000 in
set_option maxRecDepth 100000 in
theorem c_X0_init (l : Launch) (G : mG) (f : mF) (q : Nat) (Fq : f q = some (.inr (0, [.int 0, .int 0, .long 0, .int 0, .int 0, .int 0]))) (kd a : Int32) (b : Int64) (c_ d_ e_ : Int32) : Met l yX0_init wsX0_init ({ frames := 1, cells := 0, slots := 0, locals := 12 }) (va_Pc [.ref q, .int kd, .int a, .long b, .int c_, .int d_, .int e_] (mW G f)) (va_Qv (fun (u : mS) => u.2 = va_up f q (some (.inr (0, [.int kd, .int a, .long b, .int c_, .int d_, .int e_])))) (fun (u : mS) t => mW G u.2 t) (mA G)) 0 0 (mA G) := by
  refine mMet [.ref q, .int kd, .int a, .long b, .int c_, .int d_, .int e_] (cc := cX0_init) (maxL := 8) (ret := none) (by decide) rfl (Nat.le_of_ble_eq_true rfl) ?_
  intro p e s m below meth c ls hx hb hr hml hts hown hlk hnm hC hH hl
  have hl : lv_has ls 8 [(0, .ref q), (1, .int kd), (2, .int a), (3, .long b), (5, .int c_), (6, .int d_), (7, .int e_)] := hl
  refine lv_aload_n hx hb dX0_init_0 rfl (lv_at hl 0 rfl) ?_
  refine W.objInit hx hb hown (hts (.methodLink RX0 1 objectInit) (by decide +kernel)) (hts (.instanceMethod objectInit) (by decide +kernel)) (hts (.code objectInit ⟨#[0xb1]⟩ 1 none) (by decide +kernel)) rfl (hl.1.trans hml.symm) rfl dX0_init_1 (Nat.le_of_ble_eq_true rfl) (Nat.le_of_ble_eq_true rfl) ?_
  refine lv_aload_n hx hb dX0_init_4 rfl (lv_at hl 0 rfl) ?_
  refine lv_iload_n hx hb dX0_init_5 rfl (lv_at hl 1 rfl) ?_
  refine m_putF (ci := 0) (v := .int kd) (C := RX0) (T := TX0) (N := 6) hx hb hC hH hts in_X0_init_X0 tyX0 tyX0_ok nmX0 hown Fq rfl 0 (by decide) (hts (.fieldLink RX0 7 "LazyState$Act" "kind" "I") (by decide +kernel)) rfl hnm rfl rfl rfl (Nat.le_of_ble_eq_true rfl) dX0_init_6 (fun H locs hH => ?_)
  have hH : mH G s (va_up f q (some (.inr (0, [.int kd, .int 0, .long 0, .int 0, .int 0, .int 0])))) H locs := hH
  obtain ⟨f_1, ef_1⟩ : ∃ zz_ : mF, zz_ = va_up f q (some (.inr (0, [.int kd, .int 0, .long 0, .int 0, .int 0, .int 0]))) := ⟨_, rfl⟩
  rw [← ef_1] at hH
  have F_2 : f_1 q = some (.inr (0, [.int kd, .int 0, .long 0, .int 0, .int 0, .int 0])) := by rw [ef_1]; exact va_up_self _ _ _
  refine lv_aload_n hx hb dX0_init_9 rfl (lv_at hl 0 rfl) ?_
  refine lv_iload_n hx hb dX0_init_10 rfl (lv_at hl 2 rfl) ?_
  refine m_putF (ci := 0) (v := .int a) (C := RX0) (T := TX0) (N := 6) hx hb hC hH hts in_X0_init_X0 tyX0 tyX0_ok nmX0 hown F_2 rfl 1 (by decide) (hts (.fieldLink RX0 13 "LazyState$Act" "a" "I") (by decide +kernel)) rfl hnm rfl rfl rfl (Nat.le_of_ble_eq_true rfl) dX0_init_11 (fun H locs hH => ?_)
  have hH : mH G s (va_up f_1 q (some (.inr (0, [.int kd, .int a, .long 0, .int 0, .int 0, .int 0])))) H locs := hH
  obtain ⟨f_3, ef_3⟩ : ∃ zz_ : mF, zz_ = va_up f_1 q (some (.inr (0, [.int kd, .int a, .long 0, .int 0, .int 0, .int 0]))) := ⟨_, rfl⟩
  rw [← ef_3] at hH
  have F_4 : f_3 q = some (.inr (0, [.int kd, .int a, .long 0, .int 0, .int 0, .int 0])) := by rw [ef_3]; exact va_up_self _ _ _
  have bx_4 : f_3 = va_up f q (some (.inr (0, [.int kd, .int a, .long 0, .int 0, .int 0, .int 0]))) := by rw [ef_3, ef_1]; exact bx_uu _ _ _ _
  refine lv_aload_n hx hb dX0_init_14 rfl (lv_at hl 0 rfl) ?_
  refine lv_lload_n hx hb dX0_init_15 rfl (lv_at hl 3 rfl) ?_
  refine m_putF (ci := 0) (v := .long b) (C := RX0) (T := TX0) (N := 6) hx hb hC hH hts in_X0_init_X0 tyX0 tyX0_ok nmX0 hown F_4 rfl 2 (by decide) (hts (.fieldLink RX0 16 "LazyState$Act" "b" "J") (by decide +kernel)) rfl hnm rfl rfl rfl (Nat.le_of_ble_eq_true rfl) dX0_init_16 (fun H locs hH => ?_)
  have hH : mH G s (va_up f_3 q (some (.inr (0, [.int kd, .int a, .long b, .int 0, .int 0, .int 0])))) H locs := hH
  obtain ⟨f_5, ef_5⟩ : ∃ zz_ : mF, zz_ = va_up f_3 q (some (.inr (0, [.int kd, .int a, .long b, .int 0, .int 0, .int 0]))) := ⟨_, rfl⟩
  rw [← ef_5] at hH
  have F_6 : f_5 q = some (.inr (0, [.int kd, .int a, .long b, .int 0, .int 0, .int 0])) := by rw [ef_5]; exact va_up_self _ _ _
  have bx_6 : f_5 = va_up f q (some (.inr (0, [.int kd, .int a, .long b, .int 0, .int 0, .int 0]))) := by rw [ef_5, bx_4]; exact bx_uu _ _ _ _
  refine lv_aload_n hx hb dX0_init_19 rfl (lv_at hl 0 rfl) ?_
  refine lv_iload hx hb dX0_init_20 (lv_at hl 4 rfl) ?_
  refine m_putF (ci := 0) (v := .int c_) (C := RX0) (T := TX0) (N := 6) hx hb hC hH hts in_X0_init_X0 tyX0 tyX0_ok nmX0 hown F_6 rfl 3 (by decide) (hts (.fieldLink RX0 20 "LazyState$Act" "c" "I") (by decide +kernel)) rfl hnm rfl rfl rfl (Nat.le_of_ble_eq_true rfl) dX0_init_22 (fun H locs hH => ?_)
  have hH : mH G s (va_up f_5 q (some (.inr (0, [.int kd, .int a, .long b, .int c_, .int 0, .int 0])))) H locs := hH
  obtain ⟨f_7, ef_7⟩ : ∃ zz_ : mF, zz_ = va_up f_5 q (some (.inr (0, [.int kd, .int a, .long b, .int c_, .int 0, .int 0]))) := ⟨_, rfl⟩
  rw [← ef_7] at hH
  have F_8 : f_7 q = some (.inr (0, [.int kd, .int a, .long b, .int c_, .int 0, .int 0])) := by rw [ef_7]; exact va_up_self _ _ _
  have bx_8 : f_7 = va_up f q (some (.inr (0, [.int kd, .int a, .long b, .int c_, .int 0, .int 0]))) := by rw [ef_7, bx_6]; exact bx_uu _ _ _ _
  refine lv_aload_n hx hb dX0_init_25 rfl (lv_at hl 0 rfl) ?_
  refine lv_iload hx hb dX0_init_26 (lv_at hl 5 rfl) ?_
  refine m_putF (ci := 0) (v := .int d_) (C := RX0) (T := TX0) (N := 6) hx hb hC hH hts in_X0_init_X0 tyX0 tyX0_ok nmX0 hown F_8 rfl 4 (by decide) (hts (.fieldLink RX0 23 "LazyState$Act" "d" "I") (by decide +kernel)) rfl hnm rfl rfl rfl (Nat.le_of_ble_eq_true rfl) dX0_init_28 (fun H locs hH => ?_)
  have hH : mH G s (va_up f_7 q (some (.inr (0, [.int kd, .int a, .long b, .int c_, .int d_, .int 0])))) H locs := hH
  obtain ⟨f_9, ef_9⟩ : ∃ zz_ : mF, zz_ = va_up f_7 q (some (.inr (0, [.int kd, .int a, .long b, .int c_, .int d_, .int 0]))) := ⟨_, rfl⟩
  rw [← ef_9] at hH
  have F_10 : f_9 q = some (.inr (0, [.int kd, .int a, .long b, .int c_, .int d_, .int 0])) := by rw [ef_9]; exact va_up_self _ _ _
  have bx_10 : f_9 = va_up f q (some (.inr (0, [.int kd, .int a, .long b, .int c_, .int d_, .int 0]))) := by rw [ef_9, bx_8]; exact bx_uu _ _ _ _
  refine lv_aload_n hx hb dX0_init_31 rfl (lv_at hl 0 rfl) ?_
  refine lv_iload hx hb dX0_init_32 (lv_at hl 6 rfl) ?_
  refine m_putF (ci := 0) (v := .int e_) (C := RX0) (T := TX0) (N := 6) hx hb hC hH hts in_X0_init_X0 tyX0 tyX0_ok nmX0 hown F_10 rfl 5 (by decide) (hts (.fieldLink RX0 26 "LazyState$Act" "e" "I") (by decide +kernel)) rfl hnm rfl rfl rfl (Nat.le_of_ble_eq_true rfl) dX0_init_34 (fun H locs hH => ?_)
  have hH : mH G s (va_up f_9 q (some (.inr (0, [.int kd, .int a, .long b, .int c_, .int d_, .int e_])))) H locs := hH
  obtain ⟨f_11, ef_11⟩ : ∃ zz_ : mF, zz_ = va_up f_9 q (some (.inr (0, [.int kd, .int a, .long b, .int c_, .int d_, .int e_]))) := ⟨_, rfl⟩
  rw [← ef_11] at hH
  have F_12 : f_11 q = some (.inr (0, [.int kd, .int a, .long b, .int c_, .int d_, .int e_])) := by rw [ef_11]; exact va_up_self _ _ _
  have bx_12 : f_11 = va_up f q (some (.inr (0, [.int kd, .int a, .long b, .int c_, .int d_, .int e_]))) := by rw [ef_11, bx_10]; exact bx_uu _ _ _ _
  exact m_vret hx hb hr hlk hC hH (fun _ => (0, 0)) bx_12 (Nat.le_of_ble_eq_true rfl) (Nat.le_of_ble_eq_true rfl) dX0_init_37
set_option maxHeartbeats 4000000 in
set_option maxRecDepth 100000 in
theorem c_X5_isBehaviour (l : Launch) (G : mG) (f : mF) (b : Int32) : Met l yX5_isBehaviour wsX5_isBehaviour ({ frames := 0, cells := 0, slots := 0, locals := 0 }) (va_Pc [.int b] (mW G f)) (va_Qi (fun (r : Int32) (u : mS) => u.2 = f ∧ ((r.toInt = 1 ∧ 0 ≤ b.toInt ∧ b.toInt < 6) ∨ (r.toInt = 0 ∧ (b.toInt < 0 ∨ 6 ≤ b.toInt)))) (fun (u : mS) t => mW G u.2 t) (mA G)) 0 0 (mA G) := by
  refine mMet [.int b] (cc := cX5_isBehaviour) (maxL := 1) (ret := (some .boolean)) (by decide) rfl (Nat.le_of_ble_eq_true rfl) ?_
  intro p e s m below meth c ls hx hb hr hml hts hown hlk hnm hC hH hl
  have hl : lv_has ls 1 [(0, .int b)] := hl
  refine lv_iload_n hx hb dX5_isBehaviour_0 rfl (lv_at hl 0 rfl) ?_
  refine lv_if_lt (tgt := 14) hx hb dX5_isBehaviour_1 (by decide) (fun c_1 => ?_) (fun c_1 => ?_)
  · skip
    have ic_1 : (b.toInt : Int) < 0 := ic_lt rfl kI_0 c_1
    refine lv_iconst (v := 0) hx hb dX5_isBehaviour_14 (by decide) ?_
    exact m_zret (v := 0) hx hb hr (by rfl) hlk hC hH (fun _ => (0, 0)) ⟨rfl, by have := kI_0; omega⟩ (Nat.le_of_ble_eq_true rfl) (Nat.le_of_ble_eq_true rfl) dX5_isBehaviour_15
  · skip
    have ic_1 : (b.toInt : Int) ≥ 0 := ic_nlt rfl kI_0 c_1
    refine lv_iload_n hx hb dX5_isBehaviour_4 rfl (lv_at hl 0 rfl) ?_
    refine lv_bipush (v := 6) hx hb dX5_isBehaviour_5 (by decide) ?_
    refine lv_icmp_ge (tgt := 14) hx hb dX5_isBehaviour_7 (by decide) (fun c_2 => ?_) (fun c_2 => ?_)
    · skip
      have ic_2 : (6 : Int) ≤ b.toInt := ic_le kI_6 rfl c_2
      refine lv_iconst (v := 0) hx hb dX5_isBehaviour_14 (by decide) ?_
      exact m_zret (v := 0) hx hb hr (by rfl) hlk hC hH (fun _ => (0, 0)) ⟨rfl, by have := kI_0; omega⟩ (Nat.le_of_ble_eq_true rfl) (Nat.le_of_ble_eq_true rfl) dX5_isBehaviour_15
    · skip
      have ic_2 : (6 : Int) > b.toInt := ic_nle kI_6 rfl c_2
      refine lv_iconst (v := 1) hx hb dX5_isBehaviour_10 (by decide) ?_
      refine lv_goto (tgt := 15) hx hb dX5_isBehaviour_11 (by decide) ?_
      exact m_zret (v := 1) hx hb hr (by rfl) hlk hC hH (fun _ => (0, 0)) ⟨rfl, by have := kI_1; omega⟩ (Nat.le_of_ble_eq_true rfl) (Nat.le_of_ble_eq_true rfl) dX5_isBehaviour_15
set_option maxHeartbeats 4000000 in
set_option maxRecDepth 100000 in
theorem c_X5_isObject (l : Launch) (G : mG) (k : Nat → Nat) (own : tR) (n : Nat) (T z : Nat → Nat) (A : Nat → tA) (hg : Nat) (ver : Nat → Nat → tB) (cq : Nat → Bool) (fe : Int32) (tms : Nat → Int32) (ca : Int32) (wl : List Nat) (wh : Int32) (ac th : Nat) (sx : Int32) (ld : Nat → Bool) (tr : List Nat) (gf : Int64) (D : tD) (f : mF) (hM : CM G k own n z D f) (hG : GC n T z A hg ver cq fe tms ca wl wh ac th sx ld tr gf D) (o : Int32) : Met l yX5_isObject wsX5_isObject ({ frames := 0, cells := 0, slots := 0, locals := 0 }) (va_Pc [.ref (k 0), .int o] (mW G f)) (va_Qi (fun (r : Int32) (u : mS) => u.2 = f ∧ ((r.toInt = 1 ∧ 0 ≤ o.toInt ∧ o.toInt < n) ∨ (r.toInt = 0 ∧ (o.toInt < 0 ∨ (n : Int) ≤ o.toInt)))) (fun (u : mS) t => mW G u.2 t) (mA G)) 0 0 (mA G) := by
  refine mMet [.ref (k 0), .int o] (cc := cX5_isObject) (maxL := 2) (ret := (some .boolean)) (by decide) rfl (Nat.le_of_ble_eq_true rfl) ?_
  intro p e s m below meth c ls hx hb hr hml hts hown hlk hnm hC hH hl
  have hl : lv_has ls 2 [(0, .ref (k 0)), (1, .int o)] := hl
  have hfr : frD own f own f := frD.rf
  have n24_ := hG.bs.1
  have hT3_ := hG.bs.2
  have h40_ := hG.h40
  have wl_ := hG.wr.1
  obtain ⟨cb_1, hl_1, hcb_1⟩ := hG.ln
  obtain ⟨⟨lb_1, st_1, nx_1, hq0_1, hlb_1⟩, htr_1, hld_⟩ := hG.lt
  have hlen_ := len_b htr_1.1
  have ol_ := ocn_le tr
  have tn_1 : (nI n).toInt = ((n : Nat) : Int) := nI_toInt (by omega)
  have th_1 : (nI hg).toInt = ((hg : Nat) : Int) := nI_toInt (by omega)
  have tw_1 : (nI wl.length).toInt = ((wl.length : Nat) : Int) := nI_toInt (by omega)
  have te_1 : (eD D 0).1.toInt = ((tr.length : Nat) : Int) := by rw [htr_1.2.1]; exact nI_toInt (by omega)
  refine lv_iload_n hx hb dX5_isObject_0 rfl (lv_at hl 1 rfl) ?_
  refine lv_if_lt (tgt := 16) hx hb dX5_isObject_1 (by decide) (fun c_2 => ?_) (fun c_2 => ?_)
  · skip
    have ic_2 : (o.toInt : Int) < 0 := ic_lt rfl kI_0 c_2
    refine lv_iconst (v := 0) hx hb dX5_isObject_16 (by decide) ?_
    exact m_zret (v := 0) hx hb hr (by rfl) hlk hC hH own ⟨rfl, by have := kI_0; omega⟩ (Nat.le_of_ble_eq_true rfl) (Nat.le_of_ble_eq_true rfl) dX5_isObject_17
  · skip
    have ic_2 : (o.toInt : Int) ≥ 0 := ic_nlt rfl kI_0 c_2
    refine lv_iload_n hx hb dX5_isObject_4 rfl (lv_at hl 1 rfl) ?_
    refine lv_aload_n hx hb dX5_isObject_5 rfl (lv_at hl 0 rfl) ?_
    have F_3 : f (k 0) = some (.inr (5, [.ref (k 1), .int (nI n), .int (nI hg), .ref (k 2), .ref (k 5), .ref (k 13), .ref (k 21), .int ca, .int fe, .int cb_1, .ref (k 3), .int (nI wl.length), .ref (k 4), .int sx])) := by have w_ := hM.c0; rw [hl_1] at w_; exact w_
    refine m_get (ci := 5) (v := .int (nI n)) (C := RX5) (T := TX5) (N := 14) hx hb hC hH hts in_X5_isObject_X5 hown F_3 rfl 1 (by decide) (hts (.fieldLink RX5 46 "LazyState" "objectCount" "I") (by decide +kernel)) rfl dX5_isObject_6 ?_
    refine lv_icmp_ge (tgt := 16) hx hb dX5_isObject_9 (by decide) (fun c_4 => ?_) (fun c_4 => ?_)
    · skip
      have ic_4 : (((n : Nat) : Int) : Int) ≤ o.toInt := ic_le tn_1 rfl c_4
      refine lv_iconst (v := 0) hx hb dX5_isObject_16 (by decide) ?_
      exact m_zret (v := 0) hx hb hr (by rfl) hlk hC hH own ⟨rfl, by have := kI_0; omega⟩ (Nat.le_of_ble_eq_true rfl) (Nat.le_of_ble_eq_true rfl) dX5_isObject_17
    · skip
      have ic_4 : (((n : Nat) : Int) : Int) > o.toInt := ic_nle tn_1 rfl c_4
      refine lv_iconst (v := 1) hx hb dX5_isObject_12 (by decide) ?_
      refine lv_goto (tgt := 17) hx hb dX5_isObject_13 (by decide) ?_
      exact m_zret (v := 1) hx hb hr (by rfl) hlk hC hH own ⟨rfl, by have := kI_1; omega⟩ (Nat.le_of_ble_eq_true rfl) (Nat.le_of_ble_eq_true rfl) dX5_isObject_17
set_option maxHeartbeats 4000000 in
set_option maxRecDepth 100000 in
theorem c_X5_sortAt (l : Launch) (G : mG) (k : Nat → Nat) (own : tR) (n : Nat) (T z : Nat → Nat) (A : Nat → tA) (hg : Nat) (ver : Nat → Nat → tB) (cq : Nat → Bool) (fe : Int32) (tms : Nat → Int32) (ca : Int32) (wl : List Nat) (wh : Int32) (ac th : Nat) (sx : Int32) (ld : Nat → Bool) (tr : List Nat) (gf : Int64) (D : tD) (f : mF) (hM : CM G k own n z D f) (hG : GC n T z A hg ver cq fe tms ca wl wh ac th sx ld tr gf D) (o j : Int32) : Met l yX5_sortAt wsX5_sortAt ({ frames := 1, cells := 0, slots := 0, locals := 21 }) (va_Pc [.ref (k 0), .int o, .int j] (mW G f)) (va_Qi (fun (r : Int32) (u : mS) => u.2 = f ∧ (((0 ≤ o.toInt ∧ o.toInt < n ∧ 0 ≤ j.toInt ∧ j.toInt < 8) ∧ r = nI (srt (T o.toNatClampNeg) j.toNatClampNeg)) ∨ (¬ (0 ≤ o.toInt ∧ o.toInt < n ∧ 0 ≤ j.toInt ∧ j.toInt < 8) ∧ r.toInt = 0))) (fun (u : mS) t => mW G u.2 t) (mA G)) 0 0 (mA G) := by
  refine mMet [.ref (k 0), .int o, .int j] (cc := cX5_sortAt) (maxL := 3) (ret := (some .int)) (by decide) rfl (Nat.le_of_ble_eq_true rfl) ?_
  intro p e s m below meth c ls hx hb hr hml hts hown hlk hnm hC hH hl
  have hl : lv_has ls 3 [(0, .ref (k 0)), (1, .int o), (2, .int j)] := hl
  have hfr : frD own f own f := frD.rf
  have n24_ := hG.bs.1
  have hT3_ := hG.bs.2
  have h40_ := hG.h40
  have wl_ := hG.wr.1
  obtain ⟨cb_1, hl_1, hcb_1⟩ := hG.ln
  obtain ⟨⟨lb_1, st_1, nx_1, hq0_1, hlb_1⟩, htr_1, hld_⟩ := hG.lt
  have hlen_ := len_b htr_1.1
  have ol_ := ocn_le tr
  have tn_1 : (nI n).toInt = ((n : Nat) : Int) := nI_toInt (by omega)
  have th_1 : (nI hg).toInt = ((hg : Nat) : Int) := nI_toInt (by omega)
  have tw_1 : (nI wl.length).toInt = ((wl.length : Nat) : Int) := nI_toInt (by omega)
  have te_1 : (eD D 0).1.toInt = ((tr.length : Nat) : Int) := by rw [htr_1.2.1]; exact nI_toInt (by omega)
  refine lv_aload_n hx hb dX5_sortAt_0 rfl (lv_at hl 0 rfl) ?_
  refine lv_iload_n hx hb dX5_sortAt_1 rfl (lv_at hl 1 rfl) ?_
  have F_5 : f (k 0) = some (.inr (5, [.ref (k 1), .int (nI n), .int (nI hg), .ref (k 2), .ref (k 5), .ref (k 13), .ref (k 21), .int ca, .int fe, .int cb_1, .ref (k 3), .int (nI wl.length), .ref (k 4), .int sx])) := by have w_ := hM.c0; rw [hl_1] at w_; exact w_
  refine m_goi hH (va_runV (As := [.int o]) (rest := []) ⟨hx, hb, hml, hown, hts⟩ (c_X5_isObject l G k own n T z A hg ver cq fe tms ca wl wh ac th sx ld tr gf D f hM hG o) (cwV 1 hts gX5_sortAt_X5_isObject rfl rfl rfl (by decide +kernel) ⟨Nat.le_of_ble_eq_true rfl, Nat.le_of_ble_eq_true rfl⟩) (m_preV (ci := 5) hC hH F_5 rfl) rfl rfl hl.1 rfl (lv_room (Nat.le_of_ble_eq_true rfl)) dX5_sortAt_2 ⟨Nat.le_of_ble_eq_true rfl, Nat.le_of_ble_eq_true rfl⟩) (fun r_2 rho_4 f_3 H locs hw hH => ?_)
  obtain ⟨hu, hr_2⟩ := hw
  have hu : f_3 = f := hu
  rw [hu] at hH
  try dsimp only at hr_2
  refine lv_if_eq (tgt := 21) hx hb dX5_sortAt_5 (by decide) (fun c_6 => ?_) (fun c_6 => ?_)
  · skip
    have ic_6 : (r_2.toInt : Int) = 0 := ic_eq rfl kI_0 c_6
    refine lv_iconst (v := 0) hx hb dX5_sortAt_21 (by decide) ?_
    exact m_iret (v := 0) hx hb hr hlk hC hH own ⟨rfl, Or.inr ⟨fun q_ => by omega, kI_0⟩⟩ (Nat.le_of_ble_eq_true rfl) (Nat.le_of_ble_eq_true rfl) dX5_sortAt_22
  · skip
    have ic_6 : (r_2.toInt : Int) ≠ 0 := ic_ne rfl kI_0 c_6
    refine lv_aload_n hx hb dX5_sortAt_8 rfl (lv_at hl 0 rfl) ?_
    refine m_get (ci := 5) (v := .ref (k 1)) (C := RX5) (T := TX5) (N := 14) hx hb hC hH hts in_X5_sortAt_X5 hown F_5 rfl 0 (by decide) (hts (.fieldLink RX5 11 "LazyState" "objects" "[LLazyState$Body;") (by decide +kernel)) rfl dX5_sortAt_9 ?_
    refine lv_iload_n hx hb dX5_sortAt_12 rfl (lv_at hl 1 rfl) ?_
    have hg_7 := hM.c1
    refine m_aald hx hb hC hH 3 rfl hg_7 (vp_in_iff.mpr ⟨by omega, by omega⟩) dX5_sortAt_13 ?_
    obtain ⟨so_8, boso_8, Lso_8, h1so_8, h2so_8, h3so_8, h4so_8, h5so_8, h6so_8⟩ := hG.obs.hd (o := o.toNatClampNeg) (by have := ic_clN (rfl : o.toInt = _) (by omega); omega)
    rw [h1so_8]
    refine lv_iload_n hx hb dX5_sortAt_14 rfl (lv_at hl 2 rfl) ?_
    have F_12 : f so_8 = some (.inr (2, [.int (nI (yB boso_8)), .ref (caB boso_8), .ref (iaB boso_8), .int (siB boso_8), va_rf (bfB boso_8)])) := (hM.bf h2so_8).1
    have tI_12 : (nI (yB boso_8)).toInt = ((yB boso_8 : Nat) : Int) := nI_toInt (by rw [h4so_8]; have := hT3_ o.toNatClampNeg; omega)
    refine m_goi hH (va_runV (As := [.int j]) (rest := []) ⟨hx, hb, hml, hown, hts⟩ (c_X2_sortOf l G f so_8 boso_8 (hM.bf h2so_8) (by rw [h4so_8]; have := hT3_ o.toNatClampNeg; omega) j) (cwV 1 hts gX5_sortAt_X2_sortOf rfl rfl rfl (by decide +kernel) ⟨Nat.le_of_ble_eq_true rfl, Nat.le_of_ble_eq_true rfl⟩) (m_preV (ci := 2) hC hH F_12 rfl) rfl rfl hl.1 rfl (lv_room (Nat.le_of_ble_eq_true rfl)) dX5_sortAt_15 ⟨Nat.le_of_ble_eq_true rfl, Nat.le_of_ble_eq_true rfl⟩) (fun r_9 rho_11 f_10 H locs hw hH => ?_)
    obtain ⟨hu, hr_9⟩ := hw
    have hu : f_10 = f := hu
    rw [hu] at hH
    try dsimp only at hr_9
    refine lv_goto (tgt := 22) hx hb dX5_sortAt_18 (by decide) ?_
    exact m_iret (v := r_9) hx hb hr hlk hC hH own ⟨rfl, hr_9.elim (fun q_ => Or.inl ⟨⟨by omega, by omega, q_.1, q_.2.1⟩, by rw [q_.2.2, h4so_8]⟩) (fun q_ => Or.inr ⟨fun y_ => by omega, by rw [q_.2]; exact kI_0⟩)⟩ (Nat.le_of_ble_eq_true rfl) (Nat.le_of_ble_eq_true rfl) dX5_sortAt_22
set_option maxHeartbeats 4000000 in
set_option maxRecDepth 100000 in
theorem c_X5_callRefusal (l : Launch) (G : mG) (k : Nat → Nat) (own : tR) (n : Nat) (T z : Nat → Nat) (A : Nat → tA) (hg : Nat) (ver : Nat → Nat → tB) (cq : Nat → Bool) (fe : Int32) (tms : Nat → Int32) (ca : Int32) (wl : List Nat) (wh : Int32) (ac th : Nat) (sx : Int32) (ld : Nat → Bool) (tr : List Nat) (gf : Int64) (D : tD) (f : mF) (hM : CM G k own n z D f) (hG : GC n T z A hg ver cq fe tms ca wl wh ac th sx ld tr gf D) (o b : Int32) : Met l yX5_callRefusal wsX5_callRefusal ({ frames := 1, cells := 0, slots := 0, locals := 21 }) (va_Pc [.ref (k 0), .int o, .int b] (mW G f)) (va_Qi (fun (r : Int32) (u : mS) => u.2 = f ∧ ((¬ (0 ≤ o.toInt ∧ o.toInt < n ∧ 0 ≤ b.toInt ∧ b.toInt < 6) ∧ r.toInt = -1) ∨ ((0 ≤ o.toInt ∧ o.toInt < n ∧ 0 ≤ b.toInt ∧ b.toInt < 6) ∧ hg = 40 ∧ r.toInt = -2) ∨ ((0 ≤ o.toInt ∧ o.toInt < n ∧ 0 ≤ b.toInt ∧ b.toInt < 6) ∧ hg ≤ 39 ∧ r.toInt = 0))) (fun (u : mS) t => mW G u.2 t) (mA G)) 0 0 (mA G) := by
  refine mMet [.ref (k 0), .int o, .int b] (cc := cX5_callRefusal) (maxL := 3) (ret := (some .int)) (by decide) rfl (Nat.le_of_ble_eq_true rfl) ?_
  intro p e s m below meth c ls hx hb hr hml hts hown hlk hnm hC hH hl
  have hl : lv_has ls 3 [(0, .ref (k 0)), (1, .int o), (2, .int b)] := hl
  have hfr : frD own f own f := frD.rf
  have n24_ := hG.bs.1
  have hT3_ := hG.bs.2
  have h40_ := hG.h40
  have wl_ := hG.wr.1
  obtain ⟨cb_1, hl_1, hcb_1⟩ := hG.ln
  obtain ⟨⟨lb_1, st_1, nx_1, hq0_1, hlb_1⟩, htr_1, hld_⟩ := hG.lt
  have hlen_ := len_b htr_1.1
  have ol_ := ocn_le tr
  have tn_1 : (nI n).toInt = ((n : Nat) : Int) := nI_toInt (by omega)
  have th_1 : (nI hg).toInt = ((hg : Nat) : Int) := nI_toInt (by omega)
  have tw_1 : (nI wl.length).toInt = ((wl.length : Nat) : Int) := nI_toInt (by omega)
  have te_1 : (eD D 0).1.toInt = ((tr.length : Nat) : Int) := by rw [htr_1.2.1]; exact nI_toInt (by omega)
  refine lv_aload_n hx hb dX5_callRefusal_0 rfl (lv_at hl 0 rfl) ?_
  refine lv_iload_n hx hb dX5_callRefusal_1 rfl (lv_at hl 1 rfl) ?_
  have F_5 : f (k 0) = some (.inr (5, [.ref (k 1), .int (nI n), .int (nI hg), .ref (k 2), .ref (k 5), .ref (k 13), .ref (k 21), .int ca, .int fe, .int cb_1, .ref (k 3), .int (nI wl.length), .ref (k 4), .int sx])) := by have w_ := hM.c0; rw [hl_1] at w_; exact w_
  refine m_goi hH (va_runV (As := [.int o]) (rest := []) ⟨hx, hb, hml, hown, hts⟩ (c_X5_isObject l G k own n T z A hg ver cq fe tms ca wl wh ac th sx ld tr gf D f hM hG o) (cwV 1 hts gX5_callRefusal_X5_isObject rfl rfl rfl (by decide +kernel) ⟨Nat.le_of_ble_eq_true rfl, Nat.le_of_ble_eq_true rfl⟩) (m_preV (ci := 5) hC hH F_5 rfl) rfl rfl hl.1 rfl (lv_room (Nat.le_of_ble_eq_true rfl)) dX5_callRefusal_2 ⟨Nat.le_of_ble_eq_true rfl, Nat.le_of_ble_eq_true rfl⟩) (fun r_2 rho_4 f_3 H locs hw hH => ?_)
  obtain ⟨hu, hr_2⟩ := hw
  have hu : f_3 = f := hu
  rw [hu] at hH
  try dsimp only at hr_2
  refine lv_if_eq (tgt := 15) hx hb dX5_callRefusal_5 (by decide) (fun c_6 => ?_) (fun c_6 => ?_)
  · skip
    have ic_6 : (r_2.toInt : Int) = 0 := ic_eq rfl kI_0 c_6
    refine lv_iconst (v := (-1)) hx hb dX5_callRefusal_15 (by decide) ?_
    exact m_iret (v := (-1)) hx hb hr hlk hC hH own ⟨rfl, by have := kI_m1; omega⟩ (Nat.le_of_ble_eq_true rfl) (Nat.le_of_ble_eq_true rfl) dX5_callRefusal_16
  · skip
    have ic_6 : (r_2.toInt : Int) ≠ 0 := ic_ne rfl kI_0 c_6
    refine lv_iload_n hx hb dX5_callRefusal_8 rfl (lv_at hl 2 rfl) ?_
    refine m_goi hH (va_runS (As := [.int b]) (rest := []) ⟨hx, hb, hml, hown, hts⟩ (c_X5_isBehaviour l G f b) (va_cwS 1 hts gX5_callRefusal_X5_isBehaviour rfl rfl rfl (by decide +kernel) ⟨Nat.le_of_ble_eq_true rfl, Nat.le_of_ble_eq_true rfl⟩) (m_preS hC hH) rfl rfl hl.1 rfl (lv_room (Nat.le_of_ble_eq_true rfl)) dX5_callRefusal_9 ⟨Nat.le_of_ble_eq_true rfl, Nat.le_of_ble_eq_true rfl⟩) (fun r_7 rho_9 f_8 H locs hw hH => ?_)
    obtain ⟨hu, hr_7⟩ := hw
    have hu : f_8 = f := hu
    rw [hu] at hH
    try dsimp only at hr_7
    refine lv_if_ne (tgt := 17) hx hb dX5_callRefusal_12 (by decide) (fun c_10 => ?_) (fun c_10 => ?_)
    · skip
      have ic_10 : (r_7.toInt : Int) ≠ 0 := ic_ne rfl kI_0 c_10
      refine lv_aload_n hx hb dX5_callRefusal_17 rfl (lv_at hl 0 rfl) ?_
      refine m_get (ci := 5) (v := .int (nI hg)) (C := RX5) (T := TX5) (N := 14) hx hb hC hH hts in_X5_callRefusal_X5 hown F_5 rfl 2 (by decide) (hts (.fieldLink RX5 68 "LazyState" "heightNow" "I") (by decide +kernel)) rfl dX5_callRefusal_18 ?_
      refine lv_bipush (v := 40) hx hb dX5_callRefusal_21 (by decide) ?_
      refine lv_icmp_lt (tgt := 31) hx hb dX5_callRefusal_23 (by decide) (fun c_11 => ?_) (fun c_11 => ?_)
      · skip
        have ic_11 : (((hg : Nat) : Int) : Int) < 40 := ic_lt th_1 kI_40 c_11
        refine lv_iconst (v := 0) hx hb dX5_callRefusal_31 (by decide) ?_
        exact m_iret (v := 0) hx hb hr hlk hC hH own ⟨rfl, by have := kI_0; omega⟩ (Nat.le_of_ble_eq_true rfl) (Nat.le_of_ble_eq_true rfl) dX5_callRefusal_32
      · skip
        have ic_11 : (((hg : Nat) : Int) : Int) ≥ 40 := ic_nlt th_1 kI_40 c_11
        refine lv_bipush (v := (-2)) hx hb dX5_callRefusal_26 (by decide) ?_
        refine lv_goto (tgt := 32) hx hb dX5_callRefusal_28 (by decide) ?_
        exact m_iret (v := (-2)) hx hb hr hlk hC hH own ⟨rfl, by have := kI_m2; omega⟩ (Nat.le_of_ble_eq_true rfl) (Nat.le_of_ble_eq_true rfl) dX5_callRefusal_32
    · skip
      have ic_10 : (r_7.toInt : Int) = 0 := ic_eq rfl kI_0 c_10
      refine lv_iconst (v := (-1)) hx hb dX5_callRefusal_15 (by decide) ?_
      exact m_iret (v := (-1)) hx hb hr hlk hC hH own ⟨rfl, by have := kI_m1; omega⟩ (Nat.le_of_ble_eq_true rfl) (Nat.le_of_ble_eq_true rfl) dX5_callRefusal_16
set_option maxHeartbeats 4000000 in
set_option maxRecDepth 100000 in
theorem c_X5_gave (l : Launch) (G : mG) (k : Nat → Nat) (own : tR) (n : Nat) (T z : Nat → Nat) (A : Nat → tA) (hg : Nat) (ver : Nat → Nat → tB) (cq : Nat → Bool) (fe : Int32) (tms : Nat → Int32) (ca : Int32) (wl : List Nat) (wh : Int32) (ac th : Nat) (sx : Int32) (ld : Nat → Bool) (tr : List Nat) (gf : Int64) (D : tD) (f : mF) (hM : CM G k own n z D f) (hG : GC n T z A hg ver cq fe tms ca wl wh ac th sx ld tr gf D) : Met l yX5_gave wsX5_gave ({ frames := 0, cells := 0, slots := 0, locals := 0 }) (va_Pc [.ref (k 0)] (mW G f)) (va_Ql (fun (r : Int64) (u : mS) => u.2 = f ∧ r = gf) (fun (u : mS) t => mW G u.2 t) (mA G)) 0 0 (mA G) := by
  refine mMet [.ref (k 0)] (cc := cX5_gave) (maxL := 1) (ret := (some .long)) (by decide) rfl (Nat.le_of_ble_eq_true rfl) ?_
  intro p e s m below meth c ls hx hb hr hml hts hown hlk hnm hC hH hl
  have hl : lv_has ls 1 [(0, .ref (k 0))] := hl
  have hfr : frD own f own f := frD.rf
  have n24_ := hG.bs.1
  have hT3_ := hG.bs.2
  have h40_ := hG.h40
  have wl_ := hG.wr.1
  obtain ⟨cb_1, hl_1, hcb_1⟩ := hG.ln
  obtain ⟨⟨lb_1, st_1, nx_1, hq0_1, hlb_1⟩, htr_1, hld_⟩ := hG.lt
  have hlen_ := len_b htr_1.1
  have ol_ := ocn_le tr
  have tn_1 : (nI n).toInt = ((n : Nat) : Int) := nI_toInt (by omega)
  have th_1 : (nI hg).toInt = ((hg : Nat) : Int) := nI_toInt (by omega)
  have tw_1 : (nI wl.length).toInt = ((wl.length : Nat) : Int) := nI_toInt (by omega)
  have te_1 : (eD D 0).1.toInt = ((tr.length : Nat) : Int) := by rw [htr_1.2.1]; exact nI_toInt (by omega)
  refine lv_aload_n hx hb dX5_gave_0 rfl (lv_at hl 0 rfl) ?_
  have F_2 : f (k 0) = some (.inr (5, [.ref (k 1), .int (nI n), .int (nI hg), .ref (k 2), .ref (k 5), .ref (k 13), .ref (k 21), .int ca, .int fe, .int cb_1, .ref (k 3), .int (nI wl.length), .ref (k 4), .int sx])) := by have w_ := hM.c0; rw [hl_1] at w_; exact w_
  refine m_get (ci := 5) (v := .ref (k 5)) (C := RX5) (T := TX5) (N := 14) hx hb hC hH hts in_X5_gave_X5 hown F_2 rfl 4 (by decide) (hts (.fieldLink RX5 24 "LazyState" "latest" "LLazyState$Run;") (by decide +kernel)) rfl dX5_gave_1 ?_
  have F_3 : f (k 5) = some (.inr (3, [.ref (k 6), .int lb_1, .int (nI ac), .long gf, .int (nI th), .int wh, va_rf st_1, .ref (k 10), .ref (k 11), .ref (k 12), .int nx_1])) := by have w_ := hM.r0 0 (by decide); rw [hq0_1] at w_; exact w_
  refine m_get (ci := 3) (v := .long gf) (C := RX3) (T := TX3) (N := 11) hx hb hC hH hts in_X5_gave_X3 hown F_3 rfl 3 (by decide) (hts (.fieldLink RX5 140 "LazyState$Run" "gift" "J") (by decide +kernel)) rfl dX5_gave_4 ?_
  exact m_lret (v := gf) hx hb hr hlk hC hH own ⟨rfl, rfl⟩ (Nat.le_of_ble_eq_true rfl) (Nat.le_of_ble_eq_true rfl) dX5_gave_7
set_option maxHeartbeats 4000000 in
set_option maxRecDepth 100000 in
theorem c_X5_where (l : Launch) (G : mG) (k : Nat → Nat) (own : tR) (n : Nat) (T z : Nat → Nat) (A : Nat → tA) (hg : Nat) (ver : Nat → Nat → tB) (cq : Nat → Bool) (fe : Int32) (tms : Nat → Int32) (ca : Int32) (wl : List Nat) (wh : Int32) (ac th : Nat) (sx : Int32) (ld : Nat → Bool) (tr : List Nat) (gf : Int64) (D : tD) (f : mF) (hM : CM G k own n z D f) (hG : GC n T z A hg ver cq fe tms ca wl wh ac th sx ld tr gf D) : Met l yX5_where wsX5_where ({ frames := 0, cells := 0, slots := 0, locals := 0 }) (va_Pc [.ref (k 0)] (mW G f)) (va_Qi (fun (r : Int32) (u : mS) => u.2 = f ∧ r = wh) (fun (u : mS) t => mW G u.2 t) (mA G)) 0 0 (mA G) := by
  refine mMet [.ref (k 0)] (cc := cX5_where) (maxL := 1) (ret := (some .int)) (by decide) rfl (Nat.le_of_ble_eq_true rfl) ?_
  intro p e s m below meth c ls hx hb hr hml hts hown hlk hnm hC hH hl
  have hl : lv_has ls 1 [(0, .ref (k 0))] := hl
  have hfr : frD own f own f := frD.rf
  have n24_ := hG.bs.1
  have hT3_ := hG.bs.2
  have h40_ := hG.h40
  have wl_ := hG.wr.1
  obtain ⟨cb_1, hl_1, hcb_1⟩ := hG.ln
  obtain ⟨⟨lb_1, st_1, nx_1, hq0_1, hlb_1⟩, htr_1, hld_⟩ := hG.lt
  have hlen_ := len_b htr_1.1
  have ol_ := ocn_le tr
  have tn_1 : (nI n).toInt = ((n : Nat) : Int) := nI_toInt (by omega)
  have th_1 : (nI hg).toInt = ((hg : Nat) : Int) := nI_toInt (by omega)
  have tw_1 : (nI wl.length).toInt = ((wl.length : Nat) : Int) := nI_toInt (by omega)
  have te_1 : (eD D 0).1.toInt = ((tr.length : Nat) : Int) := by rw [htr_1.2.1]; exact nI_toInt (by omega)
  refine lv_aload_n hx hb dX5_where_0 rfl (lv_at hl 0 rfl) ?_
  have F_2 : f (k 0) = some (.inr (5, [.ref (k 1), .int (nI n), .int (nI hg), .ref (k 2), .ref (k 5), .ref (k 13), .ref (k 21), .int ca, .int fe, .int cb_1, .ref (k 3), .int (nI wl.length), .ref (k 4), .int sx])) := by have w_ := hM.c0; rw [hl_1] at w_; exact w_
  refine m_get (ci := 5) (v := .ref (k 5)) (C := RX5) (T := TX5) (N := 14) hx hb hC hH hts in_X5_where_X5 hown F_2 rfl 4 (by decide) (hts (.fieldLink RX5 24 "LazyState" "latest" "LLazyState$Run;") (by decide +kernel)) rfl dX5_where_1 ?_
  have F_3 : f (k 5) = some (.inr (3, [.ref (k 6), .int lb_1, .int (nI ac), .long gf, .int (nI th), .int wh, va_rf st_1, .ref (k 10), .ref (k 11), .ref (k 12), .int nx_1])) := by have w_ := hM.r0 0 (by decide); rw [hq0_1] at w_; exact w_
  refine m_get (ci := 3) (v := .int wh) (C := RX3) (T := TX3) (N := 11) hx hb hC hH hts in_X5_where_X3 hown F_3 rfl 5 (by decide) (hts (.fieldLink RX5 144 "LazyState$Run" "thrownAt" "I") (by decide +kernel)) rfl dX5_where_4 ?_
  exact m_iret (v := wh) hx hb hr hlk hC hH own ⟨rfl, rfl⟩ (Nat.le_of_ble_eq_true rfl) (Nat.le_of_ble_eq_true rfl) dX5_where_7
set_option maxHeartbeats 4000000 in
set_option maxRecDepth 100000 in
theorem c_X5_status (l : Launch) (G : mG) (k : Nat → Nat) (own : tR) (n : Nat) (T z : Nat → Nat) (A : Nat → tA) (hg : Nat) (ver : Nat → Nat → tB) (cq : Nat → Bool) (fe : Int32) (tms : Nat → Int32) (ca : Int32) (wl : List Nat) (wh : Int32) (ac th : Nat) (sx : Int32) (ld : Nat → Bool) (tr : List Nat) (gf : Int64) (D : tD) (f : mF) (hM : CM G k own n z D f) (hG : GC n T z A hg ver cq fe tms ca wl wh ac th sx ld tr gf D) : Met l yX5_status wsX5_status ({ frames := 0, cells := 0, slots := 0, locals := 0 }) (va_Pc [.ref (k 0)] (mW G f)) (va_Qi (fun (r : Int32) (u : mS) => u.2 = f ∧ r = sx) (fun (u : mS) t => mW G u.2 t) (mA G)) 0 0 (mA G) := by
  refine mMet [.ref (k 0)] (cc := cX5_status) (maxL := 1) (ret := (some .int)) (by decide) rfl (Nat.le_of_ble_eq_true rfl) ?_
  intro p e s m below meth c ls hx hb hr hml hts hown hlk hnm hC hH hl
  have hl : lv_has ls 1 [(0, .ref (k 0))] := hl
  have hfr : frD own f own f := frD.rf
  have n24_ := hG.bs.1
  have hT3_ := hG.bs.2
  have h40_ := hG.h40
  have wl_ := hG.wr.1
  obtain ⟨cb_1, hl_1, hcb_1⟩ := hG.ln
  obtain ⟨⟨lb_1, st_1, nx_1, hq0_1, hlb_1⟩, htr_1, hld_⟩ := hG.lt
  have hlen_ := len_b htr_1.1
  have ol_ := ocn_le tr
  have tn_1 : (nI n).toInt = ((n : Nat) : Int) := nI_toInt (by omega)
  have th_1 : (nI hg).toInt = ((hg : Nat) : Int) := nI_toInt (by omega)
  have tw_1 : (nI wl.length).toInt = ((wl.length : Nat) : Int) := nI_toInt (by omega)
  have te_1 : (eD D 0).1.toInt = ((tr.length : Nat) : Int) := by rw [htr_1.2.1]; exact nI_toInt (by omega)
  refine lv_aload_n hx hb dX5_status_0 rfl (lv_at hl 0 rfl) ?_
  have F_2 : f (k 0) = some (.inr (5, [.ref (k 1), .int (nI n), .int (nI hg), .ref (k 2), .ref (k 5), .ref (k 13), .ref (k 21), .int ca, .int fe, .int cb_1, .ref (k 3), .int (nI wl.length), .ref (k 4), .int sx])) := by have w_ := hM.c0; rw [hl_1] at w_; exact w_
  refine m_get (ci := 5) (v := .int sx) (C := RX5) (T := TX5) (N := 14) hx hb hC hH hts in_X5_status_X5 hown F_2 rfl 13 (by decide) (hts (.fieldLink RX5 41 "LazyState" "viewStatus" "I") (by decide +kernel)) rfl dX5_status_1 ?_
  exact m_iret (v := sx) hx hb hr hlk hC hH own ⟨rfl, rfl⟩ (Nat.le_of_ble_eq_true rfl) (Nat.le_of_ble_eq_true rfl) dX5_status_4
set_option maxHeartbeats 4000000 in
set_option maxRecDepth 100000 in
theorem c_X5_touched (l : Launch) (G : mG) (k : Nat → Nat) (own : tR) (n : Nat) (T z : Nat → Nat) (A : Nat → tA) (hg : Nat) (ver : Nat → Nat → tB) (cq : Nat → Bool) (fe : Int32) (tms : Nat → Int32) (ca : Int32) (wl : List Nat) (wh : Int32) (ac th : Nat) (sx : Int32) (ld : Nat → Bool) (tr : List Nat) (gf : Int64) (D : tD) (f : mF) (hM : CM G k own n z D f) (hG : GC n T z A hg ver cq fe tms ca wl wh ac th sx ld tr gf D) (kx w_ : Int32) : Met l yX5_touched wsX5_touched ({ frames := 0, cells := 0, slots := 0, locals := 0 }) (va_Pc [.ref (k 0), .int kx, .int w_] (mW G f)) (va_Qi (fun (r : Int32) (u : mS) => u.2 = f ∧ r = tchA tr kx w_) (fun (u : mS) t => mW G u.2 t) (mA G)) 0 0 (mA G) := by
  refine mMet [.ref (k 0), .int kx, .int w_] (cc := cX5_touched) (maxL := 4) (ret := (some .int)) (by decide) rfl (Nat.le_of_ble_eq_true rfl) ?_
  intro p e s m below meth c ls hx hb hr hml hts hown hlk hnm hC hH hl
  have hl : lv_has ls 4 [(0, .ref (k 0)), (1, .int kx), (2, .int w_)] := hl
  have hfr : frD own f own f := frD.rf
  have n24_ := hG.bs.1
  have hT3_ := hG.bs.2
  have h40_ := hG.h40
  have wl_ := hG.wr.1
  obtain ⟨cb_1, hl_1, hcb_1⟩ := hG.ln
  obtain ⟨⟨lb_1, st_1, nx_1, hq0_1, hlb_1⟩, htr_1, hld_⟩ := hG.lt
  have hlen_ := len_b htr_1.1
  have ol_ := ocn_le tr
  have tn_1 : (nI n).toInt = ((n : Nat) : Int) := nI_toInt (by omega)
  have th_1 : (nI hg).toInt = ((hg : Nat) : Int) := nI_toInt (by omega)
  have tw_1 : (nI wl.length).toInt = ((wl.length : Nat) : Int) := nI_toInt (by omega)
  have te_1 : (eD D 0).1.toInt = ((tr.length : Nat) : Int) := by rw [htr_1.2.1]; exact nI_toInt (by omega)
  refine lv_iload_n hx hb dX5_touched_0 rfl (lv_at hl 1 rfl) ?_
  refine lv_if_lt (tgt := 13) hx hb dX5_touched_1 (by decide) (fun c_2 => ?_) (fun c_2 => ?_)
  · skip
    have ic_2 : (kx.toInt : Int) < 0 := ic_lt rfl kI_0 c_2
    refine lv_iconst (v := (-1)) hx hb dX5_touched_13 (by decide) ?_
    exact m_iret (v := (-1)) hx hb hr hlk hC hH own ⟨rfl, (if_pos (by omega)).symm⟩ (Nat.le_of_ble_eq_true rfl) (Nat.le_of_ble_eq_true rfl) dX5_touched_14
  · skip
    have ic_2 : (kx.toInt : Int) ≥ 0 := ic_nlt rfl kI_0 c_2
    refine lv_iload_n hx hb dX5_touched_4 rfl (lv_at hl 2 rfl) ?_
    refine lv_if_lt (tgt := 13) hx hb dX5_touched_5 (by decide) (fun c_3 => ?_) (fun c_3 => ?_)
    · skip
      have ic_3 : (w_.toInt : Int) < 0 := ic_lt rfl kI_0 c_3
      refine lv_iconst (v := (-1)) hx hb dX5_touched_13 (by decide) ?_
      exact m_iret (v := (-1)) hx hb hr hlk hC hH own ⟨rfl, (if_pos (by omega)).symm⟩ (Nat.le_of_ble_eq_true rfl) (Nat.le_of_ble_eq_true rfl) dX5_touched_14
    · skip
      have ic_3 : (w_.toInt : Int) ≥ 0 := ic_nlt rfl kI_0 c_3
      refine lv_iload_n hx hb dX5_touched_8 rfl (lv_at hl 2 rfl) ?_
      refine lv_iconst (v := 1) hx hb dX5_touched_9 (by decide) ?_
      refine lv_icmp_le (tgt := 15) hx hb dX5_touched_10 (by decide) (fun c_4 => ?_) (fun c_4 => ?_)
      · skip
        have ic_4 : (w_.toInt : Int) ≤ 1 := ic_le rfl kI_1 c_4
        refine lv_aload_n hx hb dX5_touched_15 rfl (lv_at hl 0 rfl) ?_
        have F_5 : f (k 0) = some (.inr (5, [.ref (k 1), .int (nI n), .int (nI hg), .ref (k 2), .ref (k 5), .ref (k 13), .ref (k 21), .int ca, .int fe, .int cb_1, .ref (k 3), .int (nI wl.length), .ref (k 4), .int sx])) := by have w_ := hM.c0; rw [hl_1] at w_; exact w_
        refine m_get (ci := 5) (v := .ref (k 5)) (C := RX5) (T := TX5) (N := 14) hx hb hC hH hts in_X5_touched_X5 hown F_5 rfl 4 (by decide) (hts (.fieldLink RX5 24 "LazyState" "latest" "LLazyState$Run;") (by decide +kernel)) rfl dX5_touched_16 ?_
        have F_6 : f (k 5) = some (.inr (3, [.ref (k 6), .int lb_1, .int (nI ac), .long gf, .int (nI th), .int wh, va_rf st_1, .ref (k 10), .ref (k 11), .ref (k 12), .int nx_1])) := by have w_ := hM.r0 0 (by decide); rw [hq0_1] at w_; exact w_
        refine m_get (ci := 3) (v := .ref (k 6)) (C := RX3) (T := TX3) (N := 11) hx hb hC hH hts in_X5_touched_X3 hown F_6 rfl 0 (by decide) (hts (.fieldLink RX5 147 "LazyState$Run" "trace" "LLazyState$Trace;") (by decide +kernel)) rfl dX5_touched_19 ?_
        refine lv_astore_n (lv' := [(3, .ref (k 6)), (0, .ref (k 0)), (1, .int kx), (2, .int w_)]) hx hb dX5_touched_22 rfl hl (by decide) rfl (fun ls hl => ?_)
        refine lv_iload_n hx hb dX5_touched_23 rfl (lv_at hl 2 rfl) ?_
        refine lv_aload_n hx hb dX5_touched_24 rfl (lv_at hl 0 rfl) ?_
        have F_7 : f (k 6) = some (.inr (4, [.ref (k 7), .int ((eD D 0).1), .int ((eD D 0).2), .ref (k 8), .ref (k 9)])) := hM.r1 0 (by decide)
        refine m_get (ci := 4) (v := .int ((eD D 0).1)) (C := RX4) (T := TX4) (N := 5) hx hb hC hH hts in_X5_touched_X4 hown F_7 rfl 1 (by decide) (hts (.fieldLink RX5 151 "LazyState$Trace" "count" "I") (by decide +kernel)) rfl dX5_touched_25 ?_
        refine lv_icmp_lt (tgt := 34) hx hb dX5_touched_28 (by decide) (fun c_8 => ?_) (fun c_8 => ?_)
        · skip
          have ic_8 : (kx.toInt : Int) < ((tr.length : Nat) : Int) := ic_lt rfl te_1 c_8
          refine lv_iload_n hx hb dX5_touched_34 rfl (lv_at hl 3 rfl) ?_
          refine lv_if_ne (tgt := 49) hx hb dX5_touched_35 (by decide) (fun c_9 => ?_) (fun c_9 => ?_)
          · skip
            have ic_9 : (w_.toInt : Int) ≠ 0 := ic_ne rfl kI_0 c_9
            refine lv_aload_n hx hb dX5_touched_49 rfl (lv_at hl 0 rfl) ?_
            refine m_get (ci := 4) (v := .ref (k 7)) (C := RX4) (T := TX4) (N := 5) hx hb hC hH hts in_X5_touched_X4 hown F_7 rfl 0 (by decide) (hts (.fieldLink RX5 156 "LazyState$Trace" "entries" "[I") (by decide +kernel)) rfl dX5_touched_50 ?_
            refine lv_iload_n hx hb dX5_touched_53 rfl (lv_at hl 2 rfl) ?_
            have hg_10 : f (k 7) = some (.inl (gk G 0, 384, .inl (ID D 7))) := hM.r2 0 (by decide)
            refine m_iald hx hb hC hH hg_10 (vp_in_iff.mpr ⟨by omega, by omega⟩) dX5_touched_54 ?_
            refine lv_topi (fun x_11 ex_11 => ?_)
            have en_ : x_11 = nI (tr.getD kx.toNatClampNeg 0) := by rw [ex_11]; exact htr_1.2.2.2.1 kx.toNatClampNeg (by have := ic_clN (rfl : kx.toInt = _) (by omega); omega)
            have eb_ := htr_1.1.2 _ (getD_mem (l := tr) (i := kx.toNatClampNeg) (by have := ic_clN (rfl : kx.toInt = _) (by omega); omega))
            refine lv_iconst (v := 1) hx hb dX5_touched_55 (by decide) ?_
            refine lv_iand hx hb dX5_touched_56 ?_
            refine lv_topi (fun x_12 ex_12 => ?_)
            exact m_iret (v := x_12) hx hb hr hlk hC hH own ⟨rfl, by rw [ex_12, en_]; exact (nI_and1 _ eb_).trans ((if_neg (by omega)).trans ((if_neg (by omega)).trans (if_neg (by omega)))).symm⟩ (Nat.le_of_ble_eq_true rfl) (Nat.le_of_ble_eq_true rfl) dX5_touched_57
          · skip
            have ic_9 : (w_.toInt : Int) = 0 := ic_eq rfl kI_0 c_9
            refine lv_aload_n hx hb dX5_touched_38 rfl (lv_at hl 0 rfl) ?_
            refine m_get (ci := 4) (v := .ref (k 7)) (C := RX4) (T := TX4) (N := 5) hx hb hC hH hts in_X5_touched_X4 hown F_7 rfl 0 (by decide) (hts (.fieldLink RX5 156 "LazyState$Trace" "entries" "[I") (by decide +kernel)) rfl dX5_touched_39 ?_
            refine lv_iload_n hx hb dX5_touched_42 rfl (lv_at hl 2 rfl) ?_
            have hg_13 : f (k 7) = some (.inl (gk G 0, 384, .inl (ID D 7))) := hM.r2 0 (by decide)
            refine m_iald hx hb hC hH hg_13 (vp_in_iff.mpr ⟨by omega, by omega⟩) dX5_touched_43 ?_
            refine lv_topi (fun x_14 ex_14 => ?_)
            have en_ : x_14 = nI (tr.getD kx.toNatClampNeg 0) := by rw [ex_14]; exact htr_1.2.2.2.1 kx.toNatClampNeg (by have := ic_clN (rfl : kx.toInt = _) (by omega); omega)
            have eb_ := htr_1.1.2 _ (getD_mem (l := tr) (i := kx.toNatClampNeg) (by have := ic_clN (rfl : kx.toInt = _) (by omega); omega))
            refine lv_iconst (v := 1) hx hb dX5_touched_44 (by decide) ?_
            refine lv_ishr hx hb dX5_touched_45 ?_
            refine lv_topi (fun x_15 ex_15 => ?_)
            refine lv_goto (tgt := 57) hx hb dX5_touched_46 (by decide) ?_
            exact m_iret (v := x_15) hx hb hr hlk hC hH own ⟨rfl, by rw [ex_15, en_]; exact (nI_shr _ eb_).trans ((if_neg (by omega)).trans ((if_neg (by omega)).trans (if_pos (by omega)))).symm⟩ (Nat.le_of_ble_eq_true rfl) (Nat.le_of_ble_eq_true rfl) dX5_touched_57
        · skip
          have ic_8 : (kx.toInt : Int) ≥ ((tr.length : Nat) : Int) := ic_nlt rfl te_1 c_8
          refine lv_bipush (v := (-3)) hx hb dX5_touched_31 (by decide) ?_
          exact m_iret (v := (-3)) hx hb hr hlk hC hH own ⟨rfl, ((if_neg (by omega)).trans (if_pos (by omega))).symm⟩ (Nat.le_of_ble_eq_true rfl) (Nat.le_of_ble_eq_true rfl) dX5_touched_33
      · skip
        have ic_4 : (w_.toInt : Int) > 1 := ic_nle rfl kI_1 c_4
        refine lv_iconst (v := (-1)) hx hb dX5_touched_13 (by decide) ?_
        exact m_iret (v := (-1)) hx hb hr hlk hC hH own ⟨rfl, (if_pos (by omega)).symm⟩ (Nat.le_of_ble_eq_true rfl) (Nat.le_of_ble_eq_true rfl) dX5_touched_14
set_option maxHeartbeats 4000000 in
set_option maxRecDepth 100000 in
theorem c_X5_written (l : Launch) (G : mG) (k : Nat → Nat) (own : tR) (n : Nat) (T z : Nat → Nat) (A : Nat → tA) (hg : Nat) (ver : Nat → Nat → tB) (cq : Nat → Bool) (fe : Int32) (tms : Nat → Int32) (ca : Int32) (wl : List Nat) (wh : Int32) (ac th : Nat) (sx : Int32) (ld : Nat → Bool) (tr : List Nat) (gf : Int64) (D : tD) (f : mF) (hM : CM G k own n z D f) (hG : GC n T z A hg ver cq fe tms ca wl wh ac th sx ld tr gf D) (kx : Int32) : Met l yX5_written wsX5_written ({ frames := 0, cells := 0, slots := 0, locals := 0 }) (va_Pc [.ref (k 0), .int kx] (mW G f)) (va_Qi (fun (r : Int32) (u : mS) => u.2 = f ∧ r = wrA wl kx) (fun (u : mS) t => mW G u.2 t) (mA G)) 0 0 (mA G) := by
  refine mMet [.ref (k 0), .int kx] (cc := cX5_written) (maxL := 2) (ret := (some .int)) (by decide) rfl (Nat.le_of_ble_eq_true rfl) ?_
  intro p e s m below meth c ls hx hb hr hml hts hown hlk hnm hC hH hl
  have hl : lv_has ls 2 [(0, .ref (k 0)), (1, .int kx)] := hl
  have hfr : frD own f own f := frD.rf
  have n24_ := hG.bs.1
  have hT3_ := hG.bs.2
  have h40_ := hG.h40
  have wl_ := hG.wr.1
  obtain ⟨cb_1, hl_1, hcb_1⟩ := hG.ln
  obtain ⟨⟨lb_1, st_1, nx_1, hq0_1, hlb_1⟩, htr_1, hld_⟩ := hG.lt
  have hlen_ := len_b htr_1.1
  have ol_ := ocn_le tr
  have tn_1 : (nI n).toInt = ((n : Nat) : Int) := nI_toInt (by omega)
  have th_1 : (nI hg).toInt = ((hg : Nat) : Int) := nI_toInt (by omega)
  have tw_1 : (nI wl.length).toInt = ((wl.length : Nat) : Int) := nI_toInt (by omega)
  have te_1 : (eD D 0).1.toInt = ((tr.length : Nat) : Int) := by rw [htr_1.2.1]; exact nI_toInt (by omega)
  refine lv_iload_n hx hb dX5_written_0 rfl (lv_at hl 1 rfl) ?_
  refine lv_if_ge (tgt := 6) hx hb dX5_written_1 (by decide) (fun c_2 => ?_) (fun c_2 => ?_)
  · skip
    have ic_2 : (0 : Int) ≤ kx.toInt := ic_le kI_0 rfl c_2
    refine lv_iload_n hx hb dX5_written_6 rfl (lv_at hl 1 rfl) ?_
    refine lv_aload_n hx hb dX5_written_7 rfl (lv_at hl 0 rfl) ?_
    have F_3 : f (k 0) = some (.inr (5, [.ref (k 1), .int (nI n), .int (nI hg), .ref (k 2), .ref (k 5), .ref (k 13), .ref (k 21), .int ca, .int fe, .int cb_1, .ref (k 3), .int (nI wl.length), .ref (k 4), .int sx])) := by have w_ := hM.c0; rw [hl_1] at w_; exact w_
    refine m_get (ci := 5) (v := .int (nI wl.length)) (C := RX5) (T := TX5) (N := 14) hx hb hC hH hts in_X5_written_X5 hown F_3 rfl 11 (by decide) (hts (.fieldLink RX5 131 "LazyState" "writtenCount" "I") (by decide +kernel)) rfl dX5_written_8 ?_
    refine lv_icmp_ge (tgt := 23) hx hb dX5_written_11 (by decide) (fun c_4 => ?_) (fun c_4 => ?_)
    · skip
      have ic_4 : (((wl.length : Nat) : Int) : Int) ≤ kx.toInt := ic_le tw_1 rfl c_4
      refine lv_bipush (v := (-3)) hx hb dX5_written_23 (by decide) ?_
      exact m_iret (v := (-3)) hx hb hr hlk hC hH own ⟨rfl, ((if_neg (by omega)).trans (if_pos (by omega))).symm⟩ (Nat.le_of_ble_eq_true rfl) (Nat.le_of_ble_eq_true rfl) dX5_written_25
    · skip
      have ic_4 : (((wl.length : Nat) : Int) : Int) > kx.toInt := ic_nle tw_1 rfl c_4
      refine lv_aload_n hx hb dX5_written_14 rfl (lv_at hl 0 rfl) ?_
      refine m_get (ci := 5) (v := .ref (k 3)) (C := RX5) (T := TX5) (N := 14) hx hb hC hH hts in_X5_written_X5 hown F_3 rfl 10 (by decide) (hts (.fieldLink RX5 34 "LazyState" "writtenLeaves" "[I") (by decide +kernel)) rfl dX5_written_15 ?_
      refine lv_iload_n hx hb dX5_written_18 rfl (lv_at hl 1 rfl) ?_
      have hg_5 := hM.c3
      refine m_iald hx hb hC hH hg_5 (vp_in_iff.mpr ⟨by omega, by omega⟩) dX5_written_19 ?_
      refine lv_topi (fun x_6 ex_6 => ?_)
      have en_ : x_6 = nI (wl.getD kx.toNatClampNeg 0) := by rw [ex_6]; exact hG.wr.2 kx.toNatClampNeg (by have := ic_clN (rfl : kx.toInt = _) (by omega); omega)
      refine lv_goto (tgt := 25) hx hb dX5_written_20 (by decide) ?_
      exact m_iret (v := x_6) hx hb hr hlk hC hH own ⟨rfl, en_.trans ((if_neg (by omega)).trans (if_neg (by omega))).symm⟩ (Nat.le_of_ble_eq_true rfl) (Nat.le_of_ble_eq_true rfl) dX5_written_25
  · skip
    have ic_2 : (0 : Int) > kx.toInt := ic_nle kI_0 rfl c_2
    refine lv_iconst (v := (-1)) hx hb dX5_written_4 (by decide) ?_
    exact m_iret (v := (-1)) hx hb hr hlk hC hH own ⟨rfl, (if_pos (by omega)).symm⟩ (Nat.le_of_ble_eq_true rfl) (Nat.le_of_ble_eq_true rfl) dX5_written_5
set_option maxHeartbeats 4000000 in
set_option maxRecDepth 100000 in
theorem c_X5_loaded (l : Launch) (G : mG) (k : Nat → Nat) (own : tR) (n : Nat) (T z : Nat → Nat) (A : Nat → tA) (hg : Nat) (ver : Nat → Nat → tB) (cq : Nat → Bool) (fe : Int32) (tms : Nat → Int32) (ca : Int32) (wl : List Nat) (wh : Int32) (ac th : Nat) (sx : Int32) (ld : Nat → Bool) (tr : List Nat) (gf : Int64) (D : tD) (f : mF) (hM : CM G k own n z D f) (hG : GC n T z A hg ver cq fe tms ca wl wh ac th sx ld tr gf D) (o : Int32) : Met l yX5_loaded wsX5_loaded ({ frames := 1, cells := 0, slots := 0, locals := 21 }) (va_Pc [.ref (k 0), .int o] (mW G f)) (va_Qi (fun (r : Int32) (u : mS) => u.2 = f ∧ r = obA n ld o) (fun (u : mS) t => mW G u.2 t) (mA G)) 0 0 (mA G) := by
  refine mMet [.ref (k 0), .int o] (cc := cX5_loaded) (maxL := 2) (ret := (some .int)) (by decide) rfl (Nat.le_of_ble_eq_true rfl) ?_
  intro p e s m below meth c ls hx hb hr hml hts hown hlk hnm hC hH hl
  have hl : lv_has ls 2 [(0, .ref (k 0)), (1, .int o)] := hl
  have hfr : frD own f own f := frD.rf
  have n24_ := hG.bs.1
  have hT3_ := hG.bs.2
  have h40_ := hG.h40
  have wl_ := hG.wr.1
  obtain ⟨cb_1, hl_1, hcb_1⟩ := hG.ln
  obtain ⟨⟨lb_1, st_1, nx_1, hq0_1, hlb_1⟩, htr_1, hld_⟩ := hG.lt
  have hlen_ := len_b htr_1.1
  have ol_ := ocn_le tr
  have tn_1 : (nI n).toInt = ((n : Nat) : Int) := nI_toInt (by omega)
  have th_1 : (nI hg).toInt = ((hg : Nat) : Int) := nI_toInt (by omega)
  have tw_1 : (nI wl.length).toInt = ((wl.length : Nat) : Int) := nI_toInt (by omega)
  have te_1 : (eD D 0).1.toInt = ((tr.length : Nat) : Int) := by rw [htr_1.2.1]; exact nI_toInt (by omega)
  refine lv_aload_n hx hb dX5_loaded_0 rfl (lv_at hl 0 rfl) ?_
  refine lv_iload_n hx hb dX5_loaded_1 rfl (lv_at hl 1 rfl) ?_
  have F_5 : f (k 0) = some (.inr (5, [.ref (k 1), .int (nI n), .int (nI hg), .ref (k 2), .ref (k 5), .ref (k 13), .ref (k 21), .int ca, .int fe, .int cb_1, .ref (k 3), .int (nI wl.length), .ref (k 4), .int sx])) := by have w_ := hM.c0; rw [hl_1] at w_; exact w_
  refine m_goi hH (va_runV (As := [.int o]) (rest := []) ⟨hx, hb, hml, hown, hts⟩ (c_X5_isObject l G k own n T z A hg ver cq fe tms ca wl wh ac th sx ld tr gf D f hM hG o) (cwV 1 hts gX5_loaded_X5_isObject rfl rfl rfl (by decide +kernel) ⟨Nat.le_of_ble_eq_true rfl, Nat.le_of_ble_eq_true rfl⟩) (m_preV (ci := 5) hC hH F_5 rfl) rfl rfl hl.1 rfl (lv_room (Nat.le_of_ble_eq_true rfl)) dX5_loaded_2 ⟨Nat.le_of_ble_eq_true rfl, Nat.le_of_ble_eq_true rfl⟩) (fun r_2 rho_4 f_3 H locs hw hH => ?_)
  obtain ⟨hu, hr_2⟩ := hw
  have hu : f_3 = f := hu
  rw [hu] at hH
  try dsimp only at hr_2
  refine lv_if_eq (tgt := 22) hx hb dX5_loaded_5 (by decide) (fun c_6 => ?_) (fun c_6 => ?_)
  · skip
    have ic_6 : (r_2.toInt : Int) = 0 := ic_eq rfl kI_0 c_6
    refine lv_iconst (v := (-1)) hx hb dX5_loaded_22 (by decide) ?_
    exact m_iret (v := (-1)) hx hb hr hlk hC hH own ⟨rfl, (if_neg (by omega)).symm⟩ (Nat.le_of_ble_eq_true rfl) (Nat.le_of_ble_eq_true rfl) dX5_loaded_23
  · skip
    have ic_6 : (r_2.toInt : Int) ≠ 0 := ic_ne rfl kI_0 c_6
    refine lv_aload_n hx hb dX5_loaded_8 rfl (lv_at hl 0 rfl) ?_
    refine m_get (ci := 5) (v := .ref (k 5)) (C := RX5) (T := TX5) (N := 14) hx hb hC hH hts in_X5_loaded_X5 hown F_5 rfl 4 (by decide) (hts (.fieldLink RX5 24 "LazyState" "latest" "LLazyState$Run;") (by decide +kernel)) rfl dX5_loaded_9 ?_
    have F_7 : f (k 5) = some (.inr (3, [.ref (k 6), .int lb_1, .int (nI ac), .long gf, .int (nI th), .int wh, va_rf st_1, .ref (k 10), .ref (k 11), .ref (k 12), .int nx_1])) := by have w_ := hM.r0 0 (by decide); rw [hq0_1] at w_; exact w_
    refine m_get (ci := 3) (v := .int lb_1) (C := RX3) (T := TX3) (N := 11) hx hb hC hH hts in_X5_loaded_X3 hown F_7 rfl 1 (by decide) (hts (.fieldLink RX5 119 "LazyState$Run" "loadedBits" "I") (by decide +kernel)) rfl dX5_loaded_12 ?_
    refine lv_iload_n hx hb dX5_loaded_15 rfl (lv_at hl 1 rfl) ?_
    refine m_goi hH (va_runS (As := [.int lb_1, .int o]) (rest := []) ⟨hx, hb, hml, hown, hts⟩ (c_X5_bitOf l G f lb_1 o) (va_cwS 2 hts gX5_loaded_X5_bitOf rfl rfl rfl (by decide +kernel) ⟨Nat.le_of_ble_eq_true rfl, Nat.le_of_ble_eq_true rfl⟩) (m_preS hC hH) rfl rfl hl.1 rfl (lv_room (Nat.le_of_ble_eq_true rfl)) dX5_loaded_16 ⟨Nat.le_of_ble_eq_true rfl, Nat.le_of_ble_eq_true rfl⟩) (fun r_8 rho_10 f_9 H locs hw hH => ?_)
    obtain ⟨hu, hr_8⟩ := hw
    have hu : f_9 = f := hu
    rw [hu] at hH
    try dsimp only at hr_8
    have bq_ : r_8 = b2i (ld o.toNatClampNeg) := by have w_ := bt_get (x := lb_1) (j := o.toNatClampNeg) (by have := ic_clN (rfl : o.toInt = _) (by omega); omega); rw [nI_ofC (by omega)] at w_; rw [hr_8, w_, hlb_1 o.toNatClampNeg (by have := ic_clN (rfl : o.toInt = _) (by omega); omega)]
    refine lv_goto (tgt := 23) hx hb dX5_loaded_19 (by decide) ?_
    exact m_iret (v := r_8) hx hb hr hlk hC hH own ⟨rfl, bq_.trans (if_pos (by omega)).symm⟩ (Nat.le_of_ble_eq_true rfl) (Nat.le_of_ble_eq_true rfl) dX5_loaded_23
set_option maxHeartbeats 4000000 in
set_option maxRecDepth 100000 in
theorem c_X5_cached (l : Launch) (G : mG) (k : Nat → Nat) (own : tR) (n : Nat) (T z : Nat → Nat) (A : Nat → tA) (hg : Nat) (ver : Nat → Nat → tB) (cq : Nat → Bool) (fe : Int32) (tms : Nat → Int32) (ca : Int32) (wl : List Nat) (wh : Int32) (ac th : Nat) (sx : Int32) (ld : Nat → Bool) (tr : List Nat) (gf : Int64) (D : tD) (f : mF) (hM : CM G k own n z D f) (hG : GC n T z A hg ver cq fe tms ca wl wh ac th sx ld tr gf D) (o : Int32) : Met l yX5_cached wsX5_cached ({ frames := 1, cells := 0, slots := 0, locals := 21 }) (va_Pc [.ref (k 0), .int o] (mW G f)) (va_Qi (fun (r : Int32) (u : mS) => u.2 = f ∧ r = obA n cq o) (fun (u : mS) t => mW G u.2 t) (mA G)) 0 0 (mA G) := by
  refine mMet [.ref (k 0), .int o] (cc := cX5_cached) (maxL := 2) (ret := (some .int)) (by decide) rfl (Nat.le_of_ble_eq_true rfl) ?_
  intro p e s m below meth c ls hx hb hr hml hts hown hlk hnm hC hH hl
  have hl : lv_has ls 2 [(0, .ref (k 0)), (1, .int o)] := hl
  have hfr : frD own f own f := frD.rf
  have n24_ := hG.bs.1
  have hT3_ := hG.bs.2
  have h40_ := hG.h40
  have wl_ := hG.wr.1
  obtain ⟨cb_1, hl_1, hcb_1⟩ := hG.ln
  obtain ⟨⟨lb_1, st_1, nx_1, hq0_1, hlb_1⟩, htr_1, hld_⟩ := hG.lt
  have hlen_ := len_b htr_1.1
  have ol_ := ocn_le tr
  have tn_1 : (nI n).toInt = ((n : Nat) : Int) := nI_toInt (by omega)
  have th_1 : (nI hg).toInt = ((hg : Nat) : Int) := nI_toInt (by omega)
  have tw_1 : (nI wl.length).toInt = ((wl.length : Nat) : Int) := nI_toInt (by omega)
  have te_1 : (eD D 0).1.toInt = ((tr.length : Nat) : Int) := by rw [htr_1.2.1]; exact nI_toInt (by omega)
  refine lv_aload_n hx hb dX5_cached_0 rfl (lv_at hl 0 rfl) ?_
  refine lv_iload_n hx hb dX5_cached_1 rfl (lv_at hl 1 rfl) ?_
  have F_5 : f (k 0) = some (.inr (5, [.ref (k 1), .int (nI n), .int (nI hg), .ref (k 2), .ref (k 5), .ref (k 13), .ref (k 21), .int ca, .int fe, .int cb_1, .ref (k 3), .int (nI wl.length), .ref (k 4), .int sx])) := by have w_ := hM.c0; rw [hl_1] at w_; exact w_
  refine m_goi hH (va_runV (As := [.int o]) (rest := []) ⟨hx, hb, hml, hown, hts⟩ (c_X5_isObject l G k own n T z A hg ver cq fe tms ca wl wh ac th sx ld tr gf D f hM hG o) (cwV 1 hts gX5_cached_X5_isObject rfl rfl rfl (by decide +kernel) ⟨Nat.le_of_ble_eq_true rfl, Nat.le_of_ble_eq_true rfl⟩) (m_preV (ci := 5) hC hH F_5 rfl) rfl rfl hl.1 rfl (lv_room (Nat.le_of_ble_eq_true rfl)) dX5_cached_2 ⟨Nat.le_of_ble_eq_true rfl, Nat.le_of_ble_eq_true rfl⟩) (fun r_2 rho_4 f_3 H locs hw hH => ?_)
  obtain ⟨hu, hr_2⟩ := hw
  have hu : f_3 = f := hu
  rw [hu] at hH
  try dsimp only at hr_2
  refine lv_if_eq (tgt := 19) hx hb dX5_cached_5 (by decide) (fun c_6 => ?_) (fun c_6 => ?_)
  · skip
    have ic_6 : (r_2.toInt : Int) = 0 := ic_eq rfl kI_0 c_6
    refine lv_iconst (v := (-1)) hx hb dX5_cached_19 (by decide) ?_
    exact m_iret (v := (-1)) hx hb hr hlk hC hH own ⟨rfl, (if_neg (by omega)).symm⟩ (Nat.le_of_ble_eq_true rfl) (Nat.le_of_ble_eq_true rfl) dX5_cached_20
  · skip
    have ic_6 : (r_2.toInt : Int) ≠ 0 := ic_ne rfl kI_0 c_6
    refine lv_aload_n hx hb dX5_cached_8 rfl (lv_at hl 0 rfl) ?_
    refine m_get (ci := 5) (v := .int cb_1) (C := RX5) (T := TX5) (N := 14) hx hb hC hH hts in_X5_cached_X5 hown F_5 rfl 9 (by decide) (hts (.fieldLink RX5 122 "LazyState" "cachedBits" "I") (by decide +kernel)) rfl dX5_cached_9 ?_
    refine lv_iload_n hx hb dX5_cached_12 rfl (lv_at hl 1 rfl) ?_
    refine m_goi hH (va_runS (As := [.int cb_1, .int o]) (rest := []) ⟨hx, hb, hml, hown, hts⟩ (c_X5_bitOf l G f cb_1 o) (va_cwS 2 hts gX5_cached_X5_bitOf rfl rfl rfl (by decide +kernel) ⟨Nat.le_of_ble_eq_true rfl, Nat.le_of_ble_eq_true rfl⟩) (m_preS hC hH) rfl rfl hl.1 rfl (lv_room (Nat.le_of_ble_eq_true rfl)) dX5_cached_13 ⟨Nat.le_of_ble_eq_true rfl, Nat.le_of_ble_eq_true rfl⟩) (fun r_7 rho_9 f_8 H locs hw hH => ?_)
    obtain ⟨hu, hr_7⟩ := hw
    have hu : f_8 = f := hu
    rw [hu] at hH
    try dsimp only at hr_7
    have bq_ : r_7 = b2i (cq o.toNatClampNeg) := by have w_ := bt_get (x := cb_1) (j := o.toNatClampNeg) (by have := ic_clN (rfl : o.toInt = _) (by omega); omega); rw [nI_ofC (by omega)] at w_; rw [hr_7, w_, hcb_1 o.toNatClampNeg (by have := ic_clN (rfl : o.toInt = _) (by omega); omega)]
    refine lv_goto (tgt := 20) hx hb dX5_cached_16 (by decide) ?_
    exact m_iret (v := r_7) hx hb hr hlk hC hH own ⟨rfl, bq_.trans (if_pos (by omega)).symm⟩ (Nat.le_of_ble_eq_true rfl) (Nat.le_of_ble_eq_true rfl) dX5_cached_20
set_option maxHeartbeats 4000000 in
set_option maxRecDepth 100000 in
theorem c_X5_hint (l : Launch) (G : mG) (k : Nat → Nat) (own : tR) (n : Nat) (T z : Nat → Nat) (A : Nat → tA) (hg : Nat) (ver : Nat → Nat → tB) (cq : Nat → Bool) (fe : Int32) (tms : Nat → Int32) (ca : Int32) (wl : List Nat) (wh : Int32) (ac th : Nat) (sx : Int32) (ld : Nat → Bool) (tr : List Nat) (gf : Int64) (D : tD) (f : mF) (hM : CM G k own n z D f) (hG : GC n T z A hg ver cq fe tms ca wl wh ac th sx ld tr gf D) (o : Int32) : Met l yX5_hint wsX5_hint ({ frames := 1, cells := 0, slots := 0, locals := 21 }) (va_Pc [.ref (k 0), .int o] (mW G f)) (va_Qi (fun (r : Int32) (u : mS) => frD own f u.1 u.2 ∧ r = htA n cq o ∧ ((¬ (0 ≤ o.toInt ∧ o.toInt < n) ∧ (∃ D2, CM G k u.1 n z D2 u.2 ∧ GC n T z A hg ver cq fe tms ca wl wh ac th sx ld tr gf D2)) ∨ ((0 ≤ o.toInt ∧ o.toInt < n) ∧ (∃ D2, CM G k u.1 n z D2 u.2 ∧ GC n T z A hg ver (va_up cq o.toNatClampNeg true) (fe + htA n cq o) tms ca wl wh ac th sx ld tr gf D2)))) (fun (u : mS) t => mW G u.2 t) (mA G)) 0 0 (mA G) := by
  refine mMet [.ref (k 0), .int o] (cc := cX5_hint) (maxL := 3) (ret := (some .int)) (by decide) rfl (Nat.le_of_ble_eq_true rfl) ?_
  intro p e s m below meth c ls hx hb hr hml hts hown hlk hnm hC hH hl
  have hl : lv_has ls 3 [(0, .ref (k 0)), (1, .int o)] := hl
  have hfr : frD own f own f := frD.rf
  have n24_ := hG.bs.1
  have hT3_ := hG.bs.2
  have h40_ := hG.h40
  have wl_ := hG.wr.1
  obtain ⟨cb_1, hl_1, hcb_1⟩ := hG.ln
  obtain ⟨⟨lb_1, st_1, nx_1, hq0_1, hlb_1⟩, htr_1, hld_⟩ := hG.lt
  have hlen_ := len_b htr_1.1
  have ol_ := ocn_le tr
  have tn_1 : (nI n).toInt = ((n : Nat) : Int) := nI_toInt (by omega)
  have th_1 : (nI hg).toInt = ((hg : Nat) : Int) := nI_toInt (by omega)
  have tw_1 : (nI wl.length).toInt = ((wl.length : Nat) : Int) := nI_toInt (by omega)
  have te_1 : (eD D 0).1.toInt = ((tr.length : Nat) : Int) := by rw [htr_1.2.1]; exact nI_toInt (by omega)
  refine lv_aload_n hx hb dX5_hint_0 rfl (lv_at hl 0 rfl) ?_
  refine lv_iload_n hx hb dX5_hint_1 rfl (lv_at hl 1 rfl) ?_
  have F_5 : f (k 0) = some (.inr (5, [.ref (k 1), .int (nI n), .int (nI hg), .ref (k 2), .ref (k 5), .ref (k 13), .ref (k 21), .int ca, .int fe, .int cb_1, .ref (k 3), .int (nI wl.length), .ref (k 4), .int sx])) := by have w_ := hM.c0; rw [hl_1] at w_; exact w_
  refine m_goi hH (va_runV (As := [.int o]) (rest := []) ⟨hx, hb, hml, hown, hts⟩ (c_X5_isObject l G k own n T z A hg ver cq fe tms ca wl wh ac th sx ld tr gf D f hM hG o) (cwV 1 hts gX5_hint_X5_isObject rfl rfl rfl (by decide +kernel) ⟨Nat.le_of_ble_eq_true rfl, Nat.le_of_ble_eq_true rfl⟩) (m_preV (ci := 5) hC hH F_5 rfl) rfl rfl hl.1 rfl (lv_room (Nat.le_of_ble_eq_true rfl)) dX5_hint_2 ⟨Nat.le_of_ble_eq_true rfl, Nat.le_of_ble_eq_true rfl⟩) (fun r_2 rho_4 f_3 H locs hw hH => ?_)
  obtain ⟨hu, hr_2⟩ := hw
  have hu : f_3 = f := hu
  rw [hu] at hH
  try dsimp only at hr_2
  refine lv_if_ne (tgt := 10) hx hb dX5_hint_5 (by decide) (fun c_6 => ?_) (fun c_6 => ?_)
  · skip
    have ic_6 : (r_2.toInt : Int) ≠ 0 := ic_ne rfl kI_0 c_6
    refine lv_iconst (v := 1) hx hb dX5_hint_10 (by decide) ?_
    refine lv_aload_n hx hb dX5_hint_11 rfl (lv_at hl 0 rfl) ?_
    refine m_get (ci := 5) (v := .int cb_1) (C := RX5) (T := TX5) (N := 14) hx hb hC hH hts in_X5_hint_X5 hown F_5 rfl 9 (by decide) (hts (.fieldLink RX5 122 "LazyState" "cachedBits" "I") (by decide +kernel)) rfl dX5_hint_12 ?_
    refine lv_iload_n hx hb dX5_hint_15 rfl (lv_at hl 1 rfl) ?_
    refine m_goi hH (va_runS (As := [.int cb_1, .int o]) (rest := [.int 1]) ⟨hx, hb, hml, hown, hts⟩ (c_X5_bitOf l G f cb_1 o) (va_cwS 2 hts gX5_hint_X5_bitOf rfl rfl rfl (by decide +kernel) ⟨Nat.le_of_ble_eq_true rfl, Nat.le_of_ble_eq_true rfl⟩) (m_preS hC hH) rfl rfl hl.1 rfl (lv_room (Nat.le_of_ble_eq_true rfl)) dX5_hint_16 ⟨Nat.le_of_ble_eq_true rfl, Nat.le_of_ble_eq_true rfl⟩) (fun r_7 rho_9 f_8 H locs hw hH => ?_)
    obtain ⟨hu, hr_7⟩ := hw
    have hu : f_8 = f := hu
    rw [hu] at hH
    try dsimp only at hr_7
    have bq_ : r_7 = b2i (cq o.toNatClampNeg) := by have w_ := bt_get (x := cb_1) (j := o.toNatClampNeg) (by have := ic_clN (rfl : o.toInt = _) (by omega); omega); rw [nI_ofC (by omega)] at w_; rw [hr_7, w_, hcb_1 o.toNatClampNeg (by have := ic_clN (rfl : o.toInt = _) (by omega); omega)]
    refine lv_isub hx hb dX5_hint_19 ?_
    refine lv_topi (fun x_10 ex_10 => ?_)
    have sb_ : x_10 = htA n cq o := by rw [ex_10, bq_]; exact (b2i_not _).trans (if_pos (show 0 ≤ o.toInt ∧ o.toInt < n from by omega)).symm
    refine lv_istore_n (lv' := [(2, .int x_10), (0, .ref (k 0)), (1, .int o)]) hx hb dX5_hint_20 rfl hl (by decide) rfl (fun ls hl => ?_)
    refine lv_aload_n hx hb dX5_hint_21 rfl (lv_at hl 1 rfl) ?_
    refine lv_dup hx hb dX5_hint_22 rfl ?_
    refine m_get (ci := 5) (v := .int fe) (C := RX5) (T := TX5) (N := 14) hx hb hC hH hts in_X5_hint_X5 hown F_5 rfl 8 (by decide) (hts (.fieldLink RX5 116 "LazyState" "fetchCount" "I") (by decide +kernel)) rfl dX5_hint_23 ?_
    refine lv_iload_n hx hb dX5_hint_26 rfl (lv_at hl 0 rfl) ?_
    refine lv_iadd hx hb dX5_hint_27 ?_
    refine lv_topi (fun x_11 ex_11 => ?_)
    have fz_ : x_11 = fe + htA n cq o := by rw [ex_11, sb_]
    rw [fz_]
    refine m_put (ci := 5) (v := .int (fe + htA n cq o)) (C := RX5) (T := TX5) (N := 14) hx hb hC hH hts in_X5_hint_X5 tyX5 tyX5_ok nmX5 hown F_5 rfl 8 (by decide) (hts (.fieldLink RX5 116 "LazyState" "fetchCount" "I") (by decide +kernel)) rfl rfl rfl (Nat.le_of_ble_eq_true rfl) dX5_hint_28 (fun H locs hH => ?_)
    have hH : mH G s (va_up f (k 0) (some (.inr (5, [.ref (k 1), .int (nI n), .int (nI hg), .ref (k 2), .ref (k 5), .ref (k 13), .ref (k 21), .int ca, .int (fe + htA n cq o), .int cb_1, .ref (k 3), .int (nI wl.length), .ref (k 4), .int sx])))) H locs := hH
    obtain ⟨f_12, ef_12⟩ : ∃ zz_ : mF, zz_ = va_up f (k 0) (some (.inr (5, [.ref (k 1), .int (nI n), .int (nI hg), .ref (k 2), .ref (k 5), .ref (k 13), .ref (k 21), .int ca, .int (fe + htA n cq o), .int cb_1, .ref (k 3), .int (nI wl.length), .ref (k 4), .int sx]))) := ⟨_, rfl⟩
    rw [← ef_12] at hH
    have hfr := hfr.up (by rw [hM.ok 0 (by omega)]; exact (by decide : (1 : Nat) ≠ 0)) ef_12
    have hM := hM.setL (n2 := n) (c := (nI hg, ca, fe + htA n cq o, cb_1, nI wl.length, sx)) ef_12
    have hG := hG.L (cq2 := cq) (fe2 := fe + htA n cq o) (ca2 := ca) (cb2 := cb_1) (sx2 := sx) hcb_1
    obtain ⟨D_13, eD_13⟩ : ∃ d_ : tD, d_ = dL D (nI hg, ca, fe + htA n cq o, cb_1, nI wl.length, sx) := ⟨_, rfl⟩
    have hM : CM G k own n z D_13 f_12 := by rw [eD_13]; exact hM
    have hG : GC n T z A hg ver cq (fe + htA n cq o) tms ca wl wh ac th sx ld tr gf D_13 := by rw [eD_13]; exact hG
    have n24_ := hG.bs.1
    have hT3_ := hG.bs.2
    have h40_ := hG.h40
    have wl_ := hG.wr.1
    obtain ⟨cb_14, hl_14, hcb_14⟩ := hG.ln
    obtain ⟨⟨lb_14, st_14, nx_14, hq0_14, hlb_14⟩, htr_14, hld_⟩ := hG.lt
    have hlen_ := len_b htr_14.1
    have ol_ := ocn_le tr
    have tn_14 : (nI n).toInt = ((n : Nat) : Int) := nI_toInt (by omega)
    have th_14 : (nI hg).toInt = ((hg : Nat) : Int) := nI_toInt (by omega)
    have tw_14 : (nI wl.length).toInt = ((wl.length : Nat) : Int) := nI_toInt (by omega)
    have te_14 : (eD D_13 0).1.toInt = ((tr.length : Nat) : Int) := by rw [htr_14.2.1]; exact nI_toInt (by omega)
    refine lv_aload_n hx hb dX5_hint_31 rfl (lv_at hl 1 rfl) ?_
    refine lv_dup hx hb dX5_hint_32 rfl ?_
    have F_15 : f_12 (k 0) = some (.inr (5, [.ref (k 1), .int (nI n), .int (nI hg), .ref (k 2), .ref (k 5), .ref (k 13), .ref (k 21), .int ca, .int (fe + htA n cq o), .int cb_14, .ref (k 3), .int (nI wl.length), .ref (k 4), .int sx])) := by have w_ := hM.c0; rw [hl_14] at w_; exact w_
    refine m_get (ci := 5) (v := .int cb_14) (C := RX5) (T := TX5) (N := 14) hx hb hC hH hts in_X5_hint_X5 hown F_15 rfl 9 (by decide) (hts (.fieldLink RX5 122 "LazyState" "cachedBits" "I") (by decide +kernel)) rfl dX5_hint_33 ?_
    refine lv_iconst (v := 1) hx hb dX5_hint_36 (by decide) ?_
    refine lv_iload_n hx hb dX5_hint_37 rfl (lv_at hl 2 rfl) ?_
    refine lv_ishl hx hb dX5_hint_38 ?_
    refine lv_topi (fun x_16 ex_16 => ?_)
    refine lv_ior hx hb dX5_hint_39 ?_
    refine lv_topi (fun x_17 ex_17 => ?_)
    refine m_put (ci := 5) (v := .int x_17) (C := RX5) (T := TX5) (N := 14) hx hb hC hH hts in_X5_hint_X5 tyX5 tyX5_ok nmX5 hown F_15 rfl 9 (by decide) (hts (.fieldLink RX5 122 "LazyState" "cachedBits" "I") (by decide +kernel)) rfl rfl rfl (Nat.le_of_ble_eq_true rfl) dX5_hint_40 (fun H locs hH => ?_)
    have hH : mH G s (va_up f_12 (k 0) (some (.inr (5, [.ref (k 1), .int (nI n), .int (nI hg), .ref (k 2), .ref (k 5), .ref (k 13), .ref (k 21), .int ca, .int (fe + htA n cq o), .int x_17, .ref (k 3), .int (nI wl.length), .ref (k 4), .int sx])))) H locs := hH
    obtain ⟨f_18, ef_18⟩ : ∃ zz_ : mF, zz_ = va_up f_12 (k 0) (some (.inr (5, [.ref (k 1), .int (nI n), .int (nI hg), .ref (k 2), .ref (k 5), .ref (k 13), .ref (k 21), .int ca, .int (fe + htA n cq o), .int x_17, .ref (k 3), .int (nI wl.length), .ref (k 4), .int sx]))) := ⟨_, rfl⟩
    rw [← ef_18] at hH
    have ov_ : x_17 = (cb_14 ||| ((1 : Int32) <<< (nI o.toNatClampNeg &&& 31))) := by rw [ex_17, ex_16, nI_ofC (by omega)]
    rw [ov_] at ef_18
    have hfr := hfr.up (by rw [hM.ok 0 (by omega)]; exact (by decide : (1 : Nat) ≠ 0)) ef_18
    have hM := hM.setL (n2 := n) (c := (nI hg, ca, fe + htA n cq o, (cb_14 ||| ((1 : Int32) <<< (nI o.toNatClampNeg &&& 31))), nI wl.length, sx)) ef_18
    have hG := hG.L (cq2 := va_up cq o.toNatClampNeg true) (fe2 := fe + htA n cq o) (ca2 := ca) (cb2 := (cb_14 ||| ((1 : Int32) <<< (nI o.toNatClampNeg &&& 31)))) (sx2 := sx) (fun q_ hq_ => by rw [bt_or (by have := ic_clN (rfl : o.toInt = _) (by omega); omega) (by omega), hcb_14 q_ hq_]; unfold va_up; split; (rename_i z_; rw [z_]; simp); (rename_i z_; simp [z_]))
    obtain ⟨D_19, eD_19⟩ : ∃ d_ : tD, d_ = dL D_13 (nI hg, ca, fe + htA n cq o, (cb_14 ||| ((1 : Int32) <<< (nI o.toNatClampNeg &&& 31))), nI wl.length, sx) := ⟨_, rfl⟩
    have hM : CM G k own n z D_19 f_18 := by rw [eD_19]; exact hM
    have hG : GC n T z A hg ver (va_up cq o.toNatClampNeg true) (fe + htA n cq o) tms ca wl wh ac th sx ld tr gf D_19 := by rw [eD_19]; exact hG
    refine lv_iload_n hx hb dX5_hint_43 rfl (lv_at hl 0 rfl) ?_
    exact m_iret (v := x_10) hx hb hr hlk hC hH own ⟨hfr, sb_, Or.inr ⟨by omega, _, hM, hG⟩⟩ (Nat.le_of_ble_eq_true rfl) (Nat.le_of_ble_eq_true rfl) dX5_hint_44
  · skip
    have ic_6 : (r_2.toInt : Int) = 0 := ic_eq rfl kI_0 c_6
    refine lv_iconst (v := (-1)) hx hb dX5_hint_8 (by decide) ?_
    exact m_iret (v := (-1)) hx hb hr hlk hC hH own ⟨hfr, (if_neg (by omega)).symm, Or.inl ⟨by omega, _, hM, hG⟩⟩ (Nat.le_of_ble_eq_true rfl) (Nat.le_of_ble_eq_true rfl) dX5_hint_9
set_option maxHeartbeats 4000000 in
set_option maxRecDepth 100000 in
theorem c_X5_times (l : Launch) (G : mG) (k : Nat → Nat) (own : tR) (n : Nat) (T z : Nat → Nat) (A : Nat → tA) (hg : Nat) (ver : Nat → Nat → tB) (cq : Nat → Bool) (fe : Int32) (tms : Nat → Int32) (ca : Int32) (wl : List Nat) (wh : Int32) (ac th : Nat) (sx : Int32) (ld : Nat → Bool) (tr : List Nat) (gf : Int64) (D : tD) (f : mF) (hM : CM G k own n z D f) (hG : GC n T z A hg ver cq fe tms ca wl wh ac th sx ld tr gf D) (lf : Int32) : Met l yX5_times wsX5_times ({ frames := 2, cells := 0, slots := 0, locals := 43 }) (va_Pc [.ref (k 0), .int lf] (mW G f)) (va_Qi (fun (r : Int32) (u : mS) => u.2 = f ∧ r = tmA n T tms lf) (fun (u : mS) t => mW G u.2 t) (mA G)) 0 0 (mA G) := by
  refine mMet [.ref (k 0), .int lf] (cc := cX5_times) (maxL := 2) (ret := (some .int)) (by decide) rfl (Nat.le_of_ble_eq_true rfl) ?_
  intro p e s m below meth c ls hx hb hr hml hts hown hlk hnm hC hH hl
  have hl : lv_has ls 2 [(0, .ref (k 0)), (1, .int lf)] := hl
  have hfr : frD own f own f := frD.rf
  have n24_ := hG.bs.1
  have hT3_ := hG.bs.2
  have h40_ := hG.h40
  have wl_ := hG.wr.1
  obtain ⟨cb_1, hl_1, hcb_1⟩ := hG.ln
  obtain ⟨⟨lb_1, st_1, nx_1, hq0_1, hlb_1⟩, htr_1, hld_⟩ := hG.lt
  have hlen_ := len_b htr_1.1
  have ol_ := ocn_le tr
  have tn_1 : (nI n).toInt = ((n : Nat) : Int) := nI_toInt (by omega)
  have th_1 : (nI hg).toInt = ((hg : Nat) : Int) := nI_toInt (by omega)
  have tw_1 : (nI wl.length).toInt = ((wl.length : Nat) : Int) := nI_toInt (by omega)
  have te_1 : (eD D 0).1.toInt = ((tr.length : Nat) : Int) := by rw [htr_1.2.1]; exact nI_toInt (by omega)
  refine lv_iload_n hx hb dX5_times_0 rfl (lv_at hl 1 rfl) ?_
  refine lv_if_lt (tgt := 19) hx hb dX5_times_1 (by decide) (fun c_2 => ?_) (fun c_2 => ?_)
  · skip
    have ic_2 : (lf.toInt : Int) < 0 := ic_lt rfl kI_0 c_2
    refine lv_iconst (v := (-1)) hx hb dX5_times_19 (by decide) ?_
    exact m_iret (v := (-1)) hx hb hr hlk hC hH own ⟨rfl, (if_neg (fun z_ => by omega)).symm⟩ (Nat.le_of_ble_eq_true rfl) (Nat.le_of_ble_eq_true rfl) dX5_times_20
  · skip
    have ic_2 : (lf.toInt : Int) ≥ 0 := ic_nlt rfl kI_0 c_2
    refine lv_aload_n hx hb dX5_times_4 rfl (lv_at hl 0 rfl) ?_
    refine lv_iload_n hx hb dX5_times_5 rfl (lv_at hl 1 rfl) ?_
    refine lv_bipush (v := 8) hx hb dX5_times_6 (by decide) ?_
    refine lv_idiv hx hb dX5_times_8 (by decide) ?_
    refine lv_topi (fun x_3 ex_3 => ?_)
    have ix_3 : x_3.toInt = lf.toInt / 8 := ic_div8 ex_3 rfl (by omega)
    refine lv_iload_n hx hb dX5_times_9 rfl (lv_at hl 1 rfl) ?_
    refine lv_bipush (v := 8) hx hb dX5_times_10 (by decide) ?_
    refine lv_irem hx hb dX5_times_12 (by decide) ?_
    refine lv_topi (fun x_4 ex_4 => ?_)
    have ix_4 : x_4.toInt = lf.toInt % 8 := ic_rem8 ex_4 rfl (by omega)
    have F_8 : f (k 0) = some (.inr (5, [.ref (k 1), .int (nI n), .int (nI hg), .ref (k 2), .ref (k 5), .ref (k 13), .ref (k 21), .int ca, .int fe, .int cb_1, .ref (k 3), .int (nI wl.length), .ref (k 4), .int sx])) := by have w_ := hM.c0; rw [hl_1] at w_; exact w_
    refine m_goi hH (va_runV (As := [.int x_3, .int x_4]) (rest := []) ⟨hx, hb, hml, hown, hts⟩ (c_X5_sortAt l G k own n T z A hg ver cq fe tms ca wl wh ac th sx ld tr gf D f hM hG x_3 x_4) (cwV 2 hts gX5_times_X5_sortAt rfl rfl rfl (by decide +kernel) ⟨Nat.le_of_ble_eq_true rfl, Nat.le_of_ble_eq_true rfl⟩) (m_preV (ci := 5) hC hH F_8 rfl) rfl rfl hl.1 rfl (lv_room (Nat.le_of_ble_eq_true rfl)) dX5_times_13 ⟨Nat.le_of_ble_eq_true rfl, Nat.le_of_ble_eq_true rfl⟩) (fun r_5 rho_7 f_6 H locs hw hH => ?_)
    obtain ⟨hu, hr_5⟩ := hw
    have hu : f_6 = f := hu
    rw [hu] at hH
    try dsimp only at hr_5
    refine lv_if_ne (tgt := 21) hx hb dX5_times_16 (by decide) (fun c_9 => ?_) (fun c_9 => ?_)
    · skip
      have ic_9 : (r_5.toInt : Int) ≠ 0 := ic_ne rfl kI_0 c_9
      have c8_ := ic_clN (rfl : lf.toInt = _) (by omega)
      obtain ⟨ta_, tb_⟩ := hr_5.resolve_right (fun q_ => by omega)
      have e1_ : x_3.toNatClampNeg = lf.toNatClampNeg / 8 := by have := ic_clN (rfl : x_3.toInt = _) (by omega); omega
      have e2_ : x_4.toNatClampNeg = lf.toNatClampNeg % 8 := by have := ic_clN (rfl : x_4.toInt = _) (by omega); omega
      have tc_ : srt (T (lf.toNatClampNeg / 8)) (lf.toNatClampNeg % 8) ≠ 0 := fun z_ => by rw [e1_, e2_, z_] at tb_; rw [tb_] at ic_9; exact ic_9 rfl
      refine lv_aload_n hx hb dX5_times_21 rfl (lv_at hl 0 rfl) ?_
      refine m_get (ci := 5) (v := .ref (k 4)) (C := RX5) (T := TX5) (N := 14) hx hb hC hH hts in_X5_times_X5 hown F_8 rfl 12 (by decide) (hts (.fieldLink RX5 38 "LazyState" "writeCounts" "[I") (by decide +kernel)) rfl dX5_times_22 ?_
      refine lv_iload_n hx hb dX5_times_25 rfl (lv_at hl 1 rfl) ?_
      have hg_10 := hM.c4
      refine m_iald hx hb hC hH hg_10 (vp_in_iff.mpr ⟨by omega, by omega⟩) dX5_times_26 ?_
      refine lv_topi (fun x_11 ex_11 => ?_)
      have en_ : x_11 = tms lf.toNatClampNeg := by rw [ex_11]; exact hG.tm lf.toNatClampNeg (by omega)
      exact m_iret (v := x_11) hx hb hr hlk hC hH own ⟨rfl, en_.trans (if_pos ⟨by omega, by omega, by omega, tc_⟩).symm⟩ (Nat.le_of_ble_eq_true rfl) (Nat.le_of_ble_eq_true rfl) dX5_times_27
    · skip
      have ic_9 : (r_5.toInt : Int) = 0 := ic_eq rfl kI_0 c_9
      have c8_ := ic_clN (rfl : lf.toInt = _) (by omega)
      have tn0_ : ¬ (0 ≤ lf.toInt ∧ lf.toInt < 192 ∧ lf.toNatClampNeg / 8 < n ∧ srt (T (lf.toNatClampNeg / 8)) (lf.toNatClampNeg % 8) ≠ 0) := fun z_ => by have e1_ : x_3.toNatClampNeg = lf.toNatClampNeg / 8 := (by have := ic_clN (rfl : x_3.toInt = _) (by omega); omega); have e2_ : x_4.toNatClampNeg = lf.toNatClampNeg % 8 := (by have := ic_clN (rfl : x_4.toInt = _) (by omega); omega); rcases hr_5 with ⟨a_, b_⟩ | ⟨a_, b_⟩; (rw [e1_, e2_] at b_; have b2_ := srt_b (T (lf.toNatClampNeg / 8)) (hT3_ _) (lf.toNatClampNeg % 8) (by omega); have b3_ : r_5.toInt = _ := (congrArg Int32.toInt b_).trans (nI_toInt (by omega)); omega); exact a_ (by omega)
      refine lv_iconst (v := (-1)) hx hb dX5_times_19 (by decide) ?_
      exact m_iret (v := (-1)) hx hb hr hlk hC hH own ⟨rfl, (if_neg tn0_).symm⟩ (Nat.le_of_ble_eq_true rfl) (Nat.le_of_ble_eq_true rfl) dX5_times_20
set_option maxHeartbeats 4000000 in
set_option maxRecDepth 100000 in
theorem c_X5_told (l : Launch) (G : mG) (k : Nat → Nat) (own : tR) (n : Nat) (T z : Nat → Nat) (A : Nat → tA) (hg : Nat) (ver : Nat → Nat → tB) (cq : Nat → Bool) (fe : Int32) (tms : Nat → Int32) (ca : Int32) (wl : List Nat) (wh : Int32) (ac th : Nat) (sx : Int32) (ld : Nat → Bool) (tr : List Nat) (gf : Int64) (D : tD) (f : mF) (hM : CM G k own n z D f) (hG : GC n T z A hg ver cq fe tms ca wl wh ac th sx ld tr gf D) (w_ : Int32) : Met l yX5_told wsX5_told ({ frames := 1, cells := 0, slots := 0, locals := 20 }) (va_Pc [.ref (k 0), .int w_] (mW G f)) (va_Qi (fun (r : Int32) (u : mS) => u.2 = f ∧ r = tdA n hg fe tr wl ld ac ca w_) (fun (u : mS) t => mW G u.2 t) (mA G)) 0 0 (mA G) := by
  refine mMet [.ref (k 0), .int w_] (cc := cX5_told) (maxL := 2) (ret := (some .int)) (by decide) rfl (Nat.le_of_ble_eq_true rfl) ?_
  intro p e s m below meth c ls hx hb hr hml hts hown hlk hnm hC hH hl
  have hl : lv_has ls 2 [(0, .ref (k 0)), (1, .int w_)] := hl
  have hfr : frD own f own f := frD.rf
  have n24_ := hG.bs.1
  have hT3_ := hG.bs.2
  have h40_ := hG.h40
  have wl_ := hG.wr.1
  obtain ⟨cb_1, hl_1, hcb_1⟩ := hG.ln
  obtain ⟨⟨lb_1, st_1, nx_1, hq0_1, hlb_1⟩, htr_1, hld_⟩ := hG.lt
  have hlen_ := len_b htr_1.1
  have ol_ := ocn_le tr
  have tn_1 : (nI n).toInt = ((n : Nat) : Int) := nI_toInt (by omega)
  have th_1 : (nI hg).toInt = ((hg : Nat) : Int) := nI_toInt (by omega)
  have tw_1 : (nI wl.length).toInt = ((wl.length : Nat) : Int) := nI_toInt (by omega)
  have te_1 : (eD D 0).1.toInt = ((tr.length : Nat) : Int) := by rw [htr_1.2.1]; exact nI_toInt (by omega)
  refine lv_iload_n hx hb dX5_told_0 rfl (lv_at hl 1 rfl) ?_
  have hk_2 : (w_.toInt < 0 ∨ 8 < w_.toInt) ∨ w_.toInt = 0 ∨ w_.toInt = 1 ∨ w_.toInt = 2 ∨ w_.toInt = 3 ∨ w_.toInt = 4 ∨ w_.toInt = 5 ∨ w_.toInt = 6 ∨ w_.toInt = 7 ∨ w_.toInt = 8 := by omega
  rcases hk_2 with hk_2 | hk_2 | hk_2 | hk_2 | hk_2 | hk_2 | hk_2 | hk_2 | hk_2 | hk_2
  · skip
    refine lv_tableOut (tgt := 118) hx hb dX5_told_1 hk_2 (by decide) ?_
    refine lv_iconst (v := (-1)) hx hb dX5_told_118 (by decide) ?_
    exact m_iret (v := (-1)) hx hb hr hlk hC hH own ⟨rfl, ((if_neg (by omega)).trans ((if_neg (by omega)).trans ((if_neg (by omega)).trans ((if_neg (by omega)).trans ((if_neg (by omega)).trans ((if_neg (by omega)).trans ((if_neg (by omega)).trans ((if_neg (by omega)).trans (if_neg (by omega)))))))))).symm⟩ (Nat.le_of_ble_eq_true rfl) (Nat.le_of_ble_eq_true rfl) dX5_told_119
  · skip
    have jk_2 : w_.toInt = 0 := hk_2
    refine lv_tableIn (off := 51) (tgt := 52) hx hb dX5_told_1 (by rw [jk_2]; decide) (by rw [jk_2]; decide) (by rw [jk_2]; rfl) (by decide) ?_
    refine lv_aload_n hx hb dX5_told_52 rfl (lv_at hl 0 rfl) ?_
    have F_3 : f (k 0) = some (.inr (5, [.ref (k 1), .int (nI n), .int (nI hg), .ref (k 2), .ref (k 5), .ref (k 13), .ref (k 21), .int ca, .int fe, .int cb_1, .ref (k 3), .int (nI wl.length), .ref (k 4), .int sx])) := by have w_ := hM.c0; rw [hl_1] at w_; exact w_
    refine m_get (ci := 5) (v := .int (nI n)) (C := RX5) (T := TX5) (N := 14) hx hb hC hH hts in_X5_told_X5 hown F_3 rfl 1 (by decide) (hts (.fieldLink RX5 46 "LazyState" "objectCount" "I") (by decide +kernel)) rfl dX5_told_53 ?_
    exact m_iret (v := nI n) hx hb hr hlk hC hH own ⟨rfl, Eq.trans (rfl) (if_pos (by omega)).symm⟩ (Nat.le_of_ble_eq_true rfl) (Nat.le_of_ble_eq_true rfl) dX5_told_56
  · skip
    have jk_2 : w_.toInt = 1 := hk_2
    refine lv_tableIn (off := 56) (tgt := 57) hx hb dX5_told_1 (by rw [jk_2]; decide) (by rw [jk_2]; decide) (by rw [jk_2]; rfl) (by decide) ?_
    refine lv_aload_n hx hb dX5_told_57 rfl (lv_at hl 0 rfl) ?_
    have F_4 : f (k 0) = some (.inr (5, [.ref (k 1), .int (nI n), .int (nI hg), .ref (k 2), .ref (k 5), .ref (k 13), .ref (k 21), .int ca, .int fe, .int cb_1, .ref (k 3), .int (nI wl.length), .ref (k 4), .int sx])) := by have w_ := hM.c0; rw [hl_1] at w_; exact w_
    refine m_get (ci := 5) (v := .int (nI hg)) (C := RX5) (T := TX5) (N := 14) hx hb hC hH hts in_X5_told_X5 hown F_4 rfl 2 (by decide) (hts (.fieldLink RX5 68 "LazyState" "heightNow" "I") (by decide +kernel)) rfl dX5_told_58 ?_
    exact m_iret (v := nI hg) hx hb hr hlk hC hH own ⟨rfl, Eq.trans (rfl) ((if_neg (by omega)).trans (if_pos (by omega))).symm⟩ (Nat.le_of_ble_eq_true rfl) (Nat.le_of_ble_eq_true rfl) dX5_told_61
  · skip
    have jk_2 : w_.toInt = 2 := hk_2
    refine lv_tableIn (off := 61) (tgt := 62) hx hb dX5_told_1 (by rw [jk_2]; decide) (by rw [jk_2]; decide) (by rw [jk_2]; rfl) (by decide) ?_
    refine lv_aload_n hx hb dX5_told_62 rfl (lv_at hl 0 rfl) ?_
    have F_5 : f (k 0) = some (.inr (5, [.ref (k 1), .int (nI n), .int (nI hg), .ref (k 2), .ref (k 5), .ref (k 13), .ref (k 21), .int ca, .int fe, .int cb_1, .ref (k 3), .int (nI wl.length), .ref (k 4), .int sx])) := by have w_ := hM.c0; rw [hl_1] at w_; exact w_
    refine m_get (ci := 5) (v := .int fe) (C := RX5) (T := TX5) (N := 14) hx hb hC hH hts in_X5_told_X5 hown F_5 rfl 8 (by decide) (hts (.fieldLink RX5 116 "LazyState" "fetchCount" "I") (by decide +kernel)) rfl dX5_told_63 ?_
    exact m_iret (v := fe) hx hb hr hlk hC hH own ⟨rfl, Eq.trans (rfl) ((if_neg (by omega)).trans ((if_neg (by omega)).trans (if_pos (by omega)))).symm⟩ (Nat.le_of_ble_eq_true rfl) (Nat.le_of_ble_eq_true rfl) dX5_told_66
  · skip
    have jk_2 : w_.toInt = 3 := hk_2
    refine lv_tableIn (off := 66) (tgt := 67) hx hb dX5_told_1 (by rw [jk_2]; decide) (by rw [jk_2]; decide) (by rw [jk_2]; rfl) (by decide) ?_
    refine lv_aload_n hx hb dX5_told_67 rfl (lv_at hl 0 rfl) ?_
    have F_6 : f (k 0) = some (.inr (5, [.ref (k 1), .int (nI n), .int (nI hg), .ref (k 2), .ref (k 5), .ref (k 13), .ref (k 21), .int ca, .int fe, .int cb_1, .ref (k 3), .int (nI wl.length), .ref (k 4), .int sx])) := by have w_ := hM.c0; rw [hl_1] at w_; exact w_
    refine m_get (ci := 5) (v := .ref (k 5)) (C := RX5) (T := TX5) (N := 14) hx hb hC hH hts in_X5_told_X5 hown F_6 rfl 4 (by decide) (hts (.fieldLink RX5 24 "LazyState" "latest" "LLazyState$Run;") (by decide +kernel)) rfl dX5_told_68 ?_
    have F_7 : f (k 5) = some (.inr (3, [.ref (k 6), .int lb_1, .int (nI ac), .long gf, .int (nI th), .int wh, va_rf st_1, .ref (k 10), .ref (k 11), .ref (k 12), .int nx_1])) := by have w_ := hM.r0 0 (by decide); rw [hq0_1] at w_; exact w_
    refine m_get (ci := 3) (v := .ref (k 6)) (C := RX3) (T := TX3) (N := 11) hx hb hC hH hts in_X5_told_X3 hown F_7 rfl 0 (by decide) (hts (.fieldLink RX5 147 "LazyState$Run" "trace" "LLazyState$Trace;") (by decide +kernel)) rfl dX5_told_71 ?_
    have F_8 : f (k 6) = some (.inr (4, [.ref (k 7), .int ((eD D 0).1), .int ((eD D 0).2), .ref (k 8), .ref (k 9)])) := hM.r1 0 (by decide)
    refine m_get (ci := 4) (v := .int ((eD D 0).1)) (C := RX4) (T := TX4) (N := 5) hx hb hC hH hts in_X5_told_X4 hown F_8 rfl 1 (by decide) (hts (.fieldLink RX5 151 "LazyState$Trace" "count" "I") (by decide +kernel)) rfl dX5_told_74 ?_
    exact m_iret (v := (eD D 0).1) hx hb hr hlk hC hH own ⟨rfl, Eq.trans (htr_1.2.1) ((if_neg (by omega)).trans ((if_neg (by omega)).trans ((if_neg (by omega)).trans (if_pos (by omega))))).symm⟩ (Nat.le_of_ble_eq_true rfl) (Nat.le_of_ble_eq_true rfl) dX5_told_77
  · skip
    have jk_2 : w_.toInt = 4 := hk_2
    refine lv_tableIn (off := 77) (tgt := 78) hx hb dX5_told_1 (by rw [jk_2]; decide) (by rw [jk_2]; decide) (by rw [jk_2]; rfl) (by decide) ?_
    refine lv_aload_n hx hb dX5_told_78 rfl (lv_at hl 0 rfl) ?_
    have F_9 : f (k 0) = some (.inr (5, [.ref (k 1), .int (nI n), .int (nI hg), .ref (k 2), .ref (k 5), .ref (k 13), .ref (k 21), .int ca, .int fe, .int cb_1, .ref (k 3), .int (nI wl.length), .ref (k 4), .int sx])) := by have w_ := hM.c0; rw [hl_1] at w_; exact w_
    refine m_get (ci := 5) (v := .ref (k 5)) (C := RX5) (T := TX5) (N := 14) hx hb hC hH hts in_X5_told_X5 hown F_9 rfl 4 (by decide) (hts (.fieldLink RX5 24 "LazyState" "latest" "LLazyState$Run;") (by decide +kernel)) rfl dX5_told_79 ?_
    have F_10 : f (k 5) = some (.inr (3, [.ref (k 6), .int lb_1, .int (nI ac), .long gf, .int (nI th), .int wh, va_rf st_1, .ref (k 10), .ref (k 11), .ref (k 12), .int nx_1])) := by have w_ := hM.r0 0 (by decide); rw [hq0_1] at w_; exact w_
    refine m_get (ci := 3) (v := .ref (k 6)) (C := RX3) (T := TX3) (N := 11) hx hb hC hH hts in_X5_told_X3 hown F_10 rfl 0 (by decide) (hts (.fieldLink RX5 147 "LazyState$Run" "trace" "LLazyState$Trace;") (by decide +kernel)) rfl dX5_told_82 ?_
    have F_11 : f (k 6) = some (.inr (4, [.ref (k 7), .int ((eD D 0).1), .int ((eD D 0).2), .ref (k 8), .ref (k 9)])) := hM.r1 0 (by decide)
    refine m_get (ci := 4) (v := .int ((eD D 0).2)) (C := RX4) (T := TX4) (N := 5) hx hb hC hH hts in_X5_told_X4 hown F_11 rfl 2 (by decide) (hts (.fieldLink RX5 193 "LazyState$Trace" "changedCount" "I") (by decide +kernel)) rfl dX5_told_85 ?_
    exact m_iret (v := (eD D 0).2) hx hb hr hlk hC hH own ⟨rfl, Eq.trans (htr_1.2.2.1) ((if_neg (by omega)).trans ((if_neg (by omega)).trans ((if_neg (by omega)).trans ((if_neg (by omega)).trans (if_pos (by omega)))))).symm⟩ (Nat.le_of_ble_eq_true rfl) (Nat.le_of_ble_eq_true rfl) dX5_told_88
  · skip
    have jk_2 : w_.toInt = 5 := hk_2
    refine lv_tableIn (off := 88) (tgt := 89) hx hb dX5_told_1 (by rw [jk_2]; decide) (by rw [jk_2]; decide) (by rw [jk_2]; rfl) (by decide) ?_
    refine lv_aload_n hx hb dX5_told_89 rfl (lv_at hl 0 rfl) ?_
    have F_12 : f (k 0) = some (.inr (5, [.ref (k 1), .int (nI n), .int (nI hg), .ref (k 2), .ref (k 5), .ref (k 13), .ref (k 21), .int ca, .int fe, .int cb_1, .ref (k 3), .int (nI wl.length), .ref (k 4), .int sx])) := by have w_ := hM.c0; rw [hl_1] at w_; exact w_
    refine m_get (ci := 5) (v := .int (nI wl.length)) (C := RX5) (T := TX5) (N := 14) hx hb hC hH hts in_X5_told_X5 hown F_12 rfl 11 (by decide) (hts (.fieldLink RX5 131 "LazyState" "writtenCount" "I") (by decide +kernel)) rfl dX5_told_90 ?_
    exact m_iret (v := nI wl.length) hx hb hr hlk hC hH own ⟨rfl, Eq.trans (rfl) ((if_neg (by omega)).trans ((if_neg (by omega)).trans ((if_neg (by omega)).trans ((if_neg (by omega)).trans ((if_neg (by omega)).trans (if_pos (by omega))))))).symm⟩ (Nat.le_of_ble_eq_true rfl) (Nat.le_of_ble_eq_true rfl) dX5_told_93
  · skip
    have jk_2 : w_.toInt = 6 := hk_2
    refine lv_tableIn (off := 93) (tgt := 94) hx hb dX5_told_1 (by rw [jk_2]; decide) (by rw [jk_2]; decide) (by rw [jk_2]; rfl) (by decide) ?_
    refine lv_aload_n hx hb dX5_told_94 rfl (lv_at hl 0 rfl) ?_
    have F_13 : f (k 0) = some (.inr (5, [.ref (k 1), .int (nI n), .int (nI hg), .ref (k 2), .ref (k 5), .ref (k 13), .ref (k 21), .int ca, .int fe, .int cb_1, .ref (k 3), .int (nI wl.length), .ref (k 4), .int sx])) := by have w_ := hM.c0; rw [hl_1] at w_; exact w_
    refine m_get (ci := 5) (v := .ref (k 5)) (C := RX5) (T := TX5) (N := 14) hx hb hC hH hts in_X5_told_X5 hown F_13 rfl 4 (by decide) (hts (.fieldLink RX5 24 "LazyState" "latest" "LLazyState$Run;") (by decide +kernel)) rfl dX5_told_95 ?_
    have F_14 : f (k 5) = some (.inr (3, [.ref (k 6), .int lb_1, .int (nI ac), .long gf, .int (nI th), .int wh, va_rf st_1, .ref (k 10), .ref (k 11), .ref (k 12), .int nx_1])) := by have w_ := hM.r0 0 (by decide); rw [hq0_1] at w_; exact w_
    refine m_get (ci := 3) (v := .int lb_1) (C := RX3) (T := TX3) (N := 11) hx hb hC hH hts in_X5_told_X3 hown F_14 rfl 1 (by decide) (hts (.fieldLink RX5 119 "LazyState$Run" "loadedBits" "I") (by decide +kernel)) rfl dX5_told_98 ?_
    refine m_goi hH (va_runS (As := [.int lb_1]) (rest := []) ⟨hx, hb, hml, hown, hts⟩ (c_J6_bitCount_0f7a4 l G f lb_1) (va_cwS 1 hts gX5_told_J6_bitCount_0f7a4 rfl rfl rfl (by decide +kernel) ⟨Nat.le_of_ble_eq_true rfl, Nat.le_of_ble_eq_true rfl⟩) (m_preS hC hH) rfl rfl hl.1 rfl (lv_room (Nat.le_of_ble_eq_true rfl)) dX5_told_101 ⟨Nat.le_of_ble_eq_true rfl, Nat.le_of_ble_eq_true rfl⟩) (fun r_15 rho_17 f_16 H locs hw hH => ?_)
    obtain ⟨hu, hr_15⟩ := hw
    have hu : f_16 = f := hu
    rw [hu] at hH
    try dsimp only at hr_15
    have bc_ : r_15 = nI (cnt ld 24) := pcV_24 hr_15 (fun q_ h_ => hlb_1 q_ h_) hld_
    exact m_iret (v := r_15) hx hb hr hlk hC hH own ⟨rfl, Eq.trans (bc_) ((if_neg (by omega)).trans ((if_neg (by omega)).trans ((if_neg (by omega)).trans ((if_neg (by omega)).trans ((if_neg (by omega)).trans ((if_neg (by omega)).trans (if_pos (by omega)))))))).symm⟩ (Nat.le_of_ble_eq_true rfl) (Nat.le_of_ble_eq_true rfl) dX5_told_104
  · skip
    have jk_2 : w_.toInt = 7 := hk_2
    refine lv_tableIn (off := 104) (tgt := 105) hx hb dX5_told_1 (by rw [jk_2]; decide) (by rw [jk_2]; decide) (by rw [jk_2]; rfl) (by decide) ?_
    refine lv_aload_n hx hb dX5_told_105 rfl (lv_at hl 0 rfl) ?_
    have F_18 : f (k 0) = some (.inr (5, [.ref (k 1), .int (nI n), .int (nI hg), .ref (k 2), .ref (k 5), .ref (k 13), .ref (k 21), .int ca, .int fe, .int cb_1, .ref (k 3), .int (nI wl.length), .ref (k 4), .int sx])) := by have w_ := hM.c0; rw [hl_1] at w_; exact w_
    refine m_get (ci := 5) (v := .ref (k 5)) (C := RX5) (T := TX5) (N := 14) hx hb hC hH hts in_X5_told_X5 hown F_18 rfl 4 (by decide) (hts (.fieldLink RX5 24 "LazyState" "latest" "LLazyState$Run;") (by decide +kernel)) rfl dX5_told_106 ?_
    have F_19 : f (k 5) = some (.inr (3, [.ref (k 6), .int lb_1, .int (nI ac), .long gf, .int (nI th), .int wh, va_rf st_1, .ref (k 10), .ref (k 11), .ref (k 12), .int nx_1])) := by have w_ := hM.r0 0 (by decide); rw [hq0_1] at w_; exact w_
    refine m_get (ci := 3) (v := .int (nI ac)) (C := RX3) (T := TX3) (N := 11) hx hb hC hH hts in_X5_told_X3 hown F_19 rfl 2 (by decide) (hts (.fieldLink RX5 196 "LazyState$Run" "done" "I") (by decide +kernel)) rfl dX5_told_109 ?_
    exact m_iret (v := nI ac) hx hb hr hlk hC hH own ⟨rfl, Eq.trans (rfl) ((if_neg (by omega)).trans ((if_neg (by omega)).trans ((if_neg (by omega)).trans ((if_neg (by omega)).trans ((if_neg (by omega)).trans ((if_neg (by omega)).trans ((if_neg (by omega)).trans (if_pos (by omega))))))))).symm⟩ (Nat.le_of_ble_eq_true rfl) (Nat.le_of_ble_eq_true rfl) dX5_told_112
  · skip
    have jk_2 : w_.toInt = 8 := hk_2
    refine lv_tableIn (off := 112) (tgt := 113) hx hb dX5_told_1 (by rw [jk_2]; decide) (by rw [jk_2]; decide) (by rw [jk_2]; rfl) (by decide) ?_
    refine lv_aload_n hx hb dX5_told_113 rfl (lv_at hl 0 rfl) ?_
    have F_20 : f (k 0) = some (.inr (5, [.ref (k 1), .int (nI n), .int (nI hg), .ref (k 2), .ref (k 5), .ref (k 13), .ref (k 21), .int ca, .int fe, .int cb_1, .ref (k 3), .int (nI wl.length), .ref (k 4), .int sx])) := by have w_ := hM.c0; rw [hl_1] at w_; exact w_
    refine m_get (ci := 5) (v := .int ca) (C := RX5) (T := TX5) (N := 14) hx hb hC hH hts in_X5_told_X5 hown F_20 rfl 7 (by decide) (hts (.fieldLink RX5 113 "LazyState" "callCount" "I") (by decide +kernel)) rfl dX5_told_114 ?_
    exact m_iret (v := ca) hx hb hr hlk hC hH own ⟨rfl, Eq.trans (rfl) ((if_neg (by omega)).trans ((if_neg (by omega)).trans ((if_neg (by omega)).trans ((if_neg (by omega)).trans ((if_neg (by omega)).trans ((if_neg (by omega)).trans ((if_neg (by omega)).trans ((if_neg (by omega)).trans (if_pos (by omega)))))))))).symm⟩ (Nat.le_of_ble_eq_true rfl) (Nat.le_of_ble_eq_true rfl) dX5_told_117
