set_option maxHeartbeats 4000000 in
set_option maxRecDepth 100000 in
theorem c_X0_fits (l : Launch) (G : mG) (f : mF) (q : Nat) (kd a : Int32) (b : Int64) (c_ d_ e_ : Int32) (Fq : f q = some (.inr (0, [.int kd, .int a, .long b, .int c_, .int d_, .int e_]))) (K : Nat) (hK : K < 18) (hk : kd.toInt = K) (w_ : Int32) (v : Int64) (J : Nat) (hJ : J < 5) (hw_ : w_.toInt = J) : Met l yX0_fits wsX0_fits ({ frames := 0, cells := 0, slots := 0, locals := 0 }) (va_Pc [.ref q, .int w_, .long v] (mW G f)) (va_Qi (fun (r : Int32) (u : mS) => u.2 = f ∧ ((r.toInt = 1 ∧ fitA K J v.toInt) ∨ (r.toInt = 0 ∧ ¬ fitA K J v.toInt))) (fun (u : mS) t => mW G u.2 t) (mA G)) 0 0 (mA G) := by
  refine mMet [.ref q, .int w_, .long v] (cc := cX0_fits) (maxL := 5) (ret := (some .boolean)) (by decide) rfl (Nat.le_of_ble_eq_true rfl) ?_
  intro p e s m below meth c ls hx hb hr hml hts hown hlk hnm hC hH hl
  have hl : lv_has ls 5 [(0, .ref q), (1, .int w_), (2, .long v)] := hl
  refine m_gets hx hb hC.2.2.2.2.1 hH hown (hts (.fieldLink RX0 33 "LazyState$Act" "MOST" "[I") (by decide +kernel)) dX0_fits_0 ?_
  refine lv_aload_n hx hb dX0_fits_3 rfl (lv_at hl 0 rfl) ?_
  refine m_get (ci := 0) (v := .int kd) (C := RX0) (T := TX0) (N := 6) hx hb hC hH hts in_X0_fits_X0 hown Fq rfl 0 (by decide) (hts (.fieldLink RX0 7 "LazyState$Act" "kind" "I") (by decide +kernel)) rfl dX0_fits_4 ?_
  refine lv_iconst (v := 5) hx hb dX0_fits_7 (by decide) ?_
  refine lv_imul hx hb dX0_fits_8 ?_
  refine lv_topi (fun x_1 ex_1 => ?_)
  have ix_1 : x_1.toInt = kd.toInt * 5 := ic_mul ex_1 rfl kI_5 (by omega) (by omega)
  refine lv_iload_n hx hb dX0_fits_9 rfl (lv_at hl 1 rfl) ?_
  refine lv_iadd hx hb dX0_fits_10 ?_
  refine lv_topi (fun x_2 ex_2 => ?_)
  have ix_2 : x_2.toInt = x_1.toInt + w_.toInt := ic_add ex_2 rfl rfl (by omega) (by omega)
  refine m_ti hx hb hC.2.2.2.2.2 hH (vp_in_iff.mpr ⟨by omega, by omega⟩) dX0_fits_11 ?_
  refine lv_topi (fun x_3 ex_3 => ?_)
  have mq_ : x_3 = mostF (5 * K + J) := by rw [ex_3, show x_2.toNatClampNeg = 5 * K + J from by have := ic_clN (rfl : x_2.toInt = _) (by omega); omega]
  refine lv_istore (lv' := [(4, .int x_3), (0, .ref q), (1, .int w_), (2, .long v)]) hx hb dX0_fits_12 hl (by decide) rfl (fun ls hl => ?_)
  refine lv_iload hx hb dX0_fits_14 (lv_at hl 0 rfl) ?_
  refine lv_iconst (v := (-1)) hx hb dX0_fits_16 (by decide) ?_
  refine lv_icmp_eq (tgt := 34) hx hb dX0_fits_17 (by decide) (fun c_4 => ?_) (fun c_4 => ?_)
  · skip
    have ic_4 : (x_3.toInt : Int) = (-1) := ic_eq rfl kI_m1 c_4
    have eq_ : x_3 = -1 := c_4
    refine lv_iconst (v := 1) hx hb dX0_fits_34 (by decide) ?_
    refine lv_goto (tgt := 39) hx hb dX0_fits_35 (by decide) ?_
    exact m_zret (v := 1) hx hb hr (by rfl) hlk hC hH (fun _ => (0, 0)) ⟨rfl, Or.inl ⟨kI_1, by rw [fitA, ← mq_]; first | exact Or.inl eq_ | exact Or.inr ⟨by omega, by omega⟩⟩⟩ (Nat.le_of_ble_eq_true rfl) (Nat.le_of_ble_eq_true rfl) dX0_fits_39
  · skip
    have ic_4 : (x_3.toInt : Int) ≠ (-1) := ic_ne rfl kI_m1 c_4
    have ne_ : ¬ x_3 = -1 := c_4
    refine lv_lload_n hx hb dX0_fits_20 rfl (lv_at hl 3 rfl) ?_
    refine lv_lconst (v := 0) hx hb dX0_fits_21 (by decide) ?_
    refine W.lcmp hx hb dX0_fits_22 ?_
    refine lv_if_lt (tgt := 38) hx hb dX0_fits_23 (by decide) (fun c_5 => ?_) (fun c_5 => ?_)
    · skip
      have ic_5 : (v.toInt : Int) < 0 := lc_lt rfl kJ_0 ((lg_cmp_lt _ _).mp c_5)
      refine lv_iconst (v := 0) hx hb dX0_fits_38 (by decide) ?_
      exact m_zret (v := 0) hx hb hr (by rfl) hlk hC hH (fun _ => (0, 0)) ⟨rfl, Or.inr ⟨kI_0, fun q => by rw [fitA, ← mq_] at q; rcases q with q | q; exact absurd (q ▸ ne_) (by simp); omega⟩⟩ (Nat.le_of_ble_eq_true rfl) (Nat.le_of_ble_eq_true rfl) dX0_fits_39
    · skip
      have ic_5 : (v.toInt : Int) ≥ 0 := lc_nlt rfl kJ_0 (fun q_ => c_5 ((lg_cmp_lt _ _).mpr q_))
      refine lv_lload_n hx hb dX0_fits_26 rfl (lv_at hl 3 rfl) ?_
      refine lv_iload hx hb dX0_fits_27 (lv_at hl 0 rfl) ?_
      refine lv_i2l hx hb dX0_fits_29 rfl ?_
      refine lv_topl (fun y_6 ey_6 => ?_)
      have iy_6 : y_6.toInt = x_3.toInt := lc_i2l ey_6 rfl
      have gy_6 := ic_rng x_3
      refine W.lcmp hx hb dX0_fits_30 ?_
      refine lv_if_gt (tgt := 38) hx hb dX0_fits_31 (by decide) (fun c_7 => ?_) (fun c_7 => ?_)
      · skip
        have ic_7 : (y_6.toInt : Int) < v.toInt := lc_lt rfl rfl ((lg_cmp_gt _ _).mp c_7)
        refine lv_iconst (v := 0) hx hb dX0_fits_38 (by decide) ?_
        exact m_zret (v := 0) hx hb hr (by rfl) hlk hC hH (fun _ => (0, 0)) ⟨rfl, Or.inr ⟨kI_0, fun q => by rw [fitA, ← mq_] at q; rcases q with q | q; exact absurd (q ▸ ne_) (by simp); omega⟩⟩ (Nat.le_of_ble_eq_true rfl) (Nat.le_of_ble_eq_true rfl) dX0_fits_39
      · skip
        have ic_7 : (y_6.toInt : Int) ≥ v.toInt := lc_nlt rfl rfl (fun q_ => c_7 ((lg_cmp_gt _ _).mpr q_))
        refine lv_iconst (v := 1) hx hb dX0_fits_34 (by decide) ?_
        refine lv_goto (tgt := 39) hx hb dX0_fits_35 (by decide) ?_
        exact m_zret (v := 1) hx hb hr (by rfl) hlk hC hH (fun _ => (0, 0)) ⟨rfl, Or.inl ⟨kI_1, by rw [fitA, ← mq_]; first | exact Or.inl eq_ | exact Or.inr ⟨by omega, by omega⟩⟩⟩ (Nat.le_of_ble_eq_true rfl) (Nat.le_of_ble_eq_true rfl) dX0_fits_39
set_option maxHeartbeats 4000000 in
set_option maxRecDepth 100000 in
theorem c_X0_isAsTold (l : Launch) (G : mG) (f : mF) (q : Nat) (kd a : Int32) (b : Int64) (c_ d_ e_ : Int32) (Fq : f q = some (.inr (0, [.int kd, .int a, .long b, .int c_, .int d_, .int e_]))) (K : Nat) (hK : K < 18) (hk : kd.toInt = K) : Met l yX0_isAsTold wsX0_isAsTold ({ frames := 1, cells := 0, slots := 0, locals := 24 }) (va_Pc [.ref q] (mW G f)) (va_Qi (fun (r : Int32) (u : mS) => u.2 = f ∧ ((r.toInt = 1 ∧ okA (kd, a, b, c_, d_, e_)) ∨ (r.toInt = 0 ∧ ¬ okA (kd, a, b, c_, d_, e_)))) (fun (u : mS) t => mW G u.2 t) (mA G)) 0 0 (mA G) := by
  refine mMet [.ref q] (cc := cX0_isAsTold) (maxL := 1) (ret := (some .boolean)) (by decide) rfl (Nat.le_of_ble_eq_true rfl) ?_
  intro p e s m below meth c ls hx hb hr hml hts hown hlk hnm hC hH hl
  have hl : lv_has ls 1 [(0, .ref q)] := hl
  refine lv_aload_n hx hb dX0_isAsTold_0 rfl (lv_at hl 0 rfl) ?_
  refine lv_iconst (v := 0) hx hb dX0_isAsTold_1 (by decide) ?_
  refine lv_aload_n hx hb dX0_isAsTold_2 rfl (lv_at hl 0 rfl) ?_
  refine m_get (ci := 0) (v := .int a) (C := RX0) (T := TX0) (N := 6) hx hb hC hH hts in_X0_isAsTold_X0 hown Fq rfl 1 (by decide) (hts (.fieldLink RX0 13 "LazyState$Act" "a" "I") (by decide +kernel)) rfl dX0_isAsTold_3 ?_
  refine lv_i2l hx hb dX0_isAsTold_6 rfl ?_
  refine lv_topl (fun y_1 ey_1 => ?_)
  have iy_1 : y_1.toInt = a.toInt := lc_i2l ey_1 rfl
  have gy_1 := ic_rng a
  refine m_goi hH (va_runV (As := [.int 0, .long y_1]) (rest := []) ⟨hx, hb, hml, hown, hts⟩ (c_X0_fits l G f q kd a b c_ d_ e_ Fq K hK hk 0 y_1 0 (by decide) kI_0) (cwV 2 hts gX0_isAsTold_X0_fits rfl rfl rfl (by decide +kernel) ⟨Nat.le_of_ble_eq_true rfl, Nat.le_of_ble_eq_true rfl⟩) (m_preV (ci := 0) hC hH Fq rfl) rfl rfl hl.1 rfl (lv_room (Nat.le_of_ble_eq_true rfl)) dX0_isAsTold_7 ⟨Nat.le_of_ble_eq_true rfl, Nat.le_of_ble_eq_true rfl⟩) (fun r_2 rho_4 f_3 H locs hw hH => ?_)
  obtain ⟨hu, hr_2⟩ := hw
  have hu : f_3 = f := hu
  rw [hu] at hH
  rw [show y_1.toInt = a.toInt from iy_1] at hr_2
  refine lv_if_eq (tgt := 68) hx hb dX0_isAsTold_10 (by decide) (fun c_5 => ?_) (fun c_5 => ?_)
  · skip
    have ic_5 : (r_2.toInt : Int) = 0 := ic_eq rfl kI_0 c_5
    refine lv_iconst (v := 0) hx hb dX0_isAsTold_68 (by decide) ?_
    exact m_zret (v := 0) hx hb hr (by rfl) hlk hC hH (fun _ => (0, 0)) ⟨rfl, Or.inr ⟨kI_0, okA_no6 K hk (fun f0 f1 f2 f3 f4 => (hr_2.resolve_left (fun q => by omega)).2 f0)⟩⟩ (Nat.le_of_ble_eq_true rfl) (Nat.le_of_ble_eq_true rfl) dX0_isAsTold_69
  · skip
    have ic_5 : (r_2.toInt : Int) ≠ 0 := ic_ne rfl kI_0 c_5
    refine lv_aload_n hx hb dX0_isAsTold_13 rfl (lv_at hl 0 rfl) ?_
    refine lv_iconst (v := 1) hx hb dX0_isAsTold_14 (by decide) ?_
    refine lv_aload_n hx hb dX0_isAsTold_15 rfl (lv_at hl 0 rfl) ?_
    refine m_get (ci := 0) (v := .long b) (C := RX0) (T := TX0) (N := 6) hx hb hC hH hts in_X0_isAsTold_X0 hown Fq rfl 2 (by decide) (hts (.fieldLink RX0 16 "LazyState$Act" "b" "J") (by decide +kernel)) rfl dX0_isAsTold_16 ?_
    refine m_goi hH (va_runV (As := [.int 1, .long b]) (rest := []) ⟨hx, hb, hml, hown, hts⟩ (c_X0_fits l G f q kd a b c_ d_ e_ Fq K hK hk 1 b 1 (by decide) kI_1) (cwV 2 hts gX0_isAsTold_X0_fits rfl rfl rfl (by decide +kernel) ⟨Nat.le_of_ble_eq_true rfl, Nat.le_of_ble_eq_true rfl⟩) (m_preV (ci := 0) hC hH Fq rfl) rfl rfl hl.1 rfl (lv_room (Nat.le_of_ble_eq_true rfl)) dX0_isAsTold_19 ⟨Nat.le_of_ble_eq_true rfl, Nat.le_of_ble_eq_true rfl⟩) (fun r_6 rho_8 f_7 H locs hw hH => ?_)
    obtain ⟨hu, hr_6⟩ := hw
    have hu : f_7 = f := hu
    rw [hu] at hH
    skip
    refine lv_if_eq (tgt := 68) hx hb dX0_isAsTold_22 (by decide) (fun c_9 => ?_) (fun c_9 => ?_)
    · skip
      have ic_9 : (r_6.toInt : Int) = 0 := ic_eq rfl kI_0 c_9
      refine lv_iconst (v := 0) hx hb dX0_isAsTold_68 (by decide) ?_
      exact m_zret (v := 0) hx hb hr (by rfl) hlk hC hH (fun _ => (0, 0)) ⟨rfl, Or.inr ⟨kI_0, okA_no6 K hk (fun f0 f1 f2 f3 f4 => (hr_6.resolve_left (fun q => by omega)).2 f1)⟩⟩ (Nat.le_of_ble_eq_true rfl) (Nat.le_of_ble_eq_true rfl) dX0_isAsTold_69
    · skip
      have ic_9 : (r_6.toInt : Int) ≠ 0 := ic_ne rfl kI_0 c_9
      refine lv_aload_n hx hb dX0_isAsTold_25 rfl (lv_at hl 0 rfl) ?_
      refine lv_iconst (v := 2) hx hb dX0_isAsTold_26 (by decide) ?_
      refine lv_aload_n hx hb dX0_isAsTold_27 rfl (lv_at hl 0 rfl) ?_
      refine m_get (ci := 0) (v := .int c_) (C := RX0) (T := TX0) (N := 6) hx hb hC hH hts in_X0_isAsTold_X0 hown Fq rfl 3 (by decide) (hts (.fieldLink RX0 20 "LazyState$Act" "c" "I") (by decide +kernel)) rfl dX0_isAsTold_28 ?_
      refine lv_i2l hx hb dX0_isAsTold_31 rfl ?_
      refine lv_topl (fun y_10 ey_10 => ?_)
      have iy_10 : y_10.toInt = c_.toInt := lc_i2l ey_10 rfl
      have gy_10 := ic_rng c_
      refine m_goi hH (va_runV (As := [.int 2, .long y_10]) (rest := []) ⟨hx, hb, hml, hown, hts⟩ (c_X0_fits l G f q kd a b c_ d_ e_ Fq K hK hk 2 y_10 2 (by decide) kI_2) (cwV 2 hts gX0_isAsTold_X0_fits rfl rfl rfl (by decide +kernel) ⟨Nat.le_of_ble_eq_true rfl, Nat.le_of_ble_eq_true rfl⟩) (m_preV (ci := 0) hC hH Fq rfl) rfl rfl hl.1 rfl (lv_room (Nat.le_of_ble_eq_true rfl)) dX0_isAsTold_32 ⟨Nat.le_of_ble_eq_true rfl, Nat.le_of_ble_eq_true rfl⟩) (fun r_11 rho_13 f_12 H locs hw hH => ?_)
      obtain ⟨hu, hr_11⟩ := hw
      have hu : f_12 = f := hu
      rw [hu] at hH
      rw [show y_10.toInt = c_.toInt from iy_10] at hr_11
      refine lv_if_eq (tgt := 68) hx hb dX0_isAsTold_35 (by decide) (fun c_14 => ?_) (fun c_14 => ?_)
      · skip
        have ic_14 : (r_11.toInt : Int) = 0 := ic_eq rfl kI_0 c_14
        refine lv_iconst (v := 0) hx hb dX0_isAsTold_68 (by decide) ?_
        exact m_zret (v := 0) hx hb hr (by rfl) hlk hC hH (fun _ => (0, 0)) ⟨rfl, Or.inr ⟨kI_0, okA_no6 K hk (fun f0 f1 f2 f3 f4 => (hr_11.resolve_left (fun q => by omega)).2 f2)⟩⟩ (Nat.le_of_ble_eq_true rfl) (Nat.le_of_ble_eq_true rfl) dX0_isAsTold_69
      · skip
        have ic_14 : (r_11.toInt : Int) ≠ 0 := ic_ne rfl kI_0 c_14
        refine lv_aload_n hx hb dX0_isAsTold_38 rfl (lv_at hl 0 rfl) ?_
        refine lv_iconst (v := 3) hx hb dX0_isAsTold_39 (by decide) ?_
        refine lv_aload_n hx hb dX0_isAsTold_40 rfl (lv_at hl 0 rfl) ?_
        refine m_get (ci := 0) (v := .int d_) (C := RX0) (T := TX0) (N := 6) hx hb hC hH hts in_X0_isAsTold_X0 hown Fq rfl 4 (by decide) (hts (.fieldLink RX0 23 "LazyState$Act" "d" "I") (by decide +kernel)) rfl dX0_isAsTold_41 ?_
        refine lv_i2l hx hb dX0_isAsTold_44 rfl ?_
        refine lv_topl (fun y_15 ey_15 => ?_)
        have iy_15 : y_15.toInt = d_.toInt := lc_i2l ey_15 rfl
        have gy_15 := ic_rng d_
        refine m_goi hH (va_runV (As := [.int 3, .long y_15]) (rest := []) ⟨hx, hb, hml, hown, hts⟩ (c_X0_fits l G f q kd a b c_ d_ e_ Fq K hK hk 3 y_15 3 (by decide) kI_3) (cwV 2 hts gX0_isAsTold_X0_fits rfl rfl rfl (by decide +kernel) ⟨Nat.le_of_ble_eq_true rfl, Nat.le_of_ble_eq_true rfl⟩) (m_preV (ci := 0) hC hH Fq rfl) rfl rfl hl.1 rfl (lv_room (Nat.le_of_ble_eq_true rfl)) dX0_isAsTold_45 ⟨Nat.le_of_ble_eq_true rfl, Nat.le_of_ble_eq_true rfl⟩) (fun r_16 rho_18 f_17 H locs hw hH => ?_)
        obtain ⟨hu, hr_16⟩ := hw
        have hu : f_17 = f := hu
        rw [hu] at hH
        rw [show y_15.toInt = d_.toInt from iy_15] at hr_16
        refine lv_if_eq (tgt := 68) hx hb dX0_isAsTold_48 (by decide) (fun c_19 => ?_) (fun c_19 => ?_)
        · skip
          have ic_19 : (r_16.toInt : Int) = 0 := ic_eq rfl kI_0 c_19
          refine lv_iconst (v := 0) hx hb dX0_isAsTold_68 (by decide) ?_
          exact m_zret (v := 0) hx hb hr (by rfl) hlk hC hH (fun _ => (0, 0)) ⟨rfl, Or.inr ⟨kI_0, okA_no6 K hk (fun f0 f1 f2 f3 f4 => (hr_16.resolve_left (fun q => by omega)).2 f3)⟩⟩ (Nat.le_of_ble_eq_true rfl) (Nat.le_of_ble_eq_true rfl) dX0_isAsTold_69
        · skip
          have ic_19 : (r_16.toInt : Int) ≠ 0 := ic_ne rfl kI_0 c_19
          refine lv_aload_n hx hb dX0_isAsTold_51 rfl (lv_at hl 0 rfl) ?_
          refine lv_iconst (v := 4) hx hb dX0_isAsTold_52 (by decide) ?_
          refine lv_aload_n hx hb dX0_isAsTold_53 rfl (lv_at hl 0 rfl) ?_
          refine m_get (ci := 0) (v := .int e_) (C := RX0) (T := TX0) (N := 6) hx hb hC hH hts in_X0_isAsTold_X0 hown Fq rfl 5 (by decide) (hts (.fieldLink RX0 26 "LazyState$Act" "e" "I") (by decide +kernel)) rfl dX0_isAsTold_54 ?_
          refine lv_i2l hx hb dX0_isAsTold_57 rfl ?_
          refine lv_topl (fun y_20 ey_20 => ?_)
          have iy_20 : y_20.toInt = e_.toInt := lc_i2l ey_20 rfl
          have gy_20 := ic_rng e_
          refine m_goi hH (va_runV (As := [.int 4, .long y_20]) (rest := []) ⟨hx, hb, hml, hown, hts⟩ (c_X0_fits l G f q kd a b c_ d_ e_ Fq K hK hk 4 y_20 4 (by decide) kI_4) (cwV 2 hts gX0_isAsTold_X0_fits rfl rfl rfl (by decide +kernel) ⟨Nat.le_of_ble_eq_true rfl, Nat.le_of_ble_eq_true rfl⟩) (m_preV (ci := 0) hC hH Fq rfl) rfl rfl hl.1 rfl (lv_room (Nat.le_of_ble_eq_true rfl)) dX0_isAsTold_58 ⟨Nat.le_of_ble_eq_true rfl, Nat.le_of_ble_eq_true rfl⟩) (fun r_21 rho_23 f_22 H locs hw hH => ?_)
          obtain ⟨hu, hr_21⟩ := hw
          have hu : f_22 = f := hu
          rw [hu] at hH
          rw [show y_20.toInt = e_.toInt from iy_20] at hr_21
          refine lv_if_eq (tgt := 68) hx hb dX0_isAsTold_61 (by decide) (fun c_24 => ?_) (fun c_24 => ?_)
          · skip
            have ic_24 : (r_21.toInt : Int) = 0 := ic_eq rfl kI_0 c_24
            refine lv_iconst (v := 0) hx hb dX0_isAsTold_68 (by decide) ?_
            exact m_zret (v := 0) hx hb hr (by rfl) hlk hC hH (fun _ => (0, 0)) ⟨rfl, Or.inr ⟨kI_0, okA_no6 K hk (fun f0 f1 f2 f3 f4 => (hr_21.resolve_left (fun q => by omega)).2 f4)⟩⟩ (Nat.le_of_ble_eq_true rfl) (Nat.le_of_ble_eq_true rfl) dX0_isAsTold_69
          · skip
            have ic_24 : (r_21.toInt : Int) ≠ 0 := ic_ne rfl kI_0 c_24
            refine lv_iconst (v := 1) hx hb dX0_isAsTold_64 (by decide) ?_
            refine lv_goto (tgt := 69) hx hb dX0_isAsTold_65 (by decide) ?_
            exact m_zret (v := 1) hx hb hr (by rfl) hlk hC hH (fun _ => (0, 0)) ⟨rfl, Or.inl ⟨kI_1, okA_mk6 K hK hk (hr_2.resolve_right (fun q => by omega)).2 (hr_6.resolve_right (fun q => by omega)).2 (hr_11.resolve_right (fun q => by omega)).2 (hr_16.resolve_right (fun q => by omega)).2 (hr_21.resolve_right (fun q => by omega)).2⟩⟩ (Nat.le_of_ble_eq_true rfl) (Nat.le_of_ble_eq_true rfl) dX0_isAsTold_69
set_option maxHeartbeats 4000000 in
set_option maxRecDepth 100000 in
theorem c_X0_init (l : Launch) (G : mG) (f : mF) (q : Nat) (Fq : f q = some (.inr (0, [.int 0, .int 0, .long 0, .int 0, .int 0, .int 0]))) (kd a : Int32) (b : Int64) (c_ d_ e_ : Int32) : Met l yX0_init wsX0_init ({ frames := 1, cells := 0, slots := 0, locals := 12 }) (va_Pc [.ref q, .int kd, .int a, .long b, .int c_, .int d_, .int e_] (mW G f)) (va_Qv (fun (u : mS) => u.2 = va_up f q (some (.inr (0, [.int kd, .int a, .long b, .int c_, .int d_, .int e_])))) (fun (u : mS) t => mW G u.2 t) (mA G)) 0 0 (mA G) := by
  refine mMet [.ref q, .int kd, .int a, .long b, .int c_, .int d_, .int e_] (cc := cX0_init) (maxL := 8) (ret := none) (by decide) rfl (Nat.le_of_ble_eq_true rfl) ?_
  intro p e s m below meth c ls hx hb hr hml hts hown hlk hnm hC hH hl
  have hl : lv_has ls 8 [(0, .ref q), (1, .int kd), (2, .int a), (3, .long b), (5, .int c_), (6, .int d_), (7, .int e_)] := hl
  refine lv_aload_n hx hb dX0_init_0 rfl (lv_at hl 0 rfl) ?_
  refine W.objInit hx hb hown (hts (.methodLink RX0 1 objectInit) (by decide +kernel)) (hts (.instanceMethod objectInit) (by decide +kernel)) (hts (.code objectInit ⟨#[0xb1]⟩ 1 none) (by decide +kernel)) rfl (hl.1.trans hml.symm) rfl dX0_init_1 (Nat.le_of_ble_eq_true rfl) (Nat.le_of_ble_eq_true rfl) ?_
  refine lv_aload_n hx hb dX0_init_4 rfl (lv_at hl 0 rfl) ?_
  refine lv_iload_n hx hb dX0_init_5 rfl (lv_at hl 1 rfl) ?_
  refine m_putF (ci := 0) (v := .int kd) (C := RX0) (T := TX0) (N := 6) hx hb hC hH hts in_X0_init_X0 tyX0 tyX0_ok nmX0 hown Fq rfl 0 (by decide) (hts (.fieldLink RX0 7 "LazyState$Act" "kind" "I") (by decide +kernel)) rfl hnm rfl rfl rfl (Nat.le_of_ble_eq_true rfl) dX0_init_6 (fun H locs hH => ?_)
  have hH : mH G s (va_up f q (some (.inr (0, [.int kd, .int 0, .long 0, .int 0, .int 0, .int 0])))) H locs := hH
  obtain ⟨f_1, ef_1⟩ : ∃ zz_ : mF, zz_ = va_up f q (some (.inr (0, [.int kd, .int 0, .long 0, .int 0, .int 0, .int 0]))) := ⟨_, rfl⟩
  rw [← ef_1] at hH
  have F_2 : f_1 q = some (.inr (0, [.int kd, .int 0, .long 0, .int 0, .int 0, .int 0])) := by rw [ef_1]; exact va_up_self _ _ _
  refine lv_aload_n hx hb dX0_init_9 rfl (lv_at hl 0 rfl) ?_
  refine lv_iload_n hx hb dX0_init_10 rfl (lv_at hl 2 rfl) ?_
  refine m_putF (ci := 0) (v := .int a) (C := RX0) (T := TX0) (N := 6) hx hb hC hH hts in_X0_init_X0 tyX0 tyX0_ok nmX0 hown F_2 rfl 1 (by decide) (hts (.fieldLink RX0 13 "LazyState$Act" "a" "I") (by decide +kernel)) rfl hnm rfl rfl rfl (Nat.le_of_ble_eq_true rfl) dX0_init_11 (fun H locs hH => ?_)
  have hH : mH G s (va_up f_1 q (some (.inr (0, [.int kd, .int a, .long 0, .int 0, .int 0, .int 0])))) H locs := hH
  obtain ⟨f_3, ef_3⟩ : ∃ zz_ : mF, zz_ = va_up f_1 q (some (.inr (0, [.int kd, .int a, .long 0, .int 0, .int 0, .int 0]))) := ⟨_, rfl⟩
  rw [← ef_3] at hH
  have F_4 : f_3 q = some (.inr (0, [.int kd, .int a, .long 0, .int 0, .int 0, .int 0])) := by rw [ef_3]; exact va_up_self _ _ _
  have bx_4 : f_3 = va_up f q (some (.inr (0, [.int kd, .int a, .long 0, .int 0, .int 0, .int 0]))) := by rw [ef_3, ef_1]; exact bx_uu _ _ _ _
  refine lv_aload_n hx hb dX0_init_14 rfl (lv_at hl 0 rfl) ?_
  refine lv_lload_n hx hb dX0_init_15 rfl (lv_at hl 3 rfl) ?_
  refine m_putF (ci := 0) (v := .long b) (C := RX0) (T := TX0) (N := 6) hx hb hC hH hts in_X0_init_X0 tyX0 tyX0_ok nmX0 hown F_4 rfl 2 (by decide) (hts (.fieldLink RX0 16 "LazyState$Act" "b" "J") (by decide +kernel)) rfl hnm rfl rfl rfl (Nat.le_of_ble_eq_true rfl) dX0_init_16 (fun H locs hH => ?_)
  have hH : mH G s (va_up f_3 q (some (.inr (0, [.int kd, .int a, .long b, .int 0, .int 0, .int 0])))) H locs := hH
  obtain ⟨f_5, ef_5⟩ : ∃ zz_ : mF, zz_ = va_up f_3 q (some (.inr (0, [.int kd, .int a, .long b, .int 0, .int 0, .int 0]))) := ⟨_, rfl⟩
  rw [← ef_5] at hH
  have F_6 : f_5 q = some (.inr (0, [.int kd, .int a, .long b, .int 0, .int 0, .int 0])) := by rw [ef_5]; exact va_up_self _ _ _
  have bx_6 : f_5 = va_up f q (some (.inr (0, [.int kd, .int a, .long b, .int 0, .int 0, .int 0]))) := by rw [ef_5, bx_4]; exact bx_uu _ _ _ _
  refine lv_aload_n hx hb dX0_init_19 rfl (lv_at hl 0 rfl) ?_
  refine lv_iload hx hb dX0_init_20 (lv_at hl 4 rfl) ?_
  refine m_putF (ci := 0) (v := .int c_) (C := RX0) (T := TX0) (N := 6) hx hb hC hH hts in_X0_init_X0 tyX0 tyX0_ok nmX0 hown F_6 rfl 3 (by decide) (hts (.fieldLink RX0 20 "LazyState$Act" "c" "I") (by decide +kernel)) rfl hnm rfl rfl rfl (Nat.le_of_ble_eq_true rfl) dX0_init_22 (fun H locs hH => ?_)
  have hH : mH G s (va_up f_5 q (some (.inr (0, [.int kd, .int a, .long b, .int c_, .int 0, .int 0])))) H locs := hH
  obtain ⟨f_7, ef_7⟩ : ∃ zz_ : mF, zz_ = va_up f_5 q (some (.inr (0, [.int kd, .int a, .long b, .int c_, .int 0, .int 0]))) := ⟨_, rfl⟩
  rw [← ef_7] at hH
  have F_8 : f_7 q = some (.inr (0, [.int kd, .int a, .long b, .int c_, .int 0, .int 0])) := by rw [ef_7]; exact va_up_self _ _ _
  have bx_8 : f_7 = va_up f q (some (.inr (0, [.int kd, .int a, .long b, .int c_, .int 0, .int 0]))) := by rw [ef_7, bx_6]; exact bx_uu _ _ _ _
  refine lv_aload_n hx hb dX0_init_25 rfl (lv_at hl 0 rfl) ?_
  refine lv_iload hx hb dX0_init_26 (lv_at hl 5 rfl) ?_
  refine m_putF (ci := 0) (v := .int d_) (C := RX0) (T := TX0) (N := 6) hx hb hC hH hts in_X0_init_X0 tyX0 tyX0_ok nmX0 hown F_8 rfl 4 (by decide) (hts (.fieldLink RX0 23 "LazyState$Act" "d" "I") (by decide +kernel)) rfl hnm rfl rfl rfl (Nat.le_of_ble_eq_true rfl) dX0_init_28 (fun H locs hH => ?_)
  have hH : mH G s (va_up f_7 q (some (.inr (0, [.int kd, .int a, .long b, .int c_, .int d_, .int 0])))) H locs := hH
  obtain ⟨f_9, ef_9⟩ : ∃ zz_ : mF, zz_ = va_up f_7 q (some (.inr (0, [.int kd, .int a, .long b, .int c_, .int d_, .int 0]))) := ⟨_, rfl⟩
  rw [← ef_9] at hH
  have F_10 : f_9 q = some (.inr (0, [.int kd, .int a, .long b, .int c_, .int d_, .int 0])) := by rw [ef_9]; exact va_up_self _ _ _
  have bx_10 : f_9 = va_up f q (some (.inr (0, [.int kd, .int a, .long b, .int c_, .int d_, .int 0]))) := by rw [ef_9, bx_8]; exact bx_uu _ _ _ _
  refine lv_aload_n hx hb dX0_init_31 rfl (lv_at hl 0 rfl) ?_
  refine lv_iload hx hb dX0_init_32 (lv_at hl 6 rfl) ?_
  refine m_putF (ci := 0) (v := .int e_) (C := RX0) (T := TX0) (N := 6) hx hb hC hH hts in_X0_init_X0 tyX0 tyX0_ok nmX0 hown F_10 rfl 5 (by decide) (hts (.fieldLink RX0 26 "LazyState$Act" "e" "I") (by decide +kernel)) rfl hnm rfl rfl rfl (Nat.le_of_ble_eq_true rfl) dX0_init_34 (fun H locs hH => ?_)
  have hH : mH G s (va_up f_9 q (some (.inr (0, [.int kd, .int a, .long b, .int c_, .int d_, .int e_])))) H locs := hH
  obtain ⟨f_11, ef_11⟩ : ∃ zz_ : mF, zz_ = va_up f_9 q (some (.inr (0, [.int kd, .int a, .long b, .int c_, .int d_, .int e_]))) := ⟨_, rfl⟩
  rw [← ef_11] at hH
  have F_12 : f_11 q = some (.inr (0, [.int kd, .int a, .long b, .int c_, .int d_, .int e_])) := by rw [ef_11]; exact va_up_self _ _ _
  have bx_12 : f_11 = va_up f q (some (.inr (0, [.int kd, .int a, .long b, .int c_, .int d_, .int e_]))) := by rw [ef_11, bx_10]; exact bx_uu _ _ _ _
  exact m_vret hx hb hr hlk hC hH (fun _ => (0, 0)) bx_12 (Nat.le_of_ble_eq_true rfl) (Nat.le_of_ble_eq_true rfl) dX0_init_37
set_option maxHeartbeats 4000000 in
set_option maxRecDepth 100000 in
theorem c_X5_bitOf (l : Launch) (G : mG) (f : mF) (b o : Int32) : Met l yX5_bitOf wsX5_bitOf ({ frames := 0, cells := 0, slots := 0, locals := 0 }) (va_Pc [.int b, .int o] (mW G f)) (va_Qi (fun (r : Int32) (u : mS) => u.2 = f ∧ r = ((b >>> (o &&& 31)) &&& 1)) (fun (u : mS) t => mW G u.2 t) (mA G)) 0 0 (mA G) := by
  refine mMet [.int b, .int o] (cc := cX5_bitOf) (maxL := 2) (ret := (some .int)) (by decide) rfl (Nat.le_of_ble_eq_true rfl) ?_
  intro p e s m below meth c ls hx hb hr hml hts hown hlk hnm hC hH hl
  have hl : lv_has ls 2 [(0, .int b), (1, .int o)] := hl
  refine lv_iload_n hx hb dX5_bitOf_0 rfl (lv_at hl 0 rfl) ?_
  refine lv_iload_n hx hb dX5_bitOf_1 rfl (lv_at hl 1 rfl) ?_
  refine lv_ishr hx hb dX5_bitOf_2 ?_
  refine lv_topi (fun x_1 ex_1 => ?_)
  refine lv_iconst (v := 1) hx hb dX5_bitOf_3 (by decide) ?_
  refine lv_iand hx hb dX5_bitOf_4 ?_
  refine lv_topi (fun x_2 ex_2 => ?_)
  exact m_iret (v := x_2) hx hb hr hlk hC hH (fun _ => (0, 0)) ⟨rfl, by rw [ex_2, ex_1]⟩ (Nat.le_of_ble_eq_true rfl) (Nat.le_of_ble_eq_true rfl) dX5_bitOf_5
set_option maxHeartbeats 4000000 in
set_option maxRecDepth 100000 in
theorem c_X2_itemPlace (l : Launch) (G : mG) (f : mF) (j i : Int32) (hi : 0 ≤ i.toInt ∧ i.toInt ≤ 8) : Met l yX2_itemPlace wsX2_itemPlace ({ frames := 0, cells := 0, slots := 0, locals := 0 }) (va_Pc [.int j, .int i] (mW G f)) (va_Qi (fun (r : Int32) (u : mS) => u.2 = f ∧ ((j.toInt = 2 ∧ r.toInt = 8 + i.toInt) ∨ (j.toInt ≠ 2 ∧ r.toInt = i.toInt))) (fun (u : mS) t => mW G u.2 t) (mA G)) 0 0 (mA G) := by
  refine mMet [.int j, .int i] (cc := cX2_itemPlace) (maxL := 2) (ret := (some .int)) (by decide) rfl (Nat.le_of_ble_eq_true rfl) ?_
  intro p e s m below meth c ls hx hb hr hml hts hown hlk hnm hC hH hl
  have hl : lv_has ls 2 [(0, .int j), (1, .int i)] := hl
  refine lv_iload_n hx hb dX2_itemPlace_0 rfl (lv_at hl 0 rfl) ?_
  refine lv_iconst (v := 2) hx hb dX2_itemPlace_1 (by decide) ?_
  refine lv_icmp_ne (tgt := 10) hx hb dX2_itemPlace_2 (by decide) (fun c_1 => ?_) (fun c_1 => ?_)
  · skip
    have ic_1 : (j.toInt : Int) ≠ 2 := ic_ne rfl kI_2 c_1
    refine lv_iconst (v := 0) hx hb dX2_itemPlace_10 (by decide) ?_
    refine lv_iload_n hx hb dX2_itemPlace_11 rfl (lv_at hl 1 rfl) ?_
    refine lv_iadd hx hb dX2_itemPlace_12 ?_
    refine lv_topi (fun x_2 ex_2 => ?_)
    have ix_2 : x_2.toInt = 0 + i.toInt := ic_add ex_2 kI_0 rfl (by omega) (by omega)
    exact m_iret (v := x_2) hx hb hr hlk hC hH (fun _ => (0, 0)) ⟨rfl, by omega⟩ (Nat.le_of_ble_eq_true rfl) (Nat.le_of_ble_eq_true rfl) dX2_itemPlace_13
  · skip
    have ic_1 : (j.toInt : Int) = 2 := ic_eq rfl kI_2 c_1
    refine lv_bipush (v := 8) hx hb dX2_itemPlace_5 (by decide) ?_
    refine lv_goto (tgt := 11) hx hb dX2_itemPlace_7 (by decide) ?_
    refine lv_iload_n hx hb dX2_itemPlace_11 rfl (lv_at hl 1 rfl) ?_
    refine lv_iadd hx hb dX2_itemPlace_12 ?_
    refine lv_topi (fun x_3 ex_3 => ?_)
    have ix_3 : x_3.toInt = 8 + i.toInt := ic_add ex_3 kI_8 rfl (by omega) (by omega)
    exact m_iret (v := x_3) hx hb hr hlk hC hH (fun _ => (0, 0)) ⟨rfl, by omega⟩ (Nat.le_of_ble_eq_true rfl) (Nat.le_of_ble_eq_true rfl) dX2_itemPlace_13
set_option maxHeartbeats 4000000 in
set_option maxRecDepth 100000 in
theorem c_X2_sortOf (l : Launch) (G : mG) (k : Nat → Nat) (rho : tR) (n : Nat) (T z : Nat → Nat) (st : Nat → Bool) (f : mF) (hI : IC G k rho n T z st f) (q t : Nat) (hq : rho q = (1, t)) (ht : t < 3) (j : Int32) : Met l yX2_sortOf wsX2_sortOf ({ frames := 0, cells := 0, slots := 0, locals := 0 }) (va_Pc [.ref q, .int j] (mW G f)) (va_Qi (fun (r : Int32) (u : mS) => u.2 = f ∧ ((0 ≤ j.toInt ∧ j.toInt < 8 ∧ r = sortF (8 * t + j.toNatClampNeg)) ∨ ((j.toInt < 0 ∨ 8 ≤ j.toInt) ∧ r.toInt = 0))) (fun (u : mS) t => mW G u.2 t) (mA G)) 0 0 (mA G) := by
  refine mMet [.ref q, .int j] (cc := cX2_sortOf) (maxL := 2) (ret := (some .int)) (by decide) rfl (Nat.le_of_ble_eq_true rfl) ?_
  intro p e s m below meth c ls hx hb hr hml hts hown hlk hnm hC hH hl
  have hl : lv_has ls 2 [(0, .ref q), (1, .int j)] := hl
  have hj := hI.2.2.2.2.1
  have hn24 := hI.2.2.2.2.2.2.1
  have hT3 := hI.2.2.2.2.2.2.2.1
  have hz32 := hI.2.2.2.2.2.2.2.2
  have nIn : (nI n).toInt = (n : Int) := nI_toInt (by omega)
  have hfr : frC k rho f rho f := frC.rf
  refine lv_iload_n hx hb dX2_sortOf_0 rfl (lv_at hl 1 rfl) ?_
  refine lv_if_lt (tgt := 26) hx hb dX2_sortOf_1 (by decide) (fun c_1 => ?_) (fun c_1 => ?_)
  · skip
    have ic_1 : (j.toInt : Int) < 0 := ic_lt rfl kI_0 c_1
    refine lv_iconst (v := 0) hx hb dX2_sortOf_26 (by decide) ?_
    exact m_iret (v := 0) hx hb hr hlk hC hH rho ⟨rfl, Or.inr ⟨by omega, kI_0⟩⟩ (Nat.le_of_ble_eq_true rfl) (Nat.le_of_ble_eq_true rfl) dX2_sortOf_27
  · skip
    have ic_1 : (j.toInt : Int) ≥ 0 := ic_nlt rfl kI_0 c_1
    refine lv_iload_n hx hb dX2_sortOf_4 rfl (lv_at hl 1 rfl) ?_
    refine lv_bipush (v := 8) hx hb dX2_sortOf_5 (by decide) ?_
    refine lv_icmp_ge (tgt := 26) hx hb dX2_sortOf_7 (by decide) (fun c_2 => ?_) (fun c_2 => ?_)
    · skip
      have ic_2 : (8 : Int) ≤ j.toInt := ic_le kI_8 rfl c_2
      refine lv_iconst (v := 0) hx hb dX2_sortOf_26 (by decide) ?_
      exact m_iret (v := 0) hx hb hr hlk hC hH rho ⟨rfl, Or.inr ⟨by omega, kI_0⟩⟩ (Nat.le_of_ble_eq_true rfl) (Nat.le_of_ble_eq_true rfl) dX2_sortOf_27
    · skip
      have ic_2 : (8 : Int) > j.toInt := ic_nle kI_8 rfl c_2
      refine m_gets hx hb hC.2.2.1 hH hown (hts (.fieldLink RX2 23 "LazyState$Body" "SORTS" "[I") (by decide +kernel)) dX2_sortOf_10 ?_
      refine lv_aload_n hx hb dX2_sortOf_13 rfl (lv_at hl 0 rfl) ?_
      obtain ⟨ca_3, ia_3, si_3, bf_3, F_3, hca_3, hia_3, hbf_3⟩ : okB rho t q (f q) := hI.pool hq
      have tI_3 : (nI t).toInt = (t : Int) := nI_toInt (by have := ht; omega)
      refine m_get (ci := 2) (v := .int (nI t)) (C := RX2) (T := TX2) (N := 5) hx hb hC hH hts in_X2_sortOf_X2 hown F_3 rfl 0 (by decide) (hts (.fieldLink RX2 19 "LazyState$Body" "type" "I") (by decide +kernel)) rfl dX2_sortOf_14 ?_
      refine lv_bipush (v := 8) hx hb dX2_sortOf_17 (by decide) ?_
      refine lv_imul hx hb dX2_sortOf_19 ?_
      refine lv_topi (fun x_4 ex_4 => ?_)
      have ix_4 : x_4.toInt = ((t : Nat) : Int) * 8 := ic_mul ex_4 tI_3 kI_8 (by omega) (by omega)
      refine lv_iload_n hx hb dX2_sortOf_20 rfl (lv_at hl 1 rfl) ?_
      refine lv_iadd hx hb dX2_sortOf_21 ?_
      refine lv_topi (fun x_5 ex_5 => ?_)
      have ix_5 : x_5.toInt = x_4.toInt + j.toInt := ic_add ex_5 rfl rfl (by omega) (by omega)
      refine m_ti hx hb hC.2.2.2.1 hH (vp_in_iff.mpr ⟨by omega, by omega⟩) dX2_sortOf_22 ?_
      refine lv_topi (fun x_6 ex_6 => ?_)
      have sq_ : x_6 = sortF (8 * t + j.toNatClampNeg) := by rw [ex_6, show x_5.toNatClampNeg = 8 * t + j.toNatClampNeg from by have := ic_clN (rfl : x_5.toInt = _) (by omega); have := ic_clN (rfl : j.toInt = _) (by omega); omega]
      refine lv_goto (tgt := 27) hx hb dX2_sortOf_23 (by decide) ?_
      exact m_iret (v := x_6) hx hb hr hlk hC hH rho ⟨rfl, Or.inl ⟨by omega, by omega, sq_⟩⟩ (Nat.le_of_ble_eq_true rfl) (Nat.le_of_ble_eq_true rfl) dX2_sortOf_27
set_option maxHeartbeats 4000000 in
set_option maxRecDepth 100000 in
theorem c_X2_hasItem (l : Launch) (G : mG) (k : Nat → Nat) (rho : tR) (n : Nat) (T z : Nat → Nat) (st : Nat → Bool) (f : mF) (hI : IC G k rho n T z st f) (q t : Nat) (hq : rho q = (1, t)) (ht : t < 3) (j : Int32) (v : Int64) (hjj : 0 ≤ j.toInt ∧ j.toInt < 8) : Met l yX2_hasItem wsX2_hasItem ({ frames := 0, cells := 0, slots := 0, locals := 0 }) (va_Pc [.ref q, .int j, .long v] (mW G f)) (va_Qi (fun (r : Int32) (u : mS) => u.2 = f ∧ ((r.toInt = 1 ∧ 0 ≤ v.toInt ∧ (sortF (8 * t + j.toNatClampNeg) = 3 → v.toInt < 8)) ∨ r.toInt = 0)) (fun (u : mS) t => mW G u.2 t) (mA G)) 0 0 (mA G) := by
  refine mMet [.ref q, .int j, .long v] (cc := cX2_hasItem) (maxL := 4) (ret := (some .boolean)) (by decide) rfl (Nat.le_of_ble_eq_true rfl) ?_
  intro p e s m below meth c ls hx hb hr hml hts hown hlk hnm hC hH hl
  have hl : lv_has ls 4 [(0, .ref q), (1, .int j), (2, .long v)] := hl
  have hj := hI.2.2.2.2.1
  have hn24 := hI.2.2.2.2.2.2.1
  have hT3 := hI.2.2.2.2.2.2.2.1
  have hz32 := hI.2.2.2.2.2.2.2.2
  have nIn : (nI n).toInt = (n : Int) := nI_toInt (by omega)
  have hfr : frC k rho f rho f := frC.rf
  refine lv_lload_n hx hb dX2_hasItem_0 rfl (lv_at hl 2 rfl) ?_
  refine lv_lconst (v := 0) hx hb dX2_hasItem_1 (by decide) ?_
  refine W.lcmp hx hb dX2_hasItem_2 ?_
  refine lv_if_lt (tgt := 21) hx hb dX2_hasItem_3 (by decide) (fun c_1 => ?_) (fun c_1 => ?_)
  · skip
    have ic_1 : (v.toInt : Int) < 0 := lc_lt rfl kJ_0 ((lg_cmp_lt _ _).mp c_1)
    refine lv_iconst (v := 0) hx hb dX2_hasItem_21 (by decide) ?_
    exact m_zret (v := 0) hx hb hr (by rfl) hlk hC hH rho ⟨rfl, Or.inr kI_0⟩ (Nat.le_of_ble_eq_true rfl) (Nat.le_of_ble_eq_true rfl) dX2_hasItem_22
  · skip
    have ic_1 : (v.toInt : Int) ≥ 0 := lc_nlt rfl kJ_0 (fun q_ => c_1 ((lg_cmp_lt _ _).mpr q_))
    refine lv_lload_n hx hb dX2_hasItem_6 rfl (lv_at hl 2 rfl) ?_
    refine lv_aload_n hx hb dX2_hasItem_7 rfl (lv_at hl 0 rfl) ?_
    obtain ⟨ca_2, ia_2, si_2, bf_2, F_2, hca_2, hia_2, hbf_2⟩ : okB rho t q (f q) := hI.pool hq
    have tI_2 : (nI t).toInt = (t : Int) := nI_toInt (by have := ht; omega)
    refine m_get (ci := 2) (v := .ref ca_2) (C := RX2) (T := TX2) (N := 5) hx hb hC hH hts in_X2_hasItem_X2 hown F_2 rfl 1 (by decide) (hts (.fieldLink RX2 9 "LazyState$Body" "cells" "[J") (by decide +kernel)) rfl dX2_hasItem_8 ?_
    refine lv_iload_n hx hb dX2_hasItem_11 rfl (lv_at hl 1 rfl) ?_
    obtain ⟨g_3, hg_3, hp_3⟩ : okJ G 8 (pCl n t) (f ca_2) := hI.pool hca_2
    refine m_lald hx hb hC hH hg_3 (vp_in_iff.mpr ⟨by omega, by omega⟩) dX2_hasItem_12 ?_
    refine lv_topl (fun y_4 ey_4 => ?_)
    have cy_4 := hp_3 (j.toNatClampNeg) (ic_cl rfl (by omega) (by omega))
    rw [← ey_4] at cy_4
    refine W.lcmp hx hb dX2_hasItem_13 ?_
    refine lv_if_ge (tgt := 21) hx hb dX2_hasItem_14 (by decide) (fun c_5 => ?_) (fun c_5 => ?_)
    · skip
      have ic_5 : (y_4.toInt : Int) ≤ v.toInt := lc_le rfl rfl ((lg_cmp_ge _ _).mp c_5)
      refine lv_iconst (v := 0) hx hb dX2_hasItem_21 (by decide) ?_
      exact m_zret (v := 0) hx hb hr (by rfl) hlk hC hH rho ⟨rfl, Or.inr kI_0⟩ (Nat.le_of_ble_eq_true rfl) (Nat.le_of_ble_eq_true rfl) dX2_hasItem_22
    · skip
      have ic_5 : (y_4.toInt : Int) > v.toInt := lc_nle rfl rfl (fun q_ => c_5 ((lg_cmp_ge _ _).mpr q_))
      refine lv_iconst (v := 1) hx hb dX2_hasItem_17 (by decide) ?_
      refine lv_goto (tgt := 22) hx hb dX2_hasItem_18 (by decide) ?_
      exact m_zret (v := 1) hx hb hr (by rfl) hlk hC hH rho ⟨rfl, Or.inl ⟨kI_1, by omega, fun hs => by have := cy_4.2 hs; omega⟩⟩ (Nat.le_of_ble_eq_true rfl) (Nat.le_of_ble_eq_true rfl) dX2_hasItem_22
set_option maxHeartbeats 4000000 in
set_option maxRecDepth 100000 in
theorem c_X2_hasBlankRow (l : Launch) (G : mG) (k : Nat → Nat) (rho : tR) (n : Nat) (T z : Nat → Nat) (st : Nat → Bool) (f : mF) (hI : IC G k rho n T z st f) (q t : Nat) (hq : rho q = (1, t)) (ht : t < 3) (j v : Int32) (hjj : 0 ≤ j.toInt ∧ j.toInt < 8) : Met l yX2_hasBlankRow wsX2_hasBlankRow ({ frames := 1, cells := 0, slots := 0, locals := 21 }) (va_Pc [.ref q, .int j, .int v] (mW G f)) (va_Qi (fun (r : Int32) (u : mS) => u.2 = f ∧ (r.toInt = 0 ∨ r.toInt = 1)) (fun (u : mS) t => mW G u.2 t) (mA G)) 0 0 (mA G) := by
  refine mMet [.ref q, .int j, .int v] (cc := cX2_hasBlankRow) (maxL := 4) (ret := (some .boolean)) (by decide) rfl (Nat.le_of_ble_eq_true rfl) ?_
  intro p e s m below meth c ls hx hb hr hml hts hown hlk hnm hC hH hl
  have hl : lv_has ls 4 [(0, .ref q), (1, .int j), (2, .int v)] := hl
  have hj := hI.2.2.2.2.1
  have hn24 := hI.2.2.2.2.2.2.1
  have hT3 := hI.2.2.2.2.2.2.2.1
  have hz32 := hI.2.2.2.2.2.2.2.2
  have nIn : (nI n).toInt = (n : Int) := nI_toInt (by omega)
  have hfr : frC k rho f rho f := frC.rf
  refine lv_aload_n hx hb dX2_hasBlankRow_0 rfl (lv_at hl 0 rfl) ?_
  obtain ⟨ca_1, ia_1, si_1, bf_1, F_1, hca_1, hia_1, hbf_1⟩ : okB rho t q (f q) := hI.pool hq
  have tI_1 : (nI t).toInt = (t : Int) := nI_toInt (by have := ht; omega)
  refine m_get (ci := 2) (v := .ref ca_1) (C := RX2) (T := TX2) (N := 5) hx hb hC hH hts in_X2_hasBlankRow_X2 hown F_1 rfl 1 (by decide) (hts (.fieldLink RX2 9 "LazyState$Body" "cells" "[J") (by decide +kernel)) rfl dX2_hasBlankRow_1 ?_
  refine lv_iload_n hx hb dX2_hasBlankRow_4 rfl (lv_at hl 1 rfl) ?_
  obtain ⟨g_2, hg_2, hp_2⟩ : okJ G 8 (pCl n t) (f ca_1) := hI.pool hca_1
  refine m_lald hx hb hC hH hg_2 (vp_in_iff.mpr ⟨by omega, by omega⟩) dX2_hasBlankRow_5 ?_
  refine lv_topl (fun y_3 ey_3 => ?_)
  refine lv_iload_n hx hb dX2_hasBlankRow_6 rfl (lv_at hl 2 rfl) ?_
  refine lv_i2l hx hb dX2_hasBlankRow_7 rfl ?_
  refine lv_topl (fun y_4 ey_4 => ?_)
  have iy_4 : y_4.toInt = v.toInt := lc_i2l ey_4 rfl
  have gy_4 := ic_rng v
  refine W.lcmp hx hb dX2_hasBlankRow_8 ?_
  refine lv_if_eq (tgt := 14) hx hb dX2_hasBlankRow_9 (by decide) (fun c_5 => ?_) (fun c_5 => ?_)
  · skip
    have ic_5 : (y_3.toInt : Int) = y_4.toInt := lc_eq rfl rfl ((lg_cmp_eq _ _).mp c_5)
    refine lv_iconst (v := 0) hx hb dX2_hasBlankRow_14 (by decide) ?_
    refine lv_istore_n (lv' := [(3, .int 0), (0, .ref q), (1, .int j), (2, .int v)]) hx hb dX2_hasBlankRow_15 rfl hl (by decide) rfl (fun ls hl => ?_)
    have loop_16 : ∀ (fuel_ : Nat) (k3 : Int32) (h0_ : 0 ≤ k3.toInt) (h1_ : k3.toInt ≤ 8) (_ : ((8 : Int) - k3.toInt).toNat < fuel_) (H : Heap) (locs : List Loc) (ls : Array Slot) (_ : mH G s f H locs) (_ : lv_has ls 4 [(0, .ref q), (1, .int j), (2, .int v), (3, .int k3)]), W p l e ({ frames := 1, cells := 0, slots := 0, locals := 21 } : Room) s m ([.ref q, .int j, .int v] : List Value).toArray below meth c H locs 0 0 (MQ below (va_Qi (fun (r : Int32) (u : mS) => u.2 = f ∧ (r.toInt = 0 ∨ r.toInt = 1)) (fun (u : mS) t => mW G u.2 t) (mA G)) ([.ref q, .int j, .int v] : List Value).toArray s 0 0 (mA G)) (F0 m 16 ls []) := by
      intro N_16
      induction N_16 with
      | zero => intro k3 h0_ h1_ hN; omega
      | succ N_16 ih_16 =>
        intro k3 h0_ h1_ hN_16 H locs ls hH hl
        refine lv_iload_n hx hb dX2_hasBlankRow_16 rfl (lv_at hl 3 rfl) ?_
        refine lv_bipush (v := 8) hx hb dX2_hasBlankRow_17 (by decide) ?_
        refine lv_icmp_ge (tgt := 43) hx hb dX2_hasBlankRow_19 (by decide) (fun c_6 => ?_) (fun c_6 => ?_)
        · skip
          have ic_6 : (8 : Int) ≤ k3.toInt := ic_le kI_8 rfl c_6
          refine lv_iconst (v := 1) hx hb dX2_hasBlankRow_43 (by decide) ?_
          exact m_zret (v := 1) hx hb hr (by rfl) hlk hC hH rho ⟨rfl, by have := kI_1; omega⟩ (Nat.le_of_ble_eq_true rfl) (Nat.le_of_ble_eq_true rfl) dX2_hasBlankRow_44
        · skip
          have ic_6 : (8 : Int) > k3.toInt := ic_nle kI_8 rfl c_6
          refine lv_aload_n hx hb dX2_hasBlankRow_22 rfl (lv_at hl 0 rfl) ?_
          refine m_get (ci := 2) (v := .ref ia_1) (C := RX2) (T := TX2) (N := 5) hx hb hC hH hts in_X2_hasBlankRow_X2 hown F_1 rfl 2 (by decide) (hts (.fieldLink RX2 15 "LazyState$Body" "items" "[I") (by decide +kernel)) rfl dX2_hasBlankRow_23 ?_
          refine lv_iload_n hx hb dX2_hasBlankRow_26 rfl (lv_at hl 1 rfl) ?_
          refine lv_iload_n hx hb dX2_hasBlankRow_27 rfl (lv_at hl 3 rfl) ?_
          refine m_goi hH (va_runS (As := [.int j, .int k3]) (rest := [.ref ia_1]) ⟨hx, hb, hml, hown, hts⟩ (c_X2_itemPlace l G f j k3 (by omega)) (va_cwS 2 hts gX2_hasBlankRow_X2_itemPlace rfl rfl rfl (by decide +kernel) ⟨Nat.le_of_ble_eq_true rfl, Nat.le_of_ble_eq_true rfl⟩) (m_preS hC hH) rfl rfl hl.1 rfl (lv_room (Nat.le_of_ble_eq_true rfl)) dX2_hasBlankRow_28 ⟨Nat.le_of_ble_eq_true rfl, Nat.le_of_ble_eq_true rfl⟩) (fun r_7 rho_9 f_8 H locs hw hH => ?_)
          obtain ⟨hu, hr_7⟩ := hw
          have hu : f_8 = f := hu
          rw [hu] at hH
          obtain ⟨g_10, hg_10, hp_10⟩ : okI G 0 16 (fun _ => True) (f ia_1) := hI.pool hia_1
          refine m_iald hx hb hC hH hg_10 (vp_in_iff.mpr ⟨by omega, by omega⟩) dX2_hasBlankRow_31 ?_
          refine lv_topi (fun x_11 ex_11 => ?_)
          refine lv_if_eq (tgt := 37) hx hb dX2_hasBlankRow_32 (by decide) (fun c_12 => ?_) (fun c_12 => ?_)
          · skip
            have ic_12 : (x_11.toInt : Int) = 0 := ic_eq rfl kI_0 c_12
            obtain ⟨x_13, ex_13⟩ : ∃ y : Int32, y = k3 + 1 := ⟨_, rfl⟩
            have ix_13 : x_13.toInt = k3.toInt + 1 := ic_add ex_13 rfl kI_1 (by omega) (by omega)
            refine lv_iinc (v := x_13) (lv' := [(3, .int x_13), (0, .ref q), (1, .int j), (2, .int v)]) hx hb dX2_hasBlankRow_37 hl (k := 3) rfl (by rw [ex_13]; rfl) (by decide) rfl (fun ls hl => ?_)
            refine lv_goto (tgt := 16) hx hb dX2_hasBlankRow_40 (by decide) ?_
            exact ih_16 x_13 (by omega) (by omega) (by omega) _ _ _ hH (lv_sub hl [1, 2, 3, 0] rfl)
          · skip
            have ic_12 : (x_11.toInt : Int) ≠ 0 := ic_ne rfl kI_0 c_12
            refine lv_iconst (v := 0) hx hb dX2_hasBlankRow_35 (by decide) ?_
            exact m_zret (v := 0) hx hb hr (by rfl) hlk hC hH rho ⟨rfl, by have := kI_0; omega⟩ (Nat.le_of_ble_eq_true rfl) (Nat.le_of_ble_eq_true rfl) dX2_hasBlankRow_36
    exact loop_16 (((8 : Int) - 0).toNat + 1) 0 (by have := kI_0; omega) (by have := kI_0; omega) (by have := kI_0; omega) _ _ _ hH (lv_sub hl [1, 2, 3, 0] rfl)
  · skip
    have ic_5 : (y_3.toInt : Int) ≠ y_4.toInt := lc_ne rfl rfl (fun q_ => c_5 ((lg_cmp_eq _ _).mpr q_))
    refine lv_iconst (v := 0) hx hb dX2_hasBlankRow_12 (by decide) ?_
    exact m_zret (v := 0) hx hb hr (by rfl) hlk hC hH rho ⟨rfl, by have := kI_0; omega⟩ (Nat.le_of_ble_eq_true rfl) (Nat.le_of_ble_eq_true rfl) dX2_hasBlankRow_13
set_option maxHeartbeats 4000000 in
set_option maxRecDepth 100000 in
theorem c_X2_renewRow (l : Launch) (G : mG) (k : Nat → Nat) (rho : tR) (n : Nat) (T z : Nat → Nat) (st : Nat → Bool) (f : mF) (hI : IC G k rho n T z st f) (q t : Nat) (hq : rho q = (1, t)) (ht : t < 3) (j v : Int32) (hjj : 0 ≤ j.toInt ∧ j.toInt < 8) (hs3 : sortF (8 * t + j.toNatClampNeg) = 3) (hv : v.toInt ≤ 8) : Met l yX2_renewRow wsX2_renewRow ({ frames := 1, cells := 0, slots := 0, locals := 21 }) (va_Pc [.ref q, .int j, .int v] (mW G f)) (va_Qv (fun (u : mS) => u.1 = rho ∧ IC G k rho n T z st u.2 ∧ frC k rho f rho u.2 ∧ kpK k f u.2) (fun (u : mS) t => mW G u.2 t) (mA G)) 0 0 (mA G) := by
  refine mMet [.ref q, .int j, .int v] (cc := cX2_renewRow) (maxL := 4) (ret := none) (by decide) rfl (Nat.le_of_ble_eq_true rfl) ?_
  intro p e s m below meth c ls hx hb hr hml hts hown hlk hnm hC hH hl
  have hl : lv_has ls 4 [(0, .ref q), (1, .int j), (2, .int v)] := hl
  have hj := hI.2.2.2.2.1
  have hn24 := hI.2.2.2.2.2.2.1
  have hT3 := hI.2.2.2.2.2.2.2.1
  have hz32 := hI.2.2.2.2.2.2.2.2
  have nIn : (nI n).toInt = (n : Int) := nI_toInt (by omega)
  have hfr : frC k rho f rho f := frC.rf
  have hkk : kpK k f f := fun _ _ => rfl
  refine lv_aload_n hx hb dX2_renewRow_0 rfl (lv_at hl 0 rfl) ?_
  obtain ⟨ca_1, ia_1, si_1, bf_1, F_1, hca_1, hia_1, hbf_1⟩ : okB rho t q (f q) := hI.pool hq
  have tI_1 : (nI t).toInt = (t : Int) := nI_toInt (by have := ht; omega)
  refine m_get (ci := 2) (v := .ref ca_1) (C := RX2) (T := TX2) (N := 5) hx hb hC hH hts in_X2_renewRow_X2 hown F_1 rfl 1 (by decide) (hts (.fieldLink RX2 9 "LazyState$Body" "cells" "[J") (by decide +kernel)) rfl dX2_renewRow_1 ?_
  refine lv_iload_n hx hb dX2_renewRow_4 rfl (lv_at hl 1 rfl) ?_
  refine lv_iload_n hx hb dX2_renewRow_5 rfl (lv_at hl 2 rfl) ?_
  refine lv_i2l hx hb dX2_renewRow_6 rfl ?_
  refine lv_topl (fun y_2 ey_2 => ?_)
  have iy_2 : y_2.toInt = v.toInt := lc_i2l ey_2 rfl
  have gy_2 := ic_rng v
  obtain ⟨g_3, hg_3, hp_3⟩ : okJ G 8 (pCl n t) (f ca_1) := hI.pool hca_1
  refine m_last hx hb hC hH hg_3 (vp_in_iff.mpr ⟨by omega, by omega⟩) dX2_renewRow_7 (fun H locs hH => ?_)
  obtain ⟨f_4, ef_4⟩ : ∃ zz_ : mF, zz_ = va_up f ca_1 (some (.inl (gk G 1, 8, .inr (.inl (vp_updL g_3 j.toNatClampNeg y_2))))) := ⟨_, rfl⟩
  rw [← ef_4] at hH
  have F_5 := upk F_1 ef_4 (ne_rho hq hca_1 (by simp))
  have hI : IC G k rho n T z st f_4 := hI.setP hca_1 (by simp) ef_4 (show okJ G 8 (pCl n t) _ from ⟨_, rfl, pCl_put hp_3 (fun q => absurd (q.symm.trans hs3) (by decide)) (fun _ => by omega)⟩)
  have hkk : kpK k f f_4 := fun j_ hj_ => (upn ef_4 (Ne.symm (hI.nk hj_ (by rw [hca_1]; simp)))).trans (hkk j_ hj_)
  have hfr := hfr.upP (by rw [hca_1]; simp) ef_4
  refine lv_iconst (v := 0) hx hb dX2_renewRow_8 (by decide) ?_
  refine lv_istore_n (lv' := [(3, .int 0), (0, .ref q), (1, .int j), (2, .int v)]) hx hb dX2_renewRow_9 rfl hl (by decide) rfl (fun ls hl => ?_)
  have loop_10 : ∀ (fuel_ : Nat) (k3 : Int32) (fL : mF) (h0_ : 0 ≤ k3.toInt) (h1_ : k3.toInt ≤ 8) (hI : IC G k rho n T z st fL) (hfr : frC k rho f rho fL) (hkk : kpK k f fL) (_ : ((8 : Int) - k3.toInt).toNat < fuel_) (H : Heap) (locs : List Loc) (ls : Array Slot) (_ : mH G s fL H locs) (_ : lv_has ls 4 [(0, .ref q), (1, .int j), (2, .int v), (3, .int k3)]), W p l e ({ frames := 1, cells := 0, slots := 0, locals := 21 } : Room) s m ([.ref q, .int j, .int v] : List Value).toArray below meth c H locs 0 0 (MQ below (va_Qv (fun (u : mS) => u.1 = rho ∧ IC G k rho n T z st u.2 ∧ frC k rho f rho u.2 ∧ kpK k f u.2) (fun (u : mS) t => mW G u.2 t) (mA G)) ([.ref q, .int j, .int v] : List Value).toArray s 0 0 (mA G)) (F0 m 10 ls []) := by
    intro N_10
    induction N_10 with
    | zero => intro k3 fL h0_ h1_ hI hfr hkk hN; omega
    | succ N_10 ih_10 =>
      intro k3 fL h0_ h1_ hI hfr hkk hN_10 H locs ls hH hl
      refine lv_iload_n hx hb dX2_renewRow_10 rfl (lv_at hl 3 rfl) ?_
      refine lv_bipush (v := 8) hx hb dX2_renewRow_11 (by decide) ?_
      refine lv_icmp_ge (tgt := 33) hx hb dX2_renewRow_13 (by decide) (fun c_6 => ?_) (fun c_6 => ?_)
      · skip
        have ic_6 : (8 : Int) ≤ k3.toInt := ic_le kI_8 rfl c_6
        exact m_vret hx hb hr hlk hC hH rho ⟨rfl, hI, hfr, hkk⟩ (Nat.le_of_ble_eq_true rfl) (Nat.le_of_ble_eq_true rfl) dX2_renewRow_33
      · skip
        have ic_6 : (8 : Int) > k3.toInt := ic_nle kI_8 rfl c_6
        refine lv_aload_n hx hb dX2_renewRow_16 rfl (lv_at hl 0 rfl) ?_
        obtain ⟨ca_7, ia_7, si_7, bf_7, F_7, hca_7, hia_7, hbf_7⟩ : okB rho t q (fL q) := hI.pool hq
        have tI_7 : (nI t).toInt = (t : Int) := nI_toInt (by have := ht; omega)
        refine m_get (ci := 2) (v := .ref ia_7) (C := RX2) (T := TX2) (N := 5) hx hb hC hH hts in_X2_renewRow_X2 hown F_7 rfl 2 (by decide) (hts (.fieldLink RX2 15 "LazyState$Body" "items" "[I") (by decide +kernel)) rfl dX2_renewRow_17 ?_
        refine lv_iload_n hx hb dX2_renewRow_20 rfl (lv_at hl 1 rfl) ?_
        refine lv_iload_n hx hb dX2_renewRow_21 rfl (lv_at hl 3 rfl) ?_
        refine m_goi hH (va_runS (As := [.int j, .int k3]) (rest := [.ref ia_7]) ⟨hx, hb, hml, hown, hts⟩ (c_X2_itemPlace l G fL j k3 (by omega)) (va_cwS 2 hts gX2_renewRow_X2_itemPlace rfl rfl rfl (by decide +kernel) ⟨Nat.le_of_ble_eq_true rfl, Nat.le_of_ble_eq_true rfl⟩) (m_preS hC hH) rfl rfl hl.1 rfl (lv_room (Nat.le_of_ble_eq_true rfl)) dX2_renewRow_22 ⟨Nat.le_of_ble_eq_true rfl, Nat.le_of_ble_eq_true rfl⟩) (fun r_8 rho_10 f_9 H locs hw hH => ?_)
        obtain ⟨hu, hr_8⟩ := hw
        have hu : f_9 = fL := hu
        rw [hu] at hH
        refine lv_iconst (v := 0) hx hb dX2_renewRow_25 (by decide) ?_
        obtain ⟨g_11, hg_11, hp_11⟩ : okI G 0 16 (fun _ => True) (fL ia_7) := hI.pool hia_7
        refine m_iast hx hb hC hH hg_11 (vp_in_iff.mpr ⟨by omega, by omega⟩) dX2_renewRow_26 (fun H locs hH => ?_)
        obtain ⟨f_12, ef_12⟩ : ∃ zz_ : mF, zz_ = va_up fL ia_7 (some (.inl (gk G 0, 16, .inl (upd g_11 r_8.toNatClampNeg 0)))) := ⟨_, rfl⟩
        rw [← ef_12] at hH
        have F_13 := upk F_7 ef_12 (ne_rho hq hia_7 (by simp))
        have hI : IC G k rho n T z st f_12 := hI.setP hia_7 (by simp) ef_12 (show okI G 0 16 (fun _ => True) _ from ⟨_, rfl, trivial⟩)
        have hkk : kpK k f f_12 := fun j_ hj_ => (upn ef_12 (Ne.symm (hI.nk hj_ (by rw [hia_7]; simp)))).trans (hkk j_ hj_)
        have hfr := hfr.upP (by rw [hia_7]; simp) ef_12
        obtain ⟨x_14, ex_14⟩ : ∃ y : Int32, y = k3 + 1 := ⟨_, rfl⟩
        have ix_14 : x_14.toInt = k3.toInt + 1 := ic_add ex_14 rfl kI_1 (by omega) (by omega)
        refine lv_iinc (v := x_14) (lv' := [(3, .int x_14), (0, .ref q), (1, .int j), (2, .int v)]) hx hb dX2_renewRow_27 hl (k := 3) rfl (by rw [ex_14]; rfl) (by decide) rfl (fun ls hl => ?_)
        refine lv_goto (tgt := 10) hx hb dX2_renewRow_30 (by decide) ?_
        exact ih_10 x_14 f_12 (by omega) (by omega) hI hfr hkk (by omega) _ _ _ hH (lv_sub hl [1, 2, 3, 0] rfl)
  exact loop_10 (((8 : Int) - 0).toNat + 1) 0 f_4 (by have := kI_0; omega) (by have := kI_0; omega) hI hfr hkk (by have := kI_0; omega) _ _ _ hH (lv_sub hl [1, 2, 3, 0] rfl)
set_option maxHeartbeats 4000000 in
set_option maxRecDepth 100000 in
theorem c_X2_hasSameItems (l : Launch) (G : mG) (k : Nat → Nat) (rho : tR) (n : Nat) (T z : Nat → Nat) (st : Nat → Bool) (f : mF) (hI : IC G k rho n T z st f) (q t : Nat) (hq : rho q = (1, t)) (ht : t < 3) (q2 : Nat) (hq2 : rho q2 = (1, t)) (j : Int32) (hjj : 0 ≤ j.toInt ∧ j.toInt < 8) : Met l yX2_hasSameItems wsX2_hasSameItems ({ frames := 1, cells := 0, slots := 0, locals := 21 }) (va_Pc [.ref q, .ref q2, .int j] (mW G f)) (va_Qi (fun (r : Int32) (u : mS) => u.2 = f ∧ (r.toInt = 0 ∨ r.toInt = 1)) (fun (u : mS) t => mW G u.2 t) (mA G)) 0 0 (mA G) := by
  refine mMet [.ref q, .ref q2, .int j] (cc := cX2_hasSameItems) (maxL := 4) (ret := (some .boolean)) (by decide) rfl (Nat.le_of_ble_eq_true rfl) ?_
  intro p e s m below meth c ls hx hb hr hml hts hown hlk hnm hC hH hl
  have hl : lv_has ls 4 [(0, .ref q), (1, .ref q2), (2, .int j)] := hl
  have hj := hI.2.2.2.2.1
  have hn24 := hI.2.2.2.2.2.2.1
  have hT3 := hI.2.2.2.2.2.2.2.1
  have hz32 := hI.2.2.2.2.2.2.2.2
  have nIn : (nI n).toInt = (n : Int) := nI_toInt (by omega)
  have hfr : frC k rho f rho f := frC.rf
  refine lv_iconst (v := 0) hx hb dX2_hasSameItems_0 (by decide) ?_
  refine lv_istore_n (lv' := [(3, .int 0), (0, .ref q), (1, .ref q2), (2, .int j)]) hx hb dX2_hasSameItems_1 rfl hl (by decide) rfl (fun ls hl => ?_)
  have loop_2 : ∀ (fuel_ : Nat) (k3 : Int32) (h0_ : 0 ≤ k3.toInt) (h1_ : k3.toInt ≤ 8) (_ : ((8 : Int) - k3.toInt).toNat < fuel_) (H : Heap) (locs : List Loc) (ls : Array Slot) (_ : mH G s f H locs) (_ : lv_has ls 4 [(0, .ref q), (1, .ref q2), (2, .int j), (3, .int k3)]), W p l e ({ frames := 1, cells := 0, slots := 0, locals := 21 } : Room) s m ([.ref q, .ref q2, .int j] : List Value).toArray below meth c H locs 0 0 (MQ below (va_Qi (fun (r : Int32) (u : mS) => u.2 = f ∧ (r.toInt = 0 ∨ r.toInt = 1)) (fun (u : mS) t => mW G u.2 t) (mA G)) ([.ref q, .ref q2, .int j] : List Value).toArray s 0 0 (mA G)) (F0 m 2 ls []) := by
    intro N_2
    induction N_2 with
    | zero => intro k3 h0_ h1_ hN; omega
    | succ N_2 ih_2 =>
      intro k3 h0_ h1_ hN_2 H locs ls hH hl
      refine lv_iload_n hx hb dX2_hasSameItems_2 rfl (lv_at hl 3 rfl) ?_
      refine lv_bipush (v := 8) hx hb dX2_hasSameItems_3 (by decide) ?_
      refine lv_icmp_ge (tgt := 39) hx hb dX2_hasSameItems_5 (by decide) (fun c_1 => ?_) (fun c_1 => ?_)
      · skip
        have ic_1 : (8 : Int) ≤ k3.toInt := ic_le kI_8 rfl c_1
        refine lv_iconst (v := 1) hx hb dX2_hasSameItems_39 (by decide) ?_
        exact m_zret (v := 1) hx hb hr (by rfl) hlk hC hH rho ⟨rfl, by have := kI_1; omega⟩ (Nat.le_of_ble_eq_true rfl) (Nat.le_of_ble_eq_true rfl) dX2_hasSameItems_40
      · skip
        have ic_1 : (8 : Int) > k3.toInt := ic_nle kI_8 rfl c_1
        refine lv_aload_n hx hb dX2_hasSameItems_8 rfl (lv_at hl 0 rfl) ?_
        obtain ⟨ca_2, ia_2, si_2, bf_2, F_2, hca_2, hia_2, hbf_2⟩ : okB rho t q (f q) := hI.pool hq
        have tI_2 : (nI t).toInt = (t : Int) := nI_toInt (by have := ht; omega)
        refine m_get (ci := 2) (v := .ref ia_2) (C := RX2) (T := TX2) (N := 5) hx hb hC hH hts in_X2_hasSameItems_X2 hown F_2 rfl 2 (by decide) (hts (.fieldLink RX2 15 "LazyState$Body" "items" "[I") (by decide +kernel)) rfl dX2_hasSameItems_9 ?_
        refine lv_iload_n hx hb dX2_hasSameItems_12 rfl (lv_at hl 2 rfl) ?_
        refine lv_iload_n hx hb dX2_hasSameItems_13 rfl (lv_at hl 3 rfl) ?_
        refine m_goi hH (va_runS (As := [.int j, .int k3]) (rest := [.ref ia_2]) ⟨hx, hb, hml, hown, hts⟩ (c_X2_itemPlace l G f j k3 (by omega)) (va_cwS 2 hts gX2_hasSameItems_X2_itemPlace rfl rfl rfl (by decide +kernel) ⟨Nat.le_of_ble_eq_true rfl, Nat.le_of_ble_eq_true rfl⟩) (m_preS hC hH) rfl rfl hl.1 rfl (lv_room (Nat.le_of_ble_eq_true rfl)) dX2_hasSameItems_14 ⟨Nat.le_of_ble_eq_true rfl, Nat.le_of_ble_eq_true rfl⟩) (fun r_3 rho_5 f_4 H locs hw hH => ?_)
        obtain ⟨hu, hr_3⟩ := hw
        have hu : f_4 = f := hu
        rw [hu] at hH
        obtain ⟨g_6, hg_6, hp_6⟩ : okI G 0 16 (fun _ => True) (f ia_2) := hI.pool hia_2
        refine m_iald hx hb hC hH hg_6 (vp_in_iff.mpr ⟨by omega, by omega⟩) dX2_hasSameItems_17 ?_
        refine lv_topi (fun x_7 ex_7 => ?_)
        refine lv_aload_n hx hb dX2_hasSameItems_18 rfl (lv_at hl 1 rfl) ?_
        obtain ⟨ca_8, ia_8, si_8, bf_8, F_8, hca_8, hia_8, hbf_8⟩ : okB rho t q2 (f q2) := hI.pool hq2
        have tI_8 : (nI t).toInt = (t : Int) := nI_toInt (by have := ht; omega)
        refine m_get (ci := 2) (v := .ref ia_8) (C := RX2) (T := TX2) (N := 5) hx hb hC hH hts in_X2_hasSameItems_X2 hown F_8 rfl 2 (by decide) (hts (.fieldLink RX2 15 "LazyState$Body" "items" "[I") (by decide +kernel)) rfl dX2_hasSameItems_19 ?_
        refine lv_iload_n hx hb dX2_hasSameItems_22 rfl (lv_at hl 2 rfl) ?_
        refine lv_iload_n hx hb dX2_hasSameItems_23 rfl (lv_at hl 3 rfl) ?_
        refine m_goi hH (va_runS (As := [.int j, .int k3]) (rest := [.ref ia_8, .int x_7]) ⟨hx, hb, hml, hown, hts⟩ (c_X2_itemPlace l G f j k3 (by omega)) (va_cwS 2 hts gX2_hasSameItems_X2_itemPlace rfl rfl rfl (by decide +kernel) ⟨Nat.le_of_ble_eq_true rfl, Nat.le_of_ble_eq_true rfl⟩) (m_preS hC hH) rfl rfl hl.1 rfl (lv_room (Nat.le_of_ble_eq_true rfl)) dX2_hasSameItems_24 ⟨Nat.le_of_ble_eq_true rfl, Nat.le_of_ble_eq_true rfl⟩) (fun r_9 rho_11 f_10 H locs hw hH => ?_)
        obtain ⟨hu, hr_9⟩ := hw
        have hu : f_10 = f := hu
        rw [hu] at hH
        obtain ⟨g_12, hg_12, hp_12⟩ : okI G 0 16 (fun _ => True) (f ia_8) := hI.pool hia_8
        refine m_iald hx hb hC hH hg_12 (vp_in_iff.mpr ⟨by omega, by omega⟩) dX2_hasSameItems_27 ?_
        refine lv_topi (fun x_13 ex_13 => ?_)
        refine lv_icmp_eq (tgt := 33) hx hb dX2_hasSameItems_28 (by decide) (fun c_14 => ?_) (fun c_14 => ?_)
        · skip
          have ic_14 : (x_7.toInt : Int) = x_13.toInt := ic_eq rfl rfl c_14
          obtain ⟨x_15, ex_15⟩ : ∃ y : Int32, y = k3 + 1 := ⟨_, rfl⟩
          have ix_15 : x_15.toInt = k3.toInt + 1 := ic_add ex_15 rfl kI_1 (by omega) (by omega)
          refine lv_iinc (v := x_15) (lv' := [(3, .int x_15), (0, .ref q), (1, .ref q2), (2, .int j)]) hx hb dX2_hasSameItems_33 hl (k := 3) rfl (by rw [ex_15]; rfl) (by decide) rfl (fun ls hl => ?_)
          refine lv_goto (tgt := 2) hx hb dX2_hasSameItems_36 (by decide) ?_
          exact ih_2 x_15 (by omega) (by omega) (by omega) _ _ _ hH (lv_sub hl [1, 2, 3, 0] rfl)
        · skip
          have ic_14 : (x_7.toInt : Int) ≠ x_13.toInt := ic_ne rfl rfl c_14
          refine lv_iconst (v := 0) hx hb dX2_hasSameItems_31 (by decide) ?_
          exact m_zret (v := 0) hx hb hr (by rfl) hlk hC hH rho ⟨rfl, by have := kI_0; omega⟩ (Nat.le_of_ble_eq_true rfl) (Nat.le_of_ble_eq_true rfl) dX2_hasSameItems_32
  exact loop_2 (((8 : Int) - 0).toNat + 1) 0 (by have := kI_0; omega) (by have := kI_0; omega) (by have := kI_0; omega) _ _ _ hH (lv_sub hl [1, 2, 3, 0] rfl)
set_option maxHeartbeats 4000000 in
set_option maxRecDepth 100000 in
theorem c_X2_hasSameField (l : Launch) (G : mG) (k : Nat → Nat) (rho : tR) (n : Nat) (T z : Nat → Nat) (st : Nat → Bool) (f : mF) (hI : IC G k rho n T z st f) (q t : Nat) (hq : rho q = (1, t)) (ht : t < 3) (q2 : Nat) (hq2 : rho q2 = (1, t)) (j : Int32) (hjj : 0 ≤ j.toInt ∧ j.toInt < 8) : Met l yX2_hasSameField wsX2_hasSameField ({ frames := 2, cells := 0, slots := 0, locals := 44 }) (va_Pc [.ref q, .ref q2, .int j] (mW G f)) (va_Qi (fun (r : Int32) (u : mS) => u.2 = f ∧ (r.toInt = 0 ∨ r.toInt = 1)) (fun (u : mS) t => mW G u.2 t) (mA G)) 0 0 (mA G) := by
  refine mMet [.ref q, .ref q2, .int j] (cc := cX2_hasSameField) (maxL := 3) (ret := (some .boolean)) (by decide) rfl (Nat.le_of_ble_eq_true rfl) ?_
  intro p e s m below meth c ls hx hb hr hml hts hown hlk hnm hC hH hl
  have hl : lv_has ls 3 [(0, .ref q), (1, .ref q2), (2, .int j)] := hl
  have hj := hI.2.2.2.2.1
  have hn24 := hI.2.2.2.2.2.2.1
  have hT3 := hI.2.2.2.2.2.2.2.1
  have hz32 := hI.2.2.2.2.2.2.2.2
  have nIn : (nI n).toInt = (n : Int) := nI_toInt (by omega)
  have hfr : frC k rho f rho f := frC.rf
  refine lv_aload_n hx hb dX2_hasSameField_0 rfl (lv_at hl 0 rfl) ?_
  obtain ⟨ca_1, ia_1, si_1, bf_1, F_1, hca_1, hia_1, hbf_1⟩ : okB rho t q (f q) := hI.pool hq
  have tI_1 : (nI t).toInt = (t : Int) := nI_toInt (by have := ht; omega)
  refine m_get (ci := 2) (v := .ref ca_1) (C := RX2) (T := TX2) (N := 5) hx hb hC hH hts in_X2_hasSameField_X2 hown F_1 rfl 1 (by decide) (hts (.fieldLink RX2 9 "LazyState$Body" "cells" "[J") (by decide +kernel)) rfl dX2_hasSameField_1 ?_
  refine lv_iload_n hx hb dX2_hasSameField_4 rfl (lv_at hl 2 rfl) ?_
  obtain ⟨g_2, hg_2, hp_2⟩ : okJ G 8 (pCl n t) (f ca_1) := hI.pool hca_1
  refine m_lald hx hb hC hH hg_2 (vp_in_iff.mpr ⟨by omega, by omega⟩) dX2_hasSameField_5 ?_
  refine lv_topl (fun y_3 ey_3 => ?_)
  refine lv_aload_n hx hb dX2_hasSameField_6 rfl (lv_at hl 1 rfl) ?_
  obtain ⟨ca_4, ia_4, si_4, bf_4, F_4, hca_4, hia_4, hbf_4⟩ : okB rho t q2 (f q2) := hI.pool hq2
  have tI_4 : (nI t).toInt = (t : Int) := nI_toInt (by have := ht; omega)
  refine m_get (ci := 2) (v := .ref ca_4) (C := RX2) (T := TX2) (N := 5) hx hb hC hH hts in_X2_hasSameField_X2 hown F_4 rfl 1 (by decide) (hts (.fieldLink RX2 9 "LazyState$Body" "cells" "[J") (by decide +kernel)) rfl dX2_hasSameField_7 ?_
  refine lv_iload_n hx hb dX2_hasSameField_10 rfl (lv_at hl 2 rfl) ?_
  obtain ⟨g_5, hg_5, hp_5⟩ : okJ G 8 (pCl n t) (f ca_4) := hI.pool hca_4
  refine m_lald hx hb hC hH hg_5 (vp_in_iff.mpr ⟨by omega, by omega⟩) dX2_hasSameField_11 ?_
  refine lv_topl (fun y_6 ey_6 => ?_)
  refine W.lcmp hx hb dX2_hasSameField_12 ?_
  refine lv_if_eq (tgt := 18) hx hb dX2_hasSameField_13 (by decide) (fun c_7 => ?_) (fun c_7 => ?_)
  · skip
    have ic_7 : (y_3.toInt : Int) = y_6.toInt := lc_eq rfl rfl ((lg_cmp_eq _ _).mp c_7)
    refine lv_aload_n hx hb dX2_hasSameField_18 rfl (lv_at hl 0 rfl) ?_
    refine lv_iload_n hx hb dX2_hasSameField_19 rfl (lv_at hl 2 rfl) ?_
    refine m_goi hH (va_runV (As := [.int j]) (rest := []) ⟨hx, hb, hml, hown, hts⟩ (c_X2_sortOf l G k rho n T z st f hI q t hq ht j) (cwV 1 hts gX2_hasSameField_X2_sortOf rfl rfl rfl (by decide +kernel) ⟨Nat.le_of_ble_eq_true rfl, Nat.le_of_ble_eq_true rfl⟩) (m_preV (ci := 2) hC hH F_1 rfl) rfl rfl hl.1 rfl (lv_room (Nat.le_of_ble_eq_true rfl)) dX2_hasSameField_20 ⟨Nat.le_of_ble_eq_true rfl, Nat.le_of_ble_eq_true rfl⟩) (fun r_8 rho_10 f_9 H locs hw hH => ?_)
    obtain ⟨hu, hr_8⟩ := hw
    have hu : f_9 = f := hu
    rw [hu] at hH
    refine lv_iconst (v := 3) hx hb dX2_hasSameField_23 (by decide) ?_
    refine lv_icmp_ne (tgt := 36) hx hb dX2_hasSameField_24 (by decide) (fun c_11 => ?_) (fun c_11 => ?_)
    · skip
      have ic_11 : (r_8.toInt : Int) ≠ 3 := ic_ne rfl kI_3 c_11
      refine lv_iconst (v := 1) hx hb dX2_hasSameField_36 (by decide) ?_
      refine lv_goto (tgt := 41) hx hb dX2_hasSameField_37 (by decide) ?_
      exact m_zret (v := 1) hx hb hr (by rfl) hlk hC hH rho ⟨rfl, by have := kI_1; omega⟩ (Nat.le_of_ble_eq_true rfl) (Nat.le_of_ble_eq_true rfl) dX2_hasSameField_41
    · skip
      have ic_11 : (r_8.toInt : Int) = 3 := ic_eq rfl kI_3 c_11
      refine lv_aload_n hx hb dX2_hasSameField_27 rfl (lv_at hl 0 rfl) ?_
      refine lv_aload_n hx hb dX2_hasSameField_28 rfl (lv_at hl 1 rfl) ?_
      refine lv_iload_n hx hb dX2_hasSameField_29 rfl (lv_at hl 2 rfl) ?_
      refine m_goi hH (va_runV (As := [.ref q2, .int j]) (rest := []) ⟨hx, hb, hml, hown, hts⟩ (c_X2_hasSameItems l G k rho n T z st f hI q t hq ht q2 hq2 j (by omega)) (cwV 2 hts gX2_hasSameField_X2_hasSameItems rfl rfl rfl (by decide +kernel) ⟨Nat.le_of_ble_eq_true rfl, Nat.le_of_ble_eq_true rfl⟩) (m_preV (ci := 2) hC hH F_1 rfl) rfl rfl hl.1 rfl (lv_room (Nat.le_of_ble_eq_true rfl)) dX2_hasSameField_30 ⟨Nat.le_of_ble_eq_true rfl, Nat.le_of_ble_eq_true rfl⟩) (fun r_12 rho_14 f_13 H locs hw hH => ?_)
      obtain ⟨hu, hr_12⟩ := hw
      have hu : f_13 = f := hu
      rw [hu] at hH
      refine lv_if_eq (tgt := 40) hx hb dX2_hasSameField_33 (by decide) (fun c_15 => ?_) (fun c_15 => ?_)
      · skip
        have ic_15 : (r_12.toInt : Int) = 0 := ic_eq rfl kI_0 c_15
        refine lv_iconst (v := 0) hx hb dX2_hasSameField_40 (by decide) ?_
        exact m_zret (v := 0) hx hb hr (by rfl) hlk hC hH rho ⟨rfl, by have := kI_0; omega⟩ (Nat.le_of_ble_eq_true rfl) (Nat.le_of_ble_eq_true rfl) dX2_hasSameField_41
      · skip
        have ic_15 : (r_12.toInt : Int) ≠ 0 := ic_ne rfl kI_0 c_15
        refine lv_iconst (v := 1) hx hb dX2_hasSameField_36 (by decide) ?_
        refine lv_goto (tgt := 41) hx hb dX2_hasSameField_37 (by decide) ?_
        exact m_zret (v := 1) hx hb hr (by rfl) hlk hC hH rho ⟨rfl, by have := kI_1; omega⟩ (Nat.le_of_ble_eq_true rfl) (Nat.le_of_ble_eq_true rfl) dX2_hasSameField_41
  · skip
    have ic_7 : (y_3.toInt : Int) ≠ y_6.toInt := lc_ne rfl rfl (fun q_ => c_7 ((lg_cmp_eq _ _).mpr q_))
    refine lv_iconst (v := 0) hx hb dX2_hasSameField_16 (by decide) ?_
    exact m_zret (v := 0) hx hb hr (by rfl) hlk hC hH rho ⟨rfl, by have := kI_0; omega⟩ (Nat.le_of_ble_eq_true rfl) (Nat.le_of_ble_eq_true rfl) dX2_hasSameField_17
