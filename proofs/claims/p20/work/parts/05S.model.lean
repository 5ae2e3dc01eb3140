set_option maxHeartbeats 4000000 in
set_option maxRecDepth 100000 in
theorem c_X6_act (l : Launch) (G : mG) (h : Nat → Nat) (n : Nat) (T z : Nat → Nat) (A : Nat → tA) (hg : Nat) (ver : Nat → Nat → tB) (cq : Nat → Bool) (fe : Int32) (tms : Nat → Int32) (ca : Int32) (wl : List Nat) (wh : Int32) (ac th : Nat) (sx : Int32) (σ : tS) (f : mF) (hI : FM G h n T z A hg ver cq fe tms ca wl wh ac th sx σ f) (b kd a : Int32) (bb : Int64) (c_ d_ e_ : Int32) : Met l yX6_act wsX6_act ({ frames := 3, cells := 0, slots := 0, locals := 72 }) (va_Pc [.ref (h 0), .int b, .int kd, .int a, .long bb, .int c_, .int d_, .int e_] (mW G f)) (va_Qi (fun (r : Int32) (u : mS) => frM h f u.2 ∧ ((¬ (0 ≤ b.toInt ∧ b.toInt < 6 ∧ okA (kd, a, bb, c_, d_, e_)) ∧ r.toInt = -1 ∧ FM G h n T z A hg ver cq fe tms ca wl wh ac th sx σ u.2) ∨ ((0 ≤ b.toInt ∧ b.toInt < 6 ∧ okA (kd, a, bb, c_, d_, e_)) ∧ z b.toNatClampNeg = 32 ∧ r.toInt = -2 ∧ FM G h n T z A hg ver cq fe tms ca wl wh ac th sx σ u.2) ∨ ((0 ≤ b.toInt ∧ b.toInt < 6 ∧ okA (kd, a, bb, c_, d_, e_)) ∧ z b.toNatClampNeg < 32 ∧ r.toInt = z b.toNatClampNeg ∧ FM G h n T (va_up z b.toNatClampNeg (z b.toNatClampNeg + 1)) (va_up A (32 * b.toNatClampNeg + z b.toNatClampNeg) (kd, a, bb, c_, d_, e_)) hg ver cq fe tms ca wl wh ac th sx σ u.2))) (fun (u : mS) t => mW G u.2 t) (mA G)) 0 0 (mA G) := by
  refine mMet [.ref (h 0), .int b, .int kd, .int a, .long bb, .int c_, .int d_, .int e_] (cc := cX6_act) (maxL := 10) (ret := (some .int)) (by decide) rfl (Nat.le_of_ble_eq_true rfl) ?_
  intro p e s m below meth c ls hx hb hr hml hts hown hlk hnm hC hH hl
  have hl : lv_has ls 10 [(0, .ref (h 0)), (1, .int b), (2, .int kd), (3, .int a), (4, .long bb), (6, .int c_), (7, .int d_), (8, .int e_)] := hl
  have hI0_ := hI
  have hfr : frM h f f := frM.rf
  obtain ⟨I_1, J_1, hM, hR, hac_1, hth_1⟩ := hI
  have hg_1 := hR.hg40
  have n24_1 := hR.n24
  have tl_1 := len_b hR.ok.2.2.1
  have wl_1 := hR.wl192
  have hgI_1 : (nI hg).toInt = ((hg : Nat) : Int) := nI_toInt (by omega)
  have tmI_1 : (nI ((trS σ).length)).toInt = (((trS σ).length : Nat) : Int) := nI_toInt (by omega)
  have wmI_1 : (nI wl.length).toInt = ((wl.length : Nat) : Int) := nI_toInt (by omega)
  have acI_1 : (nI ac).toInt = ((ac : Nat) : Int) := nI_toInt (by omega)
  have thI_1 : (nI th).toInt = ((th : Nat) : Int) := nI_toInt (by omega)
  have nIn_1 : (nI n).toInt = ((n : Nat) : Int) := nI_toInt (by omega)
  refine lv_iload_n hx hb dX6_act_0 rfl (lv_at hl 1 rfl) ?_
  refine lv_i2l hx hb dX6_act_1 rfl ?_
  refine lv_topl (fun y_2 ey_2 => ?_)
  have iy_2 : y_2.toInt = b.toInt := lc_i2l ey_2 rfl
  have gy_2 := ic_rng b
  refine lv_lconst (v := 0) hx hb dX6_act_2 (by decide) ?_
  refine lv_ldc2 (v := 5) hx hb hown (hts (.constantLong RX6 143 (5)) (by decide +kernel)) dX6_act_3 ?_
  refine m_goi hH (va_runS (As := [.long y_2, .long 0, .long 5]) (rest := []) ⟨hx, hb, hml, hown, hts⟩ (c_X6_in l G f y_2 0 5) (va_cwS 3 hts gX6_act_X6_in rfl rfl rfl (by decide +kernel) ⟨Nat.le_of_ble_eq_true rfl, Nat.le_of_ble_eq_true rfl⟩) (m_preS hC hH) rfl rfl hl.1 rfl (lv_room (Nat.le_of_ble_eq_true rfl)) dX6_act_6 ⟨Nat.le_of_ble_eq_true rfl, Nat.le_of_ble_eq_true rfl⟩) (fun r_3 rho_5 f_4 H locs hw hH => ?_)
  obtain ⟨hu, hr_3⟩ := hw
  have hu : f_4 = f := hu
  rw [hu] at hH
  have hr_3 : (r_3.toInt = 1 ∧ 0 ≤ y_2.toInt ∧ y_2.toInt ≤ 5) ∨ (r_3.toInt = 0 ∧ (y_2.toInt < 0 ∨ 5 < y_2.toInt)) := by have q0 := (rfl : y_2.toInt = _); have q1 := kJ_0; have q2 := kJ_5; omega
  refine lv_if_eq (tgt := 28) hx hb dX6_act_9 (by decide) (fun c_6 => ?_) (fun c_6 => ?_)
  · skip
    have ic_6 : (r_3.toInt : Int) = 0 := ic_eq rfl kI_0 c_6
    refine lv_iconst (v := (-1)) hx hb dX6_act_28 (by decide) ?_
    exact m_iret (v := (-1)) hx hb hr hlk hC hH (fun _ => (0, 0)) ⟨hfr, Or.inl ⟨fun z_ => (by have := kJ_0; have := kJ_5; omega), kI_m1, ⟨_, _, hM, hR, hac_1, hth_1⟩⟩⟩ (Nat.le_of_ble_eq_true rfl) (Nat.le_of_ble_eq_true rfl) dX6_act_29
  · skip
    have ic_6 : (r_3.toInt : Int) ≠ 0 := ic_ne rfl kI_0 c_6
    have cb_ := ic_clN (rfl : b.toInt = _) (by have := kJ_0; omega)
    have k0_ := kJ_0
    have k5_ := kJ_5
    refine lv_iload_n hx hb dX6_act_12 rfl (lv_at hl 2 rfl) ?_
    refine lv_iload_n hx hb dX6_act_13 rfl (lv_at hl 3 rfl) ?_
    refine lv_lload hx hb dX6_act_14 (lv_at hl 4 rfl) ?_
    refine lv_iload hx hb dX6_act_16 (lv_at hl 5 rfl) ?_
    refine lv_iload hx hb dX6_act_18 (lv_at hl 6 rfl) ?_
    refine lv_iload hx hb dX6_act_20 (lv_at hl 7 rfl) ?_
    refine m_goi hH (va_runS (As := [.int kd, .int a, .long bb, .int c_, .int d_, .int e_]) (rest := []) ⟨hx, hb, hml, hown, hts⟩ (c_X6_isAct l G f kd a bb c_ d_ e_) (va_cwS 6 hts gX6_act_X6_isAct rfl rfl rfl (by decide +kernel) ⟨Nat.le_of_ble_eq_true rfl, Nat.le_of_ble_eq_true rfl⟩) (m_preS hC hH) rfl rfl hl.1 rfl (lv_room (Nat.le_of_ble_eq_true rfl)) dX6_act_22 ⟨Nat.le_of_ble_eq_true rfl, Nat.le_of_ble_eq_true rfl⟩) (fun r_7 rho_9 f_8 H locs hw hH => ?_)
    obtain ⟨hu, hr_7⟩ := hw
    have hu : f_8 = f := hu
    rw [hu] at hH
    refine lv_if_ne (tgt := 30) hx hb dX6_act_25 (by decide) (fun c_10 => ?_) (fun c_10 => ?_)
    · skip
      have ic_10 : (r_7.toInt : Int) ≠ 0 := ic_ne rfl kI_0 c_10
      have okt_ := (hr_7.resolve_right (fun z_ => by omega)).2
      refine lv_aload_n hx hb dX6_act_30 rfl (lv_at hl 0 rfl) ?_
      have F_11 : f (h 0) = some (.inr (6, [.int (nI n), .ref (h 1), .int (nI hg), .ref (h 3), .ref (h 4), .ref (h 5), .ref (h 6), .int fe, .ref (h 8), .ref (h 9), .ref (h 10), .ref (h 11), .ref (h 12), .ref (h 13), .ref (h 14), .ref (h 15), .int ca, .long (gfS σ), .int wh, .int (nI ((trS σ).length)), .ref (h 20), .ref (h 21), .int (nI wl.length), .ref (h 23), .ref (h 24), .int (nI ac), .ref (h 26), .ref (h 27), .int (nI th), .int sx])) := hM.1
      refine m_get (ci := 6) (v := .ref (h 9)) (C := RX6) (T := TX6) (N := 30) hx hb hC hH hts in_X6_act_X6 hown F_11 rfl 9 (by decide) (hts (.fieldLink RX6 31 "LazyStateModel" "many" "[I") (by decide +kernel)) rfl dX6_act_31 ?_
      refine lv_iload_n hx hb dX6_act_34 rfl (lv_at hl 1 rfl) ?_
      have hg_12 : f (h 9) = some (.inl (gk G 0, 6, .inl (I_1 9))) := hM.2.1 9 (by decide) rfl
      refine m_iald hx hb hC hH hg_12 (vp_in_iff.mpr ⟨by omega, by omega⟩) dX6_act_35 ?_
      refine lv_topi (fun x_13 ex_13 => ?_)
      have zxx_13 : x_13.toInt = ((z b.toNatClampNeg : Nat) : Int) := by rw [ex_13, hR.ms (by omega)]; exact nI_toInt (by have := hR.z32 b.toNatClampNeg; omega)
      have zz_ := hR.z32 b.toNatClampNeg
      refine lv_bipush (v := 32) hx hb dX6_act_36 (by decide) ?_
      refine lv_icmp_ne (tgt := 44) hx hb dX6_act_38 (by decide) (fun c_14 => ?_) (fun c_14 => ?_)
      · skip
        have ic_14 : (x_13.toInt : Int) ≠ 32 := ic_ne rfl kI_32 c_14
        refine lv_bipush (v := 32) hx hb dX6_act_44 (by decide) ?_
        refine lv_iload_n hx hb dX6_act_46 rfl (lv_at hl 1 rfl) ?_
        refine lv_imul hx hb dX6_act_47 ?_
        refine lv_topi (fun x_15 ex_15 => ?_)
        have ix_15 : x_15.toInt = 32 * b.toInt := ic_mul ex_15 kI_32 rfl (by omega) (by omega)
        refine lv_aload_n hx hb dX6_act_48 rfl (lv_at hl 0 rfl) ?_
        refine m_get (ci := 6) (v := .ref (h 9)) (C := RX6) (T := TX6) (N := 30) hx hb hC hH hts in_X6_act_X6 hown F_11 rfl 9 (by decide) (hts (.fieldLink RX6 31 "LazyStateModel" "many" "[I") (by decide +kernel)) rfl dX6_act_49 ?_
        refine lv_iload_n hx hb dX6_act_52 rfl (lv_at hl 1 rfl) ?_
        refine m_iald hx hb hC hH hg_12 (vp_in_iff.mpr ⟨by omega, by omega⟩) dX6_act_53 ?_
        refine lv_topi (fun x_16 ex_16 => ?_)
        have zxx_16 : x_16.toInt = ((z b.toNatClampNeg : Nat) : Int) := by rw [ex_16, hR.ms (by omega)]; exact nI_toInt (by have := hR.z32 b.toNatClampNeg; omega)
        have zz_ := hR.z32 b.toNatClampNeg
        refine lv_iadd hx hb dX6_act_54 ?_
        refine lv_topi (fun x_17 ex_17 => ?_)
        have ix_17 : x_17.toInt = x_15.toInt + x_16.toInt := ic_add ex_17 rfl rfl (by omega) (by omega)
        refine lv_istore (lv' := [(9, .int x_17), (0, .ref (h 0)), (1, .int b), (2, .int kd), (3, .int a), (4, .long bb), (6, .int c_), (7, .int d_), (8, .int e_)]) hx hb dX6_act_55 hl (by decide) rfl (fun ls hl => ?_)
        refine lv_aload_n hx hb dX6_act_57 rfl (lv_at hl 1 rfl) ?_
        refine m_get (ci := 6) (v := .ref (h 10)) (C := RX6) (T := TX6) (N := 30) hx hb hC hH hts in_X6_act_X6 hown F_11 rfl 10 (by decide) (hts (.fieldLink RX6 34 "LazyStateModel" "kinds" "[I") (by decide +kernel)) rfl dX6_act_58 ?_
        refine lv_iload hx hb dX6_act_61 (lv_at hl 0 rfl) ?_
        refine lv_iload_n hx hb dX6_act_63 rfl (lv_at hl 3 rfl) ?_
        have hg_18 : f (h 10) = some (.inl (gk G 0, 192, .inl (I_1 10))) := hM.2.1 10 (by decide) rfl
        refine m_iast hx hb hC hH hg_18 (vp_in_iff.mpr ⟨by omega, by omega⟩) dX6_act_64 (fun H locs hH => ?_)
        obtain ⟨f_19, ef_19⟩ : ∃ zz_ : mF, zz_ = va_up f (h 10) (some (.inl (gk G 0, 192, .inl (upd (I_1 10) x_17.toNatClampNeg kd)))) := ⟨_, rfl⟩
        rw [← ef_19] at hH
        have hM : MEM G h n (nI hg, fe, ca, (gfS σ), wh, nI ((trS σ).length), nI wl.length, nI ac, nI th, sx) (va_up I_1 10 (upd (I_1 10) x_17.toNatClampNeg kd)) J_1 f_19 := hM.setI 10 (by decide) rfl ef_19
        have hfr := hfr.up 10 (by decide) ef_19
        have nn_20 : x_17.toNatClampNeg = (32 * b.toNatClampNeg + z b.toNatClampNeg) := by have := ic_clN (rfl : x_17.toInt = _) (by omega); omega
        rw [nn_20] at hM
        refine lv_aload_n hx hb dX6_act_65 rfl (lv_at hl 1 rfl) ?_
        have F_21 : f_19 (h 0) = some (.inr (6, [.int (nI n), .ref (h 1), .int (nI hg), .ref (h 3), .ref (h 4), .ref (h 5), .ref (h 6), .int fe, .ref (h 8), .ref (h 9), .ref (h 10), .ref (h 11), .ref (h 12), .ref (h 13), .ref (h 14), .ref (h 15), .int ca, .long (gfS σ), .int wh, .int (nI ((trS σ).length)), .ref (h 20), .ref (h 21), .int (nI wl.length), .ref (h 23), .ref (h 24), .int (nI ac), .ref (h 26), .ref (h 27), .int (nI th), .int sx])) := hM.1
        refine m_get (ci := 6) (v := .ref (h 11)) (C := RX6) (T := TX6) (N := 30) hx hb hC hH hts in_X6_act_X6 hown F_21 rfl 11 (by decide) (hts (.fieldLink RX6 37 "LazyStateModel" "as" "[I") (by decide +kernel)) rfl dX6_act_66 ?_
        refine lv_iload hx hb dX6_act_69 (lv_at hl 0 rfl) ?_
        refine lv_iload_n hx hb dX6_act_71 rfl (lv_at hl 4 rfl) ?_
        have hg_22 : f_19 (h 11) = some (.inl (gk G 0, 192, .inl (I_1 11))) := hM.2.1 11 (by decide) rfl
        refine m_iast hx hb hC hH hg_22 (vp_in_iff.mpr ⟨by omega, by omega⟩) dX6_act_72 (fun H locs hH => ?_)
        obtain ⟨f_23, ef_23⟩ : ∃ zz_ : mF, zz_ = va_up f_19 (h 11) (some (.inl (gk G 0, 192, .inl (upd (I_1 11) x_17.toNatClampNeg a)))) := ⟨_, rfl⟩
        rw [← ef_23] at hH
        have hM : MEM G h n (nI hg, fe, ca, (gfS σ), wh, nI ((trS σ).length), nI wl.length, nI ac, nI th, sx) (va_up (va_up I_1 10 (upd (I_1 10) (32 * b.toNatClampNeg + z b.toNatClampNeg) kd)) 11 (upd (I_1 11) x_17.toNatClampNeg a)) J_1 f_23 := hM.setI 11 (by decide) rfl ef_23
        have hfr := hfr.up 11 (by decide) ef_23
        have nn_24 : x_17.toNatClampNeg = (32 * b.toNatClampNeg + z b.toNatClampNeg) := by have := ic_clN (rfl : x_17.toInt = _) (by omega); omega
        rw [nn_24] at hM
        refine lv_aload_n hx hb dX6_act_73 rfl (lv_at hl 1 rfl) ?_
        have F_25 : f_23 (h 0) = some (.inr (6, [.int (nI n), .ref (h 1), .int (nI hg), .ref (h 3), .ref (h 4), .ref (h 5), .ref (h 6), .int fe, .ref (h 8), .ref (h 9), .ref (h 10), .ref (h 11), .ref (h 12), .ref (h 13), .ref (h 14), .ref (h 15), .int ca, .long (gfS σ), .int wh, .int (nI ((trS σ).length)), .ref (h 20), .ref (h 21), .int (nI wl.length), .ref (h 23), .ref (h 24), .int (nI ac), .ref (h 26), .ref (h 27), .int (nI th), .int sx])) := hM.1
        refine m_get (ci := 6) (v := .ref (h 12)) (C := RX6) (T := TX6) (N := 30) hx hb hC hH hts in_X6_act_X6 hown F_25 rfl 12 (by decide) (hts (.fieldLink RX6 40 "LazyStateModel" "bs" "[J") (by decide +kernel)) rfl dX6_act_74 ?_
        refine lv_iload hx hb dX6_act_77 (lv_at hl 0 rfl) ?_
        refine lv_lload hx hb dX6_act_79 (lv_at hl 5 rfl) ?_
        have hg_26 : f_23 (h 12) = some (.inl (gk G 1, 192, .inr (.inl (J_1 12)))) := hM.2.2.1 12 (by decide) rfl
        refine m_last hx hb hC hH hg_26 (vp_in_iff.mpr ⟨by omega, by omega⟩) dX6_act_81 (fun H locs hH => ?_)
        obtain ⟨f_27, ef_27⟩ : ∃ zz_ : mF, zz_ = va_up f_23 (h 12) (some (.inl (gk G 1, 192, .inr (.inl (vp_updL (J_1 12) x_17.toNatClampNeg bb))))) := ⟨_, rfl⟩
        rw [← ef_27] at hH
        have hM : MEM G h n (nI hg, fe, ca, (gfS σ), wh, nI ((trS σ).length), nI wl.length, nI ac, nI th, sx) (va_up (va_up I_1 10 (upd (I_1 10) (32 * b.toNatClampNeg + z b.toNatClampNeg) kd)) 11 (upd (I_1 11) (32 * b.toNatClampNeg + z b.toNatClampNeg) a)) (va_up J_1 12 (vp_updL (J_1 12) x_17.toNatClampNeg bb)) f_27 := hM.setJ 12 (by decide) rfl ef_27
        have hfr := hfr.up 12 (by decide) ef_27
        have nn_28 : x_17.toNatClampNeg = (32 * b.toNatClampNeg + z b.toNatClampNeg) := by have := ic_clN (rfl : x_17.toInt = _) (by omega); omega
        rw [nn_28] at hM
        refine lv_aload_n hx hb dX6_act_82 rfl (lv_at hl 1 rfl) ?_
        have F_29 : f_27 (h 0) = some (.inr (6, [.int (nI n), .ref (h 1), .int (nI hg), .ref (h 3), .ref (h 4), .ref (h 5), .ref (h 6), .int fe, .ref (h 8), .ref (h 9), .ref (h 10), .ref (h 11), .ref (h 12), .ref (h 13), .ref (h 14), .ref (h 15), .int ca, .long (gfS σ), .int wh, .int (nI ((trS σ).length)), .ref (h 20), .ref (h 21), .int (nI wl.length), .ref (h 23), .ref (h 24), .int (nI ac), .ref (h 26), .ref (h 27), .int (nI th), .int sx])) := hM.1
        refine m_get (ci := 6) (v := .ref (h 13)) (C := RX6) (T := TX6) (N := 30) hx hb hC hH hts in_X6_act_X6 hown F_29 rfl 13 (by decide) (hts (.fieldLink RX6 43 "LazyStateModel" "cs" "[I") (by decide +kernel)) rfl dX6_act_83 ?_
        refine lv_iload hx hb dX6_act_86 (lv_at hl 0 rfl) ?_
        refine lv_iload hx hb dX6_act_88 (lv_at hl 6 rfl) ?_
        have hg_30 : f_27 (h 13) = some (.inl (gk G 0, 192, .inl (I_1 13))) := hM.2.1 13 (by decide) rfl
        refine m_iast hx hb hC hH hg_30 (vp_in_iff.mpr ⟨by omega, by omega⟩) dX6_act_90 (fun H locs hH => ?_)
        obtain ⟨f_31, ef_31⟩ : ∃ zz_ : mF, zz_ = va_up f_27 (h 13) (some (.inl (gk G 0, 192, .inl (upd (I_1 13) x_17.toNatClampNeg c_)))) := ⟨_, rfl⟩
        rw [← ef_31] at hH
        have hM : MEM G h n (nI hg, fe, ca, (gfS σ), wh, nI ((trS σ).length), nI wl.length, nI ac, nI th, sx) (va_up (va_up (va_up I_1 10 (upd (I_1 10) (32 * b.toNatClampNeg + z b.toNatClampNeg) kd)) 11 (upd (I_1 11) (32 * b.toNatClampNeg + z b.toNatClampNeg) a)) 13 (upd (I_1 13) x_17.toNatClampNeg c_)) (va_up J_1 12 (vp_updL (J_1 12) (32 * b.toNatClampNeg + z b.toNatClampNeg) bb)) f_31 := hM.setI 13 (by decide) rfl ef_31
        have hfr := hfr.up 13 (by decide) ef_31
        have nn_32 : x_17.toNatClampNeg = (32 * b.toNatClampNeg + z b.toNatClampNeg) := by have := ic_clN (rfl : x_17.toInt = _) (by omega); omega
        rw [nn_32] at hM
        refine lv_aload_n hx hb dX6_act_91 rfl (lv_at hl 1 rfl) ?_
        have F_33 : f_31 (h 0) = some (.inr (6, [.int (nI n), .ref (h 1), .int (nI hg), .ref (h 3), .ref (h 4), .ref (h 5), .ref (h 6), .int fe, .ref (h 8), .ref (h 9), .ref (h 10), .ref (h 11), .ref (h 12), .ref (h 13), .ref (h 14), .ref (h 15), .int ca, .long (gfS σ), .int wh, .int (nI ((trS σ).length)), .ref (h 20), .ref (h 21), .int (nI wl.length), .ref (h 23), .ref (h 24), .int (nI ac), .ref (h 26), .ref (h 27), .int (nI th), .int sx])) := hM.1
        refine m_get (ci := 6) (v := .ref (h 14)) (C := RX6) (T := TX6) (N := 30) hx hb hC hH hts in_X6_act_X6 hown F_33 rfl 14 (by decide) (hts (.fieldLink RX6 46 "LazyStateModel" "ds" "[I") (by decide +kernel)) rfl dX6_act_92 ?_
        refine lv_iload hx hb dX6_act_95 (lv_at hl 0 rfl) ?_
        refine lv_iload hx hb dX6_act_97 (lv_at hl 7 rfl) ?_
        have hg_34 : f_31 (h 14) = some (.inl (gk G 0, 192, .inl (I_1 14))) := hM.2.1 14 (by decide) rfl
        refine m_iast hx hb hC hH hg_34 (vp_in_iff.mpr ⟨by omega, by omega⟩) dX6_act_99 (fun H locs hH => ?_)
        obtain ⟨f_35, ef_35⟩ : ∃ zz_ : mF, zz_ = va_up f_31 (h 14) (some (.inl (gk G 0, 192, .inl (upd (I_1 14) x_17.toNatClampNeg d_)))) := ⟨_, rfl⟩
        rw [← ef_35] at hH
        have hM : MEM G h n (nI hg, fe, ca, (gfS σ), wh, nI ((trS σ).length), nI wl.length, nI ac, nI th, sx) (va_up (va_up (va_up (va_up I_1 10 (upd (I_1 10) (32 * b.toNatClampNeg + z b.toNatClampNeg) kd)) 11 (upd (I_1 11) (32 * b.toNatClampNeg + z b.toNatClampNeg) a)) 13 (upd (I_1 13) (32 * b.toNatClampNeg + z b.toNatClampNeg) c_)) 14 (upd (I_1 14) x_17.toNatClampNeg d_)) (va_up J_1 12 (vp_updL (J_1 12) (32 * b.toNatClampNeg + z b.toNatClampNeg) bb)) f_35 := hM.setI 14 (by decide) rfl ef_35
        have hfr := hfr.up 14 (by decide) ef_35
        have nn_36 : x_17.toNatClampNeg = (32 * b.toNatClampNeg + z b.toNatClampNeg) := by have := ic_clN (rfl : x_17.toInt = _) (by omega); omega
        rw [nn_36] at hM
        refine lv_aload_n hx hb dX6_act_100 rfl (lv_at hl 1 rfl) ?_
        have F_37 : f_35 (h 0) = some (.inr (6, [.int (nI n), .ref (h 1), .int (nI hg), .ref (h 3), .ref (h 4), .ref (h 5), .ref (h 6), .int fe, .ref (h 8), .ref (h 9), .ref (h 10), .ref (h 11), .ref (h 12), .ref (h 13), .ref (h 14), .ref (h 15), .int ca, .long (gfS σ), .int wh, .int (nI ((trS σ).length)), .ref (h 20), .ref (h 21), .int (nI wl.length), .ref (h 23), .ref (h 24), .int (nI ac), .ref (h 26), .ref (h 27), .int (nI th), .int sx])) := hM.1
        refine m_get (ci := 6) (v := .ref (h 15)) (C := RX6) (T := TX6) (N := 30) hx hb hC hH hts in_X6_act_X6 hown F_37 rfl 15 (by decide) (hts (.fieldLink RX6 49 "LazyStateModel" "es" "[I") (by decide +kernel)) rfl dX6_act_101 ?_
        refine lv_iload hx hb dX6_act_104 (lv_at hl 0 rfl) ?_
        refine lv_iload hx hb dX6_act_106 (lv_at hl 8 rfl) ?_
        have hg_38 : f_35 (h 15) = some (.inl (gk G 0, 192, .inl (I_1 15))) := hM.2.1 15 (by decide) rfl
        refine m_iast hx hb hC hH hg_38 (vp_in_iff.mpr ⟨by omega, by omega⟩) dX6_act_108 (fun H locs hH => ?_)
        obtain ⟨f_39, ef_39⟩ : ∃ zz_ : mF, zz_ = va_up f_35 (h 15) (some (.inl (gk G 0, 192, .inl (upd (I_1 15) x_17.toNatClampNeg e_)))) := ⟨_, rfl⟩
        rw [← ef_39] at hH
        have hM : MEM G h n (nI hg, fe, ca, (gfS σ), wh, nI ((trS σ).length), nI wl.length, nI ac, nI th, sx) (va_up (va_up (va_up (va_up (va_up I_1 10 (upd (I_1 10) (32 * b.toNatClampNeg + z b.toNatClampNeg) kd)) 11 (upd (I_1 11) (32 * b.toNatClampNeg + z b.toNatClampNeg) a)) 13 (upd (I_1 13) (32 * b.toNatClampNeg + z b.toNatClampNeg) c_)) 14 (upd (I_1 14) (32 * b.toNatClampNeg + z b.toNatClampNeg) d_)) 15 (upd (I_1 15) x_17.toNatClampNeg e_)) (va_up J_1 12 (vp_updL (J_1 12) (32 * b.toNatClampNeg + z b.toNatClampNeg) bb)) f_39 := hM.setI 15 (by decide) rfl ef_39
        have hfr := hfr.up 15 (by decide) ef_39
        have nn_40 : x_17.toNatClampNeg = (32 * b.toNatClampNeg + z b.toNatClampNeg) := by have := ic_clN (rfl : x_17.toInt = _) (by omega); omega
        rw [nn_40] at hM
        refine lv_aload_n hx hb dX6_act_109 rfl (lv_at hl 1 rfl) ?_
        have F_41 : f_39 (h 0) = some (.inr (6, [.int (nI n), .ref (h 1), .int (nI hg), .ref (h 3), .ref (h 4), .ref (h 5), .ref (h 6), .int fe, .ref (h 8), .ref (h 9), .ref (h 10), .ref (h 11), .ref (h 12), .ref (h 13), .ref (h 14), .ref (h 15), .int ca, .long (gfS σ), .int wh, .int (nI ((trS σ).length)), .ref (h 20), .ref (h 21), .int (nI wl.length), .ref (h 23), .ref (h 24), .int (nI ac), .ref (h 26), .ref (h 27), .int (nI th), .int sx])) := hM.1
        refine m_get (ci := 6) (v := .ref (h 9)) (C := RX6) (T := TX6) (N := 30) hx hb hC hH hts in_X6_act_X6 hown F_41 rfl 9 (by decide) (hts (.fieldLink RX6 31 "LazyStateModel" "many" "[I") (by decide +kernel)) rfl dX6_act_110 ?_
        refine lv_iload_n hx hb dX6_act_113 rfl (lv_at hl 2 rfl) ?_
        refine lv_dup2_11 hx hb dX6_act_114 rfl rfl ?_
        have hg_42 : f_39 (h 9) = some (.inl (gk G 0, 6, .inl (I_1 9))) := hM.2.1 9 (by decide) rfl
        refine m_iald hx hb hC hH hg_42 (vp_in_iff.mpr ⟨by omega, by omega⟩) dX6_act_115 ?_
        refine lv_topi (fun x_43 ex_43 => ?_)
        have zxx_43 : x_43.toInt = ((z b.toNatClampNeg : Nat) : Int) := by rw [ex_43, hR.ms (by omega)]; exact nI_toInt (by have := hR.z32 b.toNatClampNeg; omega)
        have zz_ := hR.z32 b.toNatClampNeg
        refine lv_iconst (v := 1) hx hb dX6_act_116 (by decide) ?_
        refine lv_iadd hx hb dX6_act_117 ?_
        refine lv_topi (fun x_44 ex_44 => ?_)
        have ix_44 : x_44.toInt = x_43.toInt + 1 := ic_add ex_44 rfl kI_1 (by omega) (by omega)
        refine m_iast hx hb hC hH hg_42 (vp_in_iff.mpr ⟨by omega, by omega⟩) dX6_act_118 (fun H locs hH => ?_)
        obtain ⟨f_45, ef_45⟩ : ∃ zz_ : mF, zz_ = va_up f_39 (h 9) (some (.inl (gk G 0, 6, .inl (upd (I_1 9) b.toNatClampNeg x_44)))) := ⟨_, rfl⟩
        rw [← ef_45] at hH
        have hM : MEM G h n (nI hg, fe, ca, (gfS σ), wh, nI ((trS σ).length), nI wl.length, nI ac, nI th, sx) (va_up (va_up (va_up (va_up (va_up (va_up I_1 10 (upd (I_1 10) (32 * b.toNatClampNeg + z b.toNatClampNeg) kd)) 11 (upd (I_1 11) (32 * b.toNatClampNeg + z b.toNatClampNeg) a)) 13 (upd (I_1 13) (32 * b.toNatClampNeg + z b.toNatClampNeg) c_)) 14 (upd (I_1 14) (32 * b.toNatClampNeg + z b.toNatClampNeg) d_)) 15 (upd (I_1 15) (32 * b.toNatClampNeg + z b.toNatClampNeg) e_)) 9 (upd (I_1 9) b.toNatClampNeg x_44)) (va_up J_1 12 (vp_updL (J_1 12) (32 * b.toNatClampNeg + z b.toNatClampNeg) bb)) f_45 := hM.setI 9 (by decide) rfl ef_45
        have hfr := hfr.up 9 (by decide) ef_45
        rw [show x_44 = nI (z b.toNatClampNeg + 1) from ic_inj (by omega) (by omega)] at hM
        have hR := mrAct hR (b := b.toNatClampNeg) (t := (kd, a, bb, c_, d_, e_)) (by omega) (by omega) okt_
        have hI : FM G h n T (va_up z b.toNatClampNeg (z b.toNatClampNeg + 1)) (va_up A (32 * b.toNatClampNeg + z b.toNatClampNeg) (kd, a, bb, c_, d_, e_)) hg ver cq fe tms ca wl wh ac th sx σ f_45 := ⟨_, _, hM, hR, hac_1, hth_1⟩
        obtain ⟨I_46, J_46, hM, hR, hac_46, hth_46⟩ := hI
        have hg_46 := hR.hg40
        have n24_46 := hR.n24
        have tl_46 := len_b hR.ok.2.2.1
        have wl_46 := hR.wl192
        have hgI_46 : (nI hg).toInt = ((hg : Nat) : Int) := nI_toInt (by omega)
        have tmI_46 : (nI ((trS σ).length)).toInt = (((trS σ).length : Nat) : Int) := nI_toInt (by omega)
        have wmI_46 : (nI wl.length).toInt = ((wl.length : Nat) : Int) := nI_toInt (by omega)
        have acI_46 : (nI ac).toInt = ((ac : Nat) : Int) := nI_toInt (by omega)
        have thI_46 : (nI th).toInt = ((th : Nat) : Int) := nI_toInt (by omega)
        have nIn_46 : (nI n).toInt = ((n : Nat) : Int) := nI_toInt (by omega)
        refine lv_aload_n hx hb dX6_act_119 rfl (lv_at hl 1 rfl) ?_
        have F_47 : f_45 (h 0) = some (.inr (6, [.int (nI n), .ref (h 1), .int (nI hg), .ref (h 3), .ref (h 4), .ref (h 5), .ref (h 6), .int fe, .ref (h 8), .ref (h 9), .ref (h 10), .ref (h 11), .ref (h 12), .ref (h 13), .ref (h 14), .ref (h 15), .int ca, .long (gfS σ), .int wh, .int (nI ((trS σ).length)), .ref (h 20), .ref (h 21), .int (nI wl.length), .ref (h 23), .ref (h 24), .int (nI ac), .ref (h 26), .ref (h 27), .int (nI th), .int sx])) := hM.1
        refine m_get (ci := 6) (v := .ref (h 9)) (C := RX6) (T := TX6) (N := 30) hx hb hC hH hts in_X6_act_X6 hown F_47 rfl 9 (by decide) (hts (.fieldLink RX6 31 "LazyStateModel" "many" "[I") (by decide +kernel)) rfl dX6_act_120 ?_
        refine lv_iload_n hx hb dX6_act_123 rfl (lv_at hl 2 rfl) ?_
        have hg_48 : f_45 (h 9) = some (.inl (gk G 0, 6, .inl (I_46 9))) := hM.2.1 9 (by decide) rfl
        refine m_iald hx hb hC hH hg_48 (vp_in_iff.mpr ⟨by omega, by omega⟩) dX6_act_124 ?_
        refine lv_topi (fun x_49 ex_49 => ?_)
        have zx2_ : x_49.toInt = ((z b.toNatClampNeg + 1 : Nat) : Int) := by rw [ex_49, hR.ms (by omega), va_up_self]; exact nI_toInt (by omega)
        refine lv_iconst (v := 1) hx hb dX6_act_125 (by decide) ?_
        refine lv_isub hx hb dX6_act_126 ?_
        refine lv_topi (fun x_50 ex_50 => ?_)
        have ix_50 : x_50.toInt = x_49.toInt - 1 := ic_sub ex_50 rfl kI_1 (by omega) (by omega)
        exact m_iret (v := x_50) hx hb hr hlk hC hH (fun _ => (0, 0)) ⟨hfr, Or.inr (Or.inr ⟨⟨by omega, by omega, okt_⟩, by omega, by omega, ⟨_, _, hM, hR, hac_46, hth_46⟩⟩)⟩ (Nat.le_of_ble_eq_true rfl) (Nat.le_of_ble_eq_true rfl) dX6_act_127
      · skip
        have ic_14 : (x_13.toInt : Int) = 32 := ic_eq rfl kI_32 c_14
        refine lv_bipush (v := (-2)) hx hb dX6_act_41 (by decide) ?_
        exact m_iret (v := (-2)) hx hb hr hlk hC hH (fun _ => (0, 0)) ⟨hfr, Or.inr (Or.inl ⟨⟨by omega, by omega, okt_⟩, by omega, kI_m2, ⟨_, _, hM, hR, hac_1, hth_1⟩⟩)⟩ (Nat.le_of_ble_eq_true rfl) (Nat.le_of_ble_eq_true rfl) dX6_act_43
    · skip
      have ic_10 : (r_7.toInt : Int) = 0 := ic_eq rfl kI_0 c_10
      refine lv_iconst (v := (-1)) hx hb dX6_act_28 (by decide) ?_
      exact m_iret (v := (-1)) hx hb hr hlk hC hH (fun _ => (0, 0)) ⟨hfr, Or.inl ⟨fun z_ => (hr_7.resolve_left (fun y_ => by omega)).2 z_.2.2, kI_m1, ⟨_, _, hM, hR, hac_1, hth_1⟩⟩⟩ (Nat.le_of_ble_eq_true rfl) (Nat.le_of_ble_eq_true rfl) dX6_act_29
set_option maxHeartbeats 4000000 in
set_option maxRecDepth 100000 in
theorem c_X6_clear (l : Launch) (G : mG) (h : Nat → Nat) (n : Nat) (T z : Nat → Nat) (A : Nat → tA) (hg : Nat) (ver : Nat → Nat → tB) (cq : Nat → Bool) (fe : Int32) (tms : Nat → Int32) (ca : Int32) (wl : List Nat) (wh : Int32) (ac th : Nat) (sx : Int32) (σ : tS) (f : mF) (hI : FM G h n T z A hg ver cq fe tms ca wl wh ac th sx σ f) (b : Int32) : Met l yX6_clear wsX6_clear ({ frames := 1, cells := 0, slots := 0, locals := 25 }) (va_Pc [.ref (h 0), .int b] (mW G f)) (va_Qi (fun (r : Int32) (u : mS) => frM h f u.2 ∧ (((b.toInt < 0 ∨ 6 ≤ b.toInt) ∧ r.toInt = -1 ∧ FM G h n T z A hg ver cq fe tms ca wl wh ac th sx σ u.2) ∨ (0 ≤ b.toInt ∧ b.toInt < 6 ∧ r.toInt = z b.toNatClampNeg ∧ FM G h n T (va_up z b.toNatClampNeg 0) A hg ver cq fe tms ca wl wh ac th sx σ u.2))) (fun (u : mS) t => mW G u.2 t) (mA G)) 0 0 (mA G) := by
  refine mMet [.ref (h 0), .int b] (cc := cX6_clear) (maxL := 3) (ret := (some .int)) (by decide) rfl (Nat.le_of_ble_eq_true rfl) ?_
  intro p e s m below meth c ls hx hb hr hml hts hown hlk hnm hC hH hl
  have hl : lv_has ls 3 [(0, .ref (h 0)), (1, .int b)] := hl
  have hI0_ := hI
  have hfr : frM h f f := frM.rf
  obtain ⟨I_1, J_1, hM, hR, hac_1, hth_1⟩ := hI
  have hg_1 := hR.hg40
  have n24_1 := hR.n24
  have tl_1 := len_b hR.ok.2.2.1
  have wl_1 := hR.wl192
  have hgI_1 : (nI hg).toInt = ((hg : Nat) : Int) := nI_toInt (by omega)
  have tmI_1 : (nI ((trS σ).length)).toInt = (((trS σ).length : Nat) : Int) := nI_toInt (by omega)
  have wmI_1 : (nI wl.length).toInt = ((wl.length : Nat) : Int) := nI_toInt (by omega)
  have acI_1 : (nI ac).toInt = ((ac : Nat) : Int) := nI_toInt (by omega)
  have thI_1 : (nI th).toInt = ((th : Nat) : Int) := nI_toInt (by omega)
  have nIn_1 : (nI n).toInt = ((n : Nat) : Int) := nI_toInt (by omega)
  refine lv_iload_n hx hb dX6_clear_0 rfl (lv_at hl 1 rfl) ?_
  refine lv_i2l hx hb dX6_clear_1 rfl ?_
  refine lv_topl (fun y_2 ey_2 => ?_)
  have iy_2 : y_2.toInt = b.toInt := lc_i2l ey_2 rfl
  have gy_2 := ic_rng b
  refine lv_lconst (v := 0) hx hb dX6_clear_2 (by decide) ?_
  refine lv_ldc2 (v := 5) hx hb hown (hts (.constantLong RX6 143 (5)) (by decide +kernel)) dX6_clear_3 ?_
  refine m_goi hH (va_runS (As := [.long y_2, .long 0, .long 5]) (rest := []) ⟨hx, hb, hml, hown, hts⟩ (c_X6_in l G f y_2 0 5) (va_cwS 3 hts gX6_clear_X6_in rfl rfl rfl (by decide +kernel) ⟨Nat.le_of_ble_eq_true rfl, Nat.le_of_ble_eq_true rfl⟩) (m_preS hC hH) rfl rfl hl.1 rfl (lv_room (Nat.le_of_ble_eq_true rfl)) dX6_clear_6 ⟨Nat.le_of_ble_eq_true rfl, Nat.le_of_ble_eq_true rfl⟩) (fun r_3 rho_5 f_4 H locs hw hH => ?_)
  obtain ⟨hu, hr_3⟩ := hw
  have hu : f_4 = f := hu
  rw [hu] at hH
  have hr_3 : (r_3.toInt = 1 ∧ 0 ≤ y_2.toInt ∧ y_2.toInt ≤ 5) ∨ (r_3.toInt = 0 ∧ (y_2.toInt < 0 ∨ 5 < y_2.toInt)) := by have q0 := (rfl : y_2.toInt = _); have q1 := kJ_0; have q2 := kJ_5; omega
  refine lv_if_ne (tgt := 14) hx hb dX6_clear_9 (by decide) (fun c_6 => ?_) (fun c_6 => ?_)
  · skip
    have ic_6 : (r_3.toInt : Int) ≠ 0 := ic_ne rfl kI_0 c_6
    have cb_ := ic_clN (rfl : b.toInt = _) (by have := kJ_0; omega)
    have k0_ := kJ_0
    have k5_ := kJ_5
    refine lv_aload_n hx hb dX6_clear_14 rfl (lv_at hl 0 rfl) ?_
    have F_7 : f (h 0) = some (.inr (6, [.int (nI n), .ref (h 1), .int (nI hg), .ref (h 3), .ref (h 4), .ref (h 5), .ref (h 6), .int fe, .ref (h 8), .ref (h 9), .ref (h 10), .ref (h 11), .ref (h 12), .ref (h 13), .ref (h 14), .ref (h 15), .int ca, .long (gfS σ), .int wh, .int (nI ((trS σ).length)), .ref (h 20), .ref (h 21), .int (nI wl.length), .ref (h 23), .ref (h 24), .int (nI ac), .ref (h 26), .ref (h 27), .int (nI th), .int sx])) := hM.1
    refine m_get (ci := 6) (v := .ref (h 9)) (C := RX6) (T := TX6) (N := 30) hx hb hC hH hts in_X6_clear_X6 hown F_7 rfl 9 (by decide) (hts (.fieldLink RX6 31 "LazyStateModel" "many" "[I") (by decide +kernel)) rfl dX6_clear_15 ?_
    refine lv_iload_n hx hb dX6_clear_18 rfl (lv_at hl 1 rfl) ?_
    have hg_8 : f (h 9) = some (.inl (gk G 0, 6, .inl (I_1 9))) := hM.2.1 9 (by decide) rfl
    refine m_iald hx hb hC hH hg_8 (vp_in_iff.mpr ⟨by omega, by omega⟩) dX6_clear_19 ?_
    refine lv_topi (fun x_9 ex_9 => ?_)
    have zxx_9 : x_9.toInt = ((z b.toNatClampNeg : Nat) : Int) := by rw [ex_9, hR.ms (by omega)]; exact nI_toInt (by have := hR.z32 b.toNatClampNeg; omega)
    have zz_ := hR.z32 b.toNatClampNeg
    refine lv_istore_n (lv' := [(2, .int x_9), (0, .ref (h 0)), (1, .int b)]) hx hb dX6_clear_20 rfl hl (by decide) rfl (fun ls hl => ?_)
    refine lv_aload_n hx hb dX6_clear_21 rfl (lv_at hl 1 rfl) ?_
    refine m_get (ci := 6) (v := .ref (h 9)) (C := RX6) (T := TX6) (N := 30) hx hb hC hH hts in_X6_clear_X6 hown F_7 rfl 9 (by decide) (hts (.fieldLink RX6 31 "LazyStateModel" "many" "[I") (by decide +kernel)) rfl dX6_clear_22 ?_
    refine lv_iload_n hx hb dX6_clear_25 rfl (lv_at hl 2 rfl) ?_
    refine lv_iconst (v := 0) hx hb dX6_clear_26 (by decide) ?_
    refine m_iast hx hb hC hH hg_8 (vp_in_iff.mpr ⟨by omega, by omega⟩) dX6_clear_27 (fun H locs hH => ?_)
    obtain ⟨f_10, ef_10⟩ : ∃ zz_ : mF, zz_ = va_up f (h 9) (some (.inl (gk G 0, 6, .inl (upd (I_1 9) b.toNatClampNeg 0)))) := ⟨_, rfl⟩
    rw [← ef_10] at hH
    have hM : MEM G h n (nI hg, fe, ca, (gfS σ), wh, nI ((trS σ).length), nI wl.length, nI ac, nI th, sx) (va_up I_1 9 (upd (I_1 9) b.toNatClampNeg 0)) J_1 f_10 := hM.setI 9 (by decide) rfl ef_10
    have hfr := hfr.up 9 (by decide) ef_10
    have hR := hR.clr (b := b.toNatClampNeg) (by omega)
    have hI : FM G h n T (va_up z b.toNatClampNeg 0) A hg ver cq fe tms ca wl wh ac th sx σ f_10 := ⟨_, _, hM, hR, hac_1, hth_1⟩
    obtain ⟨I_11, J_11, hM, hR, hac_11, hth_11⟩ := hI
    have hg_11 := hR.hg40
    have n24_11 := hR.n24
    have tl_11 := len_b hR.ok.2.2.1
    have wl_11 := hR.wl192
    have hgI_11 : (nI hg).toInt = ((hg : Nat) : Int) := nI_toInt (by omega)
    have tmI_11 : (nI ((trS σ).length)).toInt = (((trS σ).length : Nat) : Int) := nI_toInt (by omega)
    have wmI_11 : (nI wl.length).toInt = ((wl.length : Nat) : Int) := nI_toInt (by omega)
    have acI_11 : (nI ac).toInt = ((ac : Nat) : Int) := nI_toInt (by omega)
    have thI_11 : (nI th).toInt = ((th : Nat) : Int) := nI_toInt (by omega)
    have nIn_11 : (nI n).toInt = ((n : Nat) : Int) := nI_toInt (by omega)
    refine lv_iload_n hx hb dX6_clear_28 rfl (lv_at hl 0 rfl) ?_
    exact m_iret (v := x_9) hx hb hr hlk hC hH (fun _ => (0, 0)) ⟨hfr, Or.inr ⟨by omega, by omega, by omega, ⟨_, _, hM, hR, hac_11, hth_11⟩⟩⟩ (Nat.le_of_ble_eq_true rfl) (Nat.le_of_ble_eq_true rfl) dX6_clear_29
  · skip
    have ic_6 : (r_3.toInt : Int) = 0 := ic_eq rfl kI_0 c_6
    refine lv_iconst (v := (-1)) hx hb dX6_clear_12 (by decide) ?_
    exact m_iret (v := (-1)) hx hb hr hlk hC hH (fun _ => (0, 0)) ⟨hfr, Or.inl ⟨by have := kJ_0; have := kJ_5; omega, kI_m1, ⟨_, _, hM, hR, hac_1, hth_1⟩⟩⟩ (Nat.le_of_ble_eq_true rfl) (Nat.le_of_ble_eq_true rfl) dX6_clear_13
