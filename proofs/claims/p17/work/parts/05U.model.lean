set_option maxHeartbeats 4000000 in
set_option maxRecDepth 100000 in
theorem c_X6_view (l : Launch) (G : mG) (h : Nat → Nat) (n : Nat) (T z : Nat → Nat) (A : Nat → tA) (hg : Nat) (ver : Nat → Nat → tB) (cq : Nat → Bool) (fe : Int32) (tms : Nat → Int32) (ca : Int32) (wl : List Nat) (wh : Int32) (ac th : Nat) (sx : Int32) (σ : tS) (f : mF) (hI : FM G h n T z A hg ver cq fe tms ca wl wh ac th sx σ f) (o j a i : Int32) : Met l yX6_view wsX6_view ({ frames := 2, cells := 0, slots := 0, locals := 46 }) (va_Pc [.ref (h 0), .int o, .int j, .int a, .int i] (mW G f)) (va_Ql (fun (r : Int64) (u : mS) => frM h f u.2 ∧ ∃ sx2, vwA n T hg ver o j a i r sx2 ∧ FM G h n T z A hg ver cq fe tms ca wl wh ac th sx2 σ u.2) (fun (u : mS) t => mW G u.2 t) (mA G)) 0 0 (mA G) := by
  refine mMet [.ref (h 0), .int o, .int j, .int a, .int i] (cc := cX6_view) (maxL := 7) (ret := (some .long)) (by decide) rfl (Nat.le_of_ble_eq_true rfl) ?_
  intro p e s m below meth c ls hx hb hr hml hts hown hlk hnm hC hH hl
  have hl : lv_has ls 7 [(0, .ref (h 0)), (1, .int o), (2, .int j), (3, .int a), (4, .int i)] := hl
  have hI0_ := hI
  have hfr : frM h f f := frM.rf
  obtain ⟨I_1, J_1, hM, hR, hac_1, hth_1⟩ := hI
  have hg_1 := hR.hg40
  have n24_1 := hR.n24
  have tl_1 := len_b hR.ok.2.2.1
  have wl_1 := hR.wl192
  have hgI_1 : (nI hg).toInt = ((hg : Nat) : Int) := nI_toInt (by omega)
  have tmI_1 : (nI ((trS σ).length)).toInt = (((trS σ).length : Nat) : Int) := nI_toInt (by omega)
  have wmI_1 : (nI wl.length).toInt = ((wl.length : Nat) : Int) := nI_toInt (by omega)
  have acI_1 : (nI ac).toInt = ((ac : Nat) : Int) := nI_toInt (by omega)
  have thI_1 : (nI th).toInt = ((th : Nat) : Int) := nI_toInt (by omega)
  have nIn_1 : (nI n).toInt = ((n : Nat) : Int) := nI_toInt (by omega)
  refine lv_aload_n hx hb dX6_view_0 rfl (lv_at hl 0 rfl) ?_
  refine lv_iconst (v := (-1)) hx hb dX6_view_1 (by decide) ?_
  have F_2 : f (h 0) = some (.inr (6, [.int (nI n), .ref (h 1), .int (nI hg), .ref (h 3), .ref (h 4), .ref (h 5), .ref (h 6), .int fe, .ref (h 8), .ref (h 9), .ref (h 10), .ref (h 11), .ref (h 12), .ref (h 13), .ref (h 14), .ref (h 15), .int ca, .long (gfS σ), .int wh, .int (nI ((trS σ).length)), .ref (h 20), .ref (h 21), .int (nI wl.length), .ref (h 23), .ref (h 24), .int (nI ac), .ref (h 26), .ref (h 27), .int (nI th), .int sx])) := hM.1
  refine m_put (ci := 6) (v := .int (-1)) (C := RX6) (T := TX6) (N := 30) hx hb hC hH hts in_X6_view_X6 tyX6 tyX6_ok nmX6 hown F_2 rfl 29 (by decide) (hts (.fieldLink RX6 214 "LazyStateModel" "status" "I") (by decide +kernel)) rfl rfl rfl (Nat.le_of_ble_eq_true rfl) dX6_view_2 (fun H locs hH => ?_)
  have hH : mH G s (va_up f (h 0) (some (.inr (6, [.int (nI n), .ref (h 1), .int (nI hg), .ref (h 3), .ref (h 4), .ref (h 5), .ref (h 6), .int fe, .ref (h 8), .ref (h 9), .ref (h 10), .ref (h 11), .ref (h 12), .ref (h 13), .ref (h 14), .ref (h 15), .int ca, .long (gfS σ), .int wh, .int (nI ((trS σ).length)), .ref (h 20), .ref (h 21), .int (nI wl.length), .ref (h 23), .ref (h 24), .int (nI ac), .ref (h 26), .ref (h 27), .int (nI th), .int (-1)])))) H locs := hH
  obtain ⟨f_3, ef_3⟩ : ∃ zz_ : mF, zz_ = va_up f (h 0) (some (.inr (6, [.int (nI n), .ref (h 1), .int (nI hg), .ref (h 3), .ref (h 4), .ref (h 5), .ref (h 6), .int fe, .ref (h 8), .ref (h 9), .ref (h 10), .ref (h 11), .ref (h 12), .ref (h 13), .ref (h 14), .ref (h 15), .int ca, .long (gfS σ), .int wh, .int (nI ((trS σ).length)), .ref (h 20), .ref (h 21), .int (nI wl.length), .ref (h 23), .ref (h 24), .int (nI ac), .ref (h 26), .ref (h 27), .int (nI th), .int (-1)]))) := ⟨_, rfl⟩
  rw [← ef_3] at hH
  have hM : MEM G h n (nI hg, fe, ca, (gfS σ), wh, nI ((trS σ).length), nI wl.length, nI ac, nI th, (-1)) I_1 J_1 f_3 := hM.set0 ef_3
  have hfr := hfr.up 0 (by decide) ef_3
  have hI : FM G h n T z A hg ver cq fe tms ca wl wh ac th (-1) σ f_3 := ⟨_, _, hM, hR, hac_1, hth_1⟩
  obtain ⟨I_4, J_4, hM, hR, hac_4, hth_4⟩ := hI
  have hg_4 := hR.hg40
  have n24_4 := hR.n24
  have tl_4 := len_b hR.ok.2.2.1
  have wl_4 := hR.wl192
  have hgI_4 : (nI hg).toInt = ((hg : Nat) : Int) := nI_toInt (by omega)
  have tmI_4 : (nI ((trS σ).length)).toInt = (((trS σ).length : Nat) : Int) := nI_toInt (by omega)
  have wmI_4 : (nI wl.length).toInt = ((wl.length : Nat) : Int) := nI_toInt (by omega)
  have acI_4 : (nI ac).toInt = ((ac : Nat) : Int) := nI_toInt (by omega)
  have thI_4 : (nI th).toInt = ((th : Nat) : Int) := nI_toInt (by omega)
  have nIn_4 : (nI n).toInt = ((n : Nat) : Int) := nI_toInt (by omega)
  refine lv_aload_n hx hb dX6_view_5 rfl (lv_at hl 0 rfl) ?_
  refine lv_iload_n hx hb dX6_view_6 rfl (lv_at hl 1 rfl) ?_
  have F_5 : f_3 (h 0) = some (.inr (6, [.int (nI n), .ref (h 1), .int (nI hg), .ref (h 3), .ref (h 4), .ref (h 5), .ref (h 6), .int fe, .ref (h 8), .ref (h 9), .ref (h 10), .ref (h 11), .ref (h 12), .ref (h 13), .ref (h 14), .ref (h 15), .int ca, .long (gfS σ), .int wh, .int (nI ((trS σ).length)), .ref (h 20), .ref (h 21), .int (nI wl.length), .ref (h 23), .ref (h 24), .int (nI ac), .ref (h 26), .ref (h 27), .int (nI th), .int (-1)])) := hM.1
  have hI : FM G h n T z A hg ver cq fe tms ca wl wh ac th (-1) σ f_3 := ⟨_, _, hM, hR, hac_4, hth_4⟩
  refine m_goi hH (va_runV (As := [.int o]) (rest := []) ⟨hx, hb, hml, hown, hts⟩ (c_X6_isObject l G h n T z A hg ver cq fe tms ca wl wh ac th (-1) σ f_3 hI o) (cwV 1 hts gX6_view_X6_isObject rfl rfl rfl (by decide +kernel) ⟨Nat.le_of_ble_eq_true rfl, Nat.le_of_ble_eq_true rfl⟩) (m_preV (ci := 6) hC hH F_5 rfl) rfl rfl hl.1 rfl (lv_room (Nat.le_of_ble_eq_true rfl)) dX6_view_7 ⟨Nat.le_of_ble_eq_true rfl, Nat.le_of_ble_eq_true rfl⟩) (fun r_6 rho_8 f_7 H locs hw hH => ?_)
  obtain ⟨hu, hr_6⟩ := hw
  have hu : f_7 = f_3 := hu
  rw [hu] at hH
  try dsimp only at hr_6
  refine lv_if_eq (tgt := 60) hx hb dX6_view_10 (by decide) (fun c_9 => ?_) (fun c_9 => ?_)
  · skip
    have ic_9 : (r_6.toInt : Int) = 0 := ic_eq rfl kI_0 c_9
    refine lv_ldc2 (v := (-1)) hx hb hown (hts (.constantLong RX6 217 (-1)) (by decide +kernel)) dX6_view_60 ?_
    exact m_lret (v := (-1)) hx hb hr hlk hC hH (fun _ => (0, 0)) ⟨hfr, _, Or.inl ⟨fun z_ => by obtain ⟨z1_, z2_, z3_, z4_, z5_, z6_, z7_⟩ := z_; have := kJ_0; omega, rfl, rfl⟩, ⟨_, _, hM, hR, hac_4, hth_4⟩⟩ (Nat.le_of_ble_eq_true rfl) (Nat.le_of_ble_eq_true rfl) dX6_view_63
  · skip
    have ic_9 : (r_6.toInt : Int) ≠ 0 := ic_ne rfl kI_0 c_9
    refine lv_iload_n hx hb dX6_view_13 rfl (lv_at hl 2 rfl) ?_
    refine lv_i2l hx hb dX6_view_14 rfl ?_
    refine lv_topl (fun y_10 ey_10 => ?_)
    have iy_10 : y_10.toInt = j.toInt := lc_i2l ey_10 rfl
    have gy_10 := ic_rng j
    refine lv_lconst (v := 0) hx hb dX6_view_15 (by decide) ?_
    refine lv_aload_n hx hb dX6_view_16 rfl (lv_at hl 0 rfl) ?_
    refine m_get (ci := 6) (v := .ref (h 1)) (C := RX6) (T := TX6) (N := 30) hx hb hC hH hts in_X6_view_X6 hown F_5 rfl 1 (by decide) (hts (.fieldLink RX6 7 "LazyStateModel" "types" "[I") (by decide +kernel)) rfl dX6_view_17 ?_
    refine lv_iload_n hx hb dX6_view_20 rfl (lv_at hl 1 rfl) ?_
    have hg_11 : f_3 (h 1) = some (.inl (gk G 0, 24, .inl (I_4 1))) := hM.2.1 1 (by decide) rfl
    refine m_iald hx hb hC hH hg_11 (vp_in_iff.mpr ⟨by omega, by omega⟩) dX6_view_21 ?_
    refine lv_topi (fun x_12 ex_12 => ?_)
    have co_ := ic_clN (rfl : o.toInt = _) (by omega)
    have ty1_ : x_12.toInt = ((T o.toNatClampNeg : Nat) : Int) := by rw [ex_12, hR.ty (by omega)]; exact nI_toInt (by have := hR.T3 o.toNatClampNeg; omega)
    refine m_goi hH (va_runS (As := [.int x_12]) (rest := [.long 0, .long y_10]) ⟨hx, hb, hml, hown, hts⟩ (c_X6_fieldsOf l G f_3 x_12) (va_cwS 1 hts gX6_view_X6_fieldsOf rfl rfl rfl (by decide +kernel) ⟨Nat.le_of_ble_eq_true rfl, Nat.le_of_ble_eq_true rfl⟩) (m_preS hC hH) rfl rfl hl.1 rfl (lv_room (Nat.le_of_ble_eq_true rfl)) dX6_view_22 ⟨Nat.le_of_ble_eq_true rfl, Nat.le_of_ble_eq_true rfl⟩) (fun r_13 rho_15 f_14 H locs hw hH => ?_)
    obtain ⟨hu, hr_13⟩ := hw
    have hu : f_14 = f_3 := hu
    rw [hu] at hH
    have br_13 : 3 ≤ r_13.toInt ∧ r_13.toInt ≤ 6 := by rw [hr_13]; unfold fldM; (repeat' split) <;> omega
    refine lv_iconst (v := 1) hx hb dX6_view_25 (by decide) ?_
    refine lv_isub hx hb dX6_view_26 ?_
    refine lv_topi (fun x_16 ex_16 => ?_)
    have ix_16 : x_16.toInt = r_13.toInt - 1 := ic_sub ex_16 rfl kI_1 (by omega) (by omega)
    refine lv_i2l hx hb dX6_view_27 rfl ?_
    refine lv_topl (fun y_17 ey_17 => ?_)
    have iy_17 : y_17.toInt = x_16.toInt := lc_i2l ey_17 rfl
    have gy_17 := ic_rng x_16
    refine m_goi hH (va_runS (As := [.long y_10, .long 0, .long y_17]) (rest := []) ⟨hx, hb, hml, hown, hts⟩ (c_X6_in l G f_3 y_10 0 y_17) (va_cwS 3 hts gX6_view_X6_in rfl rfl rfl (by decide +kernel) ⟨Nat.le_of_ble_eq_true rfl, Nat.le_of_ble_eq_true rfl⟩) (m_preS hC hH) rfl rfl hl.1 rfl (lv_room (Nat.le_of_ble_eq_true rfl)) dX6_view_28 ⟨Nat.le_of_ble_eq_true rfl, Nat.le_of_ble_eq_true rfl⟩) (fun r_18 rho_20 f_19 H locs hw hH => ?_)
    obtain ⟨hu, hr_18⟩ := hw
    have hu : f_19 = f_3 := hu
    rw [hu] at hH
    have hr_18 : (r_18.toInt = 1 ∧ 0 ≤ y_10.toInt ∧ y_10.toInt ≤ y_17.toInt) ∨ (r_18.toInt = 0 ∧ (y_10.toInt < 0 ∨ y_17.toInt < y_10.toInt)) := by have q0 := (rfl : y_10.toInt = _); have q1 := kJ_0; have q2 := (rfl : y_17.toInt = _); omega
    refine lv_if_eq (tgt := 60) hx hb dX6_view_31 (by decide) (fun c_21 => ?_) (fun c_21 => ?_)
    · skip
      have ic_21 : (r_18.toInt : Int) = 0 := ic_eq rfl kI_0 c_21
      refine lv_ldc2 (v := (-1)) hx hb hown (hts (.constantLong RX6 217 (-1)) (by decide +kernel)) dX6_view_60 ?_
      exact m_lret (v := (-1)) hx hb hr hlk hC hH (fun _ => (0, 0)) ⟨hfr, _, Or.inl ⟨fun z_ => by obtain ⟨z1_, z2_, z3_, z4_, z5_, z6_, z7_⟩ := z_; have := kJ_0; have fq_ := hr_13; rw [ty1_] at fq_; have cj_ := ic_clN (rfl : j.toInt = _) (by omega); have sm_ := srt_M (T o.toNatClampNeg) (hR.T3 _) j.toNatClampNeg (by omega); rw [cj_] at sm_; have w_ := sm_.1.mpr z5_; omega, rfl, rfl⟩, ⟨_, _, hM, hR, hac_4, hth_4⟩⟩ (Nat.le_of_ble_eq_true rfl) (Nat.le_of_ble_eq_true rfl) dX6_view_63
    · skip
      have ic_21 : (r_18.toInt : Int) ≠ 0 := ic_ne rfl kI_0 c_21
      refine lv_iload_n hx hb dX6_view_34 rfl (lv_at hl 3 rfl) ?_
      refine lv_i2l hx hb dX6_view_35 rfl ?_
      refine lv_topl (fun y_22 ey_22 => ?_)
      have iy_22 : y_22.toInt = a.toInt := lc_i2l ey_22 rfl
      have gy_22 := ic_rng a
      refine lv_lconst (v := 0) hx hb dX6_view_36 (by decide) ?_
      refine lv_aload_n hx hb dX6_view_37 rfl (lv_at hl 0 rfl) ?_
      refine m_get (ci := 6) (v := .int (nI hg)) (C := RX6) (T := TX6) (N := 30) hx hb hC hH hts in_X6_view_X6 hown F_5 rfl 2 (by decide) (hts (.fieldLink RX6 104 "LazyStateModel" "height" "I") (by decide +kernel)) rfl dX6_view_38 ?_
      refine lv_i2l hx hb dX6_view_41 rfl ?_
      refine lv_topl (fun y_23 ey_23 => ?_)
      have iy_23 : y_23.toInt = ((hg : Nat) : Int) := lc_i2l ey_23 hgI_4
      refine m_goi hH (va_runS (As := [.long y_22, .long 0, .long y_23]) (rest := []) ⟨hx, hb, hml, hown, hts⟩ (c_X6_in l G f_3 y_22 0 y_23) (va_cwS 3 hts gX6_view_X6_in rfl rfl rfl (by decide +kernel) ⟨Nat.le_of_ble_eq_true rfl, Nat.le_of_ble_eq_true rfl⟩) (m_preS hC hH) rfl rfl hl.1 rfl (lv_room (Nat.le_of_ble_eq_true rfl)) dX6_view_42 ⟨Nat.le_of_ble_eq_true rfl, Nat.le_of_ble_eq_true rfl⟩) (fun r_24 rho_26 f_25 H locs hw hH => ?_)
      obtain ⟨hu, hr_24⟩ := hw
      have hu : f_25 = f_3 := hu
      rw [hu] at hH
      have hr_24 : (r_24.toInt = 1 ∧ 0 ≤ y_22.toInt ∧ y_22.toInt ≤ y_23.toInt) ∨ (r_24.toInt = 0 ∧ (y_22.toInt < 0 ∨ y_23.toInt < y_22.toInt)) := by have q0 := (rfl : y_22.toInt = _); have q1 := kJ_0; have q2 := (rfl : y_23.toInt = _); omega
      refine lv_if_eq (tgt := 60) hx hb dX6_view_45 (by decide) (fun c_27 => ?_) (fun c_27 => ?_)
      · skip
        have ic_27 : (r_24.toInt : Int) = 0 := ic_eq rfl kI_0 c_27
        refine lv_ldc2 (v := (-1)) hx hb hown (hts (.constantLong RX6 217 (-1)) (by decide +kernel)) dX6_view_60 ?_
        exact m_lret (v := (-1)) hx hb hr hlk hC hH (fun _ => (0, 0)) ⟨hfr, _, Or.inl ⟨fun z_ => by obtain ⟨z1_, z2_, z3_, z4_, z5_, z6_, z7_⟩ := z_; have := kJ_0; omega, rfl, rfl⟩, ⟨_, _, hM, hR, hac_4, hth_4⟩⟩ (Nat.le_of_ble_eq_true rfl) (Nat.le_of_ble_eq_true rfl) dX6_view_63
      · skip
        have ic_27 : (r_24.toInt : Int) ≠ 0 := ic_ne rfl kI_0 c_27
        refine lv_iload hx hb dX6_view_48 (lv_at hl 4 rfl) ?_
        refine lv_if_ge (tgt := 64) hx hb dX6_view_50 (by decide) (fun c_28 => ?_) (fun c_28 => ?_)
        · skip
          have ic_28 : (0 : Int) ≤ i.toInt := ic_le kI_0 rfl c_28
          have k0_ := kJ_0
          have co_ := ic_clN (rfl : o.toInt = _) (by omega)
          have ca_ := ic_clN (rfl : a.toInt = _) (by omega)
          have fb_ := fldM_b ((T o.toNatClampNeg : Nat) : Int)
          have fq_ := hr_13
          rw [ty1_] at fq_
          have cj_ := ic_clN (rfl : j.toInt = _) (by omega)
          have sm_ := srt_M (T o.toNatClampNeg) (hR.T3 _) j.toNatClampNeg (by omega)
          rw [cj_] at sm_
          have sn_ := sm_.1.mp (by omega)
          have vp_ : vwP n T hg o j a := ⟨by omega, by omega, by omega, by omega, sn_, by omega, by omega⟩
          have se_ := sm_.2 sn_
          have ar_ := ((hR.arV a.toNatClampNeg (by omega)).1 o.toNatClampNeg (by omega)) j.toNatClampNeg (by omega)
          have okb_ := hR.okV a.toNatClampNeg (by omega) o.toNatClampNeg (by omega) j.toNatClampNeg (by omega)
          refine lv_aload_n hx hb dX6_view_64 rfl (lv_at hl 0 rfl) ?_
          refine m_get (ci := 6) (v := .ref (h 1)) (C := RX6) (T := TX6) (N := 30) hx hb hC hH hts in_X6_view_X6 hown F_5 rfl 1 (by decide) (hts (.fieldLink RX6 7 "LazyStateModel" "types" "[I") (by decide +kernel)) rfl dX6_view_65 ?_
          refine lv_iload_n hx hb dX6_view_68 rfl (lv_at hl 1 rfl) ?_
          refine m_iald hx hb hC hH hg_11 (vp_in_iff.mpr ⟨by omega, by omega⟩) dX6_view_69 ?_
          refine lv_topi (fun x_29 ex_29 => ?_)
          have ty2_ : x_29.toInt = ((T o.toNatClampNeg : Nat) : Int) := by rw [ex_29, hR.ty (by omega)]; exact nI_toInt (by have := hR.T3 o.toNatClampNeg; omega)
          refine lv_iload_n hx hb dX6_view_70 rfl (lv_at hl 2 rfl) ?_
          refine m_goi hH (va_runS (As := [.int x_29, .int j]) (rest := []) ⟨hx, hb, hml, hown, hts⟩ (c_X6_sortOf l G f_3 x_29 j) (va_cwS 2 hts gX6_view_X6_sortOf rfl rfl rfl (by decide +kernel) ⟨Nat.le_of_ble_eq_true rfl, Nat.le_of_ble_eq_true rfl⟩) (m_preS hC hH) rfl rfl hl.1 rfl (lv_room (Nat.le_of_ble_eq_true rfl)) dX6_view_71 ⟨Nat.le_of_ble_eq_true rfl, Nat.le_of_ble_eq_true rfl⟩) (fun r_30 rho_32 f_31 H locs hw hH => ?_)
          obtain ⟨hu, hr_30⟩ := hw
          have hu : f_31 = f_3 := hu
          rw [hu] at hH
          have so_ := hr_30
          rw [ty2_] at so_
          refine lv_istore (lv' := [(5, .int r_30), (0, .ref (h 0)), (1, .int o), (2, .int j), (3, .int a), (4, .int i)]) hx hb dX6_view_74 hl (by decide) rfl (fun ls hl => ?_)
          refine lv_sipush (v := 192) hx hb dX6_view_76 (by decide) ?_
          refine lv_iload_n hx hb dX6_view_79 rfl (lv_at hl 4 rfl) ?_
          refine lv_imul hx hb dX6_view_80 ?_
          refine lv_topi (fun x_33 ex_33 => ?_)
          have ix_33 : x_33.toInt = 192 * a.toInt := ic_mul ex_33 kI_192 rfl (by omega) (by omega)
          refine lv_bipush (v := 8) hx hb dX6_view_81 (by decide) ?_
          refine lv_iload_n hx hb dX6_view_83 rfl (lv_at hl 2 rfl) ?_
          refine lv_imul hx hb dX6_view_84 ?_
          refine lv_topi (fun x_34 ex_34 => ?_)
          have ix_34 : x_34.toInt = 8 * o.toInt := ic_mul ex_34 kI_8 rfl (by omega) (by omega)
          refine lv_iadd hx hb dX6_view_85 ?_
          refine lv_topi (fun x_35 ex_35 => ?_)
          have ix_35 : x_35.toInt = x_33.toInt + x_34.toInt := ic_add ex_35 rfl rfl (by omega) (by omega)
          refine lv_iload_n hx hb dX6_view_86 rfl (lv_at hl 3 rfl) ?_
          refine lv_iadd hx hb dX6_view_87 ?_
          refine lv_topi (fun x_36 ex_36 => ?_)
          have ix_36 : x_36.toInt = x_35.toInt + j.toInt := ic_add ex_36 rfl rfl (by omega) (by omega)
          have lf_ : x_36.toNatClampNeg = (192 * a.toNatClampNeg + 8 * o.toNatClampNeg + j.toNatClampNeg) := by have := ic_clN (rfl : x_36.toInt = _) (by omega); omega
          refine lv_istore (lv' := [(6, .int x_36), (5, .int r_30), (0, .ref (h 0)), (1, .int o), (2, .int j), (3, .int a), (4, .int i)]) hx hb dX6_view_88 hl (by decide) rfl (fun ls hl => ?_)
          refine lv_iload hx hb dX6_view_90 (lv_at hl 6 rfl) ?_
          refine lv_if_lt (tgt := 117) hx hb dX6_view_92 (by decide) (fun c_37 => ?_) (fun c_37 => ?_)
          · skip
            have ic_37 : (i.toInt : Int) < 0 := ic_lt rfl kI_0 c_37
            refine lv_aload_n hx hb dX6_view_117 rfl (lv_at hl 2 rfl) ?_
            refine lv_iconst (v := 0) hx hb dX6_view_118 (by decide) ?_
            refine m_put (ci := 6) (v := .int 0) (C := RX6) (T := TX6) (N := 30) hx hb hC hH hts in_X6_view_X6 tyX6 tyX6_ok nmX6 hown F_5 rfl 29 (by decide) (hts (.fieldLink RX6 214 "LazyStateModel" "status" "I") (by decide +kernel)) rfl rfl rfl (Nat.le_of_ble_eq_true rfl) dX6_view_119 (fun H locs hH => ?_)
            have hH : mH G s (va_up f_3 (h 0) (some (.inr (6, [.int (nI n), .ref (h 1), .int (nI hg), .ref (h 3), .ref (h 4), .ref (h 5), .ref (h 6), .int fe, .ref (h 8), .ref (h 9), .ref (h 10), .ref (h 11), .ref (h 12), .ref (h 13), .ref (h 14), .ref (h 15), .int ca, .long (gfS σ), .int wh, .int (nI ((trS σ).length)), .ref (h 20), .ref (h 21), .int (nI wl.length), .ref (h 23), .ref (h 24), .int (nI ac), .ref (h 26), .ref (h 27), .int (nI th), .int 0])))) H locs := hH
            obtain ⟨f_38, ef_38⟩ : ∃ zz_ : mF, zz_ = va_up f_3 (h 0) (some (.inr (6, [.int (nI n), .ref (h 1), .int (nI hg), .ref (h 3), .ref (h 4), .ref (h 5), .ref (h 6), .int fe, .ref (h 8), .ref (h 9), .ref (h 10), .ref (h 11), .ref (h 12), .ref (h 13), .ref (h 14), .ref (h 15), .int ca, .long (gfS σ), .int wh, .int (nI ((trS σ).length)), .ref (h 20), .ref (h 21), .int (nI wl.length), .ref (h 23), .ref (h 24), .int (nI ac), .ref (h 26), .ref (h 27), .int (nI th), .int 0]))) := ⟨_, rfl⟩
            rw [← ef_38] at hH
            have hM : MEM G h n (nI hg, fe, ca, (gfS σ), wh, nI ((trS σ).length), nI wl.length, nI ac, nI th, 0) I_4 J_4 f_38 := hM.set0 ef_38
            have hfr := hfr.up 0 (by decide) ef_38
            have hI : FM G h n T z A hg ver cq fe tms ca wl wh ac th 0 σ f_38 := ⟨_, _, hM, hR, hac_4, hth_4⟩
            refine lv_iload hx hb dX6_view_122 (lv_at hl 6 rfl) ?_
            refine lv_if_lt (tgt := 144) hx hb dX6_view_124 (by decide) (fun c_39 => ?_) (fun c_39 => ?_)
            · skip
              have ic_39 : (i.toInt : Int) < 0 := ic_lt rfl kI_0 c_39
              refine lv_iload hx hb dX6_view_144 (lv_at hl 1 rfl) ?_
              refine lv_iconst (v := 2) hx hb dX6_view_146 (by decide) ?_
              refine lv_icmp_ne (tgt := 161) hx hb dX6_view_147 (by decide) (fun c_40 => ?_) (fun c_40 => ?_)
              · skip
                have ic_40 : (r_30.toInt : Int) ≠ 2 := ic_ne rfl kI_2 c_40
                refine lv_aload_n hx hb dX6_view_161 rfl (lv_at hl 2 rfl) ?_
                have F_41 : f_38 (h 0) = some (.inr (6, [.int (nI n), .ref (h 1), .int (nI hg), .ref (h 3), .ref (h 4), .ref (h 5), .ref (h 6), .int fe, .ref (h 8), .ref (h 9), .ref (h 10), .ref (h 11), .ref (h 12), .ref (h 13), .ref (h 14), .ref (h 15), .int ca, .long (gfS σ), .int wh, .int (nI ((trS σ).length)), .ref (h 20), .ref (h 21), .int (nI wl.length), .ref (h 23), .ref (h 24), .int (nI ac), .ref (h 26), .ref (h 27), .int (nI th), .int 0])) := hM.1
                refine m_get (ci := 6) (v := .ref (h 3)) (C := RX6) (T := TX6) (N := 30) hx hb hC hH hts in_X6_view_X6 hown F_41 rfl 3 (by decide) (hts (.fieldLink RX6 13 "LazyStateModel" "numbers" "[J") (by decide +kernel)) rfl dX6_view_162 ?_
                refine lv_iload hx hb dX6_view_165 (lv_at hl 0 rfl) ?_
                have hg_42 : f_38 (h 3) = some (.inl (gk G 1, 8064, .inr (.inl (J_4 3)))) := hM.2.2.1 3 (by decide) rfl
                refine m_lald hx hb hC hH hg_42 (vp_in_iff.mpr ⟨by omega, by omega⟩) dX6_view_167 ?_
                refine lv_topl (fun y_43 ey_43 => ?_)
                have n3_ : srt (T o.toNatClampNeg) j.toNatClampNeg ≠ 3 := by have := kI_2; omega
                have nu_ : y_43 = (ver a.toNatClampNeg o.toNatClampNeg).1 j.toNatClampNeg := by rw [ey_43, lf_, ar_.1]; unfold nuOf; rw [if_neg n3_]
                exact m_lret (v := y_43) hx hb hr hlk hC hH (fun _ => (0, 0)) ⟨hfr, _, Or.inr (Or.inl ⟨vp_, by omega, nu_, rfl⟩), ⟨_, _, hM, hR, hac_4, hth_4⟩⟩ (Nat.le_of_ble_eq_true rfl) (Nat.le_of_ble_eq_true rfl) dX6_view_168
              · skip
                have ic_40 : (r_30.toInt : Int) = 2 := ic_eq rfl kI_2 c_40
                refine lv_aload_n hx hb dX6_view_150 rfl (lv_at hl 2 rfl) ?_
                have F_44 : f_38 (h 0) = some (.inr (6, [.int (nI n), .ref (h 1), .int (nI hg), .ref (h 3), .ref (h 4), .ref (h 5), .ref (h 6), .int fe, .ref (h 8), .ref (h 9), .ref (h 10), .ref (h 11), .ref (h 12), .ref (h 13), .ref (h 14), .ref (h 15), .int ca, .long (gfS σ), .int wh, .int (nI ((trS σ).length)), .ref (h 20), .ref (h 21), .int (nI wl.length), .ref (h 23), .ref (h 24), .int (nI ac), .ref (h 26), .ref (h 27), .int (nI th), .int 0])) := hM.1
                refine m_get (ci := 6) (v := .ref (h 4)) (C := RX6) (T := TX6) (N := 30) hx hb hC hH hts in_X6_view_X6 hown F_44 rfl 4 (by decide) (hts (.fieldLink RX6 17 "LazyStateModel" "sizes" "[I") (by decide +kernel)) rfl dX6_view_151 ?_
                refine lv_iload hx hb dX6_view_154 (lv_at hl 0 rfl) ?_
                have hg_45 : f_38 (h 4) = some (.inl (gk G 0, 8064, .inl (I_4 4))) := hM.2.1 4 (by decide) rfl
                refine m_iald hx hb hC hH hg_45 (vp_in_iff.mpr ⟨by omega, by omega⟩) dX6_view_156 ?_
                refine lv_topi (fun x_46 ex_46 => ?_)
                have s3_ : srt (T o.toNatClampNeg) j.toNatClampNeg = 3 := by have := kI_2; omega
                have b3_ := (okb_.2.2 s3_).1
                have c32_ : ((ver a.toNatClampNeg o.toNatClampNeg).1 j.toNatClampNeg).toInt32.toInt = ((ver a.toNatClampNeg o.toNatClampNeg).1 j.toNatClampNeg).toInt := ic_l2i rfl rfl (by omega) (by omega)
                have sz_ : x_46.toInt = ((ver a.toNatClampNeg o.toNatClampNeg).1 j.toNatClampNeg).toInt := by rw [ex_46, lf_, ar_.2.1]; unfold szOf; rw [if_pos s3_]; exact c32_
                refine lv_i2l hx hb dX6_view_157 rfl ?_
                refine lv_topl (fun y_47 ey_47 => ?_)
                have iy_47 : y_47.toInt = x_46.toInt := lc_i2l ey_47 rfl
                have gy_47 := ic_rng x_46
                refine lv_goto (tgt := 168) hx hb dX6_view_158 (by decide) ?_
                exact m_lret (v := y_47) hx hb hr hlk hC hH (fun _ => (0, 0)) ⟨hfr, _, Or.inr (Or.inl ⟨vp_, by omega, Int64.toInt_inj.mp (by have := iy_47; omega), rfl⟩), ⟨_, _, hM, hR, hac_4, hth_4⟩⟩ (Nat.le_of_ble_eq_true rfl) (Nat.le_of_ble_eq_true rfl) dX6_view_168
            · skip
              have ic_39 : (i.toInt : Int) ≥ 0 := ic_nlt rfl kI_0 c_39
              omega
          · skip
            have ic_37 : (i.toInt : Int) ≥ 0 := ic_nlt rfl kI_0 c_37
            refine lv_iload hx hb dX6_view_95 (lv_at hl 1 rfl) ?_
            refine lv_iconst (v := 2) hx hb dX6_view_97 (by decide) ?_
            refine lv_icmp_ne (tgt := 113) hx hb dX6_view_98 (by decide) (fun c_48 => ?_) (fun c_48 => ?_)
            · skip
              have ic_48 : (r_30.toInt : Int) ≠ 2 := ic_ne rfl kI_2 c_48
              refine lv_ldc2 (v := (-1)) hx hb hown (hts (.constantLong RX6 217 (-1)) (by decide +kernel)) dX6_view_113 ?_
              exact m_lret (v := (-1)) hx hb hr hlk hC hH (fun _ => (0, 0)) ⟨hfr, _, Or.inr (Or.inr (Or.inr ⟨vp_, by omega, Or.inl (by have := kI_2; omega), rfl, rfl⟩)), ⟨_, _, hM, hR, hac_4, hth_4⟩⟩ (Nat.le_of_ble_eq_true rfl) (Nat.le_of_ble_eq_true rfl) dX6_view_116
            · skip
              have ic_48 : (r_30.toInt : Int) = 2 := ic_eq rfl kI_2 c_48
              refine lv_iload hx hb dX6_view_101 (lv_at hl 6 rfl) ?_
              refine lv_aload_n hx hb dX6_view_103 rfl (lv_at hl 2 rfl) ?_
              refine m_get (ci := 6) (v := .ref (h 4)) (C := RX6) (T := TX6) (N := 30) hx hb hC hH hts in_X6_view_X6 hown F_5 rfl 4 (by decide) (hts (.fieldLink RX6 17 "LazyStateModel" "sizes" "[I") (by decide +kernel)) rfl dX6_view_104 ?_
              refine lv_iload hx hb dX6_view_107 (lv_at hl 0 rfl) ?_
              have hg_49 : f_3 (h 4) = some (.inl (gk G 0, 8064, .inl (I_4 4))) := hM.2.1 4 (by decide) rfl
              refine m_iald hx hb hC hH hg_49 (vp_in_iff.mpr ⟨by omega, by omega⟩) dX6_view_109 ?_
              refine lv_topi (fun x_50 ex_50 => ?_)
              have s3_ : srt (T o.toNatClampNeg) j.toNatClampNeg = 3 := by have := kI_2; omega
              have b3_ := (okb_.2.2 s3_).1
              have c32_ : ((ver a.toNatClampNeg o.toNatClampNeg).1 j.toNatClampNeg).toInt32.toInt = ((ver a.toNatClampNeg o.toNatClampNeg).1 j.toNatClampNeg).toInt := ic_l2i rfl rfl (by omega) (by omega)
              have sz_ : x_50.toInt = ((ver a.toNatClampNeg o.toNatClampNeg).1 j.toNatClampNeg).toInt := by rw [ex_50, lf_, ar_.2.1]; unfold szOf; rw [if_pos s3_]; exact c32_
              refine lv_icmp_lt (tgt := 117) hx hb dX6_view_110 (by decide) (fun c_51 => ?_) (fun c_51 => ?_)
              · skip
                have ic_51 : (i.toInt : Int) < x_50.toInt := ic_lt rfl rfl c_51
                refine lv_aload_n hx hb dX6_view_117 rfl (lv_at hl 2 rfl) ?_
                refine lv_iconst (v := 0) hx hb dX6_view_118 (by decide) ?_
                refine m_put (ci := 6) (v := .int 0) (C := RX6) (T := TX6) (N := 30) hx hb hC hH hts in_X6_view_X6 tyX6 tyX6_ok nmX6 hown F_5 rfl 29 (by decide) (hts (.fieldLink RX6 214 "LazyStateModel" "status" "I") (by decide +kernel)) rfl rfl rfl (Nat.le_of_ble_eq_true rfl) dX6_view_119 (fun H locs hH => ?_)
                have hH : mH G s (va_up f_3 (h 0) (some (.inr (6, [.int (nI n), .ref (h 1), .int (nI hg), .ref (h 3), .ref (h 4), .ref (h 5), .ref (h 6), .int fe, .ref (h 8), .ref (h 9), .ref (h 10), .ref (h 11), .ref (h 12), .ref (h 13), .ref (h 14), .ref (h 15), .int ca, .long (gfS σ), .int wh, .int (nI ((trS σ).length)), .ref (h 20), .ref (h 21), .int (nI wl.length), .ref (h 23), .ref (h 24), .int (nI ac), .ref (h 26), .ref (h 27), .int (nI th), .int 0])))) H locs := hH
                obtain ⟨f_52, ef_52⟩ : ∃ zz_ : mF, zz_ = va_up f_3 (h 0) (some (.inr (6, [.int (nI n), .ref (h 1), .int (nI hg), .ref (h 3), .ref (h 4), .ref (h 5), .ref (h 6), .int fe, .ref (h 8), .ref (h 9), .ref (h 10), .ref (h 11), .ref (h 12), .ref (h 13), .ref (h 14), .ref (h 15), .int ca, .long (gfS σ), .int wh, .int (nI ((trS σ).length)), .ref (h 20), .ref (h 21), .int (nI wl.length), .ref (h 23), .ref (h 24), .int (nI ac), .ref (h 26), .ref (h 27), .int (nI th), .int 0]))) := ⟨_, rfl⟩
                rw [← ef_52] at hH
                have hM : MEM G h n (nI hg, fe, ca, (gfS σ), wh, nI ((trS σ).length), nI wl.length, nI ac, nI th, 0) I_4 J_4 f_52 := hM.set0 ef_52
                have hfr := hfr.up 0 (by decide) ef_52
                have hI : FM G h n T z A hg ver cq fe tms ca wl wh ac th 0 σ f_52 := ⟨_, _, hM, hR, hac_4, hth_4⟩
                refine lv_iload hx hb dX6_view_122 (lv_at hl 6 rfl) ?_
                refine lv_if_lt (tgt := 144) hx hb dX6_view_124 (by decide) (fun c_53 => ?_) (fun c_53 => ?_)
                · skip
                  have ic_53 : (i.toInt : Int) < 0 := ic_lt rfl kI_0 c_53
                  omega
                · skip
                  have ic_53 : (i.toInt : Int) ≥ 0 := ic_nlt rfl kI_0 c_53
                  refine lv_aload_n hx hb dX6_view_127 rfl (lv_at hl 2 rfl) ?_
                  have F_54 : f_52 (h 0) = some (.inr (6, [.int (nI n), .ref (h 1), .int (nI hg), .ref (h 3), .ref (h 4), .ref (h 5), .ref (h 6), .int fe, .ref (h 8), .ref (h 9), .ref (h 10), .ref (h 11), .ref (h 12), .ref (h 13), .ref (h 14), .ref (h 15), .int ca, .long (gfS σ), .int wh, .int (nI ((trS σ).length)), .ref (h 20), .ref (h 21), .int (nI wl.length), .ref (h 23), .ref (h 24), .int (nI ac), .ref (h 26), .ref (h 27), .int (nI th), .int 0])) := hM.1
                  refine m_get (ci := 6) (v := .ref (h 5)) (C := RX6) (T := TX6) (N := 30) hx hb hC hH hts in_X6_view_X6 hown F_54 rfl 5 (by decide) (hts (.fieldLink RX6 21 "LazyStateModel" "items" "[I") (by decide +kernel)) rfl dX6_view_128 ?_
                  refine lv_bipush (v := 8) hx hb dX6_view_131 (by decide) ?_
                  refine lv_iload hx hb dX6_view_133 (lv_at hl 0 rfl) ?_
                  refine lv_imul hx hb dX6_view_135 ?_
                  refine lv_topi (fun x_55 ex_55 => ?_)
                  have ix_55 : x_55.toInt = 8 * x_36.toInt := ic_mul ex_55 kI_8 rfl (by omega) (by omega)
                  refine lv_iload hx hb dX6_view_136 (lv_at hl 6 rfl) ?_
                  refine lv_iadd hx hb dX6_view_138 ?_
                  refine lv_topi (fun x_56 ex_56 => ?_)
                  have ix_56 : x_56.toInt = x_55.toInt + i.toInt := ic_add ex_56 rfl rfl (by omega) (by omega)
                  have hg_57 : f_52 (h 5) = some (.inl (gk G 0, 64512, .inl (I_4 5))) := hM.2.1 5 (by decide) rfl
                  refine m_iald hx hb hC hH hg_57 (vp_in_iff.mpr ⟨by omega, by omega⟩) dX6_view_139 ?_
                  refine lv_topi (fun x_58 ex_58 => ?_)
                  have ci_ := ic_clN (rfl : i.toInt = _) (by omega)
                  have nn_59 : x_56.toNatClampNeg = 8 * (192 * a.toNatClampNeg + 8 * o.toNatClampNeg + j.toNatClampNeg) + i.toNatClampNeg := by have := ic_clN (rfl : x_56.toInt = _) (by omega); have := ic_clN (rfl : x_36.toInt = _) (by omega); omega
                  have it_ : x_58 = (ver a.toNatClampNeg o.toNatClampNeg).2 (plc j.toNatClampNeg i.toNatClampNeg) := by rw [ex_58, nn_59]; exact ar_.2.2 s3_ i.toNatClampNeg (by omega)
                  refine lv_i2l hx hb dX6_view_140 rfl ?_
                  refine lv_topl (fun y_60 ey_60 => ?_)
                  have iy_60 : y_60.toInt = x_58.toInt := lc_i2l ey_60 rfl
                  have gy_60 := ic_rng x_58
                  refine lv_goto (tgt := 168) hx hb dX6_view_141 (by decide) ?_
                  exact m_lret (v := y_60) hx hb hr hlk hC hH (fun _ => (0, 0)) ⟨hfr, _, Or.inr (Or.inr (Or.inl ⟨vp_, s3_, by omega, by omega, by rw [ey_60, it_], rfl⟩)), ⟨_, _, hM, hR, hac_4, hth_4⟩⟩ (Nat.le_of_ble_eq_true rfl) (Nat.le_of_ble_eq_true rfl) dX6_view_168
              · skip
                have ic_51 : (i.toInt : Int) ≥ x_50.toInt := ic_nlt rfl rfl c_51
                refine lv_ldc2 (v := (-1)) hx hb hown (hts (.constantLong RX6 217 (-1)) (by decide +kernel)) dX6_view_113 ?_
                exact m_lret (v := (-1)) hx hb hr hlk hC hH (fun _ => (0, 0)) ⟨hfr, _, Or.inr (Or.inr (Or.inr ⟨vp_, by omega, Or.inr (Or.inr (by omega)), rfl, rfl⟩)), ⟨_, _, hM, hR, hac_4, hth_4⟩⟩ (Nat.le_of_ble_eq_true rfl) (Nat.le_of_ble_eq_true rfl) dX6_view_116
        · skip
          have ic_28 : (0 : Int) > i.toInt := ic_nle kI_0 rfl c_28
          refine lv_iload hx hb dX6_view_53 (lv_at hl 4 rfl) ?_
          refine lv_bipush (v := (-3)) hx hb dX6_view_55 (by decide) ?_
          refine lv_icmp_eq (tgt := 64) hx hb dX6_view_57 (by decide) (fun c_61 => ?_) (fun c_61 => ?_)
          · skip
            have ic_61 : (i.toInt : Int) = (-3) := ic_eq rfl kI_m3 c_61
            have k0_ := kJ_0
            have co_ := ic_clN (rfl : o.toInt = _) (by omega)
            have ca_ := ic_clN (rfl : a.toInt = _) (by omega)
            have fb_ := fldM_b ((T o.toNatClampNeg : Nat) : Int)
            have fq_ := hr_13
            rw [ty1_] at fq_
            have cj_ := ic_clN (rfl : j.toInt = _) (by omega)
            have sm_ := srt_M (T o.toNatClampNeg) (hR.T3 _) j.toNatClampNeg (by omega)
            rw [cj_] at sm_
            have sn_ := sm_.1.mp (by omega)
            have vp_ : vwP n T hg o j a := ⟨by omega, by omega, by omega, by omega, sn_, by omega, by omega⟩
            have se_ := sm_.2 sn_
            have ar_ := ((hR.arV a.toNatClampNeg (by omega)).1 o.toNatClampNeg (by omega)) j.toNatClampNeg (by omega)
            have okb_ := hR.okV a.toNatClampNeg (by omega) o.toNatClampNeg (by omega) j.toNatClampNeg (by omega)
            refine lv_aload_n hx hb dX6_view_64 rfl (lv_at hl 0 rfl) ?_
            refine m_get (ci := 6) (v := .ref (h 1)) (C := RX6) (T := TX6) (N := 30) hx hb hC hH hts in_X6_view_X6 hown F_5 rfl 1 (by decide) (hts (.fieldLink RX6 7 "LazyStateModel" "types" "[I") (by decide +kernel)) rfl dX6_view_65 ?_
            refine lv_iload_n hx hb dX6_view_68 rfl (lv_at hl 1 rfl) ?_
            refine m_iald hx hb hC hH hg_11 (vp_in_iff.mpr ⟨by omega, by omega⟩) dX6_view_69 ?_
            refine lv_topi (fun x_62 ex_62 => ?_)
            have ty2_ : x_62.toInt = ((T o.toNatClampNeg : Nat) : Int) := by rw [ex_62, hR.ty (by omega)]; exact nI_toInt (by have := hR.T3 o.toNatClampNeg; omega)
            refine lv_iload_n hx hb dX6_view_70 rfl (lv_at hl 2 rfl) ?_
            refine m_goi hH (va_runS (As := [.int x_62, .int j]) (rest := []) ⟨hx, hb, hml, hown, hts⟩ (c_X6_sortOf l G f_3 x_62 j) (va_cwS 2 hts gX6_view_X6_sortOf rfl rfl rfl (by decide +kernel) ⟨Nat.le_of_ble_eq_true rfl, Nat.le_of_ble_eq_true rfl⟩) (m_preS hC hH) rfl rfl hl.1 rfl (lv_room (Nat.le_of_ble_eq_true rfl)) dX6_view_71 ⟨Nat.le_of_ble_eq_true rfl, Nat.le_of_ble_eq_true rfl⟩) (fun r_63 rho_65 f_64 H locs hw hH => ?_)
            obtain ⟨hu, hr_63⟩ := hw
            have hu : f_64 = f_3 := hu
            rw [hu] at hH
            have so_ := hr_63
            rw [ty2_] at so_
            refine lv_istore (lv' := [(5, .int r_63), (0, .ref (h 0)), (1, .int o), (2, .int j), (3, .int a), (4, .int i)]) hx hb dX6_view_74 hl (by decide) rfl (fun ls hl => ?_)
            refine lv_sipush (v := 192) hx hb dX6_view_76 (by decide) ?_
            refine lv_iload_n hx hb dX6_view_79 rfl (lv_at hl 4 rfl) ?_
            refine lv_imul hx hb dX6_view_80 ?_
            refine lv_topi (fun x_66 ex_66 => ?_)
            have ix_66 : x_66.toInt = 192 * a.toInt := ic_mul ex_66 kI_192 rfl (by omega) (by omega)
            refine lv_bipush (v := 8) hx hb dX6_view_81 (by decide) ?_
            refine lv_iload_n hx hb dX6_view_83 rfl (lv_at hl 2 rfl) ?_
            refine lv_imul hx hb dX6_view_84 ?_
            refine lv_topi (fun x_67 ex_67 => ?_)
            have ix_67 : x_67.toInt = 8 * o.toInt := ic_mul ex_67 kI_8 rfl (by omega) (by omega)
            refine lv_iadd hx hb dX6_view_85 ?_
            refine lv_topi (fun x_68 ex_68 => ?_)
            have ix_68 : x_68.toInt = x_66.toInt + x_67.toInt := ic_add ex_68 rfl rfl (by omega) (by omega)
            refine lv_iload_n hx hb dX6_view_86 rfl (lv_at hl 3 rfl) ?_
            refine lv_iadd hx hb dX6_view_87 ?_
            refine lv_topi (fun x_69 ex_69 => ?_)
            have ix_69 : x_69.toInt = x_68.toInt + j.toInt := ic_add ex_69 rfl rfl (by omega) (by omega)
            have lf_ : x_69.toNatClampNeg = (192 * a.toNatClampNeg + 8 * o.toNatClampNeg + j.toNatClampNeg) := by have := ic_clN (rfl : x_69.toInt = _) (by omega); omega
            refine lv_istore (lv' := [(6, .int x_69), (5, .int r_63), (0, .ref (h 0)), (1, .int o), (2, .int j), (3, .int a), (4, .int i)]) hx hb dX6_view_88 hl (by decide) rfl (fun ls hl => ?_)
            refine lv_iload hx hb dX6_view_90 (lv_at hl 6 rfl) ?_
            refine lv_if_lt (tgt := 117) hx hb dX6_view_92 (by decide) (fun c_70 => ?_) (fun c_70 => ?_)
            · skip
              have ic_70 : (i.toInt : Int) < 0 := ic_lt rfl kI_0 c_70
              refine lv_aload_n hx hb dX6_view_117 rfl (lv_at hl 2 rfl) ?_
              refine lv_iconst (v := 0) hx hb dX6_view_118 (by decide) ?_
              refine m_put (ci := 6) (v := .int 0) (C := RX6) (T := TX6) (N := 30) hx hb hC hH hts in_X6_view_X6 tyX6 tyX6_ok nmX6 hown F_5 rfl 29 (by decide) (hts (.fieldLink RX6 214 "LazyStateModel" "status" "I") (by decide +kernel)) rfl rfl rfl (Nat.le_of_ble_eq_true rfl) dX6_view_119 (fun H locs hH => ?_)
              have hH : mH G s (va_up f_3 (h 0) (some (.inr (6, [.int (nI n), .ref (h 1), .int (nI hg), .ref (h 3), .ref (h 4), .ref (h 5), .ref (h 6), .int fe, .ref (h 8), .ref (h 9), .ref (h 10), .ref (h 11), .ref (h 12), .ref (h 13), .ref (h 14), .ref (h 15), .int ca, .long (gfS σ), .int wh, .int (nI ((trS σ).length)), .ref (h 20), .ref (h 21), .int (nI wl.length), .ref (h 23), .ref (h 24), .int (nI ac), .ref (h 26), .ref (h 27), .int (nI th), .int 0])))) H locs := hH
              obtain ⟨f_71, ef_71⟩ : ∃ zz_ : mF, zz_ = va_up f_3 (h 0) (some (.inr (6, [.int (nI n), .ref (h 1), .int (nI hg), .ref (h 3), .ref (h 4), .ref (h 5), .ref (h 6), .int fe, .ref (h 8), .ref (h 9), .ref (h 10), .ref (h 11), .ref (h 12), .ref (h 13), .ref (h 14), .ref (h 15), .int ca, .long (gfS σ), .int wh, .int (nI ((trS σ).length)), .ref (h 20), .ref (h 21), .int (nI wl.length), .ref (h 23), .ref (h 24), .int (nI ac), .ref (h 26), .ref (h 27), .int (nI th), .int 0]))) := ⟨_, rfl⟩
              rw [← ef_71] at hH
              have hM : MEM G h n (nI hg, fe, ca, (gfS σ), wh, nI ((trS σ).length), nI wl.length, nI ac, nI th, 0) I_4 J_4 f_71 := hM.set0 ef_71
              have hfr := hfr.up 0 (by decide) ef_71
              have hI : FM G h n T z A hg ver cq fe tms ca wl wh ac th 0 σ f_71 := ⟨_, _, hM, hR, hac_4, hth_4⟩
              refine lv_iload hx hb dX6_view_122 (lv_at hl 6 rfl) ?_
              refine lv_if_lt (tgt := 144) hx hb dX6_view_124 (by decide) (fun c_72 => ?_) (fun c_72 => ?_)
              · skip
                have ic_72 : (i.toInt : Int) < 0 := ic_lt rfl kI_0 c_72
                refine lv_iload hx hb dX6_view_144 (lv_at hl 1 rfl) ?_
                refine lv_iconst (v := 2) hx hb dX6_view_146 (by decide) ?_
                refine lv_icmp_ne (tgt := 161) hx hb dX6_view_147 (by decide) (fun c_73 => ?_) (fun c_73 => ?_)
                · skip
                  have ic_73 : (r_63.toInt : Int) ≠ 2 := ic_ne rfl kI_2 c_73
                  refine lv_aload_n hx hb dX6_view_161 rfl (lv_at hl 2 rfl) ?_
                  have F_74 : f_71 (h 0) = some (.inr (6, [.int (nI n), .ref (h 1), .int (nI hg), .ref (h 3), .ref (h 4), .ref (h 5), .ref (h 6), .int fe, .ref (h 8), .ref (h 9), .ref (h 10), .ref (h 11), .ref (h 12), .ref (h 13), .ref (h 14), .ref (h 15), .int ca, .long (gfS σ), .int wh, .int (nI ((trS σ).length)), .ref (h 20), .ref (h 21), .int (nI wl.length), .ref (h 23), .ref (h 24), .int (nI ac), .ref (h 26), .ref (h 27), .int (nI th), .int 0])) := hM.1
                  refine m_get (ci := 6) (v := .ref (h 3)) (C := RX6) (T := TX6) (N := 30) hx hb hC hH hts in_X6_view_X6 hown F_74 rfl 3 (by decide) (hts (.fieldLink RX6 13 "LazyStateModel" "numbers" "[J") (by decide +kernel)) rfl dX6_view_162 ?_
                  refine lv_iload hx hb dX6_view_165 (lv_at hl 0 rfl) ?_
                  have hg_75 : f_71 (h 3) = some (.inl (gk G 1, 8064, .inr (.inl (J_4 3)))) := hM.2.2.1 3 (by decide) rfl
                  refine m_lald hx hb hC hH hg_75 (vp_in_iff.mpr ⟨by omega, by omega⟩) dX6_view_167 ?_
                  refine lv_topl (fun y_76 ey_76 => ?_)
                  have n3_ : srt (T o.toNatClampNeg) j.toNatClampNeg ≠ 3 := by have := kI_2; omega
                  have nu_ : y_76 = (ver a.toNatClampNeg o.toNatClampNeg).1 j.toNatClampNeg := by rw [ey_76, lf_, ar_.1]; unfold nuOf; rw [if_neg n3_]
                  exact m_lret (v := y_76) hx hb hr hlk hC hH (fun _ => (0, 0)) ⟨hfr, _, Or.inr (Or.inl ⟨vp_, by omega, nu_, rfl⟩), ⟨_, _, hM, hR, hac_4, hth_4⟩⟩ (Nat.le_of_ble_eq_true rfl) (Nat.le_of_ble_eq_true rfl) dX6_view_168
                · skip
                  have ic_73 : (r_63.toInt : Int) = 2 := ic_eq rfl kI_2 c_73
                  refine lv_aload_n hx hb dX6_view_150 rfl (lv_at hl 2 rfl) ?_
                  have F_77 : f_71 (h 0) = some (.inr (6, [.int (nI n), .ref (h 1), .int (nI hg), .ref (h 3), .ref (h 4), .ref (h 5), .ref (h 6), .int fe, .ref (h 8), .ref (h 9), .ref (h 10), .ref (h 11), .ref (h 12), .ref (h 13), .ref (h 14), .ref (h 15), .int ca, .long (gfS σ), .int wh, .int (nI ((trS σ).length)), .ref (h 20), .ref (h 21), .int (nI wl.length), .ref (h 23), .ref (h 24), .int (nI ac), .ref (h 26), .ref (h 27), .int (nI th), .int 0])) := hM.1
                  refine m_get (ci := 6) (v := .ref (h 4)) (C := RX6) (T := TX6) (N := 30) hx hb hC hH hts in_X6_view_X6 hown F_77 rfl 4 (by decide) (hts (.fieldLink RX6 17 "LazyStateModel" "sizes" "[I") (by decide +kernel)) rfl dX6_view_151 ?_
                  refine lv_iload hx hb dX6_view_154 (lv_at hl 0 rfl) ?_
                  have hg_78 : f_71 (h 4) = some (.inl (gk G 0, 8064, .inl (I_4 4))) := hM.2.1 4 (by decide) rfl
                  refine m_iald hx hb hC hH hg_78 (vp_in_iff.mpr ⟨by omega, by omega⟩) dX6_view_156 ?_
                  refine lv_topi (fun x_79 ex_79 => ?_)
                  have s3_ : srt (T o.toNatClampNeg) j.toNatClampNeg = 3 := by have := kI_2; omega
                  have b3_ := (okb_.2.2 s3_).1
                  have c32_ : ((ver a.toNatClampNeg o.toNatClampNeg).1 j.toNatClampNeg).toInt32.toInt = ((ver a.toNatClampNeg o.toNatClampNeg).1 j.toNatClampNeg).toInt := ic_l2i rfl rfl (by omega) (by omega)
                  have sz_ : x_79.toInt = ((ver a.toNatClampNeg o.toNatClampNeg).1 j.toNatClampNeg).toInt := by rw [ex_79, lf_, ar_.2.1]; unfold szOf; rw [if_pos s3_]; exact c32_
                  refine lv_i2l hx hb dX6_view_157 rfl ?_
                  refine lv_topl (fun y_80 ey_80 => ?_)
                  have iy_80 : y_80.toInt = x_79.toInt := lc_i2l ey_80 rfl
                  have gy_80 := ic_rng x_79
                  refine lv_goto (tgt := 168) hx hb dX6_view_158 (by decide) ?_
                  exact m_lret (v := y_80) hx hb hr hlk hC hH (fun _ => (0, 0)) ⟨hfr, _, Or.inr (Or.inl ⟨vp_, by omega, Int64.toInt_inj.mp (by have := iy_80; omega), rfl⟩), ⟨_, _, hM, hR, hac_4, hth_4⟩⟩ (Nat.le_of_ble_eq_true rfl) (Nat.le_of_ble_eq_true rfl) dX6_view_168
              · skip
                have ic_72 : (i.toInt : Int) ≥ 0 := ic_nlt rfl kI_0 c_72
                omega
            · skip
              have ic_70 : (i.toInt : Int) ≥ 0 := ic_nlt rfl kI_0 c_70
              refine lv_iload hx hb dX6_view_95 (lv_at hl 1 rfl) ?_
              refine lv_iconst (v := 2) hx hb dX6_view_97 (by decide) ?_
              refine lv_icmp_ne (tgt := 113) hx hb dX6_view_98 (by decide) (fun c_81 => ?_) (fun c_81 => ?_)
              · skip
                have ic_81 : (r_63.toInt : Int) ≠ 2 := ic_ne rfl kI_2 c_81
                refine lv_ldc2 (v := (-1)) hx hb hown (hts (.constantLong RX6 217 (-1)) (by decide +kernel)) dX6_view_113 ?_
                exact m_lret (v := (-1)) hx hb hr hlk hC hH (fun _ => (0, 0)) ⟨hfr, _, Or.inr (Or.inr (Or.inr ⟨vp_, by omega, Or.inl (by have := kI_2; omega), rfl, rfl⟩)), ⟨_, _, hM, hR, hac_4, hth_4⟩⟩ (Nat.le_of_ble_eq_true rfl) (Nat.le_of_ble_eq_true rfl) dX6_view_116
              · skip
                have ic_81 : (r_63.toInt : Int) = 2 := ic_eq rfl kI_2 c_81
                refine lv_iload hx hb dX6_view_101 (lv_at hl 6 rfl) ?_
                refine lv_aload_n hx hb dX6_view_103 rfl (lv_at hl 2 rfl) ?_
                refine m_get (ci := 6) (v := .ref (h 4)) (C := RX6) (T := TX6) (N := 30) hx hb hC hH hts in_X6_view_X6 hown F_5 rfl 4 (by decide) (hts (.fieldLink RX6 17 "LazyStateModel" "sizes" "[I") (by decide +kernel)) rfl dX6_view_104 ?_
                refine lv_iload hx hb dX6_view_107 (lv_at hl 0 rfl) ?_
                have hg_82 : f_3 (h 4) = some (.inl (gk G 0, 8064, .inl (I_4 4))) := hM.2.1 4 (by decide) rfl
                refine m_iald hx hb hC hH hg_82 (vp_in_iff.mpr ⟨by omega, by omega⟩) dX6_view_109 ?_
                refine lv_topi (fun x_83 ex_83 => ?_)
                have s3_ : srt (T o.toNatClampNeg) j.toNatClampNeg = 3 := by have := kI_2; omega
                have b3_ := (okb_.2.2 s3_).1
                have c32_ : ((ver a.toNatClampNeg o.toNatClampNeg).1 j.toNatClampNeg).toInt32.toInt = ((ver a.toNatClampNeg o.toNatClampNeg).1 j.toNatClampNeg).toInt := ic_l2i rfl rfl (by omega) (by omega)
                have sz_ : x_83.toInt = ((ver a.toNatClampNeg o.toNatClampNeg).1 j.toNatClampNeg).toInt := by rw [ex_83, lf_, ar_.2.1]; unfold szOf; rw [if_pos s3_]; exact c32_
                refine lv_icmp_lt (tgt := 117) hx hb dX6_view_110 (by decide) (fun c_84 => ?_) (fun c_84 => ?_)
                · skip
                  have ic_84 : (i.toInt : Int) < x_83.toInt := ic_lt rfl rfl c_84
                  refine lv_aload_n hx hb dX6_view_117 rfl (lv_at hl 2 rfl) ?_
                  refine lv_iconst (v := 0) hx hb dX6_view_118 (by decide) ?_
                  refine m_put (ci := 6) (v := .int 0) (C := RX6) (T := TX6) (N := 30) hx hb hC hH hts in_X6_view_X6 tyX6 tyX6_ok nmX6 hown F_5 rfl 29 (by decide) (hts (.fieldLink RX6 214 "LazyStateModel" "status" "I") (by decide +kernel)) rfl rfl rfl (Nat.le_of_ble_eq_true rfl) dX6_view_119 (fun H locs hH => ?_)
                  have hH : mH G s (va_up f_3 (h 0) (some (.inr (6, [.int (nI n), .ref (h 1), .int (nI hg), .ref (h 3), .ref (h 4), .ref (h 5), .ref (h 6), .int fe, .ref (h 8), .ref (h 9), .ref (h 10), .ref (h 11), .ref (h 12), .ref (h 13), .ref (h 14), .ref (h 15), .int ca, .long (gfS σ), .int wh, .int (nI ((trS σ).length)), .ref (h 20), .ref (h 21), .int (nI wl.length), .ref (h 23), .ref (h 24), .int (nI ac), .ref (h 26), .ref (h 27), .int (nI th), .int 0])))) H locs := hH
                  obtain ⟨f_85, ef_85⟩ : ∃ zz_ : mF, zz_ = va_up f_3 (h 0) (some (.inr (6, [.int (nI n), .ref (h 1), .int (nI hg), .ref (h 3), .ref (h 4), .ref (h 5), .ref (h 6), .int fe, .ref (h 8), .ref (h 9), .ref (h 10), .ref (h 11), .ref (h 12), .ref (h 13), .ref (h 14), .ref (h 15), .int ca, .long (gfS σ), .int wh, .int (nI ((trS σ).length)), .ref (h 20), .ref (h 21), .int (nI wl.length), .ref (h 23), .ref (h 24), .int (nI ac), .ref (h 26), .ref (h 27), .int (nI th), .int 0]))) := ⟨_, rfl⟩
                  rw [← ef_85] at hH
                  have hM : MEM G h n (nI hg, fe, ca, (gfS σ), wh, nI ((trS σ).length), nI wl.length, nI ac, nI th, 0) I_4 J_4 f_85 := hM.set0 ef_85
                  have hfr := hfr.up 0 (by decide) ef_85
                  have hI : FM G h n T z A hg ver cq fe tms ca wl wh ac th 0 σ f_85 := ⟨_, _, hM, hR, hac_4, hth_4⟩
                  refine lv_iload hx hb dX6_view_122 (lv_at hl 6 rfl) ?_
                  refine lv_if_lt (tgt := 144) hx hb dX6_view_124 (by decide) (fun c_86 => ?_) (fun c_86 => ?_)
                  · skip
                    have ic_86 : (i.toInt : Int) < 0 := ic_lt rfl kI_0 c_86
                    omega
                  · skip
                    have ic_86 : (i.toInt : Int) ≥ 0 := ic_nlt rfl kI_0 c_86
                    refine lv_aload_n hx hb dX6_view_127 rfl (lv_at hl 2 rfl) ?_
                    have F_87 : f_85 (h 0) = some (.inr (6, [.int (nI n), .ref (h 1), .int (nI hg), .ref (h 3), .ref (h 4), .ref (h 5), .ref (h 6), .int fe, .ref (h 8), .ref (h 9), .ref (h 10), .ref (h 11), .ref (h 12), .ref (h 13), .ref (h 14), .ref (h 15), .int ca, .long (gfS σ), .int wh, .int (nI ((trS σ).length)), .ref (h 20), .ref (h 21), .int (nI wl.length), .ref (h 23), .ref (h 24), .int (nI ac), .ref (h 26), .ref (h 27), .int (nI th), .int 0])) := hM.1
                    refine m_get (ci := 6) (v := .ref (h 5)) (C := RX6) (T := TX6) (N := 30) hx hb hC hH hts in_X6_view_X6 hown F_87 rfl 5 (by decide) (hts (.fieldLink RX6 21 "LazyStateModel" "items" "[I") (by decide +kernel)) rfl dX6_view_128 ?_
                    refine lv_bipush (v := 8) hx hb dX6_view_131 (by decide) ?_
                    refine lv_iload hx hb dX6_view_133 (lv_at hl 0 rfl) ?_
                    refine lv_imul hx hb dX6_view_135 ?_
                    refine lv_topi (fun x_88 ex_88 => ?_)
                    have ix_88 : x_88.toInt = 8 * x_69.toInt := ic_mul ex_88 kI_8 rfl (by omega) (by omega)
                    refine lv_iload hx hb dX6_view_136 (lv_at hl 6 rfl) ?_
                    refine lv_iadd hx hb dX6_view_138 ?_
                    refine lv_topi (fun x_89 ex_89 => ?_)
                    have ix_89 : x_89.toInt = x_88.toInt + i.toInt := ic_add ex_89 rfl rfl (by omega) (by omega)
                    have hg_90 : f_85 (h 5) = some (.inl (gk G 0, 64512, .inl (I_4 5))) := hM.2.1 5 (by decide) rfl
                    refine m_iald hx hb hC hH hg_90 (vp_in_iff.mpr ⟨by omega, by omega⟩) dX6_view_139 ?_
                    refine lv_topi (fun x_91 ex_91 => ?_)
                    have ci_ := ic_clN (rfl : i.toInt = _) (by omega)
                    have nn_92 : x_89.toNatClampNeg = 8 * (192 * a.toNatClampNeg + 8 * o.toNatClampNeg + j.toNatClampNeg) + i.toNatClampNeg := by have := ic_clN (rfl : x_89.toInt = _) (by omega); have := ic_clN (rfl : x_69.toInt = _) (by omega); omega
                    have it_ : x_91 = (ver a.toNatClampNeg o.toNatClampNeg).2 (plc j.toNatClampNeg i.toNatClampNeg) := by rw [ex_91, nn_92]; exact ar_.2.2 s3_ i.toNatClampNeg (by omega)
                    refine lv_i2l hx hb dX6_view_140 rfl ?_
                    refine lv_topl (fun y_93 ey_93 => ?_)
                    have iy_93 : y_93.toInt = x_91.toInt := lc_i2l ey_93 rfl
                    have gy_93 := ic_rng x_91
                    refine lv_goto (tgt := 168) hx hb dX6_view_141 (by decide) ?_
                    exact m_lret (v := y_93) hx hb hr hlk hC hH (fun _ => (0, 0)) ⟨hfr, _, Or.inr (Or.inr (Or.inl ⟨vp_, s3_, by omega, by omega, by rw [ey_93, it_], rfl⟩)), ⟨_, _, hM, hR, hac_4, hth_4⟩⟩ (Nat.le_of_ble_eq_true rfl) (Nat.le_of_ble_eq_true rfl) dX6_view_168
                · skip
                  have ic_84 : (i.toInt : Int) ≥ x_83.toInt := ic_nlt rfl rfl c_84
                  refine lv_ldc2 (v := (-1)) hx hb hown (hts (.constantLong RX6 217 (-1)) (by decide +kernel)) dX6_view_113 ?_
                  exact m_lret (v := (-1)) hx hb hr hlk hC hH (fun _ => (0, 0)) ⟨hfr, _, Or.inr (Or.inr (Or.inr ⟨vp_, by omega, Or.inr (Or.inr (by omega)), rfl, rfl⟩)), ⟨_, _, hM, hR, hac_4, hth_4⟩⟩ (Nat.le_of_ble_eq_true rfl) (Nat.le_of_ble_eq_true rfl) dX6_view_116
          · skip
            have ic_61 : (i.toInt : Int) ≠ (-3) := ic_ne rfl kI_m3 c_61
            have k0_ := kJ_0
            have fb_ := fldM_b ((T o.toNatClampNeg : Nat) : Int)
            have fq_ := hr_13
            rw [ty1_] at fq_
            have cj_ := ic_clN (rfl : j.toInt = _) (by omega)
            have sm_ := srt_M (T o.toNatClampNeg) (hR.T3 _) j.toNatClampNeg (by omega)
            rw [cj_] at sm_
            have vp0_ : vwP n T hg o j a := ⟨by omega, by omega, by omega, by omega, sm_.1.mp (by omega), by omega, by omega⟩
            refine lv_ldc2 (v := (-1)) hx hb hown (hts (.constantLong RX6 217 (-1)) (by decide +kernel)) dX6_view_60 ?_
            exact m_lret (v := (-1)) hx hb hr hlk hC hH (fun _ => (0, 0)) ⟨hfr, _, Or.inr (Or.inr (Or.inr ⟨vp0_, by omega, Or.inr (Or.inl (by omega)), rfl, rfl⟩)), ⟨_, _, hM, hR, hac_4, hth_4⟩⟩ (Nat.le_of_ble_eq_true rfl) (Nat.le_of_ble_eq_true rfl) dX6_view_63
set_option maxHeartbeats 4000000 in
set_option maxRecDepth 100000 in
theorem c_X6_told (l : Launch) (G : mG) (h : Nat → Nat) (n : Nat) (T z : Nat → Nat) (A : Nat → tA) (hg : Nat) (ver : Nat → Nat → tB) (cq : Nat → Bool) (fe : Int32) (tms : Nat → Int32) (ca : Int32) (wl : List Nat) (wh : Int32) (ac th : Nat) (sx : Int32) (σ : tS) (f : mF) (hI : FM G h n T z A hg ver cq fe tms ca wl wh ac th sx σ f) (w_ : Int32) : Met l yX6_told wsX6_told ({ frames := 0, cells := 0, slots := 0, locals := 0 }) (va_Pc [.ref (h 0), .int w_] (mW G f)) (va_Qi (fun (r : Int32) (u : mS) => u.2 = f ∧ r = tdA n hg fe (trS σ) wl (ldS σ) ac ca w_) (fun (u : mS) t => mW G u.2 t) (mA G)) 0 0 (mA G) := by
  refine mMet [.ref (h 0), .int w_] (cc := cX6_told) (maxL := 5) (ret := (some .int)) (by decide) rfl (Nat.le_of_ble_eq_true rfl) ?_
  intro p e s m below meth c ls hx hb hr hml hts hown hlk hnm hC hH hl
  have hl : lv_has ls 5 [(0, .ref (h 0)), (1, .int w_)] := hl
  have hI0_ := hI
  have hfr : frM h f f := frM.rf
  obtain ⟨I_1, J_1, hM, hR, hac_1, hth_1⟩ := hI
  have hg_1 := hR.hg40
  have n24_1 := hR.n24
  have tl_1 := len_b hR.ok.2.2.1
  have wl_1 := hR.wl192
  have hgI_1 : (nI hg).toInt = ((hg : Nat) : Int) := nI_toInt (by omega)
  have tmI_1 : (nI ((trS σ).length)).toInt = (((trS σ).length : Nat) : Int) := nI_toInt (by omega)
  have wmI_1 : (nI wl.length).toInt = ((wl.length : Nat) : Int) := nI_toInt (by omega)
  have acI_1 : (nI ac).toInt = ((ac : Nat) : Int) := nI_toInt (by omega)
  have thI_1 : (nI th).toInt = ((th : Nat) : Int) := nI_toInt (by omega)
  have nIn_1 : (nI n).toInt = ((n : Nat) : Int) := nI_toInt (by omega)
  refine lv_iconst (v := 0) hx hb dX6_told_0 (by decide) ?_
  refine lv_istore_n (lv' := [(2, .int 0), (0, .ref (h 0)), (1, .int w_)]) hx hb dX6_told_1 rfl hl (by decide) rfl (fun ls hl => ?_)
  refine lv_iconst (v := 0) hx hb dX6_told_2 (by decide) ?_
  refine lv_istore_n (lv' := [(3, .int 0), (2, .int 0), (0, .ref (h 0)), (1, .int w_)]) hx hb dX6_told_3 rfl hl (by decide) rfl (fun ls hl => ?_)
  refine lv_iconst (v := 0) hx hb dX6_told_4 (by decide) ?_
  refine lv_istore (lv' := [(4, .int 0), (3, .int 0), (2, .int 0), (0, .ref (h 0)), (1, .int w_)]) hx hb dX6_told_5 hl (by decide) rfl (fun ls hl => ?_)
  have loop_7 : ∀ (fuel_ : Nat) (l2 : Int32) (k4 : Int32) (h0_ : 0 ≤ k4.toInt) (h1_ : k4.toInt ≤ 24) (hl2 : l2 = nI (cnt (ldS σ) k4.toNatClampNeg)) (_ : ((24 : Int) - k4.toInt).toNat < fuel_) (H : Heap) (locs : List Loc) (ls : Array Slot) (_ : mH G s f H locs) (_ : lv_has ls 5 [(0, .ref (h 0)), (1, .int w_), (2, .int l2), (3, .int 0), (4, .int k4)]), W p l e ({ frames := 0, cells := 0, slots := 0, locals := 0 } : Room) s m ([.ref (h 0), .int w_] : List Value).toArray below meth c H locs 0 0 (MQ below (va_Qi (fun (r : Int32) (u : mS) => u.2 = f ∧ r = tdA n hg fe (trS σ) wl (ldS σ) ac ca w_) (fun (u : mS) t => mW G u.2 t) (mA G)) ([.ref (h 0), .int w_] : List Value).toArray s 0 0 (mA G)) (F0 m 7 ls []) := by
    intro N_7
    induction N_7 with
    | zero => intro l2 k4 h0_ h1_ hl2 hN; omega
    | succ N_7 ih_7 =>
      intro l2 k4 h0_ h1_ hl2 hN_7 H locs ls hH hl
      refine lv_iload hx hb dX6_told_7 (lv_at hl 4 rfl) ?_
      refine lv_bipush (v := 24) hx hb dX6_told_9 (by decide) ?_
      refine lv_icmp_ge (tgt := 38) hx hb dX6_told_11 (by decide) (fun c_2 => ?_) (fun c_2 => ?_)
      · skip
        have ic_2 : (24 : Int) ≤ k4.toInt := ic_le kI_24 rfl c_2
        have hl6_ : l2 = nI (cnt (ldS σ) 24) := by rw [hl2, show k4.toNatClampNeg = 24 from by have := ic_clN (rfl : k4.toInt = _) (by omega); omega]
        refine lv_iconst (v := 0) hx hb dX6_told_38 (by decide) ?_
        refine lv_istore (lv' := [(4, .int 0), (0, .ref (h 0)), (1, .int w_), (2, .int l2), (3, .int 0)]) hx hb dX6_told_39 hl (by decide) rfl (fun ls hl => ?_)
        have loop_41 : ∀ (fuel_ : Nat) (c3 : Int32) (k4 : Int32) (h0_ : 0 ≤ k4.toInt) (h1_ : k4.toInt ≤ ((trS σ).length : Int)) (hc3 : c3 = nI (ocK (trS σ) k4.toNatClampNeg)) (_ : (((trS σ).length : Int) - k4.toInt).toNat < fuel_) (H : Heap) (locs : List Loc) (ls : Array Slot) (_ : mH G s f H locs) (_ : lv_has ls 5 [(0, .ref (h 0)), (1, .int w_), (2, .int l2), (3, .int c3), (4, .int k4)]), W p l e ({ frames := 0, cells := 0, slots := 0, locals := 0 } : Room) s m ([.ref (h 0), .int w_] : List Value).toArray below meth c H locs 0 0 (MQ below (va_Qi (fun (r : Int32) (u : mS) => u.2 = f ∧ r = tdA n hg fe (trS σ) wl (ldS σ) ac ca w_) (fun (u : mS) t => mW G u.2 t) (mA G)) ([.ref (h 0), .int w_] : List Value).toArray s 0 0 (mA G)) (F0 m 41 ls []) := by
          intro N_41
          induction N_41 with
          | zero => intro c3 k4 h0_ h1_ hc3 hN; omega
          | succ N_41 ih_41 =>
            intro c3 k4 h0_ h1_ hc3 hN_41 H locs ls hH hl
            refine lv_iload hx hb dX6_told_41 (lv_at hl 4 rfl) ?_
            refine lv_aload_n hx hb dX6_told_43 rfl (lv_at hl 0 rfl) ?_
            have F_3 : f (h 0) = some (.inr (6, [.int (nI n), .ref (h 1), .int (nI hg), .ref (h 3), .ref (h 4), .ref (h 5), .ref (h 6), .int fe, .ref (h 8), .ref (h 9), .ref (h 10), .ref (h 11), .ref (h 12), .ref (h 13), .ref (h 14), .ref (h 15), .int ca, .long (gfS σ), .int wh, .int (nI ((trS σ).length)), .ref (h 20), .ref (h 21), .int (nI wl.length), .ref (h 23), .ref (h 24), .int (nI ac), .ref (h 26), .ref (h 27), .int (nI th), .int sx])) := hM.1
            refine m_get (ci := 6) (v := .int (nI ((trS σ).length))) (C := RX6) (T := TX6) (N := 30) hx hb hC hH hts in_X6_told_X6 hown F_3 rfl 19 (by decide) (hts (.fieldLink RX6 152 "LazyStateModel" "touchedMany" "I") (by decide +kernel)) rfl dX6_told_44 ?_
            refine lv_icmp_ge (tgt := 66) hx hb dX6_told_47 (by decide) (fun c_4 => ?_) (fun c_4 => ?_)
            · skip
              have ic_4 : ((((trS σ).length : Nat) : Int) : Int) ≤ k4.toInt := ic_le tmI_1 rfl c_4
              refine lv_iload_n hx hb dX6_told_66 rfl (lv_at hl 1 rfl) ?_
              have hk_5 : (w_.toInt < 0 ∨ 8 < w_.toInt) ∨ w_.toInt = 0 ∨ w_.toInt = 1 ∨ w_.toInt = 2 ∨ w_.toInt = 3 ∨ w_.toInt = 4 ∨ w_.toInt = 5 ∨ w_.toInt = 6 ∨ w_.toInt = 7 ∨ w_.toInt = 8 := by omega
              rcases hk_5 with hk_5 | hk_5 | hk_5 | hk_5 | hk_5 | hk_5 | hk_5 | hk_5 | hk_5 | hk_5
              · skip
                refine lv_tableOut (tgt := 155) hx hb dX6_told_67 hk_5 (by decide) ?_
                refine lv_iconst (v := (-1)) hx hb dX6_told_155 (by decide) ?_
                exact m_iret (v := (-1)) hx hb hr hlk hC hH (fun _ => (0, 0)) ⟨rfl, by unfold tdA; rw [if_neg (by omega), if_neg (by omega), if_neg (by omega), if_neg (by omega), if_neg (by omega), if_neg (by omega), if_neg (by omega), if_neg (by omega), if_neg (by omega)]⟩ (Nat.le_of_ble_eq_true rfl) (Nat.le_of_ble_eq_true rfl) dX6_told_156
              · skip
                have jk_5 : w_.toInt = 0 := hk_5
                refine lv_tableIn (off := 49) (tgt := 116) hx hb dX6_told_67 (by rw [jk_5]; decide) (by rw [jk_5]; decide) (by rw [jk_5]; rfl) (by decide) ?_
                refine lv_aload_n hx hb dX6_told_116 rfl (lv_at hl 0 rfl) ?_
                refine m_get (ci := 6) (v := .int (nI n)) (C := RX6) (T := TX6) (N := 30) hx hb hC hH hts in_X6_told_X6 hown F_3 rfl 0 (by decide) (hts (.fieldLink RX6 74 "LazyStateModel" "objects" "I") (by decide +kernel)) rfl dX6_told_117 ?_
                exact m_iret (v := nI n) hx hb hr hlk hC hH (fun _ => (0, 0)) ⟨rfl, by unfold tdA; rw [if_pos (by omega)]⟩ (Nat.le_of_ble_eq_true rfl) (Nat.le_of_ble_eq_true rfl) dX6_told_120
              · skip
                have jk_5 : w_.toInt = 1 := hk_5
                refine lv_tableIn (off := 54) (tgt := 121) hx hb dX6_told_67 (by rw [jk_5]; decide) (by rw [jk_5]; decide) (by rw [jk_5]; rfl) (by decide) ?_
                refine lv_aload_n hx hb dX6_told_121 rfl (lv_at hl 0 rfl) ?_
                refine m_get (ci := 6) (v := .int (nI hg)) (C := RX6) (T := TX6) (N := 30) hx hb hC hH hts in_X6_told_X6 hown F_3 rfl 2 (by decide) (hts (.fieldLink RX6 104 "LazyStateModel" "height" "I") (by decide +kernel)) rfl dX6_told_122 ?_
                exact m_iret (v := nI hg) hx hb hr hlk hC hH (fun _ => (0, 0)) ⟨rfl, by unfold tdA; rw [if_neg (by omega), if_pos (by omega)]⟩ (Nat.le_of_ble_eq_true rfl) (Nat.le_of_ble_eq_true rfl) dX6_told_125
              · skip
                have jk_5 : w_.toInt = 2 := hk_5
                refine lv_tableIn (off := 59) (tgt := 126) hx hb dX6_told_67 (by rw [jk_5]; decide) (by rw [jk_5]; decide) (by rw [jk_5]; rfl) (by decide) ?_
                refine lv_aload_n hx hb dX6_told_126 rfl (lv_at hl 0 rfl) ?_
                refine m_get (ci := 6) (v := .int fe) (C := RX6) (T := TX6) (N := 30) hx hb hC hH hts in_X6_told_X6 hown F_3 rfl 7 (by decide) (hts (.fieldLink RX6 149 "LazyStateModel" "fetches" "I") (by decide +kernel)) rfl dX6_told_127 ?_
                exact m_iret (v := fe) hx hb hr hlk hC hH (fun _ => (0, 0)) ⟨rfl, by unfold tdA; rw [if_neg (by omega), if_neg (by omega), if_pos (by omega)]⟩ (Nat.le_of_ble_eq_true rfl) (Nat.le_of_ble_eq_true rfl) dX6_told_130
              · skip
                have jk_5 : w_.toInt = 3 := hk_5
                refine lv_tableIn (off := 64) (tgt := 131) hx hb dX6_told_67 (by rw [jk_5]; decide) (by rw [jk_5]; decide) (by rw [jk_5]; rfl) (by decide) ?_
                refine lv_aload_n hx hb dX6_told_131 rfl (lv_at hl 0 rfl) ?_
                refine m_get (ci := 6) (v := .int (nI ((trS σ).length))) (C := RX6) (T := TX6) (N := 30) hx hb hC hH hts in_X6_told_X6 hown F_3 rfl 19 (by decide) (hts (.fieldLink RX6 152 "LazyStateModel" "touchedMany" "I") (by decide +kernel)) rfl dX6_told_132 ?_
                exact m_iret (v := nI ((trS σ).length)) hx hb hr hlk hC hH (fun _ => (0, 0)) ⟨rfl, by unfold tdA; rw [if_neg (by omega), if_neg (by omega), if_neg (by omega), if_pos (by omega)]⟩ (Nat.le_of_ble_eq_true rfl) (Nat.le_of_ble_eq_true rfl) dX6_told_135
              · skip
                have jk_5 : w_.toInt = 4 := hk_5
                refine lv_tableIn (off := 69) (tgt := 136) hx hb dX6_told_67 (by rw [jk_5]; decide) (by rw [jk_5]; decide) (by rw [jk_5]; rfl) (by decide) ?_
                refine lv_iload_n hx hb dX6_told_136 rfl (lv_at hl 3 rfl) ?_
                exact m_iret (v := c3) hx hb hr hlk hC hH (fun _ => (0, 0)) ⟨rfl, by unfold tdA; rw [if_neg (by omega), if_neg (by omega), if_neg (by omega), if_neg (by omega), if_pos (by omega)]; rw [hc3]; unfold ocn; rw [show k4.toNatClampNeg = (trS σ).length from by have := ic_clN (rfl : k4.toInt = _) (by omega); omega]⟩ (Nat.le_of_ble_eq_true rfl) (Nat.le_of_ble_eq_true rfl) dX6_told_137
              · skip
                have jk_5 : w_.toInt = 5 := hk_5
                refine lv_tableIn (off := 71) (tgt := 138) hx hb dX6_told_67 (by rw [jk_5]; decide) (by rw [jk_5]; decide) (by rw [jk_5]; rfl) (by decide) ?_
                refine lv_aload_n hx hb dX6_told_138 rfl (lv_at hl 0 rfl) ?_
                refine m_get (ci := 6) (v := .int (nI wl.length)) (C := RX6) (T := TX6) (N := 30) hx hb hC hH hts in_X6_told_X6 hown F_3 rfl 22 (by decide) (hts (.fieldLink RX6 196 "LazyStateModel" "writtenMany" "I") (by decide +kernel)) rfl dX6_told_139 ?_
                exact m_iret (v := nI wl.length) hx hb hr hlk hC hH (fun _ => (0, 0)) ⟨rfl, by unfold tdA; rw [if_neg (by omega), if_neg (by omega), if_neg (by omega), if_neg (by omega), if_neg (by omega), if_pos (by omega)]⟩ (Nat.le_of_ble_eq_true rfl) (Nat.le_of_ble_eq_true rfl) dX6_told_142
              · skip
                have jk_5 : w_.toInt = 6 := hk_5
                refine lv_tableIn (off := 76) (tgt := 143) hx hb dX6_told_67 (by rw [jk_5]; decide) (by rw [jk_5]; decide) (by rw [jk_5]; rfl) (by decide) ?_
                refine lv_iload_n hx hb dX6_told_143 rfl (lv_at hl 2 rfl) ?_
                exact m_iret (v := l2) hx hb hr hlk hC hH (fun _ => (0, 0)) ⟨rfl, by unfold tdA; rw [if_neg (by omega), if_neg (by omega), if_neg (by omega), if_neg (by omega), if_neg (by omega), if_neg (by omega), if_pos (by omega)]; exact hl6_⟩ (Nat.le_of_ble_eq_true rfl) (Nat.le_of_ble_eq_true rfl) dX6_told_144
              · skip
                have jk_5 : w_.toInt = 7 := hk_5
                refine lv_tableIn (off := 78) (tgt := 145) hx hb dX6_told_67 (by rw [jk_5]; decide) (by rw [jk_5]; decide) (by rw [jk_5]; rfl) (by decide) ?_
                refine lv_aload_n hx hb dX6_told_145 rfl (lv_at hl 0 rfl) ?_
                refine m_get (ci := 6) (v := .int (nI ac)) (C := RX6) (T := TX6) (N := 30) hx hb hC hH hts in_X6_told_X6 hown F_3 rfl 25 (by decide) (hts (.fieldLink RX6 199 "LazyStateModel" "acts" "I") (by decide +kernel)) rfl dX6_told_146 ?_
                exact m_iret (v := nI ac) hx hb hr hlk hC hH (fun _ => (0, 0)) ⟨rfl, by unfold tdA; rw [if_neg (by omega), if_neg (by omega), if_neg (by omega), if_neg (by omega), if_neg (by omega), if_neg (by omega), if_neg (by omega), if_pos (by omega)]⟩ (Nat.le_of_ble_eq_true rfl) (Nat.le_of_ble_eq_true rfl) dX6_told_149
              · skip
                have jk_5 : w_.toInt = 8 := hk_5
                refine lv_tableIn (off := 83) (tgt := 150) hx hb dX6_told_67 (by rw [jk_5]; decide) (by rw [jk_5]; decide) (by rw [jk_5]; rfl) (by decide) ?_
                refine lv_aload_n hx hb dX6_told_150 rfl (lv_at hl 0 rfl) ?_
                refine m_get (ci := 6) (v := .int ca) (C := RX6) (T := TX6) (N := 30) hx hb hC hH hts in_X6_told_X6 hown F_3 rfl 16 (by decide) (hts (.fieldLink RX6 202 "LazyStateModel" "calls" "I") (by decide +kernel)) rfl dX6_told_151 ?_
                exact m_iret (v := ca) hx hb hr hlk hC hH (fun _ => (0, 0)) ⟨rfl, by unfold tdA; rw [if_neg (by omega), if_neg (by omega), if_neg (by omega), if_neg (by omega), if_neg (by omega), if_neg (by omega), if_neg (by omega), if_neg (by omega), if_pos (by omega)]⟩ (Nat.le_of_ble_eq_true rfl) (Nat.le_of_ble_eq_true rfl) dX6_told_154
            · skip
              have ic_4 : ((((trS σ).length : Nat) : Int) : Int) > k4.toInt := ic_nle tmI_1 rfl c_4
              refine lv_iload_n hx hb dX6_told_50 rfl (lv_at hl 3 rfl) ?_
              refine lv_aload_n hx hb dX6_told_51 rfl (lv_at hl 0 rfl) ?_
              refine m_get (ci := 6) (v := .ref (h 21)) (C := RX6) (T := TX6) (N := 30) hx hb hC hH hts in_X6_told_X6 hown F_3 rfl 21 (by decide) (hts (.fieldLink RX6 59 "LazyStateModel" "touchedHow" "[I") (by decide +kernel)) rfl dX6_told_52 ?_
              refine lv_iload hx hb dX6_told_55 (lv_at hl 4 rfl) ?_
              have hg_6 : f (h 21) = some (.inl (gk G 0, 400, .inl (I_1 21))) := hM.2.1 21 (by decide) rfl
              refine m_iald hx hb hC hH hg_6 (vp_in_iff.mpr ⟨by omega, by omega⟩) dX6_told_57 ?_
              refine lv_topi (fun x_7 ex_7 => ?_)
              have ck_ := ic_clN (rfl : k4.toInt = _) (by omega)
              have hv_ : x_7 = nI ((trS σ).getD k4.toNatClampNeg 0 % 2) := by rw [ex_7]; exact (hR.trI (by omega)).2
              refine lv_iadd hx hb dX6_told_58 ?_
              refine lv_topi (fun x_8 ex_8 => ?_)
              refine lv_istore_n (lv' := [(3, .int x_8), (0, .ref (h 0)), (1, .int w_), (2, .int l2), (4, .int k4)]) hx hb dX6_told_59 rfl hl (by decide) rfl (fun ls hl => ?_)
              obtain ⟨x_9, ex_9⟩ : ∃ y : Int32, y = k4 + 1 := ⟨_, rfl⟩
              have ix_9 : x_9.toInt = k4.toInt + 1 := ic_add ex_9 rfl kI_1 (by omega) (by omega)
              refine lv_iinc (v := x_9) (lv' := [(4, .int x_9), (3, .int x_8), (0, .ref (h 0)), (1, .int w_), (2, .int l2)]) hx hb dX6_told_60 hl (k := 4) rfl (by rw [ex_9]; rfl) (by decide) rfl (fun ls hl => ?_)
              refine lv_goto (tgt := 41) hx hb dX6_told_63 (by decide) ?_
              exact ih_41 x_8 x_9 (by omega) (by omega) (by rw [show x_9.toNatClampNeg = k4.toNatClampNeg + 1 from by have := ic_clN (rfl : x_9.toInt = _) (by omega); have := ic_clN (rfl : k4.toInt = _) (by omega); omega]; show x_8 = nI (ocK (trS σ) k4.toNatClampNeg + (trS σ).getD k4.toNatClampNeg 0 % 2); rw [ex_8, hc3, hv_]; exact (nI_addC _ _).symm) (by omega) _ _ _ hH (lv_sub hl [2, 3, 4, 1, 0] rfl)
        exact loop_41 ((((trS σ).length : Int) - 0).toNat + 1) 0 0 (by have := kI_0; have := kI_0; omega) (by have := kI_0; have := kI_0; omega) rfl (by have := kI_0; have := kI_0; omega) _ _ _ hH (lv_sub hl [1, 2, 3, 4, 0] rfl)
      · skip
        have ic_2 : (24 : Int) > k4.toInt := ic_nle kI_24 rfl c_2
        refine lv_iload_n hx hb dX6_told_14 rfl (lv_at hl 2 rfl) ?_
        refine lv_aload_n hx hb dX6_told_15 rfl (lv_at hl 0 rfl) ?_
        have F_10 : f (h 0) = some (.inr (6, [.int (nI n), .ref (h 1), .int (nI hg), .ref (h 3), .ref (h 4), .ref (h 5), .ref (h 6), .int fe, .ref (h 8), .ref (h 9), .ref (h 10), .ref (h 11), .ref (h 12), .ref (h 13), .ref (h 14), .ref (h 15), .int ca, .long (gfS σ), .int wh, .int (nI ((trS σ).length)), .ref (h 20), .ref (h 21), .int (nI wl.length), .ref (h 23), .ref (h 24), .int (nI ac), .ref (h 26), .ref (h 27), .int (nI th), .int sx])) := hM.1
        refine m_get (ci := 6) (v := .ref (h 24)) (C := RX6) (T := TX6) (N := 30) hx hb hC hH hts in_X6_told_X6 hown F_10 rfl 24 (by decide) (hts (.fieldLink RX6 65 "LazyStateModel" "isLoaded" "[Z") (by decide +kernel)) rfl dX6_told_16 ?_
        refine lv_iload hx hb dX6_told_19 (lv_at hl 4 rfl) ?_
        have hg_11 : f (h 24) = some (.inl (gk G 2, 24, .inl (I_1 24))) := hM.2.1 24 (by decide) rfl
        refine m_zald hx hb hC hH hg_11 (vp_in_iff.mpr ⟨by omega, by omega⟩) dX6_told_21 ?_
        refine lv_topi (fun x_12 ex_12 => ?_)
        have ck_ := ic_clN (rfl : k4.toInt = _) (by omega)
        have bv_ : x_12 = b2i (ldS σ k4.toNatClampNeg) := by rw [ex_12]; exact hR.ldI (by omega)
        refine lv_if_eq (tgt := 29) hx hb dX6_told_22 (by decide) (fun c_13 => ?_) (fun c_13 => ?_)
        · skip
          have ic_13 : (x_12.toInt : Int) = 0 := ic_eq rfl kI_0 c_13
          have bb_ : ldS σ k4.toNatClampNeg = false := b2i_0 (by rw [← bv_]; exact ic_13)
          refine lv_iconst (v := 0) hx hb dX6_told_29 (by decide) ?_
          refine lv_iadd hx hb dX6_told_30 ?_
          refine lv_topi (fun x_14 ex_14 => ?_)
          refine lv_istore_n (lv' := [(2, .int x_14), (0, .ref (h 0)), (1, .int w_), (3, .int 0), (4, .int k4)]) hx hb dX6_told_31 rfl hl (by decide) rfl (fun ls hl => ?_)
          obtain ⟨x_15, ex_15⟩ : ∃ y : Int32, y = k4 + 1 := ⟨_, rfl⟩
          have ix_15 : x_15.toInt = k4.toInt + 1 := ic_add ex_15 rfl kI_1 (by omega) (by omega)
          refine lv_iinc (v := x_15) (lv' := [(4, .int x_15), (2, .int x_14), (0, .ref (h 0)), (1, .int w_), (3, .int 0)]) hx hb dX6_told_32 hl (k := 4) rfl (by rw [ex_15]; rfl) (by decide) rfl (fun ls hl => ?_)
          refine lv_goto (tgt := 7) hx hb dX6_told_35 (by decide) ?_
          exact ih_7 x_14 x_15 (by omega) (by omega) (by rw [show x_15.toNatClampNeg = k4.toNatClampNeg + 1 from by have := ic_clN (rfl : x_15.toInt = _) (by omega); have := ic_clN (rfl : k4.toInt = _) (by omega); omega]; show x_14 = nI (cnt (ldS σ) k4.toNatClampNeg + (if ldS σ k4.toNatClampNeg = true then 1 else 0)); rw [bb_, ex_14, hl2]; rw [if_neg (by simp)]; exact Int32.add_zero _) (by omega) _ _ _ hH (lv_sub hl [2, 3, 1, 4, 0] rfl)
        · skip
          have ic_13 : (x_12.toInt : Int) ≠ 0 := ic_ne rfl kI_0 c_13
          have bb_ : ldS σ k4.toNatClampNeg = true := b2i_ne (by rw [← bv_]; exact ic_13)
          refine lv_iconst (v := 1) hx hb dX6_told_25 (by decide) ?_
          refine lv_goto (tgt := 30) hx hb dX6_told_26 (by decide) ?_
          refine lv_iadd hx hb dX6_told_30 ?_
          refine lv_topi (fun x_16 ex_16 => ?_)
          refine lv_istore_n (lv' := [(2, .int x_16), (0, .ref (h 0)), (1, .int w_), (3, .int 0), (4, .int k4)]) hx hb dX6_told_31 rfl hl (by decide) rfl (fun ls hl => ?_)
          obtain ⟨x_17, ex_17⟩ : ∃ y : Int32, y = k4 + 1 := ⟨_, rfl⟩
          have ix_17 : x_17.toInt = k4.toInt + 1 := ic_add ex_17 rfl kI_1 (by omega) (by omega)
          refine lv_iinc (v := x_17) (lv' := [(4, .int x_17), (2, .int x_16), (0, .ref (h 0)), (1, .int w_), (3, .int 0)]) hx hb dX6_told_32 hl (k := 4) rfl (by rw [ex_17]; rfl) (by decide) rfl (fun ls hl => ?_)
          refine lv_goto (tgt := 7) hx hb dX6_told_35 (by decide) ?_
          exact ih_7 x_16 x_17 (by omega) (by omega) (by rw [show x_17.toNatClampNeg = k4.toNatClampNeg + 1 from by have := ic_clN (rfl : x_17.toInt = _) (by omega); have := ic_clN (rfl : k4.toInt = _) (by omega); omega]; show x_16 = nI (cnt (ldS σ) k4.toNatClampNeg + (if ldS σ k4.toNatClampNeg = true then 1 else 0)); rw [bb_, ex_16, hl2]; rw [if_pos rfl]; exact (nI_addC _ 1).symm) (by omega) _ _ _ hH (lv_sub hl [2, 3, 1, 4, 0] rfl)
  exact loop_7 (((24 : Int) - 0).toNat + 1) 0 0 (by have := kI_0; have := kI_0; omega) (by have := kI_0; have := kI_0; omega) rfl (by have := kI_0; have := kI_0; omega) _ _ _ hH (lv_sub hl [3, 4, 2, 1, 0] rfl)
