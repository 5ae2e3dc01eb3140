set_option maxHeartbeats 4000000 in
set_option maxRecDepth 100000 in
theorem c_X6_call (l : Launch) (G : mG) (h : Nat → Nat) (n : Nat) (T z : Nat → Nat) (A : Nat → tA) (hg : Nat) (ver : Nat → Nat → tB) (c0q : Nat → Bool) (fe0 : Int32) (tms : Nat → Int32) (ca : Int32) (wl : List Nat) (wh : Int32) (ac th : Nat) (sx : Int32) (σ : tS) (f : mF) (hI : FM G h n T z A hg ver c0q fe0 tms ca wl wh ac th sx σ f) (o b : Int32) (v : Int64) : Met l yX6_call wsX6_call ({ frames := 6, cells := 0, slots := 0, locals := 155 }) (va_Pc [.ref (h 0), .int o, .int b, .long v] (mW G f)) (va_Qi (fun (r : Int32) (u : mS) => frM h f u.2 ∧ ((¬ (0 ≤ o.toInt ∧ o.toInt < n ∧ 0 ≤ b.toInt ∧ b.toInt < 6) ∧ r.toInt = -1 ∧ FM G h n T z A hg ver c0q fe0 tms ca wl wh ac th sx σ u.2) ∨ ((0 ≤ o.toInt ∧ o.toInt < n ∧ 0 ≤ b.toInt ∧ b.toInt < 6) ∧ hg = 40 ∧ r.toInt = -2 ∧ FM G h n T z A hg ver c0q fe0 tms ca wl wh ac th sx σ u.2) ∨ ((0 ≤ o.toInt ∧ o.toInt < n ∧ 0 ≤ b.toInt ∧ b.toInt < 6) ∧ hg ≤ 39 ∧ (rnC T z A (ver hg) b.toNatClampNeg o v).1 ≠ 0 ∧ r.toInt = (rnC T z A (ver hg) b.toNatClampNeg o v).1 ∧ FM G h n T z A hg ver (cqL c0q (rnC T z A (ver hg) b.toNatClampNeg o v).2.2.2) (feL fe0 c0q (rnC T z A (ver hg) b.toNatClampNeg o v).2.2.2) tms (ca + 1) ([]) (nI (rnC T z A (ver hg) b.toNatClampNeg o v).2.1) ((rnC T z A (ver hg) b.toNatClampNeg o v).2.2.1) ((rnC T z A (ver hg) b.toNatClampNeg o v).1) sx ((rnC T z A (ver hg) b.toNatClampNeg o v).2.2.2) u.2) ∨ ((0 ≤ o.toInt ∧ o.toInt < n ∧ 0 ≤ b.toInt ∧ b.toInt < 6) ∧ hg ≤ 39 ∧ (rnC T z A (ver hg) b.toNatClampNeg o v).1 = 0 ∧ r.toInt = 0 ∧ wls (dif n T (ver hg) (bdS (rnC T z A (ver hg) b.toNatClampNeg o v).2.2.2)) 192 = [] ∧ FM G h n T z A hg ver (cqL c0q (rnC T z A (ver hg) b.toNatClampNeg o v).2.2.2) (feL fe0 c0q (rnC T z A (ver hg) b.toNatClampNeg o v).2.2.2) tms (ca + 1) ([]) (-3) ((rnC T z A (ver hg) b.toNatClampNeg o v).2.2.1) 0 sx ((rnC T z A (ver hg) b.toNatClampNeg o v).2.2.2) u.2) ∨ ((0 ≤ o.toInt ∧ o.toInt < n ∧ 0 ≤ b.toInt ∧ b.toInt < 6) ∧ hg ≤ 39 ∧ (rnC T z A (ver hg) b.toNatClampNeg o v).1 = 0 ∧ r.toInt = 0 ∧ wls (dif n T (ver hg) (bdS (rnC T z A (ver hg) b.toNatClampNeg o v).2.2.2)) 192 ≠ [] ∧ FM G h n T z A (hg + 1) (va_up ver (hg + 1) (bdS (rnC T z A (ver hg) b.toNatClampNeg o v).2.2.2)) (fun _ => false) (feL fe0 c0q (rnC T z A (ver hg) b.toNatClampNeg o v).2.2.2) (tmS tms (dif n T (ver hg) (bdS (rnC T z A (ver hg) b.toNatClampNeg o v).2.2.2)) 192) (ca + 1) (wls (dif n T (ver hg) (bdS (rnC T z A (ver hg) b.toNatClampNeg o v).2.2.2)) 192) (-3) ((rnC T z A (ver hg) b.toNatClampNeg o v).2.2.1) 0 sx ((rnC T z A (ver hg) b.toNatClampNeg o v).2.2.2) u.2))) (fun (u : mS) t => mW G u.2 t) (mA G)) 0 0 (mA G) := by
  refine mMet [.ref (h 0), .int o, .int b, .long v] (cc := cX6_call) (maxL := 7) (ret := (some .int)) (by decide) rfl (Nat.le_of_ble_eq_true rfl) ?_
  intro p e s m below meth c ls hx hb hr hml hts hown hlk hnm hC hH hl
  have hl : lv_has ls 7 [(0, .ref (h 0)), (1, .int o), (2, .int b), (3, .long v)] := hl
  have hI0_ := hI
  have hfr : frM h f f := frM.rf
  obtain ⟨I_1, J_1, hM, hR, hac_1, hth_1⟩ := hI
  have hg_1 := hR.hg40
  have n24_1 := hR.n24
  have tl_1 := len_b hR.ok.2.2.1
  have wl_1 := hR.wl192
  have hgI_1 : (nI hg).toInt = ((hg : Nat) : Int) := nI_toInt (by omega)
  have tmI_1 : (nI ((trS σ).length)).toInt = (((trS σ).length : Nat) : Int) := nI_toInt (by omega)
  have wmI_1 : (nI wl.length).toInt = ((wl.length : Nat) : Int) := nI_toInt (by omega)
  have acI_1 : (nI ac).toInt = ((ac : Nat) : Int) := nI_toInt (by omega)
  have thI_1 : (nI th).toInt = ((th : Nat) : Int) := nI_toInt (by omega)
  have nIn_1 : (nI n).toInt = ((n : Nat) : Int) := nI_toInt (by omega)
  refine lv_aload_n hx hb dX6_call_0 rfl (lv_at hl 0 rfl) ?_
  refine lv_iload_n hx hb dX6_call_1 rfl (lv_at hl 1 rfl) ?_
  have F_2 : f (h 0) = some (.inr (6, [.int (nI n), .ref (h 1), .int (nI hg), .ref (h 3), .ref (h 4), .ref (h 5), .ref (h 6), .int fe0, .ref (h 8), .ref (h 9), .ref (h 10), .ref (h 11), .ref (h 12), .ref (h 13), .ref (h 14), .ref (h 15), .int ca, .long (gfS σ), .int wh, .int (nI ((trS σ).length)), .ref (h 20), .ref (h 21), .int (nI wl.length), .ref (h 23), .ref (h 24), .int (nI ac), .ref (h 26), .ref (h 27), .int (nI th), .int sx])) := hM.1
  have hI : FM G h n T z A hg ver c0q fe0 tms ca wl wh ac th sx σ f := ⟨_, _, hM, hR, hac_1, hth_1⟩
  refine m_goi hH (va_runV (As := [.int o]) (rest := []) ⟨hx, hb, hml, hown, hts⟩ (c_X6_isObject l G h n T z A hg ver c0q fe0 tms ca wl wh ac th sx σ f hI o) (cwV 1 hts gX6_call_X6_isObject rfl rfl rfl (by decide +kernel) ⟨Nat.le_of_ble_eq_true rfl, Nat.le_of_ble_eq_true rfl⟩) (m_preV (ci := 6) hC hH F_2 rfl) rfl rfl hl.1 rfl (lv_room (Nat.le_of_ble_eq_true rfl)) dX6_call_2 ⟨Nat.le_of_ble_eq_true rfl, Nat.le_of_ble_eq_true rfl⟩) (fun r_3 rho_5 f_4 H locs hw hH => ?_)
  obtain ⟨hu, hr_3⟩ := hw
  have hu : f_4 = f := hu
  rw [hu] at hH
  try dsimp only at hr_3
  refine lv_if_eq (tgt := 20) hx hb dX6_call_5 (by decide) (fun c_6 => ?_) (fun c_6 => ?_)
  · skip
    have ic_6 : (r_3.toInt : Int) = 0 := ic_eq rfl kI_0 c_6
    refine lv_iconst (v := (-1)) hx hb dX6_call_20 (by decide) ?_
    exact m_iret (v := (-1)) hx hb hr hlk hC hH (fun _ => (0, 0)) ⟨hfr, Or.inl ⟨fun z_ => by have := kJ_0; have := kJ_5; omega, kI_m1, ⟨_, _, hM, hR, hac_1, hth_1⟩⟩⟩ (Nat.le_of_ble_eq_true rfl) (Nat.le_of_ble_eq_true rfl) dX6_call_21
  · skip
    have ic_6 : (r_3.toInt : Int) ≠ 0 := ic_ne rfl kI_0 c_6
    refine lv_iload_n hx hb dX6_call_8 rfl (lv_at hl 2 rfl) ?_
    refine lv_i2l hx hb dX6_call_9 rfl ?_
    refine lv_topl (fun y_7 ey_7 => ?_)
    have iy_7 : y_7.toInt = b.toInt := lc_i2l ey_7 rfl
    have gy_7 := ic_rng b
    refine lv_lconst (v := 0) hx hb dX6_call_10 (by decide) ?_
    refine lv_ldc2 (v := 5) hx hb hown (hts (.constantLong RX6 143 (5)) (by decide +kernel)) dX6_call_11 ?_
    refine m_goi hH (va_runS (As := [.long y_7, .long 0, .long 5]) (rest := []) ⟨hx, hb, hml, hown, hts⟩ (c_X6_in l G f y_7 0 5) (va_cwS 3 hts gX6_call_X6_in rfl rfl rfl (by decide +kernel) ⟨Nat.le_of_ble_eq_true rfl, Nat.le_of_ble_eq_true rfl⟩) (m_preS hC hH) rfl rfl hl.1 rfl (lv_room (Nat.le_of_ble_eq_true rfl)) dX6_call_14 ⟨Nat.le_of_ble_eq_true rfl, Nat.le_of_ble_eq_true rfl⟩) (fun r_8 rho_10 f_9 H locs hw hH => ?_)
    obtain ⟨hu, hr_8⟩ := hw
    have hu : f_9 = f := hu
    rw [hu] at hH
    have hr_8 : (r_8.toInt = 1 ∧ 0 ≤ y_7.toInt ∧ y_7.toInt ≤ 5) ∨ (r_8.toInt = 0 ∧ (y_7.toInt < 0 ∨ 5 < y_7.toInt)) := by have q0 := (rfl : y_7.toInt = _); have q1 := kJ_0; have q2 := kJ_5; omega
    refine lv_if_ne (tgt := 22) hx hb dX6_call_17 (by decide) (fun c_11 => ?_) (fun c_11 => ?_)
    · skip
      have ic_11 : (r_8.toInt : Int) ≠ 0 := ic_ne rfl kI_0 c_11
      refine lv_aload_n hx hb dX6_call_22 rfl (lv_at hl 0 rfl) ?_
      refine m_get (ci := 6) (v := .int (nI hg)) (C := RX6) (T := TX6) (N := 30) hx hb hC hH hts in_X6_call_X6 hown F_2 rfl 2 (by decide) (hts (.fieldLink RX6 104 "LazyStateModel" "height" "I") (by decide +kernel)) rfl dX6_call_23 ?_
      refine lv_bipush (v := 40) hx hb dX6_call_26 (by decide) ?_
      refine lv_icmp_ne (tgt := 34) hx hb dX6_call_28 (by decide) (fun c_12 => ?_) (fun c_12 => ?_)
      · skip
        have ic_12 : (((hg : Nat) : Int) : Int) ≠ 40 := ic_ne hgI_1 kI_40 c_12
        refine lv_aload_n hx hb dX6_call_34 rfl (lv_at hl 0 rfl) ?_
        refine lv_dup hx hb dX6_call_35 rfl ?_
        refine m_get (ci := 6) (v := .int ca) (C := RX6) (T := TX6) (N := 30) hx hb hC hH hts in_X6_call_X6 hown F_2 rfl 16 (by decide) (hts (.fieldLink RX6 202 "LazyStateModel" "calls" "I") (by decide +kernel)) rfl dX6_call_36 ?_
        refine lv_iconst (v := 1) hx hb dX6_call_39 (by decide) ?_
        refine lv_iadd hx hb dX6_call_40 ?_
        refine lv_topi (fun x_13 ex_13 => ?_)
        refine m_put (ci := 6) (v := .int x_13) (C := RX6) (T := TX6) (N := 30) hx hb hC hH hts in_X6_call_X6 tyX6 tyX6_ok nmX6 hown F_2 rfl 16 (by decide) (hts (.fieldLink RX6 202 "LazyStateModel" "calls" "I") (by decide +kernel)) rfl rfl rfl (Nat.le_of_ble_eq_true rfl) dX6_call_41 (fun H locs hH => ?_)
        have hH : mH G s (va_up f (h 0) (some (.inr (6, [.int (nI n), .ref (h 1), .int (nI hg), .ref (h 3), .ref (h 4), .ref (h 5), .ref (h 6), .int fe0, .ref (h 8), .ref (h 9), .ref (h 10), .ref (h 11), .ref (h 12), .ref (h 13), .ref (h 14), .ref (h 15), .int x_13, .long (gfS σ), .int wh, .int (nI ((trS σ).length)), .ref (h 20), .ref (h 21), .int (nI wl.length), .ref (h 23), .ref (h 24), .int (nI ac), .ref (h 26), .ref (h 27), .int (nI th), .int sx])))) H locs := hH
        obtain ⟨f_14, ef_14⟩ : ∃ zz_ : mF, zz_ = va_up f (h 0) (some (.inr (6, [.int (nI n), .ref (h 1), .int (nI hg), .ref (h 3), .ref (h 4), .ref (h 5), .ref (h 6), .int fe0, .ref (h 8), .ref (h 9), .ref (h 10), .ref (h 11), .ref (h 12), .ref (h 13), .ref (h 14), .ref (h 15), .int x_13, .long (gfS σ), .int wh, .int (nI ((trS σ).length)), .ref (h 20), .ref (h 21), .int (nI wl.length), .ref (h 23), .ref (h 24), .int (nI ac), .ref (h 26), .ref (h 27), .int (nI th), .int sx]))) := ⟨_, rfl⟩
        rw [← ef_14] at hH
        have hM : MEM G h n (nI hg, fe0, x_13, (gfS σ), wh, nI ((trS σ).length), nI wl.length, nI ac, nI th, sx) I_1 J_1 f_14 := hM.set0 ef_14
        have hfr := hfr.up 0 (by decide) ef_14
        rw [ex_13] at hM
        have hI : FM G h n T z A hg ver c0q fe0 tms (ca + 1) wl wh ac th sx σ f_14 := ⟨_, _, hM, hR, hac_1, hth_1⟩
        obtain ⟨I_15, J_15, hM, hR, hac_15, hth_15⟩ := hI
        have hg_15 := hR.hg40
        have n24_15 := hR.n24
        have tl_15 := len_b hR.ok.2.2.1
        have wl_15 := hR.wl192
        have hgI_15 : (nI hg).toInt = ((hg : Nat) : Int) := nI_toInt (by omega)
        have tmI_15 : (nI ((trS σ).length)).toInt = (((trS σ).length : Nat) : Int) := nI_toInt (by omega)
        have wmI_15 : (nI wl.length).toInt = ((wl.length : Nat) : Int) := nI_toInt (by omega)
        have acI_15 : (nI ac).toInt = ((ac : Nat) : Int) := nI_toInt (by omega)
        have thI_15 : (nI th).toInt = ((th : Nat) : Int) := nI_toInt (by omega)
        have nIn_15 : (nI n).toInt = ((n : Nat) : Int) := nI_toInt (by omega)
        refine lv_aload_n hx hb dX6_call_44 rfl (lv_at hl 0 rfl) ?_
        refine lv_iload_n hx hb dX6_call_45 rfl (lv_at hl 1 rfl) ?_
        refine lv_lload_n hx hb dX6_call_46 rfl (lv_at hl 3 rfl) ?_
        have F_16 : f_14 (h 0) = some (.inr (6, [.int (nI n), .ref (h 1), .int (nI hg), .ref (h 3), .ref (h 4), .ref (h 5), .ref (h 6), .int fe0, .ref (h 8), .ref (h 9), .ref (h 10), .ref (h 11), .ref (h 12), .ref (h 13), .ref (h 14), .ref (h 15), .int (ca + 1), .long (gfS σ), .int wh, .int (nI ((trS σ).length)), .ref (h 20), .ref (h 21), .int (nI wl.length), .ref (h 23), .ref (h 24), .int (nI ac), .ref (h 26), .ref (h 27), .int (nI th), .int sx])) := hM.1
        have hI : FM G h n T z A hg ver c0q fe0 tms (ca + 1) wl wh ac th sx σ f_14 := ⟨_, _, hM, hR, hac_15, hth_15⟩
        refine m_gov hH (va_runV (As := [.int o, .long v]) (rest := []) ⟨hx, hb, hml, hown, hts⟩ (c_X6_begin l G h n T z A hg ver c0q fe0 tms (ca + 1) wl wh ac th sx σ f_14 hI o v (by omega)) (cwV 2 hts gX6_call_X6_begin rfl rfl rfl (by decide +kernel) ⟨Nat.le_of_ble_eq_true rfl, Nat.le_of_ble_eq_true rfl⟩) (m_preV (ci := 6) hC hH F_16 rfl) rfl rfl hl.1 rfl (lv_room (Nat.le_of_ble_eq_true rfl)) dX6_call_47 ⟨Nat.le_of_ble_eq_true rfl, Nat.le_of_ble_eq_true rfl⟩) (fun rho_19 f_18 H locs hw hH => ?_)
        obtain ⟨hfr1, hI⟩ := hw
        have hfr1 : frM h f_14 f_18 := hfr1
        have hfr := hfr.trans hfr1
        have hI : FM G h n T z A hg ver c0q fe0 tms (ca + 1) ([] : List Nat) (-3) 0 0 sx (s0C (ver hg) o v) f_18 := hI
        obtain ⟨I_20, J_20, hM, hR, hac_20, hth_20⟩ := hI
        have hg_20 := hR.hg40
        have n24_20 := hR.n24
        have tl_20 := len_b hR.ok.2.2.1
        have wl_20 := hR.wl192
        have hgI_20 : (nI hg).toInt = ((hg : Nat) : Int) := nI_toInt (by omega)
        have tmI_20 : (nI ((trS (s0C (ver hg) o v)).length)).toInt = (((trS (s0C (ver hg) o v)).length : Nat) : Int) := nI_toInt (by omega)
        have wmI_20 : (nI (([] : List Nat).length)).toInt = ((([] : List Nat).length : Nat) : Int) := nI_toInt (by omega)
        have acI_20 : (nI 0).toInt = ((0 : Nat) : Int) := nI_toInt (by omega)
        have thI_20 : (nI 0).toInt = ((0 : Nat) : Int) := nI_toInt (by omega)
        have nIn_20 : (nI n).toInt = ((n : Nat) : Int) := nI_toInt (by omega)
        have k0_ := kJ_0
        have k5_ := kJ_5
        have cb_ := ic_clN (rfl : b.toInt = _) (by omega)
        have hn0 : 0 < n := by omega
        have hI : FM G h n T z A hg ver c0q fe0 tms (ca + 1) ([] : List Nat) (-3) 0 0 sx (s0C (ver hg) o v) f_18 := ⟨_, _, hM, hR, hac_20, hth_20⟩
        have hz32_ := hR.z32 b.toNatClampNeg
        have hA_ : ∀ p_, p_ < z b.toNatClampNeg → okA (A (32 * b.toNatClampNeg + p_)) := fun p_ hp_ => hR.1.2.2.2 b.toNatClampNeg (by omega) p_ hp_
        have hI : FM G h n T z A hg ver (cqL c0q (s0C (ver hg) o v)) (feL fe0 c0q (s0C (ver hg) o v)) tms (ca + 1) ([] : List Nat) (-3) 0 0 sx (s0C (ver hg) o v) f_18 := by rw [cqL_0, feL_0]; exact hI
        obtain ⟨I_21, J_21, hM, hR, hac_21, hth_21⟩ := hI
        have hg_21 := hR.hg40
        have n24_21 := hR.n24
        have tl_21 := len_b hR.ok.2.2.1
        have wl_21 := hR.wl192
        have hgI_21 : (nI hg).toInt = ((hg : Nat) : Int) := nI_toInt (by omega)
        have tmI_21 : (nI ((trS (s0C (ver hg) o v)).length)).toInt = (((trS (s0C (ver hg) o v)).length : Nat) : Int) := nI_toInt (by omega)
        have wmI_21 : (nI (([] : List Nat).length)).toInt = ((([] : List Nat).length : Nat) : Int) := nI_toInt (by omega)
        have acI_21 : (nI 0).toInt = ((0 : Nat) : Int) := nI_toInt (by omega)
        have thI_21 : (nI 0).toInt = ((0 : Nat) : Int) := nI_toInt (by omega)
        have nIn_21 : (nI n).toInt = ((n : Nat) : Int) := nI_toInt (by omega)
        refine lv_iconst (v := 0) hx hb dX6_call_50 (by decide) ?_
        refine lv_istore (lv' := [(5, .int 0), (0, .ref (h 0)), (1, .int o), (2, .int b), (3, .long v)]) hx hb dX6_call_51 hl (by decide) rfl (fun ls hl => ?_)
        have loop_53 : ∀ (fuel_ : Nat) (p5 : Int32) (fC : mF) (sL : tS) (cL : Nat) (tL : Nat) (wL : Int32) (wC : Nat) (h0_ : 0 ≤ p5.toInt) (h1_ : p5.toInt ≤ 32) (hfr : frM h f fC) (hI : FM G h n T z A hg ver (cqL c0q sL) (feL fe0 c0q sL) tms (ca + 1) ([] : List Nat) wL cL tL sx sL fC) (hw1 : wC ≤ 1) (hw0 : tL = 0 → wC = 1) (hlt_ : ((tL = 0 ∧ wL = -3 ∧ rnS T (fun q => A (32 * b.toNatClampNeg + q)) (z b.toNatClampNeg) (200 - cL) p5.toNatClampNeg cL sL = (rnC T z A (ver hg) b.toNatClampNeg o v)) ∨ (tL ≠ 0 ∧ ∃ q_, wL = nI q_ ∧ (rnC T z A (ver hg) b.toNatClampNeg o v) = (tL, q_, cL, sL)))) (_ : (200 - cL) + wC < fuel_) (H : Heap) (locs : List Loc) (ls : Array Slot) (_ : mH G s fC H locs) (_ : lv_has ls 7 [(0, .ref (h 0)), (1, .int o), (2, .int b), (3, .long v), (5, .int p5)]), W p l e ({ frames := 6, cells := 0, slots := 0, locals := 155 } : Room) s m ([.ref (h 0), .int o, .int b, .long v] : List Value).toArray below meth c H locs (0 + 0 + 0 + 0) (0 + 0 + 0 + 0) (MQ below (va_Qi (fun (r : Int32) (u : mS) => frM h f u.2 ∧ ((¬ (0 ≤ o.toInt ∧ o.toInt < n ∧ 0 ≤ b.toInt ∧ b.toInt < 6) ∧ r.toInt = -1 ∧ FM G h n T z A hg ver c0q fe0 tms ca wl wh ac th sx σ u.2) ∨ ((0 ≤ o.toInt ∧ o.toInt < n ∧ 0 ≤ b.toInt ∧ b.toInt < 6) ∧ hg = 40 ∧ r.toInt = -2 ∧ FM G h n T z A hg ver c0q fe0 tms ca wl wh ac th sx σ u.2) ∨ ((0 ≤ o.toInt ∧ o.toInt < n ∧ 0 ≤ b.toInt ∧ b.toInt < 6) ∧ hg ≤ 39 ∧ (rnC T z A (ver hg) b.toNatClampNeg o v).1 ≠ 0 ∧ r.toInt = (rnC T z A (ver hg) b.toNatClampNeg o v).1 ∧ FM G h n T z A hg ver (cqL c0q (rnC T z A (ver hg) b.toNatClampNeg o v).2.2.2) (feL fe0 c0q (rnC T z A (ver hg) b.toNatClampNeg o v).2.2.2) tms (ca + 1) ([]) (nI (rnC T z A (ver hg) b.toNatClampNeg o v).2.1) ((rnC T z A (ver hg) b.toNatClampNeg o v).2.2.1) ((rnC T z A (ver hg) b.toNatClampNeg o v).1) sx ((rnC T z A (ver hg) b.toNatClampNeg o v).2.2.2) u.2) ∨ ((0 ≤ o.toInt ∧ o.toInt < n ∧ 0 ≤ b.toInt ∧ b.toInt < 6) ∧ hg ≤ 39 ∧ (rnC T z A (ver hg) b.toNatClampNeg o v).1 = 0 ∧ r.toInt = 0 ∧ wls (dif n T (ver hg) (bdS (rnC T z A (ver hg) b.toNatClampNeg o v).2.2.2)) 192 = [] ∧ FM G h n T z A hg ver (cqL c0q (rnC T z A (ver hg) b.toNatClampNeg o v).2.2.2) (feL fe0 c0q (rnC T z A (ver hg) b.toNatClampNeg o v).2.2.2) tms (ca + 1) ([]) (-3) ((rnC T z A (ver hg) b.toNatClampNeg o v).2.2.1) 0 sx ((rnC T z A (ver hg) b.toNatClampNeg o v).2.2.2) u.2) ∨ ((0 ≤ o.toInt ∧ o.toInt < n ∧ 0 ≤ b.toInt ∧ b.toInt < 6) ∧ hg ≤ 39 ∧ (rnC T z A (ver hg) b.toNatClampNeg o v).1 = 0 ∧ r.toInt = 0 ∧ wls (dif n T (ver hg) (bdS (rnC T z A (ver hg) b.toNatClampNeg o v).2.2.2)) 192 ≠ [] ∧ FM G h n T z A (hg + 1) (va_up ver (hg + 1) (bdS (rnC T z A (ver hg) b.toNatClampNeg o v).2.2.2)) (fun _ => false) (feL fe0 c0q (rnC T z A (ver hg) b.toNatClampNeg o v).2.2.2) (tmS tms (dif n T (ver hg) (bdS (rnC T z A (ver hg) b.toNatClampNeg o v).2.2.2)) 192) (ca + 1) (wls (dif n T (ver hg) (bdS (rnC T z A (ver hg) b.toNatClampNeg o v).2.2.2)) 192) (-3) ((rnC T z A (ver hg) b.toNatClampNeg o v).2.2.1) 0 sx ((rnC T z A (ver hg) b.toNatClampNeg o v).2.2.2) u.2))) (fun (u : mS) t => mW G u.2 t) (mA G)) ([.ref (h 0), .int o, .int b, .long v] : List Value).toArray s 0 0 (mA G)) (F0 m 53 ls []) := by
          intro N_53
          induction N_53 with
          | zero => intro p5 fC sL cL tL wL wC h0_ h1_ hfr hI hw1 hw0 hlt_ hN; omega
          | succ N_53 ih_53 =>
            intro p5 fC sL cL tL wL wC h0_ h1_ hfr hI hw1 hw0 hlt_ hN_53 H locs ls hH hl
            obtain ⟨I_22, J_22, hM, hR, hac_22, hth_22⟩ := hI
            have hg_22 := hR.hg40
            have n24_22 := hR.n24
            have tl_22 := len_b hR.ok.2.2.1
            have wl_22 := hR.wl192
            have hgI_22 : (nI hg).toInt = ((hg : Nat) : Int) := nI_toInt (by omega)
            have tmI_22 : (nI ((trS sL).length)).toInt = (((trS sL).length : Nat) : Int) := nI_toInt (by omega)
            have wmI_22 : (nI (([] : List Nat).length)).toInt = ((([] : List Nat).length : Nat) : Int) := nI_toInt (by omega)
            have acI_22 : (nI cL).toInt = ((cL : Nat) : Int) := nI_toInt (by omega)
            have thI_22 : (nI tL).toInt = ((tL : Nat) : Int) := nI_toInt (by omega)
            have nIn_22 : (nI n).toInt = ((n : Nat) : Int) := nI_toInt (by omega)
            refine lv_iload hx hb dX6_call_53 (lv_at hl 4 rfl) ?_
            refine lv_aload_n hx hb dX6_call_55 rfl (lv_at hl 0 rfl) ?_
            have F_23 : fC (h 0) = some (.inr (6, [.int (nI n), .ref (h 1), .int (nI hg), .ref (h 3), .ref (h 4), .ref (h 5), .ref (h 6), .int (feL fe0 c0q sL), .ref (h 8), .ref (h 9), .ref (h 10), .ref (h 11), .ref (h 12), .ref (h 13), .ref (h 14), .ref (h 15), .int (ca + 1), .long (gfS sL), .int wL, .int (nI ((trS sL).length)), .ref (h 20), .ref (h 21), .int (nI (([] : List Nat).length)), .ref (h 23), .ref (h 24), .int (nI cL), .ref (h 26), .ref (h 27), .int (nI tL), .int sx])) := hM.1
            refine m_get (ci := 6) (v := .ref (h 9)) (C := RX6) (T := TX6) (N := 30) hx hb hC hH hts in_X6_call_X6 hown F_23 rfl 9 (by decide) (hts (.fieldLink RX6 31 "LazyStateModel" "many" "[I") (by decide +kernel)) rfl dX6_call_56 ?_
            refine lv_iload_n hx hb dX6_call_59 rfl (lv_at hl 2 rfl) ?_
            have hg_24 : fC (h 9) = some (.inl (gk G 0, 6, .inl (I_22 9))) := hM.2.1 9 (by decide) rfl
            refine m_iald hx hb hC hH hg_24 (vp_in_iff.mpr ⟨by omega, by omega⟩) dX6_call_60 ?_
            refine lv_topi (fun x_25 ex_25 => ?_)
            have zx_ : x_25.toInt = ((z b.toNatClampNeg : Nat) : Int) := by rw [ex_25, hR.ms (by omega)]; exact nI_toInt (by have := hR.z32 b.toNatClampNeg; omega)
            refine lv_icmp_ge (tgt := 140) hx hb dX6_call_61 (by decide) (fun c_26 => ?_) (fun c_26 => ?_)
            · skip
              have ic_26 : (x_25.toInt : Int) ≤ p5.toInt := ic_le rfl rfl c_26
              refine lv_aload_n hx hb dX6_call_140 rfl (lv_at hl 0 rfl) ?_
              refine m_get (ci := 6) (v := .int (nI tL)) (C := RX6) (T := TX6) (N := 30) hx hb hC hH hts in_X6_call_X6 hown F_23 rfl 28 (by decide) (hts (.fieldLink RX6 155 "LazyStateModel" "threw" "I") (by decide +kernel)) rfl dX6_call_141 ?_
              refine lv_if_le (tgt := 157) hx hb dX6_call_144 (by decide) (fun c_27 => ?_) (fun c_27 => ?_)
              · skip
                have ic_27 : (((tL : Nat) : Int) : Int) ≤ 0 := ic_le thI_22 kI_0 c_27
                have cp_ := ic_clN (rfl : p5.toInt = _) (by omega)
                have rr_ : (rnC T z A (ver hg) b.toNatClampNeg o v) = (0, 0, cL, sL) := by rcases hlt_ with q_ | q_; (rw [← q_.2.2]; exact rnS_end (by omega)); exact absurd (by omega) q_.1
                have t0_ : tL = 0 := by omega
                have w0_ : wL = -3 := (hlt_.resolve_right (fun z_ => z_.1 t0_)).2.1
                subst t0_
                subst w0_
                have hI : FM G h n T z A hg ver (cqL c0q sL) (feL fe0 c0q sL) tms (ca + 1) ([] : List Nat) (-3) cL 0 sx sL fC := ⟨_, _, hM, hR, hac_22, hth_22⟩
                have hI : FM G h n T z A hg ver (cqL c0q sL) (feL fe0 c0q sL) (tmS tms (dif n T (ver hg) (bdS sL)) 0) (ca + 1) (wls (dif n T (ver hg) (bdS sL)) 0) (-3) cL 0 sx sL fC := by rw [tmS_0]; exact hI
                obtain ⟨I_28, J_28, hM, hR, hac_28, hth_28⟩ := hI
                have hg_28 := hR.hg40
                have n24_28 := hR.n24
                have tl_28 := len_b hR.ok.2.2.1
                have wl_28 := hR.wl192
                have hgI_28 : (nI hg).toInt = ((hg : Nat) : Int) := nI_toInt (by omega)
                have tmI_28 : (nI ((trS sL).length)).toInt = (((trS sL).length : Nat) : Int) := nI_toInt (by omega)
                have wmI_28 : (nI ((wls (dif n T (ver hg) (bdS sL)) 0).length)).toInt = (((wls (dif n T (ver hg) (bdS sL)) 0).length : Nat) : Int) := nI_toInt (by omega)
                have acI_28 : (nI cL).toInt = ((cL : Nat) : Int) := nI_toInt (by omega)
                have thI_28 : (nI 0).toInt = ((0 : Nat) : Int) := nI_toInt (by omega)
                have nIn_28 : (nI n).toInt = ((n : Nat) : Int) := nI_toInt (by omega)
                refine lv_iconst (v := 0) hx hb dX6_call_157 (by decide) ?_
                refine lv_istore (lv' := [(6, .int 0), (0, .ref (h 0)), (1, .int o), (2, .int b), (3, .long v), (5, .int p5)]) hx hb dX6_call_158 hl (by decide) rfl (fun ls hl => ?_)
                have loop_160 : ∀ (fuel_ : Nat) (l6 : Int32) (fD : mF) (h0_ : 0 ≤ l6.toInt) (h1_ : l6.toInt ≤ 192) (hfr : frM h f fD) (hI : FM G h n T z A hg ver (cqL c0q sL) (feL fe0 c0q sL) (tmS tms (dif n T (ver hg) (bdS sL)) l6.toNatClampNeg) (ca + 1) (wls (dif n T (ver hg) (bdS sL)) l6.toNatClampNeg) (-3) cL 0 sx sL fD) (_ : ((192 : Int) - l6.toInt).toNat < fuel_) (H : Heap) (locs : List Loc) (ls : Array Slot) (_ : mH G s fD H locs) (_ : lv_has ls 7 [(0, .ref (h 0)), (1, .int o), (2, .int b), (3, .long v), (6, .int l6)]), W p l e ({ frames := 6, cells := 0, slots := 0, locals := 155 } : Room) s m ([.ref (h 0), .int o, .int b, .long v] : List Value).toArray below meth c H locs (0 + 0 + 0 + 0) (0 + 0 + 0 + 0) (MQ below (va_Qi (fun (r : Int32) (u : mS) => frM h f u.2 ∧ ((¬ (0 ≤ o.toInt ∧ o.toInt < n ∧ 0 ≤ b.toInt ∧ b.toInt < 6) ∧ r.toInt = -1 ∧ FM G h n T z A hg ver c0q fe0 tms ca wl wh ac th sx σ u.2) ∨ ((0 ≤ o.toInt ∧ o.toInt < n ∧ 0 ≤ b.toInt ∧ b.toInt < 6) ∧ hg = 40 ∧ r.toInt = -2 ∧ FM G h n T z A hg ver c0q fe0 tms ca wl wh ac th sx σ u.2) ∨ ((0 ≤ o.toInt ∧ o.toInt < n ∧ 0 ≤ b.toInt ∧ b.toInt < 6) ∧ hg ≤ 39 ∧ (rnC T z A (ver hg) b.toNatClampNeg o v).1 ≠ 0 ∧ r.toInt = (rnC T z A (ver hg) b.toNatClampNeg o v).1 ∧ FM G h n T z A hg ver (cqL c0q (rnC T z A (ver hg) b.toNatClampNeg o v).2.2.2) (feL fe0 c0q (rnC T z A (ver hg) b.toNatClampNeg o v).2.2.2) tms (ca + 1) ([]) (nI (rnC T z A (ver hg) b.toNatClampNeg o v).2.1) ((rnC T z A (ver hg) b.toNatClampNeg o v).2.2.1) ((rnC T z A (ver hg) b.toNatClampNeg o v).1) sx ((rnC T z A (ver hg) b.toNatClampNeg o v).2.2.2) u.2) ∨ ((0 ≤ o.toInt ∧ o.toInt < n ∧ 0 ≤ b.toInt ∧ b.toInt < 6) ∧ hg ≤ 39 ∧ (rnC T z A (ver hg) b.toNatClampNeg o v).1 = 0 ∧ r.toInt = 0 ∧ wls (dif n T (ver hg) (bdS (rnC T z A (ver hg) b.toNatClampNeg o v).2.2.2)) 192 = [] ∧ FM G h n T z A hg ver (cqL c0q (rnC T z A (ver hg) b.toNatClampNeg o v).2.2.2) (feL fe0 c0q (rnC T z A (ver hg) b.toNatClampNeg o v).2.2.2) tms (ca + 1) ([]) (-3) ((rnC T z A (ver hg) b.toNatClampNeg o v).2.2.1) 0 sx ((rnC T z A (ver hg) b.toNatClampNeg o v).2.2.2) u.2) ∨ ((0 ≤ o.toInt ∧ o.toInt < n ∧ 0 ≤ b.toInt ∧ b.toInt < 6) ∧ hg ≤ 39 ∧ (rnC T z A (ver hg) b.toNatClampNeg o v).1 = 0 ∧ r.toInt = 0 ∧ wls (dif n T (ver hg) (bdS (rnC T z A (ver hg) b.toNatClampNeg o v).2.2.2)) 192 ≠ [] ∧ FM G h n T z A (hg + 1) (va_up ver (hg + 1) (bdS (rnC T z A (ver hg) b.toNatClampNeg o v).2.2.2)) (fun _ => false) (feL fe0 c0q (rnC T z A (ver hg) b.toNatClampNeg o v).2.2.2) (tmS tms (dif n T (ver hg) (bdS (rnC T z A (ver hg) b.toNatClampNeg o v).2.2.2)) 192) (ca + 1) (wls (dif n T (ver hg) (bdS (rnC T z A (ver hg) b.toNatClampNeg o v).2.2.2)) 192) (-3) ((rnC T z A (ver hg) b.toNatClampNeg o v).2.2.1) 0 sx ((rnC T z A (ver hg) b.toNatClampNeg o v).2.2.2) u.2))) (fun (u : mS) t => mW G u.2 t) (mA G)) ([.ref (h 0), .int o, .int b, .long v] : List Value).toArray s 0 0 (mA G)) (F0 m 160 ls []) := by
                  intro N_160
                  induction N_160 with
                  | zero => intro l6 fD h0_ h1_ hfr hI hN; omega
                  | succ N_160 ih_160 =>
                    intro l6 fD h0_ h1_ hfr hI hN_160 H locs ls hH hl
                    obtain ⟨I_29, J_29, hM, hR, hac_29, hth_29⟩ := hI
                    have hg_29 := hR.hg40
                    have n24_29 := hR.n24
                    have tl_29 := len_b hR.ok.2.2.1
                    have wl_29 := hR.wl192
                    have hgI_29 : (nI hg).toInt = ((hg : Nat) : Int) := nI_toInt (by omega)
                    have tmI_29 : (nI ((trS sL).length)).toInt = (((trS sL).length : Nat) : Int) := nI_toInt (by omega)
                    have wmI_29 : (nI ((wls (dif n T (ver hg) (bdS sL)) l6.toNatClampNeg).length)).toInt = (((wls (dif n T (ver hg) (bdS sL)) l6.toNatClampNeg).length : Nat) : Int) := nI_toInt (by omega)
                    have acI_29 : (nI cL).toInt = ((cL : Nat) : Int) := nI_toInt (by omega)
                    have thI_29 : (nI 0).toInt = ((0 : Nat) : Int) := nI_toInt (by omega)
                    have nIn_29 : (nI n).toInt = ((n : Nat) : Int) := nI_toInt (by omega)
                    refine lv_iload hx hb dX6_call_160 (lv_at hl 4 rfl) ?_
                    refine lv_sipush (v := 192) hx hb dX6_call_162 (by decide) ?_
                    refine lv_icmp_ge (tgt := 229) hx hb dX6_call_165 (by decide) (fun c_30 => ?_) (fun c_30 => ?_)
                    · skip
                      have ic_30 : (192 : Int) ≤ l6.toInt := ic_le kI_192 rfl c_30
                      refine lv_aload_n hx hb dX6_call_229 rfl (lv_at hl 0 rfl) ?_
                      have F_31 : fD (h 0) = some (.inr (6, [.int (nI n), .ref (h 1), .int (nI hg), .ref (h 3), .ref (h 4), .ref (h 5), .ref (h 6), .int (feL fe0 c0q sL), .ref (h 8), .ref (h 9), .ref (h 10), .ref (h 11), .ref (h 12), .ref (h 13), .ref (h 14), .ref (h 15), .int (ca + 1), .long (gfS sL), .int (-3), .int (nI ((trS sL).length)), .ref (h 20), .ref (h 21), .int (nI ((wls (dif n T (ver hg) (bdS sL)) l6.toNatClampNeg).length)), .ref (h 23), .ref (h 24), .int (nI cL), .ref (h 26), .ref (h 27), .int (nI 0), .int sx])) := hM.1
                      refine m_get (ci := 6) (v := .int (nI ((wls (dif n T (ver hg) (bdS sL)) l6.toNatClampNeg).length))) (C := RX6) (T := TX6) (N := 30) hx hb hC hH hts in_X6_call_X6 hown F_31 rfl 22 (by decide) (hts (.fieldLink RX6 196 "LazyStateModel" "writtenMany" "I") (by decide +kernel)) rfl dX6_call_230 ?_
                      refine lv_if_le (tgt := 240) hx hb dX6_call_233 (by decide) (fun c_32 => ?_) (fun c_32 => ?_)
                      · skip
                        have ic_32 : ((((wls (dif n T (ver hg) (bdS sL)) l6.toNatClampNeg).length : Nat) : Int) : Int) ≤ 0 := ic_le wmI_29 kI_0 c_32
                        have l192_ : l6.toNatClampNeg = 192 := by have := ic_clN (rfl : l6.toInt = _) (by omega); omega
                        have wlen_ : (wls (dif n T (ver hg) (bdS sL)) 192).length = (wls (dif n T (ver hg) (bdS sL)) l6.toNatClampNeg).length := by rw [l192_]
                        rw [l192_] at hM hR
                        have wnl_ : (wls (dif n T (ver hg) (bdS sL)) 192) = [] := List.eq_nil_of_length_eq_zero (by omega)
                        have tq_ : tmS tms (dif n T (ver hg) (bdS sL)) 192 = tms := tmS_nil wnl_
                        have hI : FM G h n T z A hg ver (cqL c0q sL) (feL fe0 c0q sL) (tmS tms (dif n T (ver hg) (bdS sL)) 192) (ca + 1) (wls (dif n T (ver hg) (bdS sL)) 192) (-3) cL 0 sx sL fD := ⟨_, _, hM, hR, hac_29, hth_29⟩
                        rw [tq_, wnl_] at hI
                        have hI : FM G h n T z A hg ver (cqL c0q sL) (feL fe0 c0q sL) tms (ca + 1) ([] : List Nat) (-3) cL 0 sx sL fD := hI
                        obtain ⟨I_33, J_33, hM, hR, hac_33, hth_33⟩ := hI
                        have hg_33 := hR.hg40
                        have n24_33 := hR.n24
                        have tl_33 := len_b hR.ok.2.2.1
                        have wl_33 := hR.wl192
                        have hgI_33 : (nI hg).toInt = ((hg : Nat) : Int) := nI_toInt (by omega)
                        have tmI_33 : (nI ((trS sL).length)).toInt = (((trS sL).length : Nat) : Int) := nI_toInt (by omega)
                        have wmI_33 : (nI (([] : List Nat).length)).toInt = ((([] : List Nat).length : Nat) : Int) := nI_toInt (by omega)
                        have acI_33 : (nI cL).toInt = ((cL : Nat) : Int) := nI_toInt (by omega)
                        have thI_33 : (nI 0).toInt = ((0 : Nat) : Int) := nI_toInt (by omega)
                        have nIn_33 : (nI n).toInt = ((n : Nat) : Int) := nI_toInt (by omega)
                        refine lv_iconst (v := 0) hx hb dX6_call_240 (by decide) ?_
                        exact m_iret (v := 0) hx hb hr hlk hC hH (fun _ => (0, 0)) ⟨hfr, Or.inr (Or.inr (Or.inr (Or.inl ⟨⟨by omega, by omega, by omega, by omega⟩, by omega, by rw [rr_], kI_0, by rw [rr_]; exact wnl_, by rw [rr_]; exact ⟨_, _, hM, hR, hac_33, hth_33⟩⟩)))⟩ (Nat.le_of_ble_eq_true rfl) (Nat.le_of_ble_eq_true rfl) dX6_call_241
                      · skip
                        have ic_32 : ((((wls (dif n T (ver hg) (bdS sL)) l6.toNatClampNeg).length : Nat) : Int) : Int) > 0 := ic_nle wmI_29 kI_0 c_32
                        have l192_ : l6.toNatClampNeg = 192 := by have := ic_clN (rfl : l6.toInt = _) (by omega); omega
                        have wlen_ : (wls (dif n T (ver hg) (bdS sL)) 192).length = (wls (dif n T (ver hg) (bdS sL)) l6.toNatClampNeg).length := by rw [l192_]
                        rw [l192_] at hM hR
                        have wne_ : (wls (dif n T (ver hg) (bdS sL)) 192) ≠ [] := fun z_ => by have q_ := congrArg List.length z_; have : ([] : List Nat).length = 0 := rfl; omega
                        have hI : FM G h n T z A hg ver (cqL c0q sL) (feL fe0 c0q sL) (tmS tms (dif n T (ver hg) (bdS sL)) 192) (ca + 1) (wls (dif n T (ver hg) (bdS sL)) 192) (-3) cL 0 sx sL fD := ⟨_, _, hM, hR, hac_29, hth_29⟩
                        obtain ⟨I_34, J_34, hM, hR, hac_34, hth_34⟩ := hI
                        have hg_34 := hR.hg40
                        have n24_34 := hR.n24
                        have tl_34 := len_b hR.ok.2.2.1
                        have wl_34 := hR.wl192
                        have hgI_34 : (nI hg).toInt = ((hg : Nat) : Int) := nI_toInt (by omega)
                        have tmI_34 : (nI ((trS sL).length)).toInt = (((trS sL).length : Nat) : Int) := nI_toInt (by omega)
                        have wmI_34 : (nI ((wls (dif n T (ver hg) (bdS sL)) 192).length)).toInt = (((wls (dif n T (ver hg) (bdS sL)) 192).length : Nat) : Int) := nI_toInt (by omega)
                        have acI_34 : (nI cL).toInt = ((cL : Nat) : Int) := nI_toInt (by omega)
                        have thI_34 : (nI 0).toInt = ((0 : Nat) : Int) := nI_toInt (by omega)
                        have nIn_34 : (nI n).toInt = ((n : Nat) : Int) := nI_toInt (by omega)
                        refine lv_aload_n hx hb dX6_call_236 rfl (lv_at hl 0 rfl) ?_
                        have F_35 : fD (h 0) = some (.inr (6, [.int (nI n), .ref (h 1), .int (nI hg), .ref (h 3), .ref (h 4), .ref (h 5), .ref (h 6), .int (feL fe0 c0q sL), .ref (h 8), .ref (h 9), .ref (h 10), .ref (h 11), .ref (h 12), .ref (h 13), .ref (h 14), .ref (h 15), .int (ca + 1), .long (gfS sL), .int (-3), .int (nI ((trS sL).length)), .ref (h 20), .ref (h 21), .int (nI ((wls (dif n T (ver hg) (bdS sL)) 192).length)), .ref (h 23), .ref (h 24), .int (nI cL), .ref (h 26), .ref (h 27), .int (nI 0), .int sx])) := hM.1
                        have hI : FM G h n T z A hg ver (cqL c0q sL) (feL fe0 c0q sL) (tmS tms (dif n T (ver hg) (bdS sL)) 192) (ca + 1) (wls (dif n T (ver hg) (bdS sL)) 192) (-3) cL 0 sx sL fD := ⟨_, _, hM, hR, hac_34, hth_34⟩
                        refine m_gov hH (va_runV (As := []) (rest := []) ⟨hx, hb, hml, hown, hts⟩ (c_X6_rises l G h n T z A hg ver (cqL c0q sL) (feL fe0 c0q sL) (tmS tms (dif n T (ver hg) (bdS sL)) 192) (ca + 1) (wls (dif n T (ver hg) (bdS sL)) 192) (-3) cL 0 sx sL fD hI (by omega)) (cwV 0 hts gX6_call_X6_rises rfl rfl rfl (by decide +kernel) ⟨Nat.le_of_ble_eq_true rfl, Nat.le_of_ble_eq_true rfl⟩) (m_preV (ci := 6) hC hH F_35 rfl) rfl rfl hl.1 rfl (lv_room (Nat.le_of_ble_eq_true rfl)) dX6_call_237 ⟨Nat.le_of_ble_eq_true rfl, Nat.le_of_ble_eq_true rfl⟩) (fun rho_38 f_37 H locs hw hH => ?_)
                        obtain ⟨hfr1, hI⟩ := hw
                        have hfr1 : frM h fD f_37 := hfr1
                        have hfr := hfr.trans hfr1
                        have hI : FM G h n T z A (hg + 1) (va_up ver (hg + 1) (bdS sL)) (fun _ => false) (feL fe0 c0q sL) (tmS tms (dif n T (ver hg) (bdS sL)) 192) (ca + 1) (wls (dif n T (ver hg) (bdS sL)) 192) (-3) cL 0 sx sL f_37 := hI
                        obtain ⟨I_39, J_39, hM, hR, hac_39, hth_39⟩ := hI
                        have hg_39 := hR.hg40
                        have n24_39 := hR.n24
                        have tl_39 := len_b hR.ok.2.2.1
                        have wl_39 := hR.wl192
                        have hgI_39 : (nI (hg + 1)).toInt = (((hg + 1) : Nat) : Int) := nI_toInt (by omega)
                        have tmI_39 : (nI ((trS sL).length)).toInt = (((trS sL).length : Nat) : Int) := nI_toInt (by omega)
                        have wmI_39 : (nI ((wls (dif n T (ver hg) (bdS sL)) 192).length)).toInt = (((wls (dif n T (ver hg) (bdS sL)) 192).length : Nat) : Int) := nI_toInt (by omega)
                        have acI_39 : (nI cL).toInt = ((cL : Nat) : Int) := nI_toInt (by omega)
                        have thI_39 : (nI 0).toInt = ((0 : Nat) : Int) := nI_toInt (by omega)
                        have nIn_39 : (nI n).toInt = ((n : Nat) : Int) := nI_toInt (by omega)
                        refine lv_iconst (v := 0) hx hb dX6_call_240 (by decide) ?_
                        exact m_iret (v := 0) hx hb hr hlk hC hH (fun _ => (0, 0)) ⟨hfr, Or.inr (Or.inr (Or.inr (Or.inr ⟨⟨by omega, by omega, by omega, by omega⟩, by omega, by rw [rr_], kI_0, by rw [rr_]; exact wne_, by rw [rr_]; exact ⟨_, _, hM, hR, hac_39, hth_39⟩⟩)))⟩ (Nat.le_of_ble_eq_true rfl) (Nat.le_of_ble_eq_true rfl) dX6_call_241
                    · skip
                      have ic_30 : (192 : Int) > l6.toInt := ic_nle kI_192 rfl c_30
                      refine lv_aload_n hx hb dX6_call_168 rfl (lv_at hl 0 rfl) ?_
                      refine lv_iload hx hb dX6_call_169 (lv_at hl 4 rfl) ?_
                      refine m_goi hH (va_runS (As := [.int l6]) (rest := [.ref (h 0)]) ⟨hx, hb, hml, hown, hts⟩ (c_X6_at l G fD l6 (by exact ⟨by omega, by omega⟩)) (va_cwS 1 hts gX6_call_X6_at rfl rfl rfl (by decide +kernel) ⟨Nat.le_of_ble_eq_true rfl, Nat.le_of_ble_eq_true rfl⟩) (m_preS hC hH) rfl rfl hl.1 rfl (lv_room (Nat.le_of_ble_eq_true rfl)) dX6_call_171 ⟨Nat.le_of_ble_eq_true rfl, Nat.le_of_ble_eq_true rfl⟩) (fun r_40 rho_42 f_41 H locs hw hH => ?_)
                      obtain ⟨hu, hr_40⟩ := hw
                      have hu : f_41 = fD := hu
                      rw [hu] at hH
                      refine lv_sipush (v := 192) hx hb dX6_call_174 (by decide) ?_
                      refine lv_aload_n hx hb dX6_call_177 rfl (lv_at hl 0 rfl) ?_
                      have F_43 : fD (h 0) = some (.inr (6, [.int (nI n), .ref (h 1), .int (nI hg), .ref (h 3), .ref (h 4), .ref (h 5), .ref (h 6), .int (feL fe0 c0q sL), .ref (h 8), .ref (h 9), .ref (h 10), .ref (h 11), .ref (h 12), .ref (h 13), .ref (h 14), .ref (h 15), .int (ca + 1), .long (gfS sL), .int (-3), .int (nI ((trS sL).length)), .ref (h 20), .ref (h 21), .int (nI ((wls (dif n T (ver hg) (bdS sL)) l6.toNatClampNeg).length)), .ref (h 23), .ref (h 24), .int (nI cL), .ref (h 26), .ref (h 27), .int (nI 0), .int sx])) := hM.1
                      refine m_get (ci := 6) (v := .int (nI hg)) (C := RX6) (T := TX6) (N := 30) hx hb hC hH hts in_X6_call_X6 hown F_43 rfl 2 (by decide) (hts (.fieldLink RX6 104 "LazyStateModel" "height" "I") (by decide +kernel)) rfl dX6_call_178 ?_
                      refine lv_imul hx hb dX6_call_181 ?_
                      refine lv_topi (fun x_44 ex_44 => ?_)
                      have ix_44 : x_44.toInt = 192 * ((hg : Nat) : Int) := ic_mul ex_44 kI_192 hgI_29 (by omega) (by omega)
                      refine lv_iload hx hb dX6_call_182 (lv_at hl 4 rfl) ?_
                      refine lv_iadd hx hb dX6_call_184 ?_
                      refine lv_topi (fun x_45 ex_45 => ?_)
                      have ix_45 : x_45.toInt = x_44.toInt + l6.toInt := ic_add ex_45 rfl rfl (by omega) (by omega)
                      refine m_goi hH (va_runV (As := [.int r_40, .int x_45]) (rest := []) ⟨hx, hb, hml, hown, hts⟩ (c_X6_areAlike l G h n (nI hg, (feL fe0 c0q sL), (ca + 1), (gfS sL), (-3), nI ((trS sL).length), nI ((wls (dif n T (ver hg) (bdS sL)) l6.toNatClampNeg).length), nI cL, nI 0, sx) I_29 J_29 fD hM r_40 x_45 (by omega) (by omega) (by rw [show r_40.toNatClampNeg = 192 * 41 + l6.toNatClampNeg from by have := ic_clN (rfl : r_40.toInt = _) (by omega); have := ic_clN (rfl : l6.toInt = _) (by omega); omega]; exact hR.sz8 (by have := ic_clN (rfl : l6.toInt = _) (by omega); omega))) (cwV 2 hts gX6_call_X6_areAlike rfl rfl rfl (by decide +kernel) ⟨Nat.le_of_ble_eq_true rfl, Nat.le_of_ble_eq_true rfl⟩) (m_preV (ci := 6) hC hH F_43 rfl) rfl rfl hl.1 rfl (lv_room (Nat.le_of_ble_eq_true rfl)) dX6_call_185 ⟨Nat.le_of_ble_eq_true rfl, Nat.le_of_ble_eq_true rfl⟩) (fun r_46 rho_48 f_47 H locs hw hH => ?_)
                      obtain ⟨hu, hr_46⟩ := hw
                      have hu : f_47 = fD := hu
                      rw [hu] at hH
                      try dsimp only at hr_46
                      have cl6_ := ic_clN (rfl : l6.toInt = _) (by omega)
                      rw [show r_40.toNatClampNeg = 192 * 41 + l6.toNatClampNeg from by have := ic_clN (rfl : r_40.toInt = _) (by omega); omega, show x_45.toNatClampNeg = 192 * hg + l6.toNatClampNeg from by have := ic_clN (rfl : x_45.toInt = _) (by omega); omega, hR.alk (L := l6.toNatClampNeg) (by omega)] at hr_46
                      refine lv_if_ne (tgt := 223) hx hb dX6_call_188 (by decide) (fun c_49 => ?_) (fun c_49 => ?_)
                      · skip
                        have ic_49 : (r_46.toInt : Int) ≠ 0 := ic_ne rfl kI_0 c_49
                        have df_ : (dif n T (ver hg) (bdS sL)) l6.toNatClampNeg = false := (hr_46.resolve_right (fun z_ => by omega)).2
                        have hI : FM G h n T z A hg ver (cqL c0q sL) (feL fe0 c0q sL) (tmS tms (dif n T (ver hg) (bdS sL)) l6.toNatClampNeg) (ca + 1) (wls (dif n T (ver hg) (bdS sL)) l6.toNatClampNeg) (-3) cL 0 sx sL fD := ⟨_, _, hM, hR, hac_29, hth_29⟩
                        rw [← tmS_s df_] at hI
                        rw [← wls_0 df_] at hI
                        have hI : FM G h n T z A hg ver (cqL c0q sL) (feL fe0 c0q sL) (tmS tms (dif n T (ver hg) (bdS sL)) (l6.toNatClampNeg + 1)) (ca + 1) (wls (dif n T (ver hg) (bdS sL)) (l6.toNatClampNeg + 1)) (-3) cL 0 sx sL fD := hI
                        obtain ⟨I_50, J_50, hM, hR, hac_50, hth_50⟩ := hI
                        have hg_50 := hR.hg40
                        have n24_50 := hR.n24
                        have tl_50 := len_b hR.ok.2.2.1
                        have wl_50 := hR.wl192
                        have hgI_50 : (nI hg).toInt = ((hg : Nat) : Int) := nI_toInt (by omega)
                        have tmI_50 : (nI ((trS sL).length)).toInt = (((trS sL).length : Nat) : Int) := nI_toInt (by omega)
                        have wmI_50 : (nI ((wls (dif n T (ver hg) (bdS sL)) (l6.toNatClampNeg + 1)).length)).toInt = (((wls (dif n T (ver hg) (bdS sL)) (l6.toNatClampNeg + 1)).length : Nat) : Int) := nI_toInt (by omega)
                        have acI_50 : (nI cL).toInt = ((cL : Nat) : Int) := nI_toInt (by omega)
                        have thI_50 : (nI 0).toInt = ((0 : Nat) : Int) := nI_toInt (by omega)
                        have nIn_50 : (nI n).toInt = ((n : Nat) : Int) := nI_toInt (by omega)
                        obtain ⟨x_51, ex_51⟩ : ∃ y : Int32, y = l6 + 1 := ⟨_, rfl⟩
                        have ix_51 : x_51.toInt = l6.toInt + 1 := ic_add ex_51 rfl kI_1 (by omega) (by omega)
                        refine lv_iinc (v := x_51) (lv' := [(6, .int x_51), (0, .ref (h 0)), (1, .int o), (2, .int b), (3, .long v)]) hx hb dX6_call_223 hl (k := 4) rfl (by rw [ex_51]; rfl) (by decide) rfl (fun ls hl => ?_)
                        refine lv_goto (tgt := 160) hx hb dX6_call_226 (by decide) ?_
                        exact ih_160 x_51 fD (by omega) (by omega) hfr (by rw [show x_51.toNatClampNeg = l6.toNatClampNeg + 1 from by have := ic_clN (rfl : x_51.toInt = _) (by omega); have := ic_clN (rfl : l6.toInt = _) (by omega); omega]; exact ⟨_, _, hM, hR, hac_50, hth_50⟩) (by omega) _ _ _ hH (lv_sub hl [1, 2, 3, 4, 0] rfl)
                      · skip
                        have ic_49 : (r_46.toInt : Int) = 0 := ic_eq rfl kI_0 c_49
                        have df_ : (dif n T (ver hg) (bdS sL)) l6.toNatClampNeg = true := by have q_ := (hr_46.resolve_left (fun z_ => by omega)).2; cases hd_ : (dif n T (ver hg) (bdS sL)) l6.toNatClampNeg with | true => rfl | false => exact absurd hd_ q_
                        have wl_ := wls_len (dif n T (ver hg) (bdS sL)) l6.toNatClampNeg
                        refine lv_aload_n hx hb dX6_call_191 rfl (lv_at hl 0 rfl) ?_
                        refine m_get (ci := 6) (v := .ref (h 23)) (C := RX6) (T := TX6) (N := 30) hx hb hC hH hts in_X6_call_X6 hown F_43 rfl 23 (by decide) (hts (.fieldLink RX6 62 "LazyStateModel" "written" "[I") (by decide +kernel)) rfl dX6_call_192 ?_
                        refine lv_aload_n hx hb dX6_call_195 rfl (lv_at hl 0 rfl) ?_
                        refine m_get (ci := 6) (v := .int (nI ((wls (dif n T (ver hg) (bdS sL)) l6.toNatClampNeg).length))) (C := RX6) (T := TX6) (N := 30) hx hb hC hH hts in_X6_call_X6 hown F_43 rfl 22 (by decide) (hts (.fieldLink RX6 196 "LazyStateModel" "writtenMany" "I") (by decide +kernel)) rfl dX6_call_196 ?_
                        refine lv_iload hx hb dX6_call_199 (lv_at hl 4 rfl) ?_
                        have hg_52 : fD (h 23) = some (.inl (gk G 0, 192, .inl (I_29 23))) := hM.2.1 23 (by decide) rfl
                        refine m_iast hx hb hC hH hg_52 (vp_in_iff.mpr (by rw [wmI_29]; exact ⟨by omega, by omega⟩)) dX6_call_201 (fun H locs hH => ?_)
                        obtain ⟨f_53, ef_53⟩ : ∃ zz_ : mF, zz_ = va_up fD (h 23) (some (.inl (gk G 0, 192, .inl (upd (I_29 23) ((nI ((wls (dif n T (ver hg) (bdS sL)) l6.toNatClampNeg).length)).toNatClampNeg) l6)))) := ⟨_, rfl⟩
                        rw [← ef_53] at hH
                        have hM : MEM G h n (nI hg, (feL fe0 c0q sL), (ca + 1), (gfS sL), (-3), nI ((trS sL).length), nI ((wls (dif n T (ver hg) (bdS sL)) l6.toNatClampNeg).length), nI cL, nI 0, sx) (va_up I_29 23 (upd (I_29 23) ((nI ((wls (dif n T (ver hg) (bdS sL)) l6.toNatClampNeg).length)).toNatClampNeg) l6)) J_29 f_53 := hM.setI 23 (by decide) rfl ef_53
                        have hfr := hfr.up 23 (by decide) ef_53
                        rw [nI_cl (by omega)] at hM
                        refine lv_aload_n hx hb dX6_call_202 rfl (lv_at hl 0 rfl) ?_
                        refine lv_dup hx hb dX6_call_203 rfl ?_
                        have F_54 : f_53 (h 0) = some (.inr (6, [.int (nI n), .ref (h 1), .int (nI hg), .ref (h 3), .ref (h 4), .ref (h 5), .ref (h 6), .int (feL fe0 c0q sL), .ref (h 8), .ref (h 9), .ref (h 10), .ref (h 11), .ref (h 12), .ref (h 13), .ref (h 14), .ref (h 15), .int (ca + 1), .long (gfS sL), .int (-3), .int (nI ((trS sL).length)), .ref (h 20), .ref (h 21), .int (nI ((wls (dif n T (ver hg) (bdS sL)) l6.toNatClampNeg).length)), .ref (h 23), .ref (h 24), .int (nI cL), .ref (h 26), .ref (h 27), .int (nI 0), .int sx])) := hM.1
                        refine m_get (ci := 6) (v := .int (nI ((wls (dif n T (ver hg) (bdS sL)) l6.toNatClampNeg).length))) (C := RX6) (T := TX6) (N := 30) hx hb hC hH hts in_X6_call_X6 hown F_54 rfl 22 (by decide) (hts (.fieldLink RX6 196 "LazyStateModel" "writtenMany" "I") (by decide +kernel)) rfl dX6_call_204 ?_
                        refine lv_iconst (v := 1) hx hb dX6_call_207 (by decide) ?_
                        refine lv_iadd hx hb dX6_call_208 ?_
                        refine lv_topi (fun x_55 ex_55 => ?_)
                        have ix_55 : x_55.toInt = (((wls (dif n T (ver hg) (bdS sL)) l6.toNatClampNeg).length : Nat) : Int) + 1 := ic_add ex_55 wmI_29 kI_1 (by omega) (by omega)
                        refine m_put (ci := 6) (v := .int x_55) (C := RX6) (T := TX6) (N := 30) hx hb hC hH hts in_X6_call_X6 tyX6 tyX6_ok nmX6 hown F_54 rfl 22 (by decide) (hts (.fieldLink RX6 196 "LazyStateModel" "writtenMany" "I") (by decide +kernel)) rfl rfl rfl (Nat.le_of_ble_eq_true rfl) dX6_call_209 (fun H locs hH => ?_)
                        have hH : mH G s (va_up f_53 (h 0) (some (.inr (6, [.int (nI n), .ref (h 1), .int (nI hg), .ref (h 3), .ref (h 4), .ref (h 5), .ref (h 6), .int (feL fe0 c0q sL), .ref (h 8), .ref (h 9), .ref (h 10), .ref (h 11), .ref (h 12), .ref (h 13), .ref (h 14), .ref (h 15), .int (ca + 1), .long (gfS sL), .int (-3), .int (nI ((trS sL).length)), .ref (h 20), .ref (h 21), .int x_55, .ref (h 23), .ref (h 24), .int (nI cL), .ref (h 26), .ref (h 27), .int (nI 0), .int sx])))) H locs := hH
                        obtain ⟨f_56, ef_56⟩ : ∃ zz_ : mF, zz_ = va_up f_53 (h 0) (some (.inr (6, [.int (nI n), .ref (h 1), .int (nI hg), .ref (h 3), .ref (h 4), .ref (h 5), .ref (h 6), .int (feL fe0 c0q sL), .ref (h 8), .ref (h 9), .ref (h 10), .ref (h 11), .ref (h 12), .ref (h 13), .ref (h 14), .ref (h 15), .int (ca + 1), .long (gfS sL), .int (-3), .int (nI ((trS sL).length)), .ref (h 20), .ref (h 21), .int x_55, .ref (h 23), .ref (h 24), .int (nI cL), .ref (h 26), .ref (h 27), .int (nI 0), .int sx]))) := ⟨_, rfl⟩
                        rw [← ef_56] at hH
                        have hM : MEM G h n (nI hg, (feL fe0 c0q sL), (ca + 1), (gfS sL), (-3), nI ((trS sL).length), x_55, nI cL, nI 0, sx) (va_up I_29 23 (upd (I_29 23) (wls (dif n T (ver hg) (bdS sL)) l6.toNatClampNeg).length l6)) J_29 f_56 := hM.set0 ef_56
                        have hfr := hfr.up 0 (by decide) ef_56
                        refine lv_aload_n hx hb dX6_call_212 rfl (lv_at hl 0 rfl) ?_
                        have F_57 : f_56 (h 0) = some (.inr (6, [.int (nI n), .ref (h 1), .int (nI hg), .ref (h 3), .ref (h 4), .ref (h 5), .ref (h 6), .int (feL fe0 c0q sL), .ref (h 8), .ref (h 9), .ref (h 10), .ref (h 11), .ref (h 12), .ref (h 13), .ref (h 14), .ref (h 15), .int (ca + 1), .long (gfS sL), .int (-3), .int (nI ((trS sL).length)), .ref (h 20), .ref (h 21), .int x_55, .ref (h 23), .ref (h 24), .int (nI cL), .ref (h 26), .ref (h 27), .int (nI 0), .int sx])) := hM.1
                        refine m_get (ci := 6) (v := .ref (h 8)) (C := RX6) (T := TX6) (N := 30) hx hb hC hH hts in_X6_call_X6 hown F_57 rfl 8 (by decide) (hts (.fieldLink RX6 28 "LazyStateModel" "times" "[I") (by decide +kernel)) rfl dX6_call_213 ?_
                        refine lv_iload hx hb dX6_call_216 (lv_at hl 4 rfl) ?_
                        refine lv_dup2_11 hx hb dX6_call_218 rfl rfl ?_
                        have hg_58 : f_56 (h 8) = some (.inl (gk G 0, 192, .inl (I_29 8))) := hM.2.1 8 (by decide) rfl
                        refine m_iald hx hb hC hH hg_58 (vp_in_iff.mpr ⟨by omega, by omega⟩) dX6_call_219 ?_
                        refine lv_topi (fun x_59 ex_59 => ?_)
                        refine lv_iconst (v := 1) hx hb dX6_call_220 (by decide) ?_
                        refine lv_iadd hx hb dX6_call_221 ?_
                        refine lv_topi (fun x_60 ex_60 => ?_)
                        refine m_iast hx hb hC hH hg_58 (vp_in_iff.mpr ⟨by omega, by omega⟩) dX6_call_222 (fun H locs hH => ?_)
                        obtain ⟨f_61, ef_61⟩ : ∃ zz_ : mF, zz_ = va_up f_56 (h 8) (some (.inl (gk G 0, 192, .inl (upd (I_29 8) l6.toNatClampNeg x_60)))) := ⟨_, rfl⟩
                        rw [← ef_61] at hH
                        have hM : MEM G h n (nI hg, (feL fe0 c0q sL), (ca + 1), (gfS sL), (-3), nI ((trS sL).length), x_55, nI cL, nI 0, sx) (va_up (va_up I_29 23 (upd (I_29 23) (wls (dif n T (ver hg) (bdS sL)) l6.toNatClampNeg).length l6)) 8 (upd (I_29 8) l6.toNatClampNeg x_60)) J_29 f_61 := hM.setI 8 (by decide) rfl ef_61
                        have hfr := hfr.up 8 (by decide) ef_61
                        have hR := hR.wr (c := l6.toNatClampNeg) (tms2 := tmS tms (dif n T (ver hg) (bdS sL)) (l6.toNatClampNeg + 1)) (by omega) (congrArg (upd _ _) (nI_ofC (by omega)).symm) (g8 := (upd (I_29 8) l6.toNatClampNeg x_60)) (fun L_ hL_ => by rw [← tmS_u df_]; unfold upd; split; (rw [ex_60, ex_59]; exact congrArg (· + 1) (hR.tmI (by omega))); exact hR.tmI hL_)
                        rw [← wls_1 df_] at hR
                        rw [show x_55 = nI (wls (dif n T (ver hg) (bdS sL)) (l6.toNatClampNeg + 1)).length from ic_inj (by rw [wls_1 df_, List.length_append]; show _ = (((wls (dif n T (ver hg) (bdS sL)) l6.toNatClampNeg).length + 1 : Nat) : Int); omega) (by have := wls_len (dif n T (ver hg) (bdS sL)) (l6.toNatClampNeg + 1); omega)] at hM
                        have hI : FM G h n T z A hg ver (cqL c0q sL) (feL fe0 c0q sL) (tmS tms (dif n T (ver hg) (bdS sL)) (l6.toNatClampNeg + 1)) (ca + 1) (wls (dif n T (ver hg) (bdS sL)) (l6.toNatClampNeg + 1)) (-3) cL 0 sx sL f_61 := ⟨_, _, hM, hR, hac_29, hth_29⟩
                        obtain ⟨I_62, J_62, hM, hR, hac_62, hth_62⟩ := hI
                        have hg_62 := hR.hg40
                        have n24_62 := hR.n24
                        have tl_62 := len_b hR.ok.2.2.1
                        have wl_62 := hR.wl192
                        have hgI_62 : (nI hg).toInt = ((hg : Nat) : Int) := nI_toInt (by omega)
                        have tmI_62 : (nI ((trS sL).length)).toInt = (((trS sL).length : Nat) : Int) := nI_toInt (by omega)
                        have wmI_62 : (nI ((wls (dif n T (ver hg) (bdS sL)) (l6.toNatClampNeg + 1)).length)).toInt = (((wls (dif n T (ver hg) (bdS sL)) (l6.toNatClampNeg + 1)).length : Nat) : Int) := nI_toInt (by omega)
                        have acI_62 : (nI cL).toInt = ((cL : Nat) : Int) := nI_toInt (by omega)
                        have thI_62 : (nI 0).toInt = ((0 : Nat) : Int) := nI_toInt (by omega)
                        have nIn_62 : (nI n).toInt = ((n : Nat) : Int) := nI_toInt (by omega)
                        obtain ⟨x_63, ex_63⟩ : ∃ y : Int32, y = l6 + 1 := ⟨_, rfl⟩
                        have ix_63 : x_63.toInt = l6.toInt + 1 := ic_add ex_63 rfl kI_1 (by omega) (by omega)
                        refine lv_iinc (v := x_63) (lv' := [(6, .int x_63), (0, .ref (h 0)), (1, .int o), (2, .int b), (3, .long v)]) hx hb dX6_call_223 hl (k := 4) rfl (by rw [ex_63]; rfl) (by decide) rfl (fun ls hl => ?_)
                        refine lv_goto (tgt := 160) hx hb dX6_call_226 (by decide) ?_
                        exact ih_160 x_63 f_61 (by omega) (by omega) hfr (by rw [show x_63.toNatClampNeg = l6.toNatClampNeg + 1 from by have := ic_clN (rfl : x_63.toInt = _) (by omega); have := ic_clN (rfl : l6.toInt = _) (by omega); omega]; exact ⟨_, _, hM, hR, hac_62, hth_62⟩) (by omega) _ _ _ hH (lv_sub hl [1, 2, 3, 4, 0] rfl)
                exact loop_160 (((192 : Int) - 0).toNat + 1) 0 fC (by have := kI_0; omega) (by have := kI_0; omega) hfr (⟨_, _, hM, hR, hac_28, hth_28⟩) (by have := kI_0; omega) _ _ _ hH (lv_sub hl [1, 2, 3, 4, 0] rfl)
              · skip
                have ic_27 : (((tL : Nat) : Int) : Int) > 0 := ic_nle thI_22 kI_0 c_27
                refine lv_aload_n hx hb dX6_call_147 rfl (lv_at hl 0 rfl) ?_
                refine lv_lconst (v := 0) hx hb dX6_call_148 (by decide) ?_
                refine m_put (ci := 6) (v := .long 0) (C := RX6) (T := TX6) (N := 30) hx hb hC hH hts in_X6_call_X6 tyX6 tyX6_ok nmX6 hown F_23 rfl 17 (by decide) (hts (.fieldLink RX6 186 "LazyStateModel" "gave" "J") (by decide +kernel)) rfl rfl rfl (Nat.le_of_ble_eq_true rfl) dX6_call_149 (fun H locs hH => ?_)
                have hH : mH G s (va_up fC (h 0) (some (.inr (6, [.int (nI n), .ref (h 1), .int (nI hg), .ref (h 3), .ref (h 4), .ref (h 5), .ref (h 6), .int (feL fe0 c0q sL), .ref (h 8), .ref (h 9), .ref (h 10), .ref (h 11), .ref (h 12), .ref (h 13), .ref (h 14), .ref (h 15), .int (ca + 1), .long 0, .int wL, .int (nI ((trS sL).length)), .ref (h 20), .ref (h 21), .int (nI (([] : List Nat).length)), .ref (h 23), .ref (h 24), .int (nI cL), .ref (h 26), .ref (h 27), .int (nI tL), .int sx])))) H locs := hH
                obtain ⟨f_64, ef_64⟩ : ∃ zz_ : mF, zz_ = va_up fC (h 0) (some (.inr (6, [.int (nI n), .ref (h 1), .int (nI hg), .ref (h 3), .ref (h 4), .ref (h 5), .ref (h 6), .int (feL fe0 c0q sL), .ref (h 8), .ref (h 9), .ref (h 10), .ref (h 11), .ref (h 12), .ref (h 13), .ref (h 14), .ref (h 15), .int (ca + 1), .long 0, .int wL, .int (nI ((trS sL).length)), .ref (h 20), .ref (h 21), .int (nI (([] : List Nat).length)), .ref (h 23), .ref (h 24), .int (nI cL), .ref (h 26), .ref (h 27), .int (nI tL), .int sx]))) := ⟨_, rfl⟩
                rw [← ef_64] at hH
                have hM : MEM G h n (nI hg, (feL fe0 c0q sL), (ca + 1), 0, wL, nI ((trS sL).length), nI (([] : List Nat).length), nI cL, nI tL, sx) I_22 J_22 f_64 := hM.set0 ef_64
                have hfr := hfr.up 0 (by decide) ef_64
                refine lv_aload_n hx hb dX6_call_152 rfl (lv_at hl 0 rfl) ?_
                have F_65 : f_64 (h 0) = some (.inr (6, [.int (nI n), .ref (h 1), .int (nI hg), .ref (h 3), .ref (h 4), .ref (h 5), .ref (h 6), .int (feL fe0 c0q sL), .ref (h 8), .ref (h 9), .ref (h 10), .ref (h 11), .ref (h 12), .ref (h 13), .ref (h 14), .ref (h 15), .int (ca + 1), .long 0, .int wL, .int (nI ((trS sL).length)), .ref (h 20), .ref (h 21), .int (nI (([] : List Nat).length)), .ref (h 23), .ref (h 24), .int (nI cL), .ref (h 26), .ref (h 27), .int (nI tL), .int sx])) := hM.1
                refine m_get (ci := 6) (v := .int (nI tL)) (C := RX6) (T := TX6) (N := 30) hx hb hC hH hts in_X6_call_X6 hown F_65 rfl 28 (by decide) (hts (.fieldLink RX6 155 "LazyStateModel" "threw" "I") (by decide +kernel)) rfl dX6_call_153 ?_
                exact m_iret (v := nI tL) hx hb hr hlk hC hH (fun _ => (0, 0)) (by obtain ⟨tn_, q_, wq_, rq_⟩ := hlt_.resolve_left (fun z_ => by omega); have gz_ := rnC_gf hz32_ hA_ (by rw [rq_]; exact tn_); rw [rq_] at gz_; exact ⟨hfr, Or.inr (Or.inr (Or.inl ⟨⟨by omega, by omega, by omega, by omega⟩, by omega, by rw [rq_]; exact tn_, by rw [rq_]; have := thI_22; omega, by rw [rq_]; rw [wq_] at hM; exact ⟨_, _, (by have gz_ : gfS sL = 0 := gz_; rw [← gz_] at hM; exact hM), hR, hac_22, hth_22⟩⟩))⟩) (Nat.le_of_ble_eq_true rfl) (Nat.le_of_ble_eq_true rfl) dX6_call_156
            · skip
              have ic_26 : (x_25.toInt : Int) > p5.toInt := ic_nle rfl rfl c_26
              refine lv_aload_n hx hb dX6_call_64 rfl (lv_at hl 0 rfl) ?_
              refine m_get (ci := 6) (v := .int (nI tL)) (C := RX6) (T := TX6) (N := 30) hx hb hC hH hts in_X6_call_X6 hown F_23 rfl 28 (by decide) (hts (.fieldLink RX6 155 "LazyStateModel" "threw" "I") (by decide +kernel)) rfl dX6_call_65 ?_
              refine lv_if_ne (tgt := 140) hx hb dX6_call_68 (by decide) (fun c_66 => ?_) (fun c_66 => ?_)
              · skip
                have ic_66 : (((tL : Nat) : Int) : Int) ≠ 0 := ic_ne thI_22 kI_0 c_66
                refine lv_aload_n hx hb dX6_call_140 rfl (lv_at hl 0 rfl) ?_
                refine m_get (ci := 6) (v := .int (nI tL)) (C := RX6) (T := TX6) (N := 30) hx hb hC hH hts in_X6_call_X6 hown F_23 rfl 28 (by decide) (hts (.fieldLink RX6 155 "LazyStateModel" "threw" "I") (by decide +kernel)) rfl dX6_call_141 ?_
                refine lv_if_le (tgt := 157) hx hb dX6_call_144 (by decide) (fun c_67 => ?_) (fun c_67 => ?_)
                · skip
                  have ic_67 : (((tL : Nat) : Int) : Int) ≤ 0 := ic_le thI_22 kI_0 c_67
                  have cp_ := ic_clN (rfl : p5.toInt = _) (by omega)
                  have rr_ : (rnC T z A (ver hg) b.toNatClampNeg o v) = (0, 0, cL, sL) := by rcases hlt_ with q_ | q_; (rw [← q_.2.2]; exact rnS_end (by omega)); exact absurd (by omega) q_.1
                  have t0_ : tL = 0 := by omega
                  have w0_ : wL = -3 := (hlt_.resolve_right (fun z_ => z_.1 t0_)).2.1
                  subst t0_
                  subst w0_
                  have hI : FM G h n T z A hg ver (cqL c0q sL) (feL fe0 c0q sL) tms (ca + 1) ([] : List Nat) (-3) cL 0 sx sL fC := ⟨_, _, hM, hR, hac_22, hth_22⟩
                  have hI : FM G h n T z A hg ver (cqL c0q sL) (feL fe0 c0q sL) (tmS tms (dif n T (ver hg) (bdS sL)) 0) (ca + 1) (wls (dif n T (ver hg) (bdS sL)) 0) (-3) cL 0 sx sL fC := by rw [tmS_0]; exact hI
                  obtain ⟨I_68, J_68, hM, hR, hac_68, hth_68⟩ := hI
                  have hg_68 := hR.hg40
                  have n24_68 := hR.n24
                  have tl_68 := len_b hR.ok.2.2.1
                  have wl_68 := hR.wl192
                  have hgI_68 : (nI hg).toInt = ((hg : Nat) : Int) := nI_toInt (by omega)
                  have tmI_68 : (nI ((trS sL).length)).toInt = (((trS sL).length : Nat) : Int) := nI_toInt (by omega)
                  have wmI_68 : (nI ((wls (dif n T (ver hg) (bdS sL)) 0).length)).toInt = (((wls (dif n T (ver hg) (bdS sL)) 0).length : Nat) : Int) := nI_toInt (by omega)
                  have acI_68 : (nI cL).toInt = ((cL : Nat) : Int) := nI_toInt (by omega)
                  have thI_68 : (nI 0).toInt = ((0 : Nat) : Int) := nI_toInt (by omega)
                  have nIn_68 : (nI n).toInt = ((n : Nat) : Int) := nI_toInt (by omega)
                  refine lv_iconst (v := 0) hx hb dX6_call_157 (by decide) ?_
                  refine lv_istore (lv' := [(6, .int 0), (0, .ref (h 0)), (1, .int o), (2, .int b), (3, .long v), (5, .int p5)]) hx hb dX6_call_158 hl (by decide) rfl (fun ls hl => ?_)
                  have loop_160 : ∀ (fuel_ : Nat) (l6 : Int32) (fD : mF) (h0_ : 0 ≤ l6.toInt) (h1_ : l6.toInt ≤ 192) (hfr : frM h f fD) (hI : FM G h n T z A hg ver (cqL c0q sL) (feL fe0 c0q sL) (tmS tms (dif n T (ver hg) (bdS sL)) l6.toNatClampNeg) (ca + 1) (wls (dif n T (ver hg) (bdS sL)) l6.toNatClampNeg) (-3) cL 0 sx sL fD) (_ : ((192 : Int) - l6.toInt).toNat < fuel_) (H : Heap) (locs : List Loc) (ls : Array Slot) (_ : mH G s fD H locs) (_ : lv_has ls 7 [(0, .ref (h 0)), (1, .int o), (2, .int b), (3, .long v), (6, .int l6)]), W p l e ({ frames := 6, cells := 0, slots := 0, locals := 155 } : Room) s m ([.ref (h 0), .int o, .int b, .long v] : List Value).toArray below meth c H locs (0 + 0 + 0 + 0) (0 + 0 + 0 + 0) (MQ below (va_Qi (fun (r : Int32) (u : mS) => frM h f u.2 ∧ ((¬ (0 ≤ o.toInt ∧ o.toInt < n ∧ 0 ≤ b.toInt ∧ b.toInt < 6) ∧ r.toInt = -1 ∧ FM G h n T z A hg ver c0q fe0 tms ca wl wh ac th sx σ u.2) ∨ ((0 ≤ o.toInt ∧ o.toInt < n ∧ 0 ≤ b.toInt ∧ b.toInt < 6) ∧ hg = 40 ∧ r.toInt = -2 ∧ FM G h n T z A hg ver c0q fe0 tms ca wl wh ac th sx σ u.2) ∨ ((0 ≤ o.toInt ∧ o.toInt < n ∧ 0 ≤ b.toInt ∧ b.toInt < 6) ∧ hg ≤ 39 ∧ (rnC T z A (ver hg) b.toNatClampNeg o v).1 ≠ 0 ∧ r.toInt = (rnC T z A (ver hg) b.toNatClampNeg o v).1 ∧ FM G h n T z A hg ver (cqL c0q (rnC T z A (ver hg) b.toNatClampNeg o v).2.2.2) (feL fe0 c0q (rnC T z A (ver hg) b.toNatClampNeg o v).2.2.2) tms (ca + 1) ([]) (nI (rnC T z A (ver hg) b.toNatClampNeg o v).2.1) ((rnC T z A (ver hg) b.toNatClampNeg o v).2.2.1) ((rnC T z A (ver hg) b.toNatClampNeg o v).1) sx ((rnC T z A (ver hg) b.toNatClampNeg o v).2.2.2) u.2) ∨ ((0 ≤ o.toInt ∧ o.toInt < n ∧ 0 ≤ b.toInt ∧ b.toInt < 6) ∧ hg ≤ 39 ∧ (rnC T z A (ver hg) b.toNatClampNeg o v).1 = 0 ∧ r.toInt = 0 ∧ wls (dif n T (ver hg) (bdS (rnC T z A (ver hg) b.toNatClampNeg o v).2.2.2)) 192 = [] ∧ FM G h n T z A hg ver (cqL c0q (rnC T z A (ver hg) b.toNatClampNeg o v).2.2.2) (feL fe0 c0q (rnC T z A (ver hg) b.toNatClampNeg o v).2.2.2) tms (ca + 1) ([]) (-3) ((rnC T z A (ver hg) b.toNatClampNeg o v).2.2.1) 0 sx ((rnC T z A (ver hg) b.toNatClampNeg o v).2.2.2) u.2) ∨ ((0 ≤ o.toInt ∧ o.toInt < n ∧ 0 ≤ b.toInt ∧ b.toInt < 6) ∧ hg ≤ 39 ∧ (rnC T z A (ver hg) b.toNatClampNeg o v).1 = 0 ∧ r.toInt = 0 ∧ wls (dif n T (ver hg) (bdS (rnC T z A (ver hg) b.toNatClampNeg o v).2.2.2)) 192 ≠ [] ∧ FM G h n T z A (hg + 1) (va_up ver (hg + 1) (bdS (rnC T z A (ver hg) b.toNatClampNeg o v).2.2.2)) (fun _ => false) (feL fe0 c0q (rnC T z A (ver hg) b.toNatClampNeg o v).2.2.2) (tmS tms (dif n T (ver hg) (bdS (rnC T z A (ver hg) b.toNatClampNeg o v).2.2.2)) 192) (ca + 1) (wls (dif n T (ver hg) (bdS (rnC T z A (ver hg) b.toNatClampNeg o v).2.2.2)) 192) (-3) ((rnC T z A (ver hg) b.toNatClampNeg o v).2.2.1) 0 sx ((rnC T z A (ver hg) b.toNatClampNeg o v).2.2.2) u.2))) (fun (u : mS) t => mW G u.2 t) (mA G)) ([.ref (h 0), .int o, .int b, .long v] : List Value).toArray s 0 0 (mA G)) (F0 m 160 ls []) := by
                    intro N_160
                    induction N_160 with
                    | zero => intro l6 fD h0_ h1_ hfr hI hN; omega
                    | succ N_160 ih_160 =>
                      intro l6 fD h0_ h1_ hfr hI hN_160 H locs ls hH hl
                      obtain ⟨I_69, J_69, hM, hR, hac_69, hth_69⟩ := hI
                      have hg_69 := hR.hg40
                      have n24_69 := hR.n24
                      have tl_69 := len_b hR.ok.2.2.1
                      have wl_69 := hR.wl192
                      have hgI_69 : (nI hg).toInt = ((hg : Nat) : Int) := nI_toInt (by omega)
                      have tmI_69 : (nI ((trS sL).length)).toInt = (((trS sL).length : Nat) : Int) := nI_toInt (by omega)
                      have wmI_69 : (nI ((wls (dif n T (ver hg) (bdS sL)) l6.toNatClampNeg).length)).toInt = (((wls (dif n T (ver hg) (bdS sL)) l6.toNatClampNeg).length : Nat) : Int) := nI_toInt (by omega)
                      have acI_69 : (nI cL).toInt = ((cL : Nat) : Int) := nI_toInt (by omega)
                      have thI_69 : (nI 0).toInt = ((0 : Nat) : Int) := nI_toInt (by omega)
                      have nIn_69 : (nI n).toInt = ((n : Nat) : Int) := nI_toInt (by omega)
                      refine lv_iload hx hb dX6_call_160 (lv_at hl 4 rfl) ?_
                      refine lv_sipush (v := 192) hx hb dX6_call_162 (by decide) ?_
                      refine lv_icmp_ge (tgt := 229) hx hb dX6_call_165 (by decide) (fun c_70 => ?_) (fun c_70 => ?_)
                      · skip
                        have ic_70 : (192 : Int) ≤ l6.toInt := ic_le kI_192 rfl c_70
                        refine lv_aload_n hx hb dX6_call_229 rfl (lv_at hl 0 rfl) ?_
                        have F_71 : fD (h 0) = some (.inr (6, [.int (nI n), .ref (h 1), .int (nI hg), .ref (h 3), .ref (h 4), .ref (h 5), .ref (h 6), .int (feL fe0 c0q sL), .ref (h 8), .ref (h 9), .ref (h 10), .ref (h 11), .ref (h 12), .ref (h 13), .ref (h 14), .ref (h 15), .int (ca + 1), .long (gfS sL), .int (-3), .int (nI ((trS sL).length)), .ref (h 20), .ref (h 21), .int (nI ((wls (dif n T (ver hg) (bdS sL)) l6.toNatClampNeg).length)), .ref (h 23), .ref (h 24), .int (nI cL), .ref (h 26), .ref (h 27), .int (nI 0), .int sx])) := hM.1
                        refine m_get (ci := 6) (v := .int (nI ((wls (dif n T (ver hg) (bdS sL)) l6.toNatClampNeg).length))) (C := RX6) (T := TX6) (N := 30) hx hb hC hH hts in_X6_call_X6 hown F_71 rfl 22 (by decide) (hts (.fieldLink RX6 196 "LazyStateModel" "writtenMany" "I") (by decide +kernel)) rfl dX6_call_230 ?_
                        refine lv_if_le (tgt := 240) hx hb dX6_call_233 (by decide) (fun c_72 => ?_) (fun c_72 => ?_)
                        · skip
                          have ic_72 : ((((wls (dif n T (ver hg) (bdS sL)) l6.toNatClampNeg).length : Nat) : Int) : Int) ≤ 0 := ic_le wmI_69 kI_0 c_72
                          have l192_ : l6.toNatClampNeg = 192 := by have := ic_clN (rfl : l6.toInt = _) (by omega); omega
                          have wlen_ : (wls (dif n T (ver hg) (bdS sL)) 192).length = (wls (dif n T (ver hg) (bdS sL)) l6.toNatClampNeg).length := by rw [l192_]
                          rw [l192_] at hM hR
                          have wnl_ : (wls (dif n T (ver hg) (bdS sL)) 192) = [] := List.eq_nil_of_length_eq_zero (by omega)
                          have tq_ : tmS tms (dif n T (ver hg) (bdS sL)) 192 = tms := tmS_nil wnl_
                          have hI : FM G h n T z A hg ver (cqL c0q sL) (feL fe0 c0q sL) (tmS tms (dif n T (ver hg) (bdS sL)) 192) (ca + 1) (wls (dif n T (ver hg) (bdS sL)) 192) (-3) cL 0 sx sL fD := ⟨_, _, hM, hR, hac_69, hth_69⟩
                          rw [tq_, wnl_] at hI
                          have hI : FM G h n T z A hg ver (cqL c0q sL) (feL fe0 c0q sL) tms (ca + 1) ([] : List Nat) (-3) cL 0 sx sL fD := hI
                          obtain ⟨I_73, J_73, hM, hR, hac_73, hth_73⟩ := hI
                          have hg_73 := hR.hg40
                          have n24_73 := hR.n24
                          have tl_73 := len_b hR.ok.2.2.1
                          have wl_73 := hR.wl192
                          have hgI_73 : (nI hg).toInt = ((hg : Nat) : Int) := nI_toInt (by omega)
                          have tmI_73 : (nI ((trS sL).length)).toInt = (((trS sL).length : Nat) : Int) := nI_toInt (by omega)
                          have wmI_73 : (nI (([] : List Nat).length)).toInt = ((([] : List Nat).length : Nat) : Int) := nI_toInt (by omega)
                          have acI_73 : (nI cL).toInt = ((cL : Nat) : Int) := nI_toInt (by omega)
                          have thI_73 : (nI 0).toInt = ((0 : Nat) : Int) := nI_toInt (by omega)
                          have nIn_73 : (nI n).toInt = ((n : Nat) : Int) := nI_toInt (by omega)
                          refine lv_iconst (v := 0) hx hb dX6_call_240 (by decide) ?_
                          exact m_iret (v := 0) hx hb hr hlk hC hH (fun _ => (0, 0)) ⟨hfr, Or.inr (Or.inr (Or.inr (Or.inl ⟨⟨by omega, by omega, by omega, by omega⟩, by omega, by rw [rr_], kI_0, by rw [rr_]; exact wnl_, by rw [rr_]; exact ⟨_, _, hM, hR, hac_73, hth_73⟩⟩)))⟩ (Nat.le_of_ble_eq_true rfl) (Nat.le_of_ble_eq_true rfl) dX6_call_241
                        · skip
                          have ic_72 : ((((wls (dif n T (ver hg) (bdS sL)) l6.toNatClampNeg).length : Nat) : Int) : Int) > 0 := ic_nle wmI_69 kI_0 c_72
                          have l192_ : l6.toNatClampNeg = 192 := by have := ic_clN (rfl : l6.toInt = _) (by omega); omega
                          have wlen_ : (wls (dif n T (ver hg) (bdS sL)) 192).length = (wls (dif n T (ver hg) (bdS sL)) l6.toNatClampNeg).length := by rw [l192_]
                          rw [l192_] at hM hR
                          have wne_ : (wls (dif n T (ver hg) (bdS sL)) 192) ≠ [] := fun z_ => by have q_ := congrArg List.length z_; have : ([] : List Nat).length = 0 := rfl; omega
                          have hI : FM G h n T z A hg ver (cqL c0q sL) (feL fe0 c0q sL) (tmS tms (dif n T (ver hg) (bdS sL)) 192) (ca + 1) (wls (dif n T (ver hg) (bdS sL)) 192) (-3) cL 0 sx sL fD := ⟨_, _, hM, hR, hac_69, hth_69⟩
                          obtain ⟨I_74, J_74, hM, hR, hac_74, hth_74⟩ := hI
                          have hg_74 := hR.hg40
                          have n24_74 := hR.n24
                          have tl_74 := len_b hR.ok.2.2.1
                          have wl_74 := hR.wl192
                          have hgI_74 : (nI hg).toInt = ((hg : Nat) : Int) := nI_toInt (by omega)
                          have tmI_74 : (nI ((trS sL).length)).toInt = (((trS sL).length : Nat) : Int) := nI_toInt (by omega)
                          have wmI_74 : (nI ((wls (dif n T (ver hg) (bdS sL)) 192).length)).toInt = (((wls (dif n T (ver hg) (bdS sL)) 192).length : Nat) : Int) := nI_toInt (by omega)
                          have acI_74 : (nI cL).toInt = ((cL : Nat) : Int) := nI_toInt (by omega)
                          have thI_74 : (nI 0).toInt = ((0 : Nat) : Int) := nI_toInt (by omega)
                          have nIn_74 : (nI n).toInt = ((n : Nat) : Int) := nI_toInt (by omega)
                          refine lv_aload_n hx hb dX6_call_236 rfl (lv_at hl 0 rfl) ?_
                          have F_75 : fD (h 0) = some (.inr (6, [.int (nI n), .ref (h 1), .int (nI hg), .ref (h 3), .ref (h 4), .ref (h 5), .ref (h 6), .int (feL fe0 c0q sL), .ref (h 8), .ref (h 9), .ref (h 10), .ref (h 11), .ref (h 12), .ref (h 13), .ref (h 14), .ref (h 15), .int (ca + 1), .long (gfS sL), .int (-3), .int (nI ((trS sL).length)), .ref (h 20), .ref (h 21), .int (nI ((wls (dif n T (ver hg) (bdS sL)) 192).length)), .ref (h 23), .ref (h 24), .int (nI cL), .ref (h 26), .ref (h 27), .int (nI 0), .int sx])) := hM.1
                          have hI : FM G h n T z A hg ver (cqL c0q sL) (feL fe0 c0q sL) (tmS tms (dif n T (ver hg) (bdS sL)) 192) (ca + 1) (wls (dif n T (ver hg) (bdS sL)) 192) (-3) cL 0 sx sL fD := ⟨_, _, hM, hR, hac_74, hth_74⟩
                          refine m_gov hH (va_runV (As := []) (rest := []) ⟨hx, hb, hml, hown, hts⟩ (c_X6_rises l G h n T z A hg ver (cqL c0q sL) (feL fe0 c0q sL) (tmS tms (dif n T (ver hg) (bdS sL)) 192) (ca + 1) (wls (dif n T (ver hg) (bdS sL)) 192) (-3) cL 0 sx sL fD hI (by omega)) (cwV 0 hts gX6_call_X6_rises rfl rfl rfl (by decide +kernel) ⟨Nat.le_of_ble_eq_true rfl, Nat.le_of_ble_eq_true rfl⟩) (m_preV (ci := 6) hC hH F_75 rfl) rfl rfl hl.1 rfl (lv_room (Nat.le_of_ble_eq_true rfl)) dX6_call_237 ⟨Nat.le_of_ble_eq_true rfl, Nat.le_of_ble_eq_true rfl⟩) (fun rho_78 f_77 H locs hw hH => ?_)
                          obtain ⟨hfr1, hI⟩ := hw
                          have hfr1 : frM h fD f_77 := hfr1
                          have hfr := hfr.trans hfr1
                          have hI : FM G h n T z A (hg + 1) (va_up ver (hg + 1) (bdS sL)) (fun _ => false) (feL fe0 c0q sL) (tmS tms (dif n T (ver hg) (bdS sL)) 192) (ca + 1) (wls (dif n T (ver hg) (bdS sL)) 192) (-3) cL 0 sx sL f_77 := hI
                          obtain ⟨I_79, J_79, hM, hR, hac_79, hth_79⟩ := hI
                          have hg_79 := hR.hg40
                          have n24_79 := hR.n24
                          have tl_79 := len_b hR.ok.2.2.1
                          have wl_79 := hR.wl192
                          have hgI_79 : (nI (hg + 1)).toInt = (((hg + 1) : Nat) : Int) := nI_toInt (by omega)
                          have tmI_79 : (nI ((trS sL).length)).toInt = (((trS sL).length : Nat) : Int) := nI_toInt (by omega)
                          have wmI_79 : (nI ((wls (dif n T (ver hg) (bdS sL)) 192).length)).toInt = (((wls (dif n T (ver hg) (bdS sL)) 192).length : Nat) : Int) := nI_toInt (by omega)
                          have acI_79 : (nI cL).toInt = ((cL : Nat) : Int) := nI_toInt (by omega)
                          have thI_79 : (nI 0).toInt = ((0 : Nat) : Int) := nI_toInt (by omega)
                          have nIn_79 : (nI n).toInt = ((n : Nat) : Int) := nI_toInt (by omega)
                          refine lv_iconst (v := 0) hx hb dX6_call_240 (by decide) ?_
                          exact m_iret (v := 0) hx hb hr hlk hC hH (fun _ => (0, 0)) ⟨hfr, Or.inr (Or.inr (Or.inr (Or.inr ⟨⟨by omega, by omega, by omega, by omega⟩, by omega, by rw [rr_], kI_0, by rw [rr_]; exact wne_, by rw [rr_]; exact ⟨_, _, hM, hR, hac_79, hth_79⟩⟩)))⟩ (Nat.le_of_ble_eq_true rfl) (Nat.le_of_ble_eq_true rfl) dX6_call_241
                      · skip
                        have ic_70 : (192 : Int) > l6.toInt := ic_nle kI_192 rfl c_70
                        refine lv_aload_n hx hb dX6_call_168 rfl (lv_at hl 0 rfl) ?_
                        refine lv_iload hx hb dX6_call_169 (lv_at hl 4 rfl) ?_
                        refine m_goi hH (va_runS (As := [.int l6]) (rest := [.ref (h 0)]) ⟨hx, hb, hml, hown, hts⟩ (c_X6_at l G fD l6 (by exact ⟨by omega, by omega⟩)) (va_cwS 1 hts gX6_call_X6_at rfl rfl rfl (by decide +kernel) ⟨Nat.le_of_ble_eq_true rfl, Nat.le_of_ble_eq_true rfl⟩) (m_preS hC hH) rfl rfl hl.1 rfl (lv_room (Nat.le_of_ble_eq_true rfl)) dX6_call_171 ⟨Nat.le_of_ble_eq_true rfl, Nat.le_of_ble_eq_true rfl⟩) (fun r_80 rho_82 f_81 H locs hw hH => ?_)
                        obtain ⟨hu, hr_80⟩ := hw
                        have hu : f_81 = fD := hu
                        rw [hu] at hH
                        refine lv_sipush (v := 192) hx hb dX6_call_174 (by decide) ?_
                        refine lv_aload_n hx hb dX6_call_177 rfl (lv_at hl 0 rfl) ?_
                        have F_83 : fD (h 0) = some (.inr (6, [.int (nI n), .ref (h 1), .int (nI hg), .ref (h 3), .ref (h 4), .ref (h 5), .ref (h 6), .int (feL fe0 c0q sL), .ref (h 8), .ref (h 9), .ref (h 10), .ref (h 11), .ref (h 12), .ref (h 13), .ref (h 14), .ref (h 15), .int (ca + 1), .long (gfS sL), .int (-3), .int (nI ((trS sL).length)), .ref (h 20), .ref (h 21), .int (nI ((wls (dif n T (ver hg) (bdS sL)) l6.toNatClampNeg).length)), .ref (h 23), .ref (h 24), .int (nI cL), .ref (h 26), .ref (h 27), .int (nI 0), .int sx])) := hM.1
                        refine m_get (ci := 6) (v := .int (nI hg)) (C := RX6) (T := TX6) (N := 30) hx hb hC hH hts in_X6_call_X6 hown F_83 rfl 2 (by decide) (hts (.fieldLink RX6 104 "LazyStateModel" "height" "I") (by decide +kernel)) rfl dX6_call_178 ?_
                        refine lv_imul hx hb dX6_call_181 ?_
                        refine lv_topi (fun x_84 ex_84 => ?_)
                        have ix_84 : x_84.toInt = 192 * ((hg : Nat) : Int) := ic_mul ex_84 kI_192 hgI_69 (by omega) (by omega)
                        refine lv_iload hx hb dX6_call_182 (lv_at hl 4 rfl) ?_
                        refine lv_iadd hx hb dX6_call_184 ?_
                        refine lv_topi (fun x_85 ex_85 => ?_)
                        have ix_85 : x_85.toInt = x_84.toInt + l6.toInt := ic_add ex_85 rfl rfl (by omega) (by omega)
                        refine m_goi hH (va_runV (As := [.int r_80, .int x_85]) (rest := []) ⟨hx, hb, hml, hown, hts⟩ (c_X6_areAlike l G h n (nI hg, (feL fe0 c0q sL), (ca + 1), (gfS sL), (-3), nI ((trS sL).length), nI ((wls (dif n T (ver hg) (bdS sL)) l6.toNatClampNeg).length), nI cL, nI 0, sx) I_69 J_69 fD hM r_80 x_85 (by omega) (by omega) (by rw [show r_80.toNatClampNeg = 192 * 41 + l6.toNatClampNeg from by have := ic_clN (rfl : r_80.toInt = _) (by omega); have := ic_clN (rfl : l6.toInt = _) (by omega); omega]; exact hR.sz8 (by have := ic_clN (rfl : l6.toInt = _) (by omega); omega))) (cwV 2 hts gX6_call_X6_areAlike rfl rfl rfl (by decide +kernel) ⟨Nat.le_of_ble_eq_true rfl, Nat.le_of_ble_eq_true rfl⟩) (m_preV (ci := 6) hC hH F_83 rfl) rfl rfl hl.1 rfl (lv_room (Nat.le_of_ble_eq_true rfl)) dX6_call_185 ⟨Nat.le_of_ble_eq_true rfl, Nat.le_of_ble_eq_true rfl⟩) (fun r_86 rho_88 f_87 H locs hw hH => ?_)
                        obtain ⟨hu, hr_86⟩ := hw
                        have hu : f_87 = fD := hu
                        rw [hu] at hH
                        try dsimp only at hr_86
                        have cl6_ := ic_clN (rfl : l6.toInt = _) (by omega)
                        rw [show r_80.toNatClampNeg = 192 * 41 + l6.toNatClampNeg from by have := ic_clN (rfl : r_80.toInt = _) (by omega); omega, show x_85.toNatClampNeg = 192 * hg + l6.toNatClampNeg from by have := ic_clN (rfl : x_85.toInt = _) (by omega); omega, hR.alk (L := l6.toNatClampNeg) (by omega)] at hr_86
                        refine lv_if_ne (tgt := 223) hx hb dX6_call_188 (by decide) (fun c_89 => ?_) (fun c_89 => ?_)
                        · skip
                          have ic_89 : (r_86.toInt : Int) ≠ 0 := ic_ne rfl kI_0 c_89
                          have df_ : (dif n T (ver hg) (bdS sL)) l6.toNatClampNeg = false := (hr_86.resolve_right (fun z_ => by omega)).2
                          have hI : FM G h n T z A hg ver (cqL c0q sL) (feL fe0 c0q sL) (tmS tms (dif n T (ver hg) (bdS sL)) l6.toNatClampNeg) (ca + 1) (wls (dif n T (ver hg) (bdS sL)) l6.toNatClampNeg) (-3) cL 0 sx sL fD := ⟨_, _, hM, hR, hac_69, hth_69⟩
                          rw [← tmS_s df_] at hI
                          rw [← wls_0 df_] at hI
                          have hI : FM G h n T z A hg ver (cqL c0q sL) (feL fe0 c0q sL) (tmS tms (dif n T (ver hg) (bdS sL)) (l6.toNatClampNeg + 1)) (ca + 1) (wls (dif n T (ver hg) (bdS sL)) (l6.toNatClampNeg + 1)) (-3) cL 0 sx sL fD := hI
                          obtain ⟨I_90, J_90, hM, hR, hac_90, hth_90⟩ := hI
                          have hg_90 := hR.hg40
                          have n24_90 := hR.n24
                          have tl_90 := len_b hR.ok.2.2.1
                          have wl_90 := hR.wl192
                          have hgI_90 : (nI hg).toInt = ((hg : Nat) : Int) := nI_toInt (by omega)
                          have tmI_90 : (nI ((trS sL).length)).toInt = (((trS sL).length : Nat) : Int) := nI_toInt (by omega)
                          have wmI_90 : (nI ((wls (dif n T (ver hg) (bdS sL)) (l6.toNatClampNeg + 1)).length)).toInt = (((wls (dif n T (ver hg) (bdS sL)) (l6.toNatClampNeg + 1)).length : Nat) : Int) := nI_toInt (by omega)
                          have acI_90 : (nI cL).toInt = ((cL : Nat) : Int) := nI_toInt (by omega)
                          have thI_90 : (nI 0).toInt = ((0 : Nat) : Int) := nI_toInt (by omega)
                          have nIn_90 : (nI n).toInt = ((n : Nat) : Int) := nI_toInt (by omega)
                          obtain ⟨x_91, ex_91⟩ : ∃ y : Int32, y = l6 + 1 := ⟨_, rfl⟩
                          have ix_91 : x_91.toInt = l6.toInt + 1 := ic_add ex_91 rfl kI_1 (by omega) (by omega)
                          refine lv_iinc (v := x_91) (lv' := [(6, .int x_91), (0, .ref (h 0)), (1, .int o), (2, .int b), (3, .long v)]) hx hb dX6_call_223 hl (k := 4) rfl (by rw [ex_91]; rfl) (by decide) rfl (fun ls hl => ?_)
                          refine lv_goto (tgt := 160) hx hb dX6_call_226 (by decide) ?_
                          exact ih_160 x_91 fD (by omega) (by omega) hfr (by rw [show x_91.toNatClampNeg = l6.toNatClampNeg + 1 from by have := ic_clN (rfl : x_91.toInt = _) (by omega); have := ic_clN (rfl : l6.toInt = _) (by omega); omega]; exact ⟨_, _, hM, hR, hac_90, hth_90⟩) (by omega) _ _ _ hH (lv_sub hl [1, 2, 3, 4, 0] rfl)
                        · skip
                          have ic_89 : (r_86.toInt : Int) = 0 := ic_eq rfl kI_0 c_89
                          have df_ : (dif n T (ver hg) (bdS sL)) l6.toNatClampNeg = true := by have q_ := (hr_86.resolve_left (fun z_ => by omega)).2; cases hd_ : (dif n T (ver hg) (bdS sL)) l6.toNatClampNeg with | true => rfl | false => exact absurd hd_ q_
                          have wl_ := wls_len (dif n T (ver hg) (bdS sL)) l6.toNatClampNeg
                          refine lv_aload_n hx hb dX6_call_191 rfl (lv_at hl 0 rfl) ?_
                          refine m_get (ci := 6) (v := .ref (h 23)) (C := RX6) (T := TX6) (N := 30) hx hb hC hH hts in_X6_call_X6 hown F_83 rfl 23 (by decide) (hts (.fieldLink RX6 62 "LazyStateModel" "written" "[I") (by decide +kernel)) rfl dX6_call_192 ?_
                          refine lv_aload_n hx hb dX6_call_195 rfl (lv_at hl 0 rfl) ?_
                          refine m_get (ci := 6) (v := .int (nI ((wls (dif n T (ver hg) (bdS sL)) l6.toNatClampNeg).length))) (C := RX6) (T := TX6) (N := 30) hx hb hC hH hts in_X6_call_X6 hown F_83 rfl 22 (by decide) (hts (.fieldLink RX6 196 "LazyStateModel" "writtenMany" "I") (by decide +kernel)) rfl dX6_call_196 ?_
                          refine lv_iload hx hb dX6_call_199 (lv_at hl 4 rfl) ?_
                          have hg_92 : fD (h 23) = some (.inl (gk G 0, 192, .inl (I_69 23))) := hM.2.1 23 (by decide) rfl
                          refine m_iast hx hb hC hH hg_92 (vp_in_iff.mpr (by rw [wmI_69]; exact ⟨by omega, by omega⟩)) dX6_call_201 (fun H locs hH => ?_)
                          obtain ⟨f_93, ef_93⟩ : ∃ zz_ : mF, zz_ = va_up fD (h 23) (some (.inl (gk G 0, 192, .inl (upd (I_69 23) ((nI ((wls (dif n T (ver hg) (bdS sL)) l6.toNatClampNeg).length)).toNatClampNeg) l6)))) := ⟨_, rfl⟩
                          rw [← ef_93] at hH
                          have hM : MEM G h n (nI hg, (feL fe0 c0q sL), (ca + 1), (gfS sL), (-3), nI ((trS sL).length), nI ((wls (dif n T (ver hg) (bdS sL)) l6.toNatClampNeg).length), nI cL, nI 0, sx) (va_up I_69 23 (upd (I_69 23) ((nI ((wls (dif n T (ver hg) (bdS sL)) l6.toNatClampNeg).length)).toNatClampNeg) l6)) J_69 f_93 := hM.setI 23 (by decide) rfl ef_93
                          have hfr := hfr.up 23 (by decide) ef_93
                          rw [nI_cl (by omega)] at hM
                          refine lv_aload_n hx hb dX6_call_202 rfl (lv_at hl 0 rfl) ?_
                          refine lv_dup hx hb dX6_call_203 rfl ?_
                          have F_94 : f_93 (h 0) = some (.inr (6, [.int (nI n), .ref (h 1), .int (nI hg), .ref (h 3), .ref (h 4), .ref (h 5), .ref (h 6), .int (feL fe0 c0q sL), .ref (h 8), .ref (h 9), .ref (h 10), .ref (h 11), .ref (h 12), .ref (h 13), .ref (h 14), .ref (h 15), .int (ca + 1), .long (gfS sL), .int (-3), .int (nI ((trS sL).length)), .ref (h 20), .ref (h 21), .int (nI ((wls (dif n T (ver hg) (bdS sL)) l6.toNatClampNeg).length)), .ref (h 23), .ref (h 24), .int (nI cL), .ref (h 26), .ref (h 27), .int (nI 0), .int sx])) := hM.1
                          refine m_get (ci := 6) (v := .int (nI ((wls (dif n T (ver hg) (bdS sL)) l6.toNatClampNeg).length))) (C := RX6) (T := TX6) (N := 30) hx hb hC hH hts in_X6_call_X6 hown F_94 rfl 22 (by decide) (hts (.fieldLink RX6 196 "LazyStateModel" "writtenMany" "I") (by decide +kernel)) rfl dX6_call_204 ?_
                          refine lv_iconst (v := 1) hx hb dX6_call_207 (by decide) ?_
                          refine lv_iadd hx hb dX6_call_208 ?_
                          refine lv_topi (fun x_95 ex_95 => ?_)
                          have ix_95 : x_95.toInt = (((wls (dif n T (ver hg) (bdS sL)) l6.toNatClampNeg).length : Nat) : Int) + 1 := ic_add ex_95 wmI_69 kI_1 (by omega) (by omega)
                          refine m_put (ci := 6) (v := .int x_95) (C := RX6) (T := TX6) (N := 30) hx hb hC hH hts in_X6_call_X6 tyX6 tyX6_ok nmX6 hown F_94 rfl 22 (by decide) (hts (.fieldLink RX6 196 "LazyStateModel" "writtenMany" "I") (by decide +kernel)) rfl rfl rfl (Nat.le_of_ble_eq_true rfl) dX6_call_209 (fun H locs hH => ?_)
                          have hH : mH G s (va_up f_93 (h 0) (some (.inr (6, [.int (nI n), .ref (h 1), .int (nI hg), .ref (h 3), .ref (h 4), .ref (h 5), .ref (h 6), .int (feL fe0 c0q sL), .ref (h 8), .ref (h 9), .ref (h 10), .ref (h 11), .ref (h 12), .ref (h 13), .ref (h 14), .ref (h 15), .int (ca + 1), .long (gfS sL), .int (-3), .int (nI ((trS sL).length)), .ref (h 20), .ref (h 21), .int x_95, .ref (h 23), .ref (h 24), .int (nI cL), .ref (h 26), .ref (h 27), .int (nI 0), .int sx])))) H locs := hH
                          obtain ⟨f_96, ef_96⟩ : ∃ zz_ : mF, zz_ = va_up f_93 (h 0) (some (.inr (6, [.int (nI n), .ref (h 1), .int (nI hg), .ref (h 3), .ref (h 4), .ref (h 5), .ref (h 6), .int (feL fe0 c0q sL), .ref (h 8), .ref (h 9), .ref (h 10), .ref (h 11), .ref (h 12), .ref (h 13), .ref (h 14), .ref (h 15), .int (ca + 1), .long (gfS sL), .int (-3), .int (nI ((trS sL).length)), .ref (h 20), .ref (h 21), .int x_95, .ref (h 23), .ref (h 24), .int (nI cL), .ref (h 26), .ref (h 27), .int (nI 0), .int sx]))) := ⟨_, rfl⟩
                          rw [← ef_96] at hH
                          have hM : MEM G h n (nI hg, (feL fe0 c0q sL), (ca + 1), (gfS sL), (-3), nI ((trS sL).length), x_95, nI cL, nI 0, sx) (va_up I_69 23 (upd (I_69 23) (wls (dif n T (ver hg) (bdS sL)) l6.toNatClampNeg).length l6)) J_69 f_96 := hM.set0 ef_96
                          have hfr := hfr.up 0 (by decide) ef_96
                          refine lv_aload_n hx hb dX6_call_212 rfl (lv_at hl 0 rfl) ?_
                          have F_97 : f_96 (h 0) = some (.inr (6, [.int (nI n), .ref (h 1), .int (nI hg), .ref (h 3), .ref (h 4), .ref (h 5), .ref (h 6), .int (feL fe0 c0q sL), .ref (h 8), .ref (h 9), .ref (h 10), .ref (h 11), .ref (h 12), .ref (h 13), .ref (h 14), .ref (h 15), .int (ca + 1), .long (gfS sL), .int (-3), .int (nI ((trS sL).length)), .ref (h 20), .ref (h 21), .int x_95, .ref (h 23), .ref (h 24), .int (nI cL), .ref (h 26), .ref (h 27), .int (nI 0), .int sx])) := hM.1
                          refine m_get (ci := 6) (v := .ref (h 8)) (C := RX6) (T := TX6) (N := 30) hx hb hC hH hts in_X6_call_X6 hown F_97 rfl 8 (by decide) (hts (.fieldLink RX6 28 "LazyStateModel" "times" "[I") (by decide +kernel)) rfl dX6_call_213 ?_
                          refine lv_iload hx hb dX6_call_216 (lv_at hl 4 rfl) ?_
                          refine lv_dup2_11 hx hb dX6_call_218 rfl rfl ?_
                          have hg_98 : f_96 (h 8) = some (.inl (gk G 0, 192, .inl (I_69 8))) := hM.2.1 8 (by decide) rfl
                          refine m_iald hx hb hC hH hg_98 (vp_in_iff.mpr ⟨by omega, by omega⟩) dX6_call_219 ?_
                          refine lv_topi (fun x_99 ex_99 => ?_)
                          refine lv_iconst (v := 1) hx hb dX6_call_220 (by decide) ?_
                          refine lv_iadd hx hb dX6_call_221 ?_
                          refine lv_topi (fun x_100 ex_100 => ?_)
                          refine m_iast hx hb hC hH hg_98 (vp_in_iff.mpr ⟨by omega, by omega⟩) dX6_call_222 (fun H locs hH => ?_)
                          obtain ⟨f_101, ef_101⟩ : ∃ zz_ : mF, zz_ = va_up f_96 (h 8) (some (.inl (gk G 0, 192, .inl (upd (I_69 8) l6.toNatClampNeg x_100)))) := ⟨_, rfl⟩
                          rw [← ef_101] at hH
                          have hM : MEM G h n (nI hg, (feL fe0 c0q sL), (ca + 1), (gfS sL), (-3), nI ((trS sL).length), x_95, nI cL, nI 0, sx) (va_up (va_up I_69 23 (upd (I_69 23) (wls (dif n T (ver hg) (bdS sL)) l6.toNatClampNeg).length l6)) 8 (upd (I_69 8) l6.toNatClampNeg x_100)) J_69 f_101 := hM.setI 8 (by decide) rfl ef_101
                          have hfr := hfr.up 8 (by decide) ef_101
                          have hR := hR.wr (c := l6.toNatClampNeg) (tms2 := tmS tms (dif n T (ver hg) (bdS sL)) (l6.toNatClampNeg + 1)) (by omega) (congrArg (upd _ _) (nI_ofC (by omega)).symm) (g8 := (upd (I_69 8) l6.toNatClampNeg x_100)) (fun L_ hL_ => by rw [← tmS_u df_]; unfold upd; split; (rw [ex_100, ex_99]; exact congrArg (· + 1) (hR.tmI (by omega))); exact hR.tmI hL_)
                          rw [← wls_1 df_] at hR
                          rw [show x_95 = nI (wls (dif n T (ver hg) (bdS sL)) (l6.toNatClampNeg + 1)).length from ic_inj (by rw [wls_1 df_, List.length_append]; show _ = (((wls (dif n T (ver hg) (bdS sL)) l6.toNatClampNeg).length + 1 : Nat) : Int); omega) (by have := wls_len (dif n T (ver hg) (bdS sL)) (l6.toNatClampNeg + 1); omega)] at hM
                          have hI : FM G h n T z A hg ver (cqL c0q sL) (feL fe0 c0q sL) (tmS tms (dif n T (ver hg) (bdS sL)) (l6.toNatClampNeg + 1)) (ca + 1) (wls (dif n T (ver hg) (bdS sL)) (l6.toNatClampNeg + 1)) (-3) cL 0 sx sL f_101 := ⟨_, _, hM, hR, hac_69, hth_69⟩
                          obtain ⟨I_102, J_102, hM, hR, hac_102, hth_102⟩ := hI
                          have hg_102 := hR.hg40
                          have n24_102 := hR.n24
                          have tl_102 := len_b hR.ok.2.2.1
                          have wl_102 := hR.wl192
                          have hgI_102 : (nI hg).toInt = ((hg : Nat) : Int) := nI_toInt (by omega)
                          have tmI_102 : (nI ((trS sL).length)).toInt = (((trS sL).length : Nat) : Int) := nI_toInt (by omega)
                          have wmI_102 : (nI ((wls (dif n T (ver hg) (bdS sL)) (l6.toNatClampNeg + 1)).length)).toInt = (((wls (dif n T (ver hg) (bdS sL)) (l6.toNatClampNeg + 1)).length : Nat) : Int) := nI_toInt (by omega)
                          have acI_102 : (nI cL).toInt = ((cL : Nat) : Int) := nI_toInt (by omega)
                          have thI_102 : (nI 0).toInt = ((0 : Nat) : Int) := nI_toInt (by omega)
                          have nIn_102 : (nI n).toInt = ((n : Nat) : Int) := nI_toInt (by omega)
                          obtain ⟨x_103, ex_103⟩ : ∃ y : Int32, y = l6 + 1 := ⟨_, rfl⟩
                          have ix_103 : x_103.toInt = l6.toInt + 1 := ic_add ex_103 rfl kI_1 (by omega) (by omega)
                          refine lv_iinc (v := x_103) (lv' := [(6, .int x_103), (0, .ref (h 0)), (1, .int o), (2, .int b), (3, .long v)]) hx hb dX6_call_223 hl (k := 4) rfl (by rw [ex_103]; rfl) (by decide) rfl (fun ls hl => ?_)
                          refine lv_goto (tgt := 160) hx hb dX6_call_226 (by decide) ?_
                          exact ih_160 x_103 f_101 (by omega) (by omega) hfr (by rw [show x_103.toNatClampNeg = l6.toNatClampNeg + 1 from by have := ic_clN (rfl : x_103.toInt = _) (by omega); have := ic_clN (rfl : l6.toInt = _) (by omega); omega]; exact ⟨_, _, hM, hR, hac_102, hth_102⟩) (by omega) _ _ _ hH (lv_sub hl [1, 2, 3, 4, 0] rfl)
                  exact loop_160 (((192 : Int) - 0).toNat + 1) 0 fC (by have := kI_0; omega) (by have := kI_0; omega) hfr (⟨_, _, hM, hR, hac_68, hth_68⟩) (by have := kI_0; omega) _ _ _ hH (lv_sub hl [1, 2, 3, 4, 0] rfl)
                · skip
                  have ic_67 : (((tL : Nat) : Int) : Int) > 0 := ic_nle thI_22 kI_0 c_67
                  refine lv_aload_n hx hb dX6_call_147 rfl (lv_at hl 0 rfl) ?_
                  refine lv_lconst (v := 0) hx hb dX6_call_148 (by decide) ?_
                  refine m_put (ci := 6) (v := .long 0) (C := RX6) (T := TX6) (N := 30) hx hb hC hH hts in_X6_call_X6 tyX6 tyX6_ok nmX6 hown F_23 rfl 17 (by decide) (hts (.fieldLink RX6 186 "LazyStateModel" "gave" "J") (by decide +kernel)) rfl rfl rfl (Nat.le_of_ble_eq_true rfl) dX6_call_149 (fun H locs hH => ?_)
                  have hH : mH G s (va_up fC (h 0) (some (.inr (6, [.int (nI n), .ref (h 1), .int (nI hg), .ref (h 3), .ref (h 4), .ref (h 5), .ref (h 6), .int (feL fe0 c0q sL), .ref (h 8), .ref (h 9), .ref (h 10), .ref (h 11), .ref (h 12), .ref (h 13), .ref (h 14), .ref (h 15), .int (ca + 1), .long 0, .int wL, .int (nI ((trS sL).length)), .ref (h 20), .ref (h 21), .int (nI (([] : List Nat).length)), .ref (h 23), .ref (h 24), .int (nI cL), .ref (h 26), .ref (h 27), .int (nI tL), .int sx])))) H locs := hH
                  obtain ⟨f_104, ef_104⟩ : ∃ zz_ : mF, zz_ = va_up fC (h 0) (some (.inr (6, [.int (nI n), .ref (h 1), .int (nI hg), .ref (h 3), .ref (h 4), .ref (h 5), .ref (h 6), .int (feL fe0 c0q sL), .ref (h 8), .ref (h 9), .ref (h 10), .ref (h 11), .ref (h 12), .ref (h 13), .ref (h 14), .ref (h 15), .int (ca + 1), .long 0, .int wL, .int (nI ((trS sL).length)), .ref (h 20), .ref (h 21), .int (nI (([] : List Nat).length)), .ref (h 23), .ref (h 24), .int (nI cL), .ref (h 26), .ref (h 27), .int (nI tL), .int sx]))) := ⟨_, rfl⟩
                  rw [← ef_104] at hH
                  have hM : MEM G h n (nI hg, (feL fe0 c0q sL), (ca + 1), 0, wL, nI ((trS sL).length), nI (([] : List Nat).length), nI cL, nI tL, sx) I_22 J_22 f_104 := hM.set0 ef_104
                  have hfr := hfr.up 0 (by decide) ef_104
                  refine lv_aload_n hx hb dX6_call_152 rfl (lv_at hl 0 rfl) ?_
                  have F_105 : f_104 (h 0) = some (.inr (6, [.int (nI n), .ref (h 1), .int (nI hg), .ref (h 3), .ref (h 4), .ref (h 5), .ref (h 6), .int (feL fe0 c0q sL), .ref (h 8), .ref (h 9), .ref (h 10), .ref (h 11), .ref (h 12), .ref (h 13), .ref (h 14), .ref (h 15), .int (ca + 1), .long 0, .int wL, .int (nI ((trS sL).length)), .ref (h 20), .ref (h 21), .int (nI (([] : List Nat).length)), .ref (h 23), .ref (h 24), .int (nI cL), .ref (h 26), .ref (h 27), .int (nI tL), .int sx])) := hM.1
                  refine m_get (ci := 6) (v := .int (nI tL)) (C := RX6) (T := TX6) (N := 30) hx hb hC hH hts in_X6_call_X6 hown F_105 rfl 28 (by decide) (hts (.fieldLink RX6 155 "LazyStateModel" "threw" "I") (by decide +kernel)) rfl dX6_call_153 ?_
                  exact m_iret (v := nI tL) hx hb hr hlk hC hH (fun _ => (0, 0)) (by obtain ⟨tn_, q_, wq_, rq_⟩ := hlt_.resolve_left (fun z_ => by omega); have gz_ := rnC_gf hz32_ hA_ (by rw [rq_]; exact tn_); rw [rq_] at gz_; exact ⟨hfr, Or.inr (Or.inr (Or.inl ⟨⟨by omega, by omega, by omega, by omega⟩, by omega, by rw [rq_]; exact tn_, by rw [rq_]; have := thI_22; omega, by rw [rq_]; rw [wq_] at hM; exact ⟨_, _, (by have gz_ : gfS sL = 0 := gz_; rw [← gz_] at hM; exact hM), hR, hac_22, hth_22⟩⟩))⟩) (Nat.le_of_ble_eq_true rfl) (Nat.le_of_ble_eq_true rfl) dX6_call_156
              · skip
                have ic_66 : (((tL : Nat) : Int) : Int) = 0 := ic_eq thI_22 kI_0 c_66
                have q0_ : rnS T (fun q => A (32 * b.toNatClampNeg + q)) (z b.toNatClampNeg) (200 - cL) p5.toNatClampNeg cL sL = (rnC T z A (ver hg) b.toNatClampNeg o v) := (hlt_.resolve_right (fun z_ => z_.1 (by omega))).2.2
                have t0_ : tL = 0 := by omega
                have cp_ := ic_clN (rfl : p5.toInt = _) (by omega)
                refine lv_iload hx hb dX6_call_71 (lv_at hl 4 rfl) ?_
                refine lv_istore (lv' := [(6, .int p5), (0, .ref (h 0)), (1, .int o), (2, .int b), (3, .long v), (5, .int p5)]) hx hb dX6_call_73 hl (by decide) rfl (fun ls hl => ?_)
                refine lv_aload_n hx hb dX6_call_75 rfl (lv_at hl 1 rfl) ?_
                refine m_get (ci := 6) (v := .int (nI cL)) (C := RX6) (T := TX6) (N := 30) hx hb hC hH hts in_X6_call_X6 hown F_23 rfl 25 (by decide) (hts (.fieldLink RX6 199 "LazyStateModel" "acts" "I") (by decide +kernel)) rfl dX6_call_76 ?_
                refine lv_sipush (v := 200) hx hb dX6_call_79 (by decide) ?_
                refine lv_icmp_ne (tgt := 94) hx hb dX6_call_82 (by decide) (fun c_106 => ?_) (fun c_106 => ?_)
                · skip
                  have ic_106 : (((cL : Nat) : Int) : Int) ≠ 200 := ic_ne acI_22 kI_200 c_106
                  refine lv_aload_n hx hb dX6_call_94 rfl (lv_at hl 1 rfl) ?_
                  refine lv_dup hx hb dX6_call_95 rfl ?_
                  refine m_get (ci := 6) (v := .int (nI cL)) (C := RX6) (T := TX6) (N := 30) hx hb hC hH hts in_X6_call_X6 hown F_23 rfl 25 (by decide) (hts (.fieldLink RX6 199 "LazyStateModel" "acts" "I") (by decide +kernel)) rfl dX6_call_96 ?_
                  refine lv_iconst (v := 1) hx hb dX6_call_99 (by decide) ?_
                  refine lv_iadd hx hb dX6_call_100 ?_
                  refine lv_topi (fun x_107 ex_107 => ?_)
                  have ix_107 : x_107.toInt = ((cL : Nat) : Int) + 1 := ic_add ex_107 acI_22 kI_1 (by omega) (by omega)
                  refine m_put (ci := 6) (v := .int x_107) (C := RX6) (T := TX6) (N := 30) hx hb hC hH hts in_X6_call_X6 tyX6 tyX6_ok nmX6 hown F_23 rfl 25 (by decide) (hts (.fieldLink RX6 199 "LazyStateModel" "acts" "I") (by decide +kernel)) rfl rfl rfl (Nat.le_of_ble_eq_true rfl) dX6_call_101 (fun H locs hH => ?_)
                  have hH : mH G s (va_up fC (h 0) (some (.inr (6, [.int (nI n), .ref (h 1), .int (nI hg), .ref (h 3), .ref (h 4), .ref (h 5), .ref (h 6), .int (feL fe0 c0q sL), .ref (h 8), .ref (h 9), .ref (h 10), .ref (h 11), .ref (h 12), .ref (h 13), .ref (h 14), .ref (h 15), .int (ca + 1), .long (gfS sL), .int wL, .int (nI ((trS sL).length)), .ref (h 20), .ref (h 21), .int (nI (([] : List Nat).length)), .ref (h 23), .ref (h 24), .int x_107, .ref (h 26), .ref (h 27), .int (nI tL), .int sx])))) H locs := hH
                  obtain ⟨f_108, ef_108⟩ : ∃ zz_ : mF, zz_ = va_up fC (h 0) (some (.inr (6, [.int (nI n), .ref (h 1), .int (nI hg), .ref (h 3), .ref (h 4), .ref (h 5), .ref (h 6), .int (feL fe0 c0q sL), .ref (h 8), .ref (h 9), .ref (h 10), .ref (h 11), .ref (h 12), .ref (h 13), .ref (h 14), .ref (h 15), .int (ca + 1), .long (gfS sL), .int wL, .int (nI ((trS sL).length)), .ref (h 20), .ref (h 21), .int (nI (([] : List Nat).length)), .ref (h 23), .ref (h 24), .int x_107, .ref (h 26), .ref (h 27), .int (nI tL), .int sx]))) := ⟨_, rfl⟩
                  rw [← ef_108] at hH
                  have hM : MEM G h n (nI hg, (feL fe0 c0q sL), (ca + 1), (gfS sL), wL, nI ((trS sL).length), nI (([] : List Nat).length), x_107, nI tL, sx) I_22 J_22 f_108 := hM.set0 ef_108
                  have hfr := hfr.up 0 (by decide) ef_108
                  rw [show x_107 = nI (cL + 1) from ic_inj (by omega) (by omega)] at hM
                  have hI : FM G h n T z A hg ver (cqL c0q sL) (feL fe0 c0q sL) tms (ca + 1) ([] : List Nat) wL (cL + 1) tL sx sL f_108 := ⟨_, _, hM, hR, by omega, hth_22⟩
                  obtain ⟨I_109, J_109, hM, hR, hac_109, hth_109⟩ := hI
                  have hg_109 := hR.hg40
                  have n24_109 := hR.n24
                  have tl_109 := len_b hR.ok.2.2.1
                  have wl_109 := hR.wl192
                  have hgI_109 : (nI hg).toInt = ((hg : Nat) : Int) := nI_toInt (by omega)
                  have tmI_109 : (nI ((trS sL).length)).toInt = (((trS sL).length : Nat) : Int) := nI_toInt (by omega)
                  have wmI_109 : (nI (([] : List Nat).length)).toInt = ((([] : List Nat).length : Nat) : Int) := nI_toInt (by omega)
                  have acI_109 : (nI (cL + 1)).toInt = (((cL + 1) : Nat) : Int) := nI_toInt (by omega)
                  have thI_109 : (nI tL).toInt = ((tL : Nat) : Int) := nI_toInt (by omega)
                  have nIn_109 : (nI n).toInt = ((n : Nat) : Int) := nI_toInt (by omega)
                  refine lv_aload_n hx hb dX6_call_104 rfl (lv_at hl 1 rfl) ?_
                  refine lv_bipush (v := 32) hx hb dX6_call_105 (by decide) ?_
                  refine lv_iload_n hx hb dX6_call_107 rfl (lv_at hl 3 rfl) ?_
                  refine lv_imul hx hb dX6_call_108 ?_
                  refine lv_topi (fun x_110 ex_110 => ?_)
                  have ix_110 : x_110.toInt = 32 * b.toInt := ic_mul ex_110 kI_32 rfl (by omega) (by omega)
                  refine lv_iload hx hb dX6_call_109 (lv_at hl 5 rfl) ?_
                  refine lv_iadd hx hb dX6_call_111 ?_
                  refine lv_topi (fun x_111 ex_111 => ?_)
                  have ix_111 : x_111.toInt = x_110.toInt + p5.toInt := ic_add ex_111 rfl rfl (by omega) (by omega)
                  refine lv_iload hx hb dX6_call_112 (lv_at hl 5 rfl) ?_
                  have F_112 : f_108 (h 0) = some (.inr (6, [.int (nI n), .ref (h 1), .int (nI hg), .ref (h 3), .ref (h 4), .ref (h 5), .ref (h 6), .int (feL fe0 c0q sL), .ref (h 8), .ref (h 9), .ref (h 10), .ref (h 11), .ref (h 12), .ref (h 13), .ref (h 14), .ref (h 15), .int (ca + 1), .long (gfS sL), .int wL, .int (nI ((trS sL).length)), .ref (h 20), .ref (h 21), .int (nI (([] : List Nat).length)), .ref (h 23), .ref (h 24), .int (nI (cL + 1)), .ref (h 26), .ref (h 27), .int (nI tL), .int sx])) := hM.1
                  have hI : FM G h n T z A hg ver (cqL c0q sL) (feL fe0 c0q sL) tms (ca + 1) ([] : List Nat) wL (cL + 1) 0 sx sL f_108 := ⟨_, _, (by rw [t0_] at hM; exact hM), hR, hac_109, by omega⟩
                  refine m_goi hH (va_runV (As := [.int x_111, .int p5]) (rest := []) ⟨hx, hb, hml, hown, hts⟩ (c_X6_does l G h n T z A hg ver c0q fe0 tms (ca + 1) ([] : List Nat) wL (cL + 1) sx sL f_108 hI hn0 x_111 (32 * b.toNatClampNeg + p5.toNatClampNeg) (vld_mk (by omega) (by omega) hz32_) (by have := ic_clN (rfl : b.toInt = _) (by omega); omega) p5 (by omega)) (cwV 2 hts gX6_call_X6_does rfl rfl rfl (by decide +kernel) ⟨Nat.le_of_ble_eq_true rfl, Nat.le_of_ble_eq_true rfl⟩) (m_preV (ci := 6) hC hH F_112 rfl) rfl rfl hl.1 rfl (lv_room (Nat.le_of_ble_eq_true rfl)) dX6_call_114 ⟨Nat.le_of_ble_eq_true rfl, Nat.le_of_ble_eq_true rfl⟩) (fun r_113 rho_115 f_114 H locs hw hH => ?_)
                  obtain ⟨hfr1, hI, r0_, r1_, nx_⟩ := hw
                  try dsimp only at r0_ r1_ nx_
                  have hfr1 : frM h f_108 f_114 := hfr1
                  have hfr := hfr.trans hfr1
                  have hI : FM G h n T z A hg ver (cqL c0q ((prf T (A (32 * b.toNatClampNeg + p5.toNatClampNeg)) sL).2)) (feL fe0 c0q ((prf T (A (32 * b.toNatClampNeg + p5.toNatClampNeg)) sL).2)) tms (ca + 1) ([] : List Nat) wL (cL + 1) ((prf T (A (32 * b.toNatClampNeg + p5.toNatClampNeg)) sL).1) sx ((prf T (A (32 * b.toNatClampNeg + p5.toNatClampNeg)) sL).2) f_114 := hI
                  obtain ⟨I_116, J_116, hM, hR, hac_116, hth_116⟩ := hI
                  have hg_116 := hR.hg40
                  have n24_116 := hR.n24
                  have tl_116 := len_b hR.ok.2.2.1
                  have wl_116 := hR.wl192
                  have hgI_116 : (nI hg).toInt = ((hg : Nat) : Int) := nI_toInt (by omega)
                  have tmI_116 : (nI ((trS ((prf T (A (32 * b.toNatClampNeg + p5.toNatClampNeg)) sL).2)).length)).toInt = (((trS ((prf T (A (32 * b.toNatClampNeg + p5.toNatClampNeg)) sL).2)).length : Nat) : Int) := nI_toInt (by omega)
                  have wmI_116 : (nI (([] : List Nat).length)).toInt = ((([] : List Nat).length : Nat) : Int) := nI_toInt (by omega)
                  have acI_116 : (nI (cL + 1)).toInt = (((cL + 1) : Nat) : Int) := nI_toInt (by omega)
                  have thI_116 : (nI ((prf T (A (32 * b.toNatClampNeg + p5.toNatClampNeg)) sL).1)).toInt = (((prf T (A (32 * b.toNatClampNeg + p5.toNatClampNeg)) sL).1 : Nat) : Int) := nI_toInt (by omega)
                  have nIn_116 : (nI n).toInt = ((n : Nat) : Int) := nI_toInt (by omega)
                  refine lv_istore (lv' := [(5, .int r_113), (6, .int p5), (0, .ref (h 0)), (1, .int o), (2, .int b), (3, .long v)]) hx hb dX6_call_117 hl (by decide) rfl (fun ls hl => ?_)
                  refine lv_aload_n hx hb dX6_call_119 rfl (lv_at hl 2 rfl) ?_
                  refine lv_aload_n hx hb dX6_call_120 rfl (lv_at hl 2 rfl) ?_
                  have F_117 : f_114 (h 0) = some (.inr (6, [.int (nI n), .ref (h 1), .int (nI hg), .ref (h 3), .ref (h 4), .ref (h 5), .ref (h 6), .int (feL fe0 c0q ((prf T (A (32 * b.toNatClampNeg + p5.toNatClampNeg)) sL).2)), .ref (h 8), .ref (h 9), .ref (h 10), .ref (h 11), .ref (h 12), .ref (h 13), .ref (h 14), .ref (h 15), .int (ca + 1), .long (gfS ((prf T (A (32 * b.toNatClampNeg + p5.toNatClampNeg)) sL).2)), .int wL, .int (nI ((trS ((prf T (A (32 * b.toNatClampNeg + p5.toNatClampNeg)) sL).2)).length)), .ref (h 20), .ref (h 21), .int (nI (([] : List Nat).length)), .ref (h 23), .ref (h 24), .int (nI (cL + 1)), .ref (h 26), .ref (h 27), .int (nI ((prf T (A (32 * b.toNatClampNeg + p5.toNatClampNeg)) sL).1)), .int sx])) := hM.1
                  refine m_get (ci := 6) (v := .int (nI ((prf T (A (32 * b.toNatClampNeg + p5.toNatClampNeg)) sL).1))) (C := RX6) (T := TX6) (N := 30) hx hb hC hH hts in_X6_call_X6 hown F_117 rfl 28 (by decide) (hts (.fieldLink RX6 155 "LazyStateModel" "threw" "I") (by decide +kernel)) rfl dX6_call_121 ?_
                  refine lv_if_le (tgt := 132) hx hb dX6_call_124 (by decide) (fun c_118 => ?_) (fun c_118 => ?_)
                  · skip
                    have ic_118 : ((((prf T (A (32 * b.toNatClampNeg + p5.toNatClampNeg)) sL).1 : Nat) : Int) : Int) ≤ 0 := ic_le thI_116 kI_0 c_118
                    have thz_ : (prf T (A (32 * b.toNatClampNeg + p5.toNatClampNeg)) sL).1 = 0 := by omega
                    refine lv_bipush (v := (-3)) hx hb dX6_call_132 (by decide) ?_
                    refine m_put (ci := 6) (v := .int (-3)) (C := RX6) (T := TX6) (N := 30) hx hb hC hH hts in_X6_call_X6 tyX6 tyX6_ok nmX6 hown F_117 rfl 18 (by decide) (hts (.fieldLink RX6 52 "LazyStateModel" "where" "I") (by decide +kernel)) rfl rfl rfl (Nat.le_of_ble_eq_true rfl) dX6_call_134 (fun H locs hH => ?_)
                    have hH : mH G s (va_up f_114 (h 0) (some (.inr (6, [.int (nI n), .ref (h 1), .int (nI hg), .ref (h 3), .ref (h 4), .ref (h 5), .ref (h 6), .int (feL fe0 c0q ((prf T (A (32 * b.toNatClampNeg + p5.toNatClampNeg)) sL).2)), .ref (h 8), .ref (h 9), .ref (h 10), .ref (h 11), .ref (h 12), .ref (h 13), .ref (h 14), .ref (h 15), .int (ca + 1), .long (gfS ((prf T (A (32 * b.toNatClampNeg + p5.toNatClampNeg)) sL).2)), .int (-3), .int (nI ((trS ((prf T (A (32 * b.toNatClampNeg + p5.toNatClampNeg)) sL).2)).length)), .ref (h 20), .ref (h 21), .int (nI (([] : List Nat).length)), .ref (h 23), .ref (h 24), .int (nI (cL + 1)), .ref (h 26), .ref (h 27), .int (nI ((prf T (A (32 * b.toNatClampNeg + p5.toNatClampNeg)) sL).1)), .int sx])))) H locs := hH
                    obtain ⟨f_119, ef_119⟩ : ∃ zz_ : mF, zz_ = va_up f_114 (h 0) (some (.inr (6, [.int (nI n), .ref (h 1), .int (nI hg), .ref (h 3), .ref (h 4), .ref (h 5), .ref (h 6), .int (feL fe0 c0q ((prf T (A (32 * b.toNatClampNeg + p5.toNatClampNeg)) sL).2)), .ref (h 8), .ref (h 9), .ref (h 10), .ref (h 11), .ref (h 12), .ref (h 13), .ref (h 14), .ref (h 15), .int (ca + 1), .long (gfS ((prf T (A (32 * b.toNatClampNeg + p5.toNatClampNeg)) sL).2)), .int (-3), .int (nI ((trS ((prf T (A (32 * b.toNatClampNeg + p5.toNatClampNeg)) sL).2)).length)), .ref (h 20), .ref (h 21), .int (nI (([] : List Nat).length)), .ref (h 23), .ref (h 24), .int (nI (cL + 1)), .ref (h 26), .ref (h 27), .int (nI ((prf T (A (32 * b.toNatClampNeg + p5.toNatClampNeg)) sL).1)), .int sx]))) := ⟨_, rfl⟩
                    rw [← ef_119] at hH
                    have hM : MEM G h n (nI hg, (feL fe0 c0q ((prf T (A (32 * b.toNatClampNeg + p5.toNatClampNeg)) sL).2)), (ca + 1), (gfS ((prf T (A (32 * b.toNatClampNeg + p5.toNatClampNeg)) sL).2)), (-3), nI ((trS ((prf T (A (32 * b.toNatClampNeg + p5.toNatClampNeg)) sL).2)).length), nI (([] : List Nat).length), nI (cL + 1), nI ((prf T (A (32 * b.toNatClampNeg + p5.toNatClampNeg)) sL).1), sx) I_116 J_116 f_119 := hM.set0 ef_119
                    have hfr := hfr.up 0 (by decide) ef_119
                    refine lv_goto (tgt := 53) hx hb dX6_call_137 (by decide) ?_
                    exact ih_53 r_113 f_119 ((prf T (A (32 * b.toNatClampNeg + p5.toNatClampNeg)) sL).2) (cL + 1) ((prf T (A (32 * b.toNatClampNeg + p5.toNatClampNeg)) sL).1) (-3) 1 (by omega) (by omega) hfr (⟨_, _, hM, hR, hac_116, hth_116⟩) (by omega) (fun z_ => by omega) (Or.inl ⟨thz_, rfl, by rw [← q0_, show 200 - cL = (200 - (cL + 1)) + 1 from by omega, rnS_g (A := (fun q => A (32 * b.toNatClampNeg + q))) (p := p5.toNatClampNeg) (by omega) thz_, show r_113.toNatClampNeg = nxt (A (32 * b.toNatClampNeg + p5.toNatClampNeg)) p5.toNatClampNeg sL from by have := nx_ thz_; have := ic_clN (rfl : r_113.toInt = _) (by omega); omega]⟩) (by omega) _ _ _ hH (lv_sub hl [2, 3, 4, 5, 0] rfl)
                  · skip
                    have ic_118 : ((((prf T (A (32 * b.toNatClampNeg + p5.toNatClampNeg)) sL).1 : Nat) : Int) : Int) > 0 := ic_nle thI_116 kI_0 c_118
                    have thz_ : (prf T (A (32 * b.toNatClampNeg + p5.toNatClampNeg)) sL).1 ≠ 0 := by omega
                    refine lv_iload hx hb dX6_call_127 (lv_at hl 1 rfl) ?_
                    refine lv_goto (tgt := 134) hx hb dX6_call_129 (by decide) ?_
                    refine m_put (ci := 6) (v := .int p5) (C := RX6) (T := TX6) (N := 30) hx hb hC hH hts in_X6_call_X6 tyX6 tyX6_ok nmX6 hown F_117 rfl 18 (by decide) (hts (.fieldLink RX6 52 "LazyStateModel" "where" "I") (by decide +kernel)) rfl rfl rfl (Nat.le_of_ble_eq_true rfl) dX6_call_134 (fun H locs hH => ?_)
                    have hH : mH G s (va_up f_114 (h 0) (some (.inr (6, [.int (nI n), .ref (h 1), .int (nI hg), .ref (h 3), .ref (h 4), .ref (h 5), .ref (h 6), .int (feL fe0 c0q ((prf T (A (32 * b.toNatClampNeg + p5.toNatClampNeg)) sL).2)), .ref (h 8), .ref (h 9), .ref (h 10), .ref (h 11), .ref (h 12), .ref (h 13), .ref (h 14), .ref (h 15), .int (ca + 1), .long (gfS ((prf T (A (32 * b.toNatClampNeg + p5.toNatClampNeg)) sL).2)), .int p5, .int (nI ((trS ((prf T (A (32 * b.toNatClampNeg + p5.toNatClampNeg)) sL).2)).length)), .ref (h 20), .ref (h 21), .int (nI (([] : List Nat).length)), .ref (h 23), .ref (h 24), .int (nI (cL + 1)), .ref (h 26), .ref (h 27), .int (nI ((prf T (A (32 * b.toNatClampNeg + p5.toNatClampNeg)) sL).1)), .int sx])))) H locs := hH
                    obtain ⟨f_120, ef_120⟩ : ∃ zz_ : mF, zz_ = va_up f_114 (h 0) (some (.inr (6, [.int (nI n), .ref (h 1), .int (nI hg), .ref (h 3), .ref (h 4), .ref (h 5), .ref (h 6), .int (feL fe0 c0q ((prf T (A (32 * b.toNatClampNeg + p5.toNatClampNeg)) sL).2)), .ref (h 8), .ref (h 9), .ref (h 10), .ref (h 11), .ref (h 12), .ref (h 13), .ref (h 14), .ref (h 15), .int (ca + 1), .long (gfS ((prf T (A (32 * b.toNatClampNeg + p5.toNatClampNeg)) sL).2)), .int p5, .int (nI ((trS ((prf T (A (32 * b.toNatClampNeg + p5.toNatClampNeg)) sL).2)).length)), .ref (h 20), .ref (h 21), .int (nI (([] : List Nat).length)), .ref (h 23), .ref (h 24), .int (nI (cL + 1)), .ref (h 26), .ref (h 27), .int (nI ((prf T (A (32 * b.toNatClampNeg + p5.toNatClampNeg)) sL).1)), .int sx]))) := ⟨_, rfl⟩
                    rw [← ef_120] at hH
                    have hM : MEM G h n (nI hg, (feL fe0 c0q ((prf T (A (32 * b.toNatClampNeg + p5.toNatClampNeg)) sL).2)), (ca + 1), (gfS ((prf T (A (32 * b.toNatClampNeg + p5.toNatClampNeg)) sL).2)), p5, nI ((trS ((prf T (A (32 * b.toNatClampNeg + p5.toNatClampNeg)) sL).2)).length), nI (([] : List Nat).length), nI (cL + 1), nI ((prf T (A (32 * b.toNatClampNeg + p5.toNatClampNeg)) sL).1), sx) I_116 J_116 f_120 := hM.set0 ef_120
                    have hfr := hfr.up 0 (by decide) ef_120
                    refine lv_goto (tgt := 53) hx hb dX6_call_137 (by decide) ?_
                    exact ih_53 r_113 f_120 ((prf T (A (32 * b.toNatClampNeg + p5.toNatClampNeg)) sL).2) (cL + 1) ((prf T (A (32 * b.toNatClampNeg + p5.toNatClampNeg)) sL).1) p5 0 (by omega) (by omega) hfr (⟨_, _, hM, hR, hac_116, hth_116⟩) (by omega) (fun z_ => by omega) (Or.inr ⟨thz_, p5.toNatClampNeg, (ic_inj (ic_clN rfl (by omega)).symm (by omega)), by rw [← q0_, show 200 - cL = (200 - (cL + 1)) + 1 from by omega, rnS_t (A := (fun q => A (32 * b.toNatClampNeg + q))) (p := p5.toNatClampNeg) (by omega) thz_]⟩) (by omega) _ _ _ hH (lv_sub hl [2, 3, 4, 5, 0] rfl)
                · skip
                  have ic_106 : (((cL : Nat) : Int) : Int) = 200 := ic_eq acI_22 kI_200 c_106
                  refine lv_aload_n hx hb dX6_call_85 rfl (lv_at hl 1 rfl) ?_
                  refine lv_bipush (v := 7) hx hb dX6_call_86 (by decide) ?_
                  refine m_put (ci := 6) (v := .int 7) (C := RX6) (T := TX6) (N := 30) hx hb hC hH hts in_X6_call_X6 tyX6 tyX6_ok nmX6 hown F_23 rfl 28 (by decide) (hts (.fieldLink RX6 155 "LazyStateModel" "threw" "I") (by decide +kernel)) rfl rfl rfl (Nat.le_of_ble_eq_true rfl) dX6_call_88 (fun H locs hH => ?_)
                  have hH : mH G s (va_up fC (h 0) (some (.inr (6, [.int (nI n), .ref (h 1), .int (nI hg), .ref (h 3), .ref (h 4), .ref (h 5), .ref (h 6), .int (feL fe0 c0q sL), .ref (h 8), .ref (h 9), .ref (h 10), .ref (h 11), .ref (h 12), .ref (h 13), .ref (h 14), .ref (h 15), .int (ca + 1), .long (gfS sL), .int wL, .int (nI ((trS sL).length)), .ref (h 20), .ref (h 21), .int (nI (([] : List Nat).length)), .ref (h 23), .ref (h 24), .int (nI cL), .ref (h 26), .ref (h 27), .int 7, .int sx])))) H locs := hH
                  obtain ⟨f_121, ef_121⟩ : ∃ zz_ : mF, zz_ = va_up fC (h 0) (some (.inr (6, [.int (nI n), .ref (h 1), .int (nI hg), .ref (h 3), .ref (h 4), .ref (h 5), .ref (h 6), .int (feL fe0 c0q sL), .ref (h 8), .ref (h 9), .ref (h 10), .ref (h 11), .ref (h 12), .ref (h 13), .ref (h 14), .ref (h 15), .int (ca + 1), .long (gfS sL), .int wL, .int (nI ((trS sL).length)), .ref (h 20), .ref (h 21), .int (nI (([] : List Nat).length)), .ref (h 23), .ref (h 24), .int (nI cL), .ref (h 26), .ref (h 27), .int 7, .int sx]))) := ⟨_, rfl⟩
                  rw [← ef_121] at hH
                  have hM : MEM G h n (nI hg, (feL fe0 c0q sL), (ca + 1), (gfS sL), wL, nI ((trS sL).length), nI (([] : List Nat).length), nI cL, 7, sx) I_22 J_22 f_121 := hM.set0 ef_121
                  have hfr := hfr.up 0 (by decide) ef_121
                  have hI : FM G h n T z A hg ver (cqL c0q sL) (feL fe0 c0q sL) tms (ca + 1) ([] : List Nat) wL cL 7 sx sL f_121 := ⟨_, _, hM, hR, hac_22, by omega⟩
                  obtain ⟨I_122, J_122, hM, hR, hac_122, hth_122⟩ := hI
                  have hg_122 := hR.hg40
                  have n24_122 := hR.n24
                  have tl_122 := len_b hR.ok.2.2.1
                  have wl_122 := hR.wl192
                  have hgI_122 : (nI hg).toInt = ((hg : Nat) : Int) := nI_toInt (by omega)
                  have tmI_122 : (nI ((trS sL).length)).toInt = (((trS sL).length : Nat) : Int) := nI_toInt (by omega)
                  have wmI_122 : (nI (([] : List Nat).length)).toInt = ((([] : List Nat).length : Nat) : Int) := nI_toInt (by omega)
                  have acI_122 : (nI cL).toInt = ((cL : Nat) : Int) := nI_toInt (by omega)
                  have thI_122 : (nI 7).toInt = ((7 : Nat) : Int) := nI_toInt (by omega)
                  have nIn_122 : (nI n).toInt = ((n : Nat) : Int) := nI_toInt (by omega)
                  refine lv_goto (tgt := 119) hx hb dX6_call_91 (by decide) ?_
                  refine lv_aload_n hx hb dX6_call_119 rfl (lv_at hl 1 rfl) ?_
                  refine lv_aload_n hx hb dX6_call_120 rfl (lv_at hl 1 rfl) ?_
                  have F_123 : f_121 (h 0) = some (.inr (6, [.int (nI n), .ref (h 1), .int (nI hg), .ref (h 3), .ref (h 4), .ref (h 5), .ref (h 6), .int (feL fe0 c0q sL), .ref (h 8), .ref (h 9), .ref (h 10), .ref (h 11), .ref (h 12), .ref (h 13), .ref (h 14), .ref (h 15), .int (ca + 1), .long (gfS sL), .int wL, .int (nI ((trS sL).length)), .ref (h 20), .ref (h 21), .int (nI (([] : List Nat).length)), .ref (h 23), .ref (h 24), .int (nI cL), .ref (h 26), .ref (h 27), .int (nI 7), .int sx])) := hM.1
                  refine m_get (ci := 6) (v := .int (nI 7)) (C := RX6) (T := TX6) (N := 30) hx hb hC hH hts in_X6_call_X6 hown F_123 rfl 28 (by decide) (hts (.fieldLink RX6 155 "LazyStateModel" "threw" "I") (by decide +kernel)) rfl dX6_call_121 ?_
                  refine lv_if_le (tgt := 132) hx hb dX6_call_124 (by decide) (fun c_124 => ?_) (fun c_124 => ?_)
                  · skip
                    have ic_124 : (((7 : Nat) : Int) : Int) ≤ 0 := ic_le thI_122 kI_0 c_124
                    omega
                  · skip
                    have ic_124 : (((7 : Nat) : Int) : Int) > 0 := ic_nle thI_122 kI_0 c_124
                    refine lv_iload hx hb dX6_call_127 (lv_at hl 0 rfl) ?_
                    refine lv_goto (tgt := 134) hx hb dX6_call_129 (by decide) ?_
                    refine m_put (ci := 6) (v := .int p5) (C := RX6) (T := TX6) (N := 30) hx hb hC hH hts in_X6_call_X6 tyX6 tyX6_ok nmX6 hown F_123 rfl 18 (by decide) (hts (.fieldLink RX6 52 "LazyStateModel" "where" "I") (by decide +kernel)) rfl rfl rfl (Nat.le_of_ble_eq_true rfl) dX6_call_134 (fun H locs hH => ?_)
                    have hH : mH G s (va_up f_121 (h 0) (some (.inr (6, [.int (nI n), .ref (h 1), .int (nI hg), .ref (h 3), .ref (h 4), .ref (h 5), .ref (h 6), .int (feL fe0 c0q sL), .ref (h 8), .ref (h 9), .ref (h 10), .ref (h 11), .ref (h 12), .ref (h 13), .ref (h 14), .ref (h 15), .int (ca + 1), .long (gfS sL), .int p5, .int (nI ((trS sL).length)), .ref (h 20), .ref (h 21), .int (nI (([] : List Nat).length)), .ref (h 23), .ref (h 24), .int (nI cL), .ref (h 26), .ref (h 27), .int (nI 7), .int sx])))) H locs := hH
                    obtain ⟨f_125, ef_125⟩ : ∃ zz_ : mF, zz_ = va_up f_121 (h 0) (some (.inr (6, [.int (nI n), .ref (h 1), .int (nI hg), .ref (h 3), .ref (h 4), .ref (h 5), .ref (h 6), .int (feL fe0 c0q sL), .ref (h 8), .ref (h 9), .ref (h 10), .ref (h 11), .ref (h 12), .ref (h 13), .ref (h 14), .ref (h 15), .int (ca + 1), .long (gfS sL), .int p5, .int (nI ((trS sL).length)), .ref (h 20), .ref (h 21), .int (nI (([] : List Nat).length)), .ref (h 23), .ref (h 24), .int (nI cL), .ref (h 26), .ref (h 27), .int (nI 7), .int sx]))) := ⟨_, rfl⟩
                    rw [← ef_125] at hH
                    have hM : MEM G h n (nI hg, (feL fe0 c0q sL), (ca + 1), (gfS sL), p5, nI ((trS sL).length), nI (([] : List Nat).length), nI cL, nI 7, sx) I_122 J_122 f_125 := hM.set0 ef_125
                    have hfr := hfr.up 0 (by decide) ef_125
                    refine lv_goto (tgt := 53) hx hb dX6_call_137 (by decide) ?_
                    exact ih_53 p5 f_125 sL cL 7 p5 0 (by omega) (by omega) hfr (⟨_, _, hM, hR, hac_122, hth_122⟩) (by omega) (fun z_ => by omega) (Or.inr ⟨by decide, p5.toNatClampNeg, (ic_inj (ic_clN rfl (by omega)).symm (by omega)), by rw [← q0_]; rw [show 200 - cL = 0 from by omega, show cL = 200 from by omega]; exact rnS_7 (p := p5.toNatClampNeg) (z := z b.toNatClampNeg) (by omega)⟩) (by omega) _ _ _ hH (lv_sub hl [1, 2, 3, 4, 5] rfl)
        exact loop_53 ((200 - 0) + 1 + 1) 0 f_18 (s0C (ver hg) o v) 0 0 (-3) 1 (by have := kI_0; omega) (by have := kI_0; omega) hfr (⟨_, _, hM, hR, hac_21, hth_21⟩) (by have := kI_0; omega) (fun _ => rfl) (Or.inl ⟨rfl, rfl, rfl⟩) (by have := kI_0; omega) _ _ _ hH (lv_sub hl [1, 2, 3, 4, 0] rfl)
      · skip
        have ic_12 : (((hg : Nat) : Int) : Int) = 40 := ic_eq hgI_1 kI_40 c_12
        refine lv_bipush (v := (-2)) hx hb dX6_call_31 (by decide) ?_
        exact m_iret (v := (-2)) hx hb hr hlk hC hH (fun _ => (0, 0)) ⟨hfr, Or.inr (Or.inl ⟨⟨by omega, by omega, by omega, by omega⟩, by omega, kI_m2, ⟨_, _, hM, hR, hac_1, hth_1⟩⟩)⟩ (Nat.le_of_ble_eq_true rfl) (Nat.le_of_ble_eq_true rfl) dX6_call_33
    · skip
      have ic_11 : (r_8.toInt : Int) = 0 := ic_eq rfl kI_0 c_11
      refine lv_iconst (v := (-1)) hx hb dX6_call_20 (by decide) ?_
      exact m_iret (v := (-1)) hx hb hr hlk hC hH (fun _ => (0, 0)) ⟨hfr, Or.inl ⟨fun z_ => by have := kJ_0; have := kJ_5; omega, kI_m1, ⟨_, _, hM, hR, hac_1, hth_1⟩⟩⟩ (Nat.le_of_ble_eq_true rfl) (Nat.le_of_ble_eq_true rfl) dX6_call_21
