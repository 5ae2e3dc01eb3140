set_option maxHeartbeats 4000000 in
set_option maxRecDepth 100000 in
theorem c_X6_isObject (l : Launch) (G : mG) (h : Nat → Nat) (n : Nat) (T z : Nat → Nat) (A : Nat → tA) (hg : Nat) (ver : Nat → Nat → tB) (cq : Nat → Bool) (fe : Int32) (tms : Nat → Int32) (ca : Int32) (wl : List Nat) (wh : Int32) (ac th : Nat) (sx : Int32) (σ : tS) (f : mF) (hI : FM G h n T z A hg ver cq fe tms ca wl wh ac th sx σ f) (o : Int32) : Met l yX6_isObject wsX6_isObject ({ frames := 1, cells := 0, slots := 0, locals := 25 }) (va_Pc [.ref (h 0), .int o] (mW G f)) (va_Qi (fun (r : Int32) (u : mS) => u.2 = f ∧ ((r.toInt = 1 ∧ 0 ≤ o.toInt ∧ o.toInt < n) ∨ (r.toInt = 0 ∧ (o.toInt < 0 ∨ n ≤ o.toInt)))) (fun (u : mS) t => mW G u.2 t) (mA G)) 0 0 (mA G) := by
  refine mMet [.ref (h 0), .int o] (cc := cX6_isObject) (maxL := 2) (ret := (some .boolean)) (by decide) rfl (Nat.le_of_ble_eq_true rfl) ?_
  intro p e s m below meth c ls hx hb hr hml hts hown hlk hnm hC hH hl
  have hl : lv_has ls 2 [(0, .ref (h 0)), (1, .int o)] := hl
  have hI0_ := hI
  have hfr : frM h f f := frM.rf
  have ro := ic_rng o
  obtain ⟨I_1, J_1, hM, hR, hac_1, hth_1⟩ := hI
  have hg_1 := hR.hg40
  have n24_1 := hR.n24
  have tl_1 := len_b hR.ok.2.2.1
  have wl_1 := hR.wl192
  have hgI_1 : (nI hg).toInt = ((hg : Nat) : Int) := nI_toInt (by omega)
  have tmI_1 : (nI ((trS σ).length)).toInt = (((trS σ).length : Nat) : Int) := nI_toInt (by omega)
  have wmI_1 : (nI wl.length).toInt = ((wl.length : Nat) : Int) := nI_toInt (by omega)
  have acI_1 : (nI ac).toInt = ((ac : Nat) : Int) := nI_toInt (by omega)
  have thI_1 : (nI th).toInt = ((th : Nat) : Int) := nI_toInt (by omega)
  have nIn_1 : (nI n).toInt = ((n : Nat) : Int) := nI_toInt (by omega)
  refine lv_iload_n hx hb dX6_isObject_0 rfl (lv_at hl 1 rfl) ?_
  refine lv_i2l hx hb dX6_isObject_1 rfl ?_
  refine lv_topl (fun y_2 ey_2 => ?_)
  have iy_2 : y_2.toInt = o.toInt := lc_i2l ey_2 rfl
  have gy_2 := ic_rng o
  refine lv_lconst (v := 0) hx hb dX6_isObject_2 (by decide) ?_
  refine lv_aload_n hx hb dX6_isObject_3 rfl (lv_at hl 0 rfl) ?_
  have F_3 : f (h 0) = some (.inr (6, [.int (nI n), .ref (h 1), .int (nI hg), .ref (h 3), .ref (h 4), .ref (h 5), .ref (h 6), .int fe, .ref (h 8), .ref (h 9), .ref (h 10), .ref (h 11), .ref (h 12), .ref (h 13), .ref (h 14), .ref (h 15), .int ca, .long (gfS σ), .int wh, .int (nI ((trS σ).length)), .ref (h 20), .ref (h 21), .int (nI wl.length), .ref (h 23), .ref (h 24), .int (nI ac), .ref (h 26), .ref (h 27), .int (nI th), .int sx])) := hM.1
  refine m_get (ci := 6) (v := .int (nI n)) (C := RX6) (T := TX6) (N := 30) hx hb hC hH hts in_X6_isObject_X6 hown F_3 rfl 0 (by decide) (hts (.fieldLink RX6 74 "LazyStateModel" "objects" "I") (by decide +kernel)) rfl dX6_isObject_4 ?_
  refine lv_iconst (v := 1) hx hb dX6_isObject_7 (by decide) ?_
  refine lv_isub hx hb dX6_isObject_8 ?_
  refine lv_topi (fun x_4 ex_4 => ?_)
  have ix_4 : x_4.toInt = ((n : Nat) : Int) - 1 := ic_sub ex_4 nIn_1 kI_1 (by omega) (by omega)
  refine lv_i2l hx hb dX6_isObject_9 rfl ?_
  refine lv_topl (fun y_5 ey_5 => ?_)
  have iy_5 : y_5.toInt = x_4.toInt := lc_i2l ey_5 rfl
  have gy_5 := ic_rng x_4
  refine m_goi hH (va_runS (As := [.long y_2, .long 0, .long y_5]) (rest := []) ⟨hx, hb, hml, hown, hts⟩ (c_X6_in l G f y_2 0 y_5) (va_cwS 3 hts gX6_isObject_X6_in rfl rfl rfl (by decide +kernel) ⟨Nat.le_of_ble_eq_true rfl, Nat.le_of_ble_eq_true rfl⟩) (m_preS hC hH) rfl rfl hl.1 rfl (lv_room (Nat.le_of_ble_eq_true rfl)) dX6_isObject_10 ⟨Nat.le_of_ble_eq_true rfl, Nat.le_of_ble_eq_true rfl⟩) (fun r_6 rho_8 f_7 H locs hw hH => ?_)
  obtain ⟨hu, hr_6⟩ := hw
  have hu : f_7 = f := hu
  rw [hu] at hH
  have hr_6 : (r_6.toInt = 1 ∧ 0 ≤ y_2.toInt ∧ y_2.toInt ≤ y_5.toInt) ∨ (r_6.toInt = 0 ∧ (y_2.toInt < 0 ∨ y_5.toInt < y_2.toInt)) := by have q0 := (rfl : y_2.toInt = _); have q1 := kJ_0; have q2 := (rfl : y_5.toInt = _); omega
  exact m_zret (v := r_6) hx hb hr (ic_nar _ (by omega)) hlk hC hH (fun _ => (0, 0)) ⟨rfl, by omega⟩ (Nat.le_of_ble_eq_true rfl) (Nat.le_of_ble_eq_true rfl) dX6_isObject_13
set_option maxHeartbeats 4000000 in
set_option maxRecDepth 100000 in
theorem c_X6_load (l : Launch) (G : mG) (h : Nat → Nat) (n : Nat) (T z : Nat → Nat) (A : Nat → tA) (hg : Nat) (ver : Nat → Nat → tB) (c0q : Nat → Bool) (fe0 : Int32) (tms : Nat → Int32) (ca : Int32) (wl : List Nat) (wh : Int32) (ac th : Nat) (sx : Int32) (σ : tS) (f : mF) (hI : FM G h n T z A hg ver (cqL c0q σ) (feL fe0 c0q σ) tms ca wl wh ac th sx σ f) (hn0 : 0 < n) (o : Int32) (ho : 0 ≤ o.toInt ∧ o.toInt < n) : Met l yX6_load wsX6_load ({ frames := 0, cells := 0, slots := 0, locals := 0 }) (va_Pc [.ref (h 0), .int o] (mW G f)) (va_Qv (fun (u : mS) => frM h f u.2 ∧ FM G h n T z A hg ver (cqL c0q (sLd σ o.toNatClampNeg)) (feL fe0 c0q (sLd σ o.toNatClampNeg)) tms ca wl wh ac th sx (sLd σ o.toNatClampNeg) u.2) (fun (u : mS) t => mW G u.2 t) (mA G)) 0 0 (mA G) := by
  refine mMet [.ref (h 0), .int o] (cc := cX6_load) (maxL := 2) (ret := none) (by decide) rfl (Nat.le_of_ble_eq_true rfl) ?_
  intro p e s m below meth c ls hx hb hr hml hts hown hlk hnm hC hH hl
  have hl : lv_has ls 2 [(0, .ref (h 0)), (1, .int o)] := hl
  have hI0_ := hI
  have hfr : frM h f f := frM.rf
  have cl_o := ic_clN (rfl : o.toInt = _) (by omega)
  obtain ⟨I_1, J_1, hM, hR, hac_1, hth_1⟩ := hI
  have hg_1 := hR.hg40
  have n24_1 := hR.n24
  have tl_1 := len_b hR.ok.2.2.1
  have wl_1 := hR.wl192
  have hgI_1 : (nI hg).toInt = ((hg : Nat) : Int) := nI_toInt (by omega)
  have tmI_1 : (nI ((trS σ).length)).toInt = (((trS σ).length : Nat) : Int) := nI_toInt (by omega)
  have wmI_1 : (nI wl.length).toInt = ((wl.length : Nat) : Int) := nI_toInt (by omega)
  have acI_1 : (nI ac).toInt = ((ac : Nat) : Int) := nI_toInt (by omega)
  have thI_1 : (nI th).toInt = ((th : Nat) : Int) := nI_toInt (by omega)
  have nIn_1 : (nI n).toInt = ((n : Nat) : Int) := nI_toInt (by omega)
  refine lv_aload_n hx hb dX6_load_0 rfl (lv_at hl 0 rfl) ?_
  have F_2 : f (h 0) = some (.inr (6, [.int (nI n), .ref (h 1), .int (nI hg), .ref (h 3), .ref (h 4), .ref (h 5), .ref (h 6), .int (feL fe0 c0q σ), .ref (h 8), .ref (h 9), .ref (h 10), .ref (h 11), .ref (h 12), .ref (h 13), .ref (h 14), .ref (h 15), .int ca, .long (gfS σ), .int wh, .int (nI ((trS σ).length)), .ref (h 20), .ref (h 21), .int (nI wl.length), .ref (h 23), .ref (h 24), .int (nI ac), .ref (h 26), .ref (h 27), .int (nI th), .int sx])) := hM.1
  refine m_get (ci := 6) (v := .ref (h 24)) (C := RX6) (T := TX6) (N := 30) hx hb hC hH hts in_X6_load_X6 hown F_2 rfl 24 (by decide) (hts (.fieldLink RX6 65 "LazyStateModel" "isLoaded" "[Z") (by decide +kernel)) rfl dX6_load_1 ?_
  refine lv_iload_n hx hb dX6_load_4 rfl (lv_at hl 1 rfl) ?_
  have hg_3 : f (h 24) = some (.inl (gk G 2, 24, .inl (I_1 24))) := hM.2.1 24 (by decide) rfl
  refine m_zald hx hb hC hH hg_3 (vp_in_iff.mpr ⟨by omega, by omega⟩) dX6_load_5 ?_
  refine lv_topi (fun x_4 ex_4 => ?_)
  refine lv_if_ne (tgt := 46) hx hb dX6_load_6 (by decide) (fun c_5 => ?_) (fun c_5 => ?_)
  · skip
    have ic_5 : (x_4.toInt : Int) ≠ 0 := ic_ne rfl kI_0 c_5
    have lt_ : ldS σ o.toNatClampNeg = true := b2i_ne (by rw [← hR.ldI (by omega), ← ex_4]; exact ic_5)
    exact m_vret hx hb hr hlk hC hH (fun _ => (0, 0)) ⟨hfr, by rw [sLd_id lt_]; exact ⟨_, _, hM, hR, hac_1, hth_1⟩⟩ (Nat.le_of_ble_eq_true rfl) (Nat.le_of_ble_eq_true rfl) dX6_load_46
  · skip
    have ic_5 : (x_4.toInt : Int) = 0 := ic_eq rfl kI_0 c_5
    have lf_ : ldS σ o.toNatClampNeg = false := b2i_0 (by rw [← hR.ldI (by omega), ← ex_4]; exact ic_5)
    refine lv_aload_n hx hb dX6_load_9 rfl (lv_at hl 0 rfl) ?_
    refine m_get (ci := 6) (v := .ref (h 24)) (C := RX6) (T := TX6) (N := 30) hx hb hC hH hts in_X6_load_X6 hown F_2 rfl 24 (by decide) (hts (.fieldLink RX6 65 "LazyStateModel" "isLoaded" "[Z") (by decide +kernel)) rfl dX6_load_10 ?_
    refine lv_iload_n hx hb dX6_load_13 rfl (lv_at hl 1 rfl) ?_
    refine lv_iconst (v := 1) hx hb dX6_load_14 (by decide) ?_
    refine m_zast hx hb hC hH hg_3 (vp_in_iff.mpr ⟨by omega, by omega⟩) dX6_load_15 (fun H locs hH => ?_)
    obtain ⟨f_6, ef_6⟩ : ∃ zz_ : mF, zz_ = va_up f (h 24) (some (.inl (gk G 2, 24, .inl (upd (I_1 24) o.toNatClampNeg (vp_nar .boolean 1))))) := ⟨_, rfl⟩
    rw [← ef_6] at hH
    have hM : MEM G h n (nI hg, (feL fe0 c0q σ), ca, (gfS σ), wh, nI ((trS σ).length), nI wl.length, nI ac, nI th, sx) (va_up I_1 24 (upd (I_1 24) o.toNatClampNeg (vp_nar .boolean 1))) J_1 f_6 := hM.setI 24 (by decide) rfl ef_6
    have hfr := hfr.up 24 (by decide) ef_6
    refine lv_aload_n hx hb dX6_load_16 rfl (lv_at hl 0 rfl) ?_
    refine lv_dup hx hb dX6_load_17 rfl ?_
    have F_7 : f_6 (h 0) = some (.inr (6, [.int (nI n), .ref (h 1), .int (nI hg), .ref (h 3), .ref (h 4), .ref (h 5), .ref (h 6), .int (feL fe0 c0q σ), .ref (h 8), .ref (h 9), .ref (h 10), .ref (h 11), .ref (h 12), .ref (h 13), .ref (h 14), .ref (h 15), .int ca, .long (gfS σ), .int wh, .int (nI ((trS σ).length)), .ref (h 20), .ref (h 21), .int (nI wl.length), .ref (h 23), .ref (h 24), .int (nI ac), .ref (h 26), .ref (h 27), .int (nI th), .int sx])) := hM.1
    refine m_get (ci := 6) (v := .int (feL fe0 c0q σ)) (C := RX6) (T := TX6) (N := 30) hx hb hC hH hts in_X6_load_X6 hown F_7 rfl 7 (by decide) (hts (.fieldLink RX6 149 "LazyStateModel" "fetches" "I") (by decide +kernel)) rfl dX6_load_18 ?_
    refine lv_aload_n hx hb dX6_load_21 rfl (lv_at hl 0 rfl) ?_
    refine m_get (ci := 6) (v := .ref (h 6)) (C := RX6) (T := TX6) (N := 30) hx hb hC hH hts in_X6_load_X6 hown F_7 rfl 6 (by decide) (hts (.fieldLink RX6 24 "LazyStateModel" "isCached" "[Z") (by decide +kernel)) rfl dX6_load_22 ?_
    refine lv_iload_n hx hb dX6_load_25 rfl (lv_at hl 1 rfl) ?_
    have hg_8 : f_6 (h 6) = some (.inl (gk G 2, 24, .inl (I_1 6))) := hM.2.1 6 (by decide) rfl
    refine m_zald hx hb hC hH hg_8 (vp_in_iff.mpr ⟨by omega, by omega⟩) dX6_load_26 ?_
    refine lv_topi (fun x_9 ex_9 => ?_)
    refine lv_if_eq (tgt := 34) hx hb dX6_load_27 (by decide) (fun c_10 => ?_) (fun c_10 => ?_)
    · skip
      have ic_10 : (x_9.toInt : Int) = 0 := ic_eq rfl kI_0 c_10
      have cf_ : c0q o.toNatClampNeg = false := by have q_ : cqL c0q σ o.toNatClampNeg = false := b2i_0 (by rw [← hR.cqI (by omega), ← ex_9]; exact ic_10); unfold cqL at q_; cases hz_ : c0q o.toNatClampNeg with | false => rfl | true => rw [hz_] at q_; cases q_
      refine lv_iconst (v := 1) hx hb dX6_load_34 (by decide) ?_
      refine lv_iadd hx hb dX6_load_35 ?_
      refine lv_topi (fun x_11 ex_11 => ?_)
      refine m_put (ci := 6) (v := .int x_11) (C := RX6) (T := TX6) (N := 30) hx hb hC hH hts in_X6_load_X6 tyX6 tyX6_ok nmX6 hown F_7 rfl 7 (by decide) (hts (.fieldLink RX6 149 "LazyStateModel" "fetches" "I") (by decide +kernel)) rfl rfl rfl (Nat.le_of_ble_eq_true rfl) dX6_load_36 (fun H locs hH => ?_)
      have hH : mH G s (va_up f_6 (h 0) (some (.inr (6, [.int (nI n), .ref (h 1), .int (nI hg), .ref (h 3), .ref (h 4), .ref (h 5), .ref (h 6), .int x_11, .ref (h 8), .ref (h 9), .ref (h 10), .ref (h 11), .ref (h 12), .ref (h 13), .ref (h 14), .ref (h 15), .int ca, .long (gfS σ), .int wh, .int (nI ((trS σ).length)), .ref (h 20), .ref (h 21), .int (nI wl.length), .ref (h 23), .ref (h 24), .int (nI ac), .ref (h 26), .ref (h 27), .int (nI th), .int sx])))) H locs := hH
      obtain ⟨f_12, ef_12⟩ : ∃ zz_ : mF, zz_ = va_up f_6 (h 0) (some (.inr (6, [.int (nI n), .ref (h 1), .int (nI hg), .ref (h 3), .ref (h 4), .ref (h 5), .ref (h 6), .int x_11, .ref (h 8), .ref (h 9), .ref (h 10), .ref (h 11), .ref (h 12), .ref (h 13), .ref (h 14), .ref (h 15), .int ca, .long (gfS σ), .int wh, .int (nI ((trS σ).length)), .ref (h 20), .ref (h 21), .int (nI wl.length), .ref (h 23), .ref (h 24), .int (nI ac), .ref (h 26), .ref (h 27), .int (nI th), .int sx]))) := ⟨_, rfl⟩
      rw [← ef_12] at hH
      have hM : MEM G h n (nI hg, x_11, ca, (gfS σ), wh, nI ((trS σ).length), nI wl.length, nI ac, nI th, sx) (va_up I_1 24 (upd (I_1 24) o.toNatClampNeg (vp_nar .boolean 1))) J_1 f_12 := hM.set0 ef_12
      have hfr := hfr.up 0 (by decide) ef_12
      refine lv_aload_n hx hb dX6_load_39 rfl (lv_at hl 0 rfl) ?_
      have F_13 : f_12 (h 0) = some (.inr (6, [.int (nI n), .ref (h 1), .int (nI hg), .ref (h 3), .ref (h 4), .ref (h 5), .ref (h 6), .int x_11, .ref (h 8), .ref (h 9), .ref (h 10), .ref (h 11), .ref (h 12), .ref (h 13), .ref (h 14), .ref (h 15), .int ca, .long (gfS σ), .int wh, .int (nI ((trS σ).length)), .ref (h 20), .ref (h 21), .int (nI wl.length), .ref (h 23), .ref (h 24), .int (nI ac), .ref (h 26), .ref (h 27), .int (nI th), .int sx])) := hM.1
      refine m_get (ci := 6) (v := .ref (h 6)) (C := RX6) (T := TX6) (N := 30) hx hb hC hH hts in_X6_load_X6 hown F_13 rfl 6 (by decide) (hts (.fieldLink RX6 24 "LazyStateModel" "isCached" "[Z") (by decide +kernel)) rfl dX6_load_40 ?_
      refine lv_iload_n hx hb dX6_load_43 rfl (lv_at hl 1 rfl) ?_
      refine lv_iconst (v := 1) hx hb dX6_load_44 (by decide) ?_
      have hg_14 : f_12 (h 6) = some (.inl (gk G 2, 24, .inl (I_1 6))) := hM.2.1 6 (by decide) rfl
      refine m_zast hx hb hC hH hg_14 (vp_in_iff.mpr ⟨by omega, by omega⟩) dX6_load_45 (fun H locs hH => ?_)
      obtain ⟨f_15, ef_15⟩ : ∃ zz_ : mF, zz_ = va_up f_12 (h 6) (some (.inl (gk G 2, 24, .inl (upd (I_1 6) o.toNatClampNeg (vp_nar .boolean 1))))) := ⟨_, rfl⟩
      rw [← ef_15] at hH
      have hM : MEM G h n (nI hg, x_11, ca, (gfS σ), wh, nI ((trS σ).length), nI wl.length, nI ac, nI th, sx) (va_up (va_up I_1 24 (upd (I_1 24) o.toNatClampNeg (vp_nar .boolean 1))) 6 (upd (I_1 6) o.toNatClampNeg (vp_nar .boolean 1))) J_1 f_15 := hM.setI 6 (by decide) rfl ef_15
      have hfr := hfr.up 6 (by decide) ef_15
      rw [show vp_nar .boolean (1 : Int32) = 1 from by decide] at hM
      have hR := hR.ld (o := o.toNatClampNeg) (by omega)
      rw [cqL_ld] at hR
      have ef_ : x_11 = feL fe0 c0q (sLd σ o.toNatClampNeg) := by rw [ex_11, feL_ld0 cf_ lf_ (by omega)]
      rw [ef_] at hM
      exact m_vret hx hb hr hlk hC hH (fun _ => (0, 0)) ⟨hfr, ⟨_, _, hM, hR, hac_1, hth_1⟩⟩ (Nat.le_of_ble_eq_true rfl) (Nat.le_of_ble_eq_true rfl) dX6_load_46
    · skip
      have ic_10 : (x_9.toInt : Int) ≠ 0 := ic_ne rfl kI_0 c_10
      have cf_ : c0q o.toNatClampNeg = true := by have q_ : cqL c0q σ o.toNatClampNeg = true := b2i_ne (by rw [← hR.cqI (by omega), ← ex_9]; exact ic_10); unfold cqL at q_; rw [lf_] at q_; cases hz_ : c0q o.toNatClampNeg with | true => rfl | false => rw [hz_] at q_; cases q_
      refine lv_iconst (v := 0) hx hb dX6_load_30 (by decide) ?_
      refine lv_goto (tgt := 35) hx hb dX6_load_31 (by decide) ?_
      refine lv_iadd hx hb dX6_load_35 ?_
      refine lv_topi (fun x_16 ex_16 => ?_)
      refine m_put (ci := 6) (v := .int x_16) (C := RX6) (T := TX6) (N := 30) hx hb hC hH hts in_X6_load_X6 tyX6 tyX6_ok nmX6 hown F_7 rfl 7 (by decide) (hts (.fieldLink RX6 149 "LazyStateModel" "fetches" "I") (by decide +kernel)) rfl rfl rfl (Nat.le_of_ble_eq_true rfl) dX6_load_36 (fun H locs hH => ?_)
      have hH : mH G s (va_up f_6 (h 0) (some (.inr (6, [.int (nI n), .ref (h 1), .int (nI hg), .ref (h 3), .ref (h 4), .ref (h 5), .ref (h 6), .int x_16, .ref (h 8), .ref (h 9), .ref (h 10), .ref (h 11), .ref (h 12), .ref (h 13), .ref (h 14), .ref (h 15), .int ca, .long (gfS σ), .int wh, .int (nI ((trS σ).length)), .ref (h 20), .ref (h 21), .int (nI wl.length), .ref (h 23), .ref (h 24), .int (nI ac), .ref (h 26), .ref (h 27), .int (nI th), .int sx])))) H locs := hH
      obtain ⟨f_17, ef_17⟩ : ∃ zz_ : mF, zz_ = va_up f_6 (h 0) (some (.inr (6, [.int (nI n), .ref (h 1), .int (nI hg), .ref (h 3), .ref (h 4), .ref (h 5), .ref (h 6), .int x_16, .ref (h 8), .ref (h 9), .ref (h 10), .ref (h 11), .ref (h 12), .ref (h 13), .ref (h 14), .ref (h 15), .int ca, .long (gfS σ), .int wh, .int (nI ((trS σ).length)), .ref (h 20), .ref (h 21), .int (nI wl.length), .ref (h 23), .ref (h 24), .int (nI ac), .ref (h 26), .ref (h 27), .int (nI th), .int sx]))) := ⟨_, rfl⟩
      rw [← ef_17] at hH
      have hM : MEM G h n (nI hg, x_16, ca, (gfS σ), wh, nI ((trS σ).length), nI wl.length, nI ac, nI th, sx) (va_up I_1 24 (upd (I_1 24) o.toNatClampNeg (vp_nar .boolean 1))) J_1 f_17 := hM.set0 ef_17
      have hfr := hfr.up 0 (by decide) ef_17
      refine lv_aload_n hx hb dX6_load_39 rfl (lv_at hl 0 rfl) ?_
      have F_18 : f_17 (h 0) = some (.inr (6, [.int (nI n), .ref (h 1), .int (nI hg), .ref (h 3), .ref (h 4), .ref (h 5), .ref (h 6), .int x_16, .ref (h 8), .ref (h 9), .ref (h 10), .ref (h 11), .ref (h 12), .ref (h 13), .ref (h 14), .ref (h 15), .int ca, .long (gfS σ), .int wh, .int (nI ((trS σ).length)), .ref (h 20), .ref (h 21), .int (nI wl.length), .ref (h 23), .ref (h 24), .int (nI ac), .ref (h 26), .ref (h 27), .int (nI th), .int sx])) := hM.1
      refine m_get (ci := 6) (v := .ref (h 6)) (C := RX6) (T := TX6) (N := 30) hx hb hC hH hts in_X6_load_X6 hown F_18 rfl 6 (by decide) (hts (.fieldLink RX6 24 "LazyStateModel" "isCached" "[Z") (by decide +kernel)) rfl dX6_load_40 ?_
      refine lv_iload_n hx hb dX6_load_43 rfl (lv_at hl 1 rfl) ?_
      refine lv_iconst (v := 1) hx hb dX6_load_44 (by decide) ?_
      have hg_19 : f_17 (h 6) = some (.inl (gk G 2, 24, .inl (I_1 6))) := hM.2.1 6 (by decide) rfl
      refine m_zast hx hb hC hH hg_19 (vp_in_iff.mpr ⟨by omega, by omega⟩) dX6_load_45 (fun H locs hH => ?_)
      obtain ⟨f_20, ef_20⟩ : ∃ zz_ : mF, zz_ = va_up f_17 (h 6) (some (.inl (gk G 2, 24, .inl (upd (I_1 6) o.toNatClampNeg (vp_nar .boolean 1))))) := ⟨_, rfl⟩
      rw [← ef_20] at hH
      have hM : MEM G h n (nI hg, x_16, ca, (gfS σ), wh, nI ((trS σ).length), nI wl.length, nI ac, nI th, sx) (va_up (va_up I_1 24 (upd (I_1 24) o.toNatClampNeg (vp_nar .boolean 1))) 6 (upd (I_1 6) o.toNatClampNeg (vp_nar .boolean 1))) J_1 f_20 := hM.setI 6 (by decide) rfl ef_20
      have hfr := hfr.up 6 (by decide) ef_20
      rw [show vp_nar .boolean (1 : Int32) = 1 from by decide] at hM
      have hR := hR.ld (o := o.toNatClampNeg) (by omega)
      rw [cqL_ld] at hR
      have ef_ : x_16 = feL fe0 c0q (sLd σ o.toNatClampNeg) := by rw [ex_16, feL_ld1 cf_]; exact Int32.add_zero _
      rw [ef_] at hM
      exact m_vret hx hb hr hlk hC hH (fun _ => (0, 0)) ⟨hfr, ⟨_, _, hM, hR, hac_1, hth_1⟩⟩ (Nat.le_of_ble_eq_true rfl) (Nat.le_of_ble_eq_true rfl) dX6_load_46
set_option maxHeartbeats 4000000 in
set_option maxRecDepth 100000 in
theorem c_X6_touch (l : Launch) (G : mG) (h : Nat → Nat) (n : Nat) (T z : Nat → Nat) (A : Nat → tA) (hg : Nat) (ver : Nat → Nat → tB) (c0q : Nat → Bool) (fe0 : Int32) (tms : Nat → Int32) (ca : Int32) (wl : List Nat) (wh : Int32) (ac th : Nat) (sx : Int32) (σ : tS) (f : mF) (hI : FM G h n T z A hg ver (cqL c0q σ) (feL fe0 c0q σ) tms ca wl wh ac th sx σ f) (hn0 : 0 < n) (lf hw_ : Int32) (hL_ : 0 ≤ lf.toInt ∧ lf.toInt < 192) (hW_ : 0 ≤ hw_.toInt ∧ hw_.toInt < 2) : Met l yX6_touch wsX6_touch ({ frames := 0, cells := 0, slots := 0, locals := 0 }) (va_Pc [.ref (h 0), .int lf, .int hw_] (mW G f)) (va_Qv (fun (u : mS) => frM h f u.2 ∧ FM G h n T z A hg ver (cqL c0q (sTc σ (2 * lf.toNatClampNeg + hw_.toNatClampNeg))) (feL fe0 c0q (sTc σ (2 * lf.toNatClampNeg + hw_.toNatClampNeg))) tms ca wl wh ac th sx (sTc σ (2 * lf.toNatClampNeg + hw_.toNatClampNeg)) u.2) (fun (u : mS) t => mW G u.2 t) (mA G)) 0 0 (mA G) := by
  refine mMet [.ref (h 0), .int lf, .int hw_] (cc := cX6_touch) (maxL := 5) (ret := none) (by decide) rfl (Nat.le_of_ble_eq_true rfl) ?_
  intro p e s m below meth c ls hx hb hr hml hts hown hlk hnm hC hH hl
  have hl : lv_has ls 5 [(0, .ref (h 0)), (1, .int lf), (2, .int hw_)] := hl
  have hI0_ := hI
  have hfr : frM h f f := frM.rf
  have cl_lf := ic_clN (rfl : lf.toInt = _) (by omega)
  have cl_hw_ := ic_clN (rfl : hw_.toInt = _) (by omega)
  obtain ⟨I_1, J_1, hM, hR, hac_1, hth_1⟩ := hI
  have hg_1 := hR.hg40
  have n24_1 := hR.n24
  have tl_1 := len_b hR.ok.2.2.1
  have wl_1 := hR.wl192
  have hgI_1 : (nI hg).toInt = ((hg : Nat) : Int) := nI_toInt (by omega)
  have tmI_1 : (nI ((trS σ).length)).toInt = (((trS σ).length : Nat) : Int) := nI_toInt (by omega)
  have wmI_1 : (nI wl.length).toInt = ((wl.length : Nat) : Int) := nI_toInt (by omega)
  have acI_1 : (nI ac).toInt = ((ac : Nat) : Int) := nI_toInt (by omega)
  have thI_1 : (nI th).toInt = ((th : Nat) : Int) := nI_toInt (by omega)
  have nIn_1 : (nI n).toInt = ((n : Nat) : Int) := nI_toInt (by omega)
  refine lv_iconst (v := 0) hx hb dX6_touch_0 (by decide) ?_
  refine lv_istore_n (lv' := [(3, .int 0), (0, .ref (h 0)), (1, .int lf), (2, .int hw_)]) hx hb dX6_touch_1 rfl hl (by decide) rfl (fun ls hl => ?_)
  refine lv_iconst (v := 0) hx hb dX6_touch_2 (by decide) ?_
  refine lv_istore (lv' := [(4, .int 0), (3, .int 0), (0, .ref (h 0)), (1, .int lf), (2, .int hw_)]) hx hb dX6_touch_3 hl (by decide) rfl (fun ls hl => ?_)
  have loop_5 : ∀ (fuel_ : Nat) (b3 : Int32) (k4 : Int32) (h0_ : 0 ≤ k4.toInt) (h1_ : k4.toInt ≤ ((trS σ).length : Int)) (hno_ : (((b3.toInt : Int) = 0 ∧ ∀ i : Nat, (i : Int) < k4.toInt → (trS σ).getD i 0 ≠ (2 * lf.toNatClampNeg + hw_.toNatClampNeg)) ∨ ((b3.toInt : Int) = 1 ∧ (2 * lf.toNatClampNeg + hw_.toNatClampNeg) ∈ trS σ))) (_ : (((trS σ).length : Int) - k4.toInt).toNat < fuel_) (H : Heap) (locs : List Loc) (ls : Array Slot) (_ : mH G s f H locs) (_ : lv_has ls 5 [(0, .ref (h 0)), (1, .int lf), (2, .int hw_), (3, .int b3), (4, .int k4)]), W p l e ({ frames := 0, cells := 0, slots := 0, locals := 0 } : Room) s m ([.ref (h 0), .int lf, .int hw_] : List Value).toArray below meth c H locs 0 0 (MQ below (va_Qv (fun (u : mS) => frM h f u.2 ∧ FM G h n T z A hg ver (cqL c0q (sTc σ (2 * lf.toNatClampNeg + hw_.toNatClampNeg))) (feL fe0 c0q (sTc σ (2 * lf.toNatClampNeg + hw_.toNatClampNeg))) tms ca wl wh ac th sx (sTc σ (2 * lf.toNatClampNeg + hw_.toNatClampNeg)) u.2) (fun (u : mS) t => mW G u.2 t) (mA G)) ([.ref (h 0), .int lf, .int hw_] : List Value).toArray s 0 0 (mA G)) (F0 m 5 ls []) := by
    intro N_5
    induction N_5 with
    | zero => intro b3 k4 h0_ h1_ hno_ hN; omega
    | succ N_5 ih_5 =>
      intro b3 k4 h0_ h1_ hno_ hN_5 H locs ls hH hl
      refine lv_iload hx hb dX6_touch_5 (lv_at hl 4 rfl) ?_
      refine lv_aload_n hx hb dX6_touch_7 rfl (lv_at hl 0 rfl) ?_
      have F_2 : f (h 0) = some (.inr (6, [.int (nI n), .ref (h 1), .int (nI hg), .ref (h 3), .ref (h 4), .ref (h 5), .ref (h 6), .int (feL fe0 c0q σ), .ref (h 8), .ref (h 9), .ref (h 10), .ref (h 11), .ref (h 12), .ref (h 13), .ref (h 14), .ref (h 15), .int ca, .long (gfS σ), .int wh, .int (nI ((trS σ).length)), .ref (h 20), .ref (h 21), .int (nI wl.length), .ref (h 23), .ref (h 24), .int (nI ac), .ref (h 26), .ref (h 27), .int (nI th), .int sx])) := hM.1
      refine m_get (ci := 6) (v := .int (nI ((trS σ).length))) (C := RX6) (T := TX6) (N := 30) hx hb hC hH hts in_X6_touch_X6 hown F_2 rfl 19 (by decide) (hts (.fieldLink RX6 152 "LazyStateModel" "touchedMany" "I") (by decide +kernel)) rfl dX6_touch_8 ?_
      refine lv_icmp_ge (tgt := 50) hx hb dX6_touch_11 (by decide) (fun c_3 => ?_) (fun c_3 => ?_)
      · skip
        have ic_3 : ((((trS σ).length : Nat) : Int) : Int) ≤ k4.toInt := ic_le tmI_1 rfl c_3
        refine lv_iload_n hx hb dX6_touch_50 rfl (lv_at hl 3 rfl) ?_
        refine lv_if_ne (tgt := 84) hx hb dX6_touch_51 (by decide) (fun c_4 => ?_) (fun c_4 => ?_)
        · skip
          have ic_4 : (b3.toInt : Int) ≠ 0 := ic_ne rfl kI_0 c_4
          exact m_vret hx hb hr hlk hC hH (fun _ => (0, 0)) ⟨hfr, by rw [sTc_id ((hno_.resolve_left (fun y_ => by omega)).2)]; exact ⟨_, _, hM, hR, hac_1, hth_1⟩⟩ (Nat.le_of_ble_eq_true rfl) (Nat.le_of_ble_eq_true rfl) dX6_touch_84
        · skip
          have ic_4 : (b3.toInt : Int) = 0 := ic_eq rfl kI_0 c_4
          refine lv_aload_n hx hb dX6_touch_54 rfl (lv_at hl 0 rfl) ?_
          refine m_get (ci := 6) (v := .ref (h 20)) (C := RX6) (T := TX6) (N := 30) hx hb hC hH hts in_X6_touch_X6 hown F_2 rfl 20 (by decide) (hts (.fieldLink RX6 56 "LazyStateModel" "touchedLeaf" "[I") (by decide +kernel)) rfl dX6_touch_55 ?_
          refine lv_aload_n hx hb dX6_touch_58 rfl (lv_at hl 0 rfl) ?_
          refine m_get (ci := 6) (v := .int (nI ((trS σ).length))) (C := RX6) (T := TX6) (N := 30) hx hb hC hH hts in_X6_touch_X6 hown F_2 rfl 19 (by decide) (hts (.fieldLink RX6 152 "LazyStateModel" "touchedMany" "I") (by decide +kernel)) rfl dX6_touch_59 ?_
          refine lv_iload_n hx hb dX6_touch_62 rfl (lv_at hl 1 rfl) ?_
          have hg_5 : f (h 20) = some (.inl (gk G 0, 400, .inl (I_1 20))) := hM.2.1 20 (by decide) rfl
          refine m_iast hx hb hC hH hg_5 (vp_in_iff.mpr (by rw [tmI_1]; exact ⟨by omega, by omega⟩)) dX6_touch_63 (fun H locs hH => ?_)
          obtain ⟨f_6, ef_6⟩ : ∃ zz_ : mF, zz_ = va_up f (h 20) (some (.inl (gk G 0, 400, .inl (upd (I_1 20) ((nI ((trS σ).length)).toNatClampNeg) lf)))) := ⟨_, rfl⟩
          rw [← ef_6] at hH
          have hM : MEM G h n (nI hg, (feL fe0 c0q σ), ca, (gfS σ), wh, nI ((trS σ).length), nI wl.length, nI ac, nI th, sx) (va_up I_1 20 (upd (I_1 20) ((nI ((trS σ).length)).toNatClampNeg) lf)) J_1 f_6 := hM.setI 20 (by decide) rfl ef_6
          have hfr := hfr.up 20 (by decide) ef_6
          have ln_20 : (nI ((trS σ).length)).toNatClampNeg = (trS σ).length := nI_cl (by omega)
          rw [ln_20] at hM
          refine lv_aload_n hx hb dX6_touch_64 rfl (lv_at hl 0 rfl) ?_
          have F_7 : f_6 (h 0) = some (.inr (6, [.int (nI n), .ref (h 1), .int (nI hg), .ref (h 3), .ref (h 4), .ref (h 5), .ref (h 6), .int (feL fe0 c0q σ), .ref (h 8), .ref (h 9), .ref (h 10), .ref (h 11), .ref (h 12), .ref (h 13), .ref (h 14), .ref (h 15), .int ca, .long (gfS σ), .int wh, .int (nI ((trS σ).length)), .ref (h 20), .ref (h 21), .int (nI wl.length), .ref (h 23), .ref (h 24), .int (nI ac), .ref (h 26), .ref (h 27), .int (nI th), .int sx])) := hM.1
          refine m_get (ci := 6) (v := .ref (h 21)) (C := RX6) (T := TX6) (N := 30) hx hb hC hH hts in_X6_touch_X6 hown F_7 rfl 21 (by decide) (hts (.fieldLink RX6 59 "LazyStateModel" "touchedHow" "[I") (by decide +kernel)) rfl dX6_touch_65 ?_
          refine lv_aload_n hx hb dX6_touch_68 rfl (lv_at hl 0 rfl) ?_
          refine m_get (ci := 6) (v := .int (nI ((trS σ).length))) (C := RX6) (T := TX6) (N := 30) hx hb hC hH hts in_X6_touch_X6 hown F_7 rfl 19 (by decide) (hts (.fieldLink RX6 152 "LazyStateModel" "touchedMany" "I") (by decide +kernel)) rfl dX6_touch_69 ?_
          refine lv_iload_n hx hb dX6_touch_72 rfl (lv_at hl 2 rfl) ?_
          have hg_8 : f_6 (h 21) = some (.inl (gk G 0, 400, .inl (I_1 21))) := hM.2.1 21 (by decide) rfl
          refine m_iast hx hb hC hH hg_8 (vp_in_iff.mpr (by rw [tmI_1]; exact ⟨by omega, by omega⟩)) dX6_touch_73 (fun H locs hH => ?_)
          obtain ⟨f_9, ef_9⟩ : ∃ zz_ : mF, zz_ = va_up f_6 (h 21) (some (.inl (gk G 0, 400, .inl (upd (I_1 21) ((nI ((trS σ).length)).toNatClampNeg) hw_)))) := ⟨_, rfl⟩
          rw [← ef_9] at hH
          have hM : MEM G h n (nI hg, (feL fe0 c0q σ), ca, (gfS σ), wh, nI ((trS σ).length), nI wl.length, nI ac, nI th, sx) (va_up (va_up I_1 20 (upd (I_1 20) (trS σ).length lf)) 21 (upd (I_1 21) ((nI ((trS σ).length)).toNatClampNeg) hw_)) J_1 f_9 := hM.setI 21 (by decide) rfl ef_9
          have hfr := hfr.up 21 (by decide) ef_9
          have ln_21 : (nI ((trS σ).length)).toNatClampNeg = (trS σ).length := nI_cl (by omega)
          rw [ln_21] at hM
          refine lv_aload_n hx hb dX6_touch_74 rfl (lv_at hl 0 rfl) ?_
          refine lv_dup hx hb dX6_touch_75 rfl ?_
          have F_10 : f_9 (h 0) = some (.inr (6, [.int (nI n), .ref (h 1), .int (nI hg), .ref (h 3), .ref (h 4), .ref (h 5), .ref (h 6), .int (feL fe0 c0q σ), .ref (h 8), .ref (h 9), .ref (h 10), .ref (h 11), .ref (h 12), .ref (h 13), .ref (h 14), .ref (h 15), .int ca, .long (gfS σ), .int wh, .int (nI ((trS σ).length)), .ref (h 20), .ref (h 21), .int (nI wl.length), .ref (h 23), .ref (h 24), .int (nI ac), .ref (h 26), .ref (h 27), .int (nI th), .int sx])) := hM.1
          refine m_get (ci := 6) (v := .int (nI ((trS σ).length))) (C := RX6) (T := TX6) (N := 30) hx hb hC hH hts in_X6_touch_X6 hown F_10 rfl 19 (by decide) (hts (.fieldLink RX6 152 "LazyStateModel" "touchedMany" "I") (by decide +kernel)) rfl dX6_touch_76 ?_
          refine lv_iconst (v := 1) hx hb dX6_touch_79 (by decide) ?_
          refine lv_iadd hx hb dX6_touch_80 ?_
          refine lv_topi (fun x_11 ex_11 => ?_)
          have ix_11 : x_11.toInt = (((trS σ).length : Nat) : Int) + 1 := ic_add ex_11 tmI_1 kI_1 (by omega) (by omega)
          refine m_put (ci := 6) (v := .int x_11) (C := RX6) (T := TX6) (N := 30) hx hb hC hH hts in_X6_touch_X6 tyX6 tyX6_ok nmX6 hown F_10 rfl 19 (by decide) (hts (.fieldLink RX6 152 "LazyStateModel" "touchedMany" "I") (by decide +kernel)) rfl rfl rfl (Nat.le_of_ble_eq_true rfl) dX6_touch_81 (fun H locs hH => ?_)
          have hH : mH G s (va_up f_9 (h 0) (some (.inr (6, [.int (nI n), .ref (h 1), .int (nI hg), .ref (h 3), .ref (h 4), .ref (h 5), .ref (h 6), .int (feL fe0 c0q σ), .ref (h 8), .ref (h 9), .ref (h 10), .ref (h 11), .ref (h 12), .ref (h 13), .ref (h 14), .ref (h 15), .int ca, .long (gfS σ), .int wh, .int x_11, .ref (h 20), .ref (h 21), .int (nI wl.length), .ref (h 23), .ref (h 24), .int (nI ac), .ref (h 26), .ref (h 27), .int (nI th), .int sx])))) H locs := hH
          obtain ⟨f_12, ef_12⟩ : ∃ zz_ : mF, zz_ = va_up f_9 (h 0) (some (.inr (6, [.int (nI n), .ref (h 1), .int (nI hg), .ref (h 3), .ref (h 4), .ref (h 5), .ref (h 6), .int (feL fe0 c0q σ), .ref (h 8), .ref (h 9), .ref (h 10), .ref (h 11), .ref (h 12), .ref (h 13), .ref (h 14), .ref (h 15), .int ca, .long (gfS σ), .int wh, .int x_11, .ref (h 20), .ref (h 21), .int (nI wl.length), .ref (h 23), .ref (h 24), .int (nI ac), .ref (h 26), .ref (h 27), .int (nI th), .int sx]))) := ⟨_, rfl⟩
          rw [← ef_12] at hH
          have hM : MEM G h n (nI hg, (feL fe0 c0q σ), ca, (gfS σ), wh, x_11, nI wl.length, nI ac, nI th, sx) (va_up (va_up I_1 20 (upd (I_1 20) (trS σ).length lf)) 21 (upd (I_1 21) (trS σ).length hw_)) J_1 f_12 := hM.set0 ef_12
          have hfr := hfr.up 0 (by decide) ef_12
          have hn_ : (2 * lf.toNatClampNeg + hw_.toNatClampNeg) ∉ trS σ := fun z_ => by obtain ⟨i_, hi_, e_⟩ := mem_getD z_; exact (hno_.resolve_right (fun y_ => by omega)).2 i_ (by omega) e_
          have hR := hR.tc1 (c := (2 * lf.toNatClampNeg + hw_.toNatClampNeg)) (by omega) hn_ (congrArg (upd (I_1 20) (trS σ).length) (tch_a (lf := lf) (hw := hw_) (by omega) (by omega)).symm) (congrArg (upd (I_1 21) (trS σ).length) (tch_b (lf := lf) (hw := hw_) (by omega) (by omega)).symm)
          have el_ : x_11 = nI (trS (sTc σ (2 * lf.toNatClampNeg + hw_.toNatClampNeg))).length := ic_inj (by rw [len_tc hn_]; omega) (by rw [len_tc hn_]; omega)
          rw [el_] at hM
          exact m_vret hx hb hr hlk hC hH (fun _ => (0, 0)) ⟨hfr, ⟨_, _, hM, hR, hac_1, hth_1⟩⟩ (Nat.le_of_ble_eq_true rfl) (Nat.le_of_ble_eq_true rfl) dX6_touch_84
      · skip
        have ic_3 : ((((trS σ).length : Nat) : Int) : Int) > k4.toInt := ic_nle tmI_1 rfl c_3
        refine lv_iload_n hx hb dX6_touch_14 rfl (lv_at hl 3 rfl) ?_
        refine lv_aload_n hx hb dX6_touch_15 rfl (lv_at hl 0 rfl) ?_
        refine m_get (ci := 6) (v := .ref (h 20)) (C := RX6) (T := TX6) (N := 30) hx hb hC hH hts in_X6_touch_X6 hown F_2 rfl 20 (by decide) (hts (.fieldLink RX6 56 "LazyStateModel" "touchedLeaf" "[I") (by decide +kernel)) rfl dX6_touch_16 ?_
        refine lv_iload hx hb dX6_touch_19 (lv_at hl 4 rfl) ?_
        have hg_13 : f (h 20) = some (.inl (gk G 0, 400, .inl (I_1 20))) := hM.2.1 20 (by decide) rfl
        refine m_iald hx hb hC hH hg_13 (vp_in_iff.mpr ⟨by omega, by omega⟩) dX6_touch_21 ?_
        refine lv_topi (fun x_14 ex_14 => ?_)
        refine lv_iload_n hx hb dX6_touch_22 rfl (lv_at hl 1 rfl) ?_
        refine lv_icmp_ne (tgt := 41) hx hb dX6_touch_23 (by decide) (fun c_15 => ?_) (fun c_15 => ?_)
        · skip
          have ic_15 : (x_14.toInt : Int) ≠ lf.toInt := ic_ne rfl rfl c_15
          refine lv_iconst (v := 0) hx hb dX6_touch_41 (by decide) ?_
          refine lv_ior hx hb dX6_touch_42 ?_
          refine lv_topi (fun x_16 ex_16 => ?_)
          refine lv_istore_n (lv' := [(3, .int x_16), (0, .ref (h 0)), (1, .int lf), (2, .int hw_), (4, .int k4)]) hx hb dX6_touch_43 rfl hl (by decide) rfl (fun ls hl => ?_)
          obtain ⟨x_17, ex_17⟩ : ∃ y : Int32, y = k4 + 1 := ⟨_, rfl⟩
          have ix_17 : x_17.toInt = k4.toInt + 1 := ic_add ex_17 rfl kI_1 (by omega) (by omega)
          refine lv_iinc (v := x_17) (lv' := [(4, .int x_17), (3, .int x_16), (0, .ref (h 0)), (1, .int lf), (2, .int hw_)]) hx hb dX6_touch_44 hl (k := 4) rfl (by rw [ex_17]; rfl) (by decide) rfl (fun ls hl => ?_)
          refine lv_goto (tgt := 5) hx hb dX6_touch_47 (by decide) ?_
          exact ih_5 x_16 x_17 (by omega) (by omega) (by have ck_ := ic_clN (rfl : k4.toInt = _) (by omega); have kl_ : k4.toNatClampNeg < (trS σ).length := (by omega); have tr_ := hR.trI kl_; have tb_ := hR.trB kl_; rcases hno_ with q_ | q_; exact Or.inl ⟨by rw [ex_16, show b3 = 0 from Int32.toInt_inj.mp q_.1]; rfl, fun i_ hi_ => (Decidable.em (i_ = k4.toNatClampNeg)).elim (fun e_ => by rw [e_]; exact fun z_ => c_15 (by rw [ex_14, tr_.1, z_]; exact tch_a (by omega) (by omega))) (fun e_ => q_.2 i_ (by omega))⟩; exact Or.inr ⟨by rw [ex_16, show b3 = 1 from Int32.toInt_inj.mp q_.1]; rfl, q_.2⟩) (by omega) _ _ _ hH (lv_sub hl [2, 3, 4, 1, 0] rfl)
        · skip
          have ic_15 : (x_14.toInt : Int) = lf.toInt := ic_eq rfl rfl c_15
          refine lv_aload_n hx hb dX6_touch_26 rfl (lv_at hl 0 rfl) ?_
          refine m_get (ci := 6) (v := .ref (h 21)) (C := RX6) (T := TX6) (N := 30) hx hb hC hH hts in_X6_touch_X6 hown F_2 rfl 21 (by decide) (hts (.fieldLink RX6 59 "LazyStateModel" "touchedHow" "[I") (by decide +kernel)) rfl dX6_touch_27 ?_
          refine lv_iload hx hb dX6_touch_30 (lv_at hl 4 rfl) ?_
          have hg_18 : f (h 21) = some (.inl (gk G 0, 400, .inl (I_1 21))) := hM.2.1 21 (by decide) rfl
          refine m_iald hx hb hC hH hg_18 (vp_in_iff.mpr ⟨by omega, by omega⟩) dX6_touch_32 ?_
          refine lv_topi (fun x_19 ex_19 => ?_)
          refine lv_iload_n hx hb dX6_touch_33 rfl (lv_at hl 2 rfl) ?_
          refine lv_icmp_ne (tgt := 41) hx hb dX6_touch_34 (by decide) (fun c_20 => ?_) (fun c_20 => ?_)
          · skip
            have ic_20 : (x_19.toInt : Int) ≠ hw_.toInt := ic_ne rfl rfl c_20
            refine lv_iconst (v := 0) hx hb dX6_touch_41 (by decide) ?_
            refine lv_ior hx hb dX6_touch_42 ?_
            refine lv_topi (fun x_21 ex_21 => ?_)
            refine lv_istore_n (lv' := [(3, .int x_21), (0, .ref (h 0)), (1, .int lf), (2, .int hw_), (4, .int k4)]) hx hb dX6_touch_43 rfl hl (by decide) rfl (fun ls hl => ?_)
            obtain ⟨x_22, ex_22⟩ : ∃ y : Int32, y = k4 + 1 := ⟨_, rfl⟩
            have ix_22 : x_22.toInt = k4.toInt + 1 := ic_add ex_22 rfl kI_1 (by omega) (by omega)
            refine lv_iinc (v := x_22) (lv' := [(4, .int x_22), (3, .int x_21), (0, .ref (h 0)), (1, .int lf), (2, .int hw_)]) hx hb dX6_touch_44 hl (k := 4) rfl (by rw [ex_22]; rfl) (by decide) rfl (fun ls hl => ?_)
            refine lv_goto (tgt := 5) hx hb dX6_touch_47 (by decide) ?_
            exact ih_5 x_21 x_22 (by omega) (by omega) (by have ck_ := ic_clN (rfl : k4.toInt = _) (by omega); have kl_ : k4.toNatClampNeg < (trS σ).length := (by omega); have tr_ := hR.trI kl_; have tb_ := hR.trB kl_; rcases hno_ with q_ | q_; exact Or.inl ⟨by rw [ex_21, show b3 = 0 from Int32.toInt_inj.mp q_.1]; rfl, fun i_ hi_ => (Decidable.em (i_ = k4.toNatClampNeg)).elim (fun e_ => by rw [e_]; exact fun z_ => c_20 (by rw [ex_19, tr_.2, z_]; exact tch_b (by omega) (by omega))) (fun e_ => q_.2 i_ (by omega))⟩; exact Or.inr ⟨by rw [ex_21, show b3 = 1 from Int32.toInt_inj.mp q_.1]; rfl, q_.2⟩) (by omega) _ _ _ hH (lv_sub hl [2, 3, 4, 1, 0] rfl)
          · skip
            have ic_20 : (x_19.toInt : Int) = hw_.toInt := ic_eq rfl rfl c_20
            refine lv_iconst (v := 1) hx hb dX6_touch_37 (by decide) ?_
            refine lv_goto (tgt := 42) hx hb dX6_touch_38 (by decide) ?_
            refine lv_ior hx hb dX6_touch_42 ?_
            refine lv_topi (fun x_23 ex_23 => ?_)
            refine lv_istore_n (lv' := [(3, .int x_23), (0, .ref (h 0)), (1, .int lf), (2, .int hw_), (4, .int k4)]) hx hb dX6_touch_43 rfl hl (by decide) rfl (fun ls hl => ?_)
            obtain ⟨x_24, ex_24⟩ : ∃ y : Int32, y = k4 + 1 := ⟨_, rfl⟩
            have ix_24 : x_24.toInt = k4.toInt + 1 := ic_add ex_24 rfl kI_1 (by omega) (by omega)
            refine lv_iinc (v := x_24) (lv' := [(4, .int x_24), (3, .int x_23), (0, .ref (h 0)), (1, .int lf), (2, .int hw_)]) hx hb dX6_touch_44 hl (k := 4) rfl (by rw [ex_24]; rfl) (by decide) rfl (fun ls hl => ?_)
            refine lv_goto (tgt := 5) hx hb dX6_touch_47 (by decide) ?_
            exact ih_5 x_23 x_24 (by omega) (by omega) (by have ck_ := ic_clN (rfl : k4.toInt = _) (by omega); have kl_ : k4.toNatClampNeg < (trS σ).length := (by omega); have tr_ := hR.trI kl_; have tb_ := hR.trB kl_; exact Or.inr ⟨by rw [ex_23]; rcases hno_ with q_ | q_; rw [show b3 = 0 from Int32.toInt_inj.mp q_.1]; rfl; rw [show b3 = 1 from Int32.toInt_inj.mp q_.1]; rfl, by rw [← tch_hit (by omega) (by omega) tb_ (tr_.1.symm.trans (ex_14.symm.trans c_15)) (tr_.2.symm.trans (ex_19.symm.trans c_20))]; exact getD_mem kl_⟩) (by omega) _ _ _ hH (lv_sub hl [2, 3, 4, 1, 0] rfl)
  exact loop_5 ((((trS σ).length : Int) - 0).toNat + 1) 0 0 (by have := kI_0; have := kI_0; omega) (by have := kI_0; have := kI_0; omega) (Or.inl ⟨kI_0, fun i_ hi_ => by have := kI_0; omega⟩) (by have := kI_0; have := kI_0; omega) _ _ _ hH (lv_sub hl [2, 3, 4, 1, 0] rfl)
set_option maxHeartbeats 4000000 in
set_option maxRecDepth 100000 in
theorem c_X6_leafOf (l : Launch) (G : mG) (h : Nat → Nat) (n : Nat) (T z : Nat → Nat) (A : Nat → tA) (hg : Nat) (ver : Nat → Nat → tB) (c0q : Nat → Bool) (fe0 : Int32) (tms : Nat → Int32) (ca : Int32) (wl : List Nat) (wh : Int32) (ac : Nat) (sx : Int32) (σ : tS) (f : mF) (hI : FM G h n T z A hg ver (cqL c0q σ) (feL fe0 c0q σ) tms ca wl wh ac 0 sx σ f) (hn0 : 0 < n) (hd : Int32) (jj : Int64) (st : Int32) (hh_ : 0 ≤ hd.toInt ∧ hd.toInt < 4) (hj0 : 0 ≤ jj.toInt ∧ jj.toInt < 8) (hst_ : 0 ≤ st.toInt ∧ st.toInt ≤ 2) : Met l yX6_leafOf wsX6_leafOf ({ frames := 1, cells := 0, slots := 0, locals := 21 }) (va_Pc [.ref (h 0), .int hd, .long jj, .int st] (mW G f)) (va_Qi (fun (r : Int32) (u : mS) => frM h f u.2 ∧ FM G h n T z A hg ver (cqL c0q ((ask T σ hd.toNatClampNeg jj.toInt.toNat (st.toNatClampNeg + 1)).2)) (feL fe0 c0q ((ask T σ hd.toNatClampNeg jj.toInt.toNat (st.toNatClampNeg + 1)).2)) tms ca wl wh ac ((ask T σ hd.toNatClampNeg jj.toInt.toNat (st.toNatClampNeg + 1)).1) sx ((ask T σ hd.toNatClampNeg jj.toInt.toNat (st.toNatClampNeg + 1)).2) u.2 ∧ ((ask T σ hd.toNatClampNeg jj.toInt.toNat (st.toNatClampNeg + 1)).1 = 0 → r.toInt = 8 * ((hob σ hd.toNatClampNeg : Nat) : Int) + ((jj.toInt.toNat : Nat) : Int)) ∧ ((ask T σ hd.toNatClampNeg jj.toInt.toNat (st.toNatClampNeg + 1)).1 ≠ 0 → r.toInt = -1)) (fun (u : mS) t => mW G u.2 t) (mA G)) 0 0 (mA G) := by
  refine mMet [.ref (h 0), .int hd, .long jj, .int st] (cc := cX6_leafOf) (maxL := 6) (ret := (some .int)) (by decide) rfl (Nat.le_of_ble_eq_true rfl) ?_
  intro p e s m below meth c ls hx hb hr hml hts hown hlk hnm hC hH hl
  have hl : lv_has ls 6 [(0, .ref (h 0)), (1, .int hd), (2, .long jj), (4, .int st)] := hl
  have hI0_ := hI
  have hfr : frM h f f := frM.rf
  have cl_hd := ic_clN (rfl : hd.toInt = _) (by omega)
  obtain ⟨I_1, J_1, hM, hR, hac_1, hth_1⟩ := hI
  have hg_1 := hR.hg40
  have n24_1 := hR.n24
  have tl_1 := len_b hR.ok.2.2.1
  have wl_1 := hR.wl192
  have hgI_1 : (nI hg).toInt = ((hg : Nat) : Int) := nI_toInt (by omega)
  have tmI_1 : (nI ((trS σ).length)).toInt = (((trS σ).length : Nat) : Int) := nI_toInt (by omega)
  have wmI_1 : (nI wl.length).toInt = ((wl.length : Nat) : Int) := nI_toInt (by omega)
  have acI_1 : (nI ac).toInt = ((ac : Nat) : Int) := nI_toInt (by omega)
  have thI_1 : (nI 0).toInt = ((0 : Nat) : Int) := nI_toInt (by omega)
  have nIn_1 : (nI n).toInt = ((n : Nat) : Int) := nI_toInt (by omega)
  refine lv_aload_n hx hb dX6_leafOf_0 rfl (lv_at hl 0 rfl) ?_
  have F_2 : f (h 0) = some (.inr (6, [.int (nI n), .ref (h 1), .int (nI hg), .ref (h 3), .ref (h 4), .ref (h 5), .ref (h 6), .int (feL fe0 c0q σ), .ref (h 8), .ref (h 9), .ref (h 10), .ref (h 11), .ref (h 12), .ref (h 13), .ref (h 14), .ref (h 15), .int ca, .long (gfS σ), .int wh, .int (nI ((trS σ).length)), .ref (h 20), .ref (h 21), .int (nI wl.length), .ref (h 23), .ref (h 24), .int (nI ac), .ref (h 26), .ref (h 27), .int (nI 0), .int sx])) := hM.1
  refine m_get (ci := 6) (v := .ref (h 26)) (C := RX6) (T := TX6) (N := 30) hx hb hC hH hts in_X6_leafOf_X6 hown F_2 rfl 26 (by decide) (hts (.fieldLink RX6 68 "LazyStateModel" "handles" "[I") (by decide +kernel)) rfl dX6_leafOf_1 ?_
  refine lv_iload_n hx hb dX6_leafOf_4 rfl (lv_at hl 1 rfl) ?_
  have hg_3 : f (h 26) = some (.inl (gk G 0, 4, .inl (I_1 26))) := hM.2.1 26 (by decide) rfl
  refine m_iald hx hb hC hH hg_3 (vp_in_iff.mpr ⟨by omega, by omega⟩) dX6_leafOf_5 ?_
  refine lv_topi (fun x_4 ex_4 => ?_)
  have xh_ : x_4 = haS σ hd.toNatClampNeg := ex_4.trans (hR.haI hn0 (by omega))
  have okh_ := hR.ok.2.1 hd.toNatClampNeg (by omega)
  rw [← xh_] at okh_
  unfold okHa at okh_
  refine lv_istore (lv' := [(5, .int x_4), (0, .ref (h 0)), (1, .int hd), (2, .long jj), (4, .int st)]) hx hb dX6_leafOf_6 hl (by decide) rfl (fun ls hl => ?_)
  refine lv_iload hx hb dX6_leafOf_8 (lv_at hl 0 rfl) ?_
  refine lv_if_ge (tgt := 20) hx hb dX6_leafOf_10 (by decide) (fun c_5 => ?_) (fun c_5 => ?_)
  · skip
    have ic_5 : (0 : Int) ≤ x_4.toInt := ic_le kI_0 rfl c_5
    have nh_ : haS σ hd.toNatClampNeg ≠ -3 := fun z_ => by rw [← xh_] at z_; rw [z_] at ic_5; exact absurd ic_5 (by decide)
    have ob_ : hob σ hd.toNatClampNeg = x_4.toNatClampNeg := by unfold hob; rw [xh_]
    have cx_ := ic_clN (rfl : x_4.toInt = _) (by omega)
    refine lv_aload_n hx hb dX6_leafOf_20 rfl (lv_at hl 1 rfl) ?_
    refine lv_iload hx hb dX6_leafOf_21 (lv_at hl 0 rfl) ?_
    have hI : FM G h n T z A hg ver (cqL c0q σ) (feL fe0 c0q σ) tms ca wl wh ac 0 sx σ f := ⟨_, _, hM, hR, hac_1, hth_1⟩
    refine m_gov hH (va_runV (As := [.int x_4]) (rest := []) ⟨hx, hb, hml, hown, hts⟩ (c_X6_load l G h n T z A hg ver c0q fe0 tms ca wl wh ac 0 sx σ f hI hn0 x_4 (by omega)) (cwV 1 hts gX6_leafOf_X6_load rfl rfl rfl (by decide +kernel) ⟨Nat.le_of_ble_eq_true rfl, Nat.le_of_ble_eq_true rfl⟩) (m_preV (ci := 6) hC hH F_2 rfl) rfl rfl hl.1 rfl (lv_room (Nat.le_of_ble_eq_true rfl)) dX6_leafOf_23 ⟨Nat.le_of_ble_eq_true rfl, Nat.le_of_ble_eq_true rfl⟩) (fun rho_8 f_7 H locs hw hH => ?_)
    obtain ⟨hfr1, hI⟩ := hw
    have hfr1 : frM h f f_7 := hfr1
    have hfr := hfr.trans hfr1
    have hI : FM G h n T z A hg ver (cqL c0q (sLd σ x_4.toNatClampNeg)) (feL fe0 c0q (sLd σ x_4.toNatClampNeg)) tms ca wl wh ac 0 sx (sLd σ x_4.toNatClampNeg) f_7 := hI
    obtain ⟨I_9, J_9, hM, hR, hac_9, hth_9⟩ := hI
    have hg_9 := hR.hg40
    have n24_9 := hR.n24
    have tl_9 := len_b hR.ok.2.2.1
    have wl_9 := hR.wl192
    have hgI_9 : (nI hg).toInt = ((hg : Nat) : Int) := nI_toInt (by omega)
    have tmI_9 : (nI ((trS (sLd σ x_4.toNatClampNeg)).length)).toInt = (((trS (sLd σ x_4.toNatClampNeg)).length : Nat) : Int) := nI_toInt (by omega)
    have wmI_9 : (nI wl.length).toInt = ((wl.length : Nat) : Int) := nI_toInt (by omega)
    have acI_9 : (nI ac).toInt = ((ac : Nat) : Int) := nI_toInt (by omega)
    have thI_9 : (nI 0).toInt = ((0 : Nat) : Int) := nI_toInt (by omega)
    have nIn_9 : (nI n).toInt = ((n : Nat) : Int) := nI_toInt (by omega)
    refine lv_lload_n hx hb dX6_leafOf_26 rfl (lv_at hl 3 rfl) ?_
    refine lv_aload_n hx hb dX6_leafOf_27 rfl (lv_at hl 1 rfl) ?_
    have F_10 : f_7 (h 0) = some (.inr (6, [.int (nI n), .ref (h 1), .int (nI hg), .ref (h 3), .ref (h 4), .ref (h 5), .ref (h 6), .int (feL fe0 c0q (sLd σ x_4.toNatClampNeg)), .ref (h 8), .ref (h 9), .ref (h 10), .ref (h 11), .ref (h 12), .ref (h 13), .ref (h 14), .ref (h 15), .int ca, .long (gfS (sLd σ x_4.toNatClampNeg)), .int wh, .int (nI ((trS (sLd σ x_4.toNatClampNeg)).length)), .ref (h 20), .ref (h 21), .int (nI wl.length), .ref (h 23), .ref (h 24), .int (nI ac), .ref (h 26), .ref (h 27), .int (nI 0), .int sx])) := hM.1
    refine m_get (ci := 6) (v := .ref (h 1)) (C := RX6) (T := TX6) (N := 30) hx hb hC hH hts in_X6_leafOf_X6 hown F_10 rfl 1 (by decide) (hts (.fieldLink RX6 7 "LazyStateModel" "types" "[I") (by decide +kernel)) rfl dX6_leafOf_28 ?_
    refine lv_iload hx hb dX6_leafOf_31 (lv_at hl 0 rfl) ?_
    have hg_11 : f_7 (h 1) = some (.inl (gk G 0, 24, .inl (I_9 1))) := hM.2.1 1 (by decide) rfl
    refine m_iald hx hb hC hH hg_11 (vp_in_iff.mpr ⟨by omega, by omega⟩) dX6_leafOf_33 ?_
    refine lv_topi (fun x_12 ex_12 => ?_)
    have ty_x_12 : x_12.toInt = ((T x_4.toNatClampNeg : Nat) : Int) := by rw [ex_12, hR.ty (by omega)]; exact nI_toInt (by have := hR.T3 x_4.toNatClampNeg; omega)
    refine m_goi hH (va_runS (As := [.int x_12]) (rest := [.long jj]) ⟨hx, hb, hml, hown, hts⟩ (c_X6_fieldsOf l G f_7 x_12) (va_cwS 1 hts gX6_leafOf_X6_fieldsOf rfl rfl rfl (by decide +kernel) ⟨Nat.le_of_ble_eq_true rfl, Nat.le_of_ble_eq_true rfl⟩) (m_preS hC hH) rfl rfl hl.1 rfl (lv_room (Nat.le_of_ble_eq_true rfl)) dX6_leafOf_34 ⟨Nat.le_of_ble_eq_true rfl, Nat.le_of_ble_eq_true rfl⟩) (fun r_13 rho_15 f_14 H locs hw hH => ?_)
    obtain ⟨hu, hr_13⟩ := hw
    have hu : f_14 = f_7 := hu
    rw [hu] at hH
    have br_13 : 3 ≤ r_13.toInt ∧ r_13.toInt ≤ 6 := by rw [hr_13]; unfold fldM; (repeat' split) <;> omega
    refine lv_i2l hx hb dX6_leafOf_37 rfl ?_
    refine lv_topl (fun y_16 ey_16 => ?_)
    have iy_16 : y_16.toInt = r_13.toInt := lc_i2l ey_16 rfl
    have gy_16 := ic_rng r_13
    refine W.lcmp hx hb dX6_leafOf_38 ?_
    refine lv_if_lt (tgt := 49) hx hb dX6_leafOf_39 (by decide) (fun c_17 => ?_) (fun c_17 => ?_)
    · skip
      have ic_17 : (jj.toInt : Int) < y_16.toInt := lc_lt rfl rfl ((lg_cmp_lt _ _).mp c_17)
      have sm_ := srt_M (T (hob σ hd.toNatClampNeg)) (hR.T3 _) jj.toInt.toNat (by omega)
      have cj_ : ((jj.toInt.toNat : Nat) : Int) = jj.toInt := by omega
      rw [cj_] at sm_
      rw [ob_] at sm_
      have sn_ : srt (T (hob σ hd.toNatClampNeg)) jj.toInt.toNat ≠ 0 := by rw [ob_]; exact sm_.1.mp (by have hy_ := ty_x_12; rw [hy_] at hr_13; omega)
      refine lv_aload_n hx hb dX6_leafOf_49 rfl (lv_at hl 1 rfl) ?_
      refine m_get (ci := 6) (v := .ref (h 1)) (C := RX6) (T := TX6) (N := 30) hx hb hC hH hts in_X6_leafOf_X6 hown F_10 rfl 1 (by decide) (hts (.fieldLink RX6 7 "LazyStateModel" "types" "[I") (by decide +kernel)) rfl dX6_leafOf_50 ?_
      refine lv_iload hx hb dX6_leafOf_53 (lv_at hl 0 rfl) ?_
      refine m_iald hx hb hC hH hg_11 (vp_in_iff.mpr ⟨by omega, by omega⟩) dX6_leafOf_55 ?_
      refine lv_topi (fun x_18 ex_18 => ?_)
      have ty_x_18 : x_18.toInt = ((T x_4.toNatClampNeg : Nat) : Int) := by rw [ex_18, hR.ty (by omega)]; exact nI_toInt (by have := hR.T3 x_4.toNatClampNeg; omega)
      refine lv_lload_n hx hb dX6_leafOf_56 rfl (lv_at hl 3 rfl) ?_
      refine lv_l2i hx hb dX6_leafOf_57 rfl ?_
      refine lv_topi (fun x_19 ex_19 => ?_)
      have ix_19 : x_19.toInt = jj.toInt := ic_l2i ex_19 rfl (by omega) (by omega)
      have il2_ : x_19.toInt = jj.toInt := ix_19
      refine m_goi hH (va_runS (As := [.int x_18, .int x_19]) (rest := []) ⟨hx, hb, hml, hown, hts⟩ (c_X6_sortOf l G f_7 x_18 x_19) (va_cwS 2 hts gX6_leafOf_X6_sortOf rfl rfl rfl (by decide +kernel) ⟨Nat.le_of_ble_eq_true rfl, Nat.le_of_ble_eq_true rfl⟩) (m_preS hC hH) rfl rfl hl.1 rfl (lv_room (Nat.le_of_ble_eq_true rfl)) dX6_leafOf_58 ⟨Nat.le_of_ble_eq_true rfl, Nat.le_of_ble_eq_true rfl⟩) (fun r_20 rho_22 f_21 H locs hw hH => ?_)
      obtain ⟨hu, hr_20⟩ := hw
      have hu : f_21 = f_7 := hu
      rw [hu] at hH
      refine lv_iload hx hb dX6_leafOf_61 (lv_at hl 4 rfl) ?_
      refine lv_icmp_eq (tgt := 73) hx hb dX6_leafOf_63 (by decide) (fun c_23 => ?_) (fun c_23 => ?_)
      · skip
        have ic_23 : (r_20.toInt : Int) = st.toInt := ic_eq rfl rfl c_23
        have se_ := sm_.2 (by rw [← ob_]; exact sn_)
        have hy2_ := hr_20
        rw [ty_x_18, il2_] at hy2_
        have cst_ := ic_clN (rfl : st.toInt = _) (by omega)
        have sq_ : srt (T (hob σ hd.toNatClampNeg)) jj.toInt.toNat = (st.toNatClampNeg + 1) := by rw [ob_]; omega
        refine lv_bipush (v := 8) hx hb dX6_leafOf_73 (by decide) ?_
        refine lv_iload hx hb dX6_leafOf_75 (lv_at hl 0 rfl) ?_
        refine lv_imul hx hb dX6_leafOf_77 ?_
        refine lv_topi (fun x_24 ex_24 => ?_)
        have ix_24 : x_24.toInt = 8 * x_4.toInt := ic_mul ex_24 kI_8 rfl (by omega) (by omega)
        refine lv_lload_n hx hb dX6_leafOf_78 rfl (lv_at hl 3 rfl) ?_
        refine lv_l2i hx hb dX6_leafOf_79 rfl ?_
        refine lv_topi (fun x_25 ex_25 => ?_)
        have ix_25 : x_25.toInt = jj.toInt := ic_l2i ex_25 rfl (by omega) (by omega)
        refine lv_iadd hx hb dX6_leafOf_80 ?_
        refine lv_topi (fun x_26 ex_26 => ?_)
        have ix_26 : x_26.toInt = x_24.toInt + x_25.toInt := ic_add ex_26 rfl rfl (by omega) (by omega)
        exact m_iret (v := x_26) hx hb hr hlk hC hH (fun _ => (0, 0)) ⟨hfr, by rw [ask_yes nh_ sn_ sq_]; rw [ob_]; exact ⟨_, _, hM, hR, hac_9, by omega⟩, fun _ => (by rw [ob_]; omega), fun z_ => (by rw [ask_yes nh_ sn_ sq_] at z_; exact absurd rfl z_)⟩ (Nat.le_of_ble_eq_true rfl) (Nat.le_of_ble_eq_true rfl) dX6_leafOf_81
      · skip
        have ic_23 : (r_20.toInt : Int) ≠ st.toInt := ic_ne rfl rfl c_23
        have se_ := sm_.2 (by rw [← ob_]; exact sn_)
        have hy2_ := hr_20
        rw [ty_x_18, il2_] at hy2_
        have cst_ := ic_clN (rfl : st.toInt = _) (by omega)
        have sq_ : srt (T (hob σ hd.toNatClampNeg)) jj.toInt.toNat ≠ (st.toNatClampNeg + 1) := by rw [ob_]; omega
        refine lv_aload_n hx hb dX6_leafOf_66 rfl (lv_at hl 1 rfl) ?_
        refine lv_iconst (v := 2) hx hb dX6_leafOf_67 (by decide) ?_
        refine m_put (ci := 6) (v := .int 2) (C := RX6) (T := TX6) (N := 30) hx hb hC hH hts in_X6_leafOf_X6 tyX6 tyX6_ok nmX6 hown F_10 rfl 28 (by decide) (hts (.fieldLink RX6 155 "LazyStateModel" "threw" "I") (by decide +kernel)) rfl rfl rfl (Nat.le_of_ble_eq_true rfl) dX6_leafOf_68 (fun H locs hH => ?_)
        have hH : mH G s (va_up f_7 (h 0) (some (.inr (6, [.int (nI n), .ref (h 1), .int (nI hg), .ref (h 3), .ref (h 4), .ref (h 5), .ref (h 6), .int (feL fe0 c0q (sLd σ x_4.toNatClampNeg)), .ref (h 8), .ref (h 9), .ref (h 10), .ref (h 11), .ref (h 12), .ref (h 13), .ref (h 14), .ref (h 15), .int ca, .long (gfS (sLd σ x_4.toNatClampNeg)), .int wh, .int (nI ((trS (sLd σ x_4.toNatClampNeg)).length)), .ref (h 20), .ref (h 21), .int (nI wl.length), .ref (h 23), .ref (h 24), .int (nI ac), .ref (h 26), .ref (h 27), .int 2, .int sx])))) H locs := hH
        obtain ⟨f_27, ef_27⟩ : ∃ zz_ : mF, zz_ = va_up f_7 (h 0) (some (.inr (6, [.int (nI n), .ref (h 1), .int (nI hg), .ref (h 3), .ref (h 4), .ref (h 5), .ref (h 6), .int (feL fe0 c0q (sLd σ x_4.toNatClampNeg)), .ref (h 8), .ref (h 9), .ref (h 10), .ref (h 11), .ref (h 12), .ref (h 13), .ref (h 14), .ref (h 15), .int ca, .long (gfS (sLd σ x_4.toNatClampNeg)), .int wh, .int (nI ((trS (sLd σ x_4.toNatClampNeg)).length)), .ref (h 20), .ref (h 21), .int (nI wl.length), .ref (h 23), .ref (h 24), .int (nI ac), .ref (h 26), .ref (h 27), .int 2, .int sx]))) := ⟨_, rfl⟩
        rw [← ef_27] at hH
        have hM : MEM G h n (nI hg, (feL fe0 c0q (sLd σ x_4.toNatClampNeg)), ca, (gfS (sLd σ x_4.toNatClampNeg)), wh, nI ((trS (sLd σ x_4.toNatClampNeg)).length), nI wl.length, nI ac, 2, sx) I_9 J_9 f_27 := hM.set0 ef_27
        have hfr := hfr.up 0 (by decide) ef_27
        refine lv_iconst (v := (-1)) hx hb dX6_leafOf_71 (by decide) ?_
        exact m_iret (v := (-1)) hx hb hr hlk hC hH (fun _ => (0, 0)) ⟨hfr, by rw [ask_cast nh_ sn_ sq_]; rw [ob_]; exact ⟨_, _, hM, hR, hac_9, by omega⟩, fun z_ => (by rw [ask_cast nh_ sn_ sq_] at z_; cases z_), fun _ => kI_m1⟩ (Nat.le_of_ble_eq_true rfl) (Nat.le_of_ble_eq_true rfl) dX6_leafOf_72
    · skip
      have ic_17 : (jj.toInt : Int) ≥ y_16.toInt := lc_nlt rfl rfl (fun q_ => c_17 ((lg_cmp_lt _ _).mpr q_))
      have sm_ := srt_M (T (hob σ hd.toNatClampNeg)) (hR.T3 _) jj.toInt.toNat (by omega)
      have cj_ : ((jj.toInt.toNat : Nat) : Int) = jj.toInt := by omega
      rw [cj_] at sm_
      rw [ob_] at sm_
      have sa_ : srt (T (hob σ hd.toNatClampNeg)) jj.toInt.toNat = 0 := Decidable.byContradiction (fun z_ => by rw [ob_] at z_; have := sm_.1.mpr z_; have hy_ := ty_x_12; rw [hy_] at hr_13; omega)
      refine lv_aload_n hx hb dX6_leafOf_42 rfl (lv_at hl 1 rfl) ?_
      refine lv_iconst (v := 3) hx hb dX6_leafOf_43 (by decide) ?_
      refine m_put (ci := 6) (v := .int 3) (C := RX6) (T := TX6) (N := 30) hx hb hC hH hts in_X6_leafOf_X6 tyX6 tyX6_ok nmX6 hown F_10 rfl 28 (by decide) (hts (.fieldLink RX6 155 "LazyStateModel" "threw" "I") (by decide +kernel)) rfl rfl rfl (Nat.le_of_ble_eq_true rfl) dX6_leafOf_44 (fun H locs hH => ?_)
      have hH : mH G s (va_up f_7 (h 0) (some (.inr (6, [.int (nI n), .ref (h 1), .int (nI hg), .ref (h 3), .ref (h 4), .ref (h 5), .ref (h 6), .int (feL fe0 c0q (sLd σ x_4.toNatClampNeg)), .ref (h 8), .ref (h 9), .ref (h 10), .ref (h 11), .ref (h 12), .ref (h 13), .ref (h 14), .ref (h 15), .int ca, .long (gfS (sLd σ x_4.toNatClampNeg)), .int wh, .int (nI ((trS (sLd σ x_4.toNatClampNeg)).length)), .ref (h 20), .ref (h 21), .int (nI wl.length), .ref (h 23), .ref (h 24), .int (nI ac), .ref (h 26), .ref (h 27), .int 3, .int sx])))) H locs := hH
      obtain ⟨f_28, ef_28⟩ : ∃ zz_ : mF, zz_ = va_up f_7 (h 0) (some (.inr (6, [.int (nI n), .ref (h 1), .int (nI hg), .ref (h 3), .ref (h 4), .ref (h 5), .ref (h 6), .int (feL fe0 c0q (sLd σ x_4.toNatClampNeg)), .ref (h 8), .ref (h 9), .ref (h 10), .ref (h 11), .ref (h 12), .ref (h 13), .ref (h 14), .ref (h 15), .int ca, .long (gfS (sLd σ x_4.toNatClampNeg)), .int wh, .int (nI ((trS (sLd σ x_4.toNatClampNeg)).length)), .ref (h 20), .ref (h 21), .int (nI wl.length), .ref (h 23), .ref (h 24), .int (nI ac), .ref (h 26), .ref (h 27), .int 3, .int sx]))) := ⟨_, rfl⟩
      rw [← ef_28] at hH
      have hM : MEM G h n (nI hg, (feL fe0 c0q (sLd σ x_4.toNatClampNeg)), ca, (gfS (sLd σ x_4.toNatClampNeg)), wh, nI ((trS (sLd σ x_4.toNatClampNeg)).length), nI wl.length, nI ac, 3, sx) I_9 J_9 f_28 := hM.set0 ef_28
      have hfr := hfr.up 0 (by decide) ef_28
      refine lv_iconst (v := (-1)) hx hb dX6_leafOf_47 (by decide) ?_
      exact m_iret (v := (-1)) hx hb hr hlk hC hH (fun _ => (0, 0)) ⟨hfr, by rw [ask_abs nh_ sa_]; rw [ob_]; exact ⟨_, _, hM, hR, hac_9, by omega⟩, fun z_ => (by rw [ask_abs nh_ sa_] at z_; cases z_), fun _ => kI_m1⟩ (Nat.le_of_ble_eq_true rfl) (Nat.le_of_ble_eq_true rfl) dX6_leafOf_48
  · skip
    have ic_5 : (0 : Int) > x_4.toInt := ic_nle kI_0 rfl c_5
    have ng_ : haS σ hd.toNatClampNeg = -3 := by rw [← xh_]; exact Int32.toInt_inj.mp (by have : (-3 : Int32).toInt = -3 := (by decide); omega)
    refine lv_aload_n hx hb dX6_leafOf_13 rfl (lv_at hl 1 rfl) ?_
    refine lv_iconst (v := 1) hx hb dX6_leafOf_14 (by decide) ?_
    refine m_put (ci := 6) (v := .int 1) (C := RX6) (T := TX6) (N := 30) hx hb hC hH hts in_X6_leafOf_X6 tyX6 tyX6_ok nmX6 hown F_2 rfl 28 (by decide) (hts (.fieldLink RX6 155 "LazyStateModel" "threw" "I") (by decide +kernel)) rfl rfl rfl (Nat.le_of_ble_eq_true rfl) dX6_leafOf_15 (fun H locs hH => ?_)
    have hH : mH G s (va_up f (h 0) (some (.inr (6, [.int (nI n), .ref (h 1), .int (nI hg), .ref (h 3), .ref (h 4), .ref (h 5), .ref (h 6), .int (feL fe0 c0q σ), .ref (h 8), .ref (h 9), .ref (h 10), .ref (h 11), .ref (h 12), .ref (h 13), .ref (h 14), .ref (h 15), .int ca, .long (gfS σ), .int wh, .int (nI ((trS σ).length)), .ref (h 20), .ref (h 21), .int (nI wl.length), .ref (h 23), .ref (h 24), .int (nI ac), .ref (h 26), .ref (h 27), .int 1, .int sx])))) H locs := hH
    obtain ⟨f_29, ef_29⟩ : ∃ zz_ : mF, zz_ = va_up f (h 0) (some (.inr (6, [.int (nI n), .ref (h 1), .int (nI hg), .ref (h 3), .ref (h 4), .ref (h 5), .ref (h 6), .int (feL fe0 c0q σ), .ref (h 8), .ref (h 9), .ref (h 10), .ref (h 11), .ref (h 12), .ref (h 13), .ref (h 14), .ref (h 15), .int ca, .long (gfS σ), .int wh, .int (nI ((trS σ).length)), .ref (h 20), .ref (h 21), .int (nI wl.length), .ref (h 23), .ref (h 24), .int (nI ac), .ref (h 26), .ref (h 27), .int 1, .int sx]))) := ⟨_, rfl⟩
    rw [← ef_29] at hH
    have hM : MEM G h n (nI hg, (feL fe0 c0q σ), ca, (gfS σ), wh, nI ((trS σ).length), nI wl.length, nI ac, 1, sx) I_1 J_1 f_29 := hM.set0 ef_29
    have hfr := hfr.up 0 (by decide) ef_29
    refine lv_iconst (v := (-1)) hx hb dX6_leafOf_18 (by decide) ?_
    exact m_iret (v := (-1)) hx hb hr hlk hC hH (fun _ => (0, 0)) ⟨hfr, by rw [ask_neg ng_]; exact ⟨_, _, hM, hR, hac_1, by omega⟩, fun z_ => (by rw [ask_neg ng_] at z_; cases z_), fun _ => kI_m1⟩ (Nat.le_of_ble_eq_true rfl) (Nat.le_of_ble_eq_true rfl) dX6_leafOf_19
set_option maxHeartbeats 4000000 in
set_option maxRecDepth 100000 in
theorem c_X6_readLeaf (l : Launch) (G : mG) (h : Nat → Nat) (n : Nat) (T z : Nat → Nat) (A : Nat → tA) (hg : Nat) (ver : Nat → Nat → tB) (c0q : Nat → Bool) (fe0 : Int32) (tms : Nat → Int32) (ca : Int32) (wl : List Nat) (wh : Int32) (ac : Nat) (sx : Int32) (σ : tS) (f : mF) (hI : FM G h n T z A hg ver (cqL c0q σ) (feL fe0 c0q σ) tms ca wl wh ac 0 sx σ f) (hn0 : 0 < n) (hd : Int32) (jj : Int64) (st : Int32) (hh_ : 0 ≤ hd.toInt ∧ hd.toInt < 4) (hj0 : 0 ≤ jj.toInt ∧ jj.toInt < 8) (hst_ : 0 ≤ st.toInt ∧ st.toInt ≤ 2) : Met l yX6_readLeaf wsX6_readLeaf ({ frames := 2, cells := 0, slots := 0, locals := 46 }) (va_Pc [.ref (h 0), .int hd, .long jj, .int st] (mW G f)) (va_Qi (fun (r : Int32) (u : mS) => frM h f u.2 ∧ FM G h n T z A hg ver (cqL c0q ((thn (ask T σ hd.toNatClampNeg jj.toInt.toNat (st.toNatClampNeg + 1)) (fun s1 => (0, rdL s1 hd.toNatClampNeg jj.toInt.toNat))).2)) (feL fe0 c0q ((thn (ask T σ hd.toNatClampNeg jj.toInt.toNat (st.toNatClampNeg + 1)) (fun s1 => (0, rdL s1 hd.toNatClampNeg jj.toInt.toNat))).2)) tms ca wl wh ac ((ask T σ hd.toNatClampNeg jj.toInt.toNat (st.toNatClampNeg + 1)).1) sx ((thn (ask T σ hd.toNatClampNeg jj.toInt.toNat (st.toNatClampNeg + 1)) (fun s1 => (0, rdL s1 hd.toNatClampNeg jj.toInt.toNat))).2) u.2 ∧ ((ask T σ hd.toNatClampNeg jj.toInt.toNat (st.toNatClampNeg + 1)).1 = 0 → r.toInt = 8 * ((hob σ hd.toNatClampNeg : Nat) : Int) + ((jj.toInt.toNat : Nat) : Int)) ∧ ((ask T σ hd.toNatClampNeg jj.toInt.toNat (st.toNatClampNeg + 1)).1 ≠ 0 → r.toInt = -1)) (fun (u : mS) t => mW G u.2 t) (mA G)) 0 0 (mA G) := by
  refine mMet [.ref (h 0), .int hd, .long jj, .int st] (cc := cX6_readLeaf) (maxL := 6) (ret := (some .int)) (by decide) rfl (Nat.le_of_ble_eq_true rfl) ?_
  intro p e s m below meth c ls hx hb hr hml hts hown hlk hnm hC hH hl
  have hl : lv_has ls 6 [(0, .ref (h 0)), (1, .int hd), (2, .long jj), (4, .int st)] := hl
  have hI0_ := hI
  have hfr : frM h f f := frM.rf
  have cl_hd := ic_clN (rfl : hd.toInt = _) (by omega)
  obtain ⟨I_1, J_1, hM, hR, hac_1, hth_1⟩ := hI
  have hg_1 := hR.hg40
  have n24_1 := hR.n24
  have tl_1 := len_b hR.ok.2.2.1
  have wl_1 := hR.wl192
  have hgI_1 : (nI hg).toInt = ((hg : Nat) : Int) := nI_toInt (by omega)
  have tmI_1 : (nI ((trS σ).length)).toInt = (((trS σ).length : Nat) : Int) := nI_toInt (by omega)
  have wmI_1 : (nI wl.length).toInt = ((wl.length : Nat) : Int) := nI_toInt (by omega)
  have acI_1 : (nI ac).toInt = ((ac : Nat) : Int) := nI_toInt (by omega)
  have thI_1 : (nI 0).toInt = ((0 : Nat) : Int) := nI_toInt (by omega)
  have nIn_1 : (nI n).toInt = ((n : Nat) : Int) := nI_toInt (by omega)
  have hR0_ := hR.ok
  refine lv_aload_n hx hb dX6_readLeaf_0 rfl (lv_at hl 0 rfl) ?_
  refine lv_iload_n hx hb dX6_readLeaf_1 rfl (lv_at hl 1 rfl) ?_
  refine lv_lload_n hx hb dX6_readLeaf_2 rfl (lv_at hl 2 rfl) ?_
  refine lv_iload hx hb dX6_readLeaf_3 (lv_at hl 3 rfl) ?_
  have F_2 : f (h 0) = some (.inr (6, [.int (nI n), .ref (h 1), .int (nI hg), .ref (h 3), .ref (h 4), .ref (h 5), .ref (h 6), .int (feL fe0 c0q σ), .ref (h 8), .ref (h 9), .ref (h 10), .ref (h 11), .ref (h 12), .ref (h 13), .ref (h 14), .ref (h 15), .int ca, .long (gfS σ), .int wh, .int (nI ((trS σ).length)), .ref (h 20), .ref (h 21), .int (nI wl.length), .ref (h 23), .ref (h 24), .int (nI ac), .ref (h 26), .ref (h 27), .int (nI 0), .int sx])) := hM.1
  have hI : FM G h n T z A hg ver (cqL c0q σ) (feL fe0 c0q σ) tms ca wl wh ac 0 sx σ f := ⟨_, _, hM, hR, hac_1, hth_1⟩
  refine m_goi hH (va_runV (As := [.int hd, .long jj, .int st]) (rest := []) ⟨hx, hb, hml, hown, hts⟩ (c_X6_leafOf l G h n T z A hg ver c0q fe0 tms ca wl wh ac sx σ f hI hn0 hd jj st (by omega) (by omega) (by omega)) (cwV 3 hts gX6_readLeaf_X6_leafOf rfl rfl rfl (by decide +kernel) ⟨Nat.le_of_ble_eq_true rfl, Nat.le_of_ble_eq_true rfl⟩) (m_preV (ci := 6) hC hH F_2 rfl) rfl rfl hl.1 rfl (lv_room (Nat.le_of_ble_eq_true rfl)) dX6_readLeaf_5 ⟨Nat.le_of_ble_eq_true rfl, Nat.le_of_ble_eq_true rfl⟩) (fun r_3 rho_5 f_4 H locs hw hH => ?_)
  obtain ⟨hfr1, hI, hr_3⟩ := hw
  have hfr1 : frM h f f_4 := hfr1
  have hfr := hfr.trans hfr1
  have hI : FM G h n T z A hg ver (cqL c0q ((ask T σ hd.toNatClampNeg jj.toInt.toNat (st.toNatClampNeg + 1)).2)) (feL fe0 c0q ((ask T σ hd.toNatClampNeg jj.toInt.toNat (st.toNatClampNeg + 1)).2)) tms ca wl wh ac ((ask T σ hd.toNatClampNeg jj.toInt.toNat (st.toNatClampNeg + 1)).1) sx ((ask T σ hd.toNatClampNeg jj.toInt.toNat (st.toNatClampNeg + 1)).2) f_4 := hI
  try dsimp only at hr_3
  obtain ⟨I_6, J_6, hM, hR, hac_6, hth_6⟩ := hI
  have hg_6 := hR.hg40
  have n24_6 := hR.n24
  have tl_6 := len_b hR.ok.2.2.1
  have wl_6 := hR.wl192
  have hgI_6 : (nI hg).toInt = ((hg : Nat) : Int) := nI_toInt (by omega)
  have tmI_6 : (nI ((trS ((ask T σ hd.toNatClampNeg jj.toInt.toNat (st.toNatClampNeg + 1)).2)).length)).toInt = (((trS ((ask T σ hd.toNatClampNeg jj.toInt.toNat (st.toNatClampNeg + 1)).2)).length : Nat) : Int) := nI_toInt (by omega)
  have wmI_6 : (nI wl.length).toInt = ((wl.length : Nat) : Int) := nI_toInt (by omega)
  have acI_6 : (nI ac).toInt = ((ac : Nat) : Int) := nI_toInt (by omega)
  have thI_6 : (nI ((ask T σ hd.toNatClampNeg jj.toInt.toNat (st.toNatClampNeg + 1)).1)).toInt = (((ask T σ hd.toNatClampNeg jj.toInt.toNat (st.toNatClampNeg + 1)).1 : Nat) : Int) := nI_toInt (by omega)
  have nIn_6 : (nI n).toInt = ((n : Nat) : Int) := nI_toInt (by omega)
  refine lv_istore (lv' := [(5, .int r_3), (0, .ref (h 0)), (1, .int hd), (2, .long jj), (4, .int st)]) hx hb dX6_readLeaf_8 hl (by decide) rfl (fun ls hl => ?_)
  refine lv_iload hx hb dX6_readLeaf_10 (lv_at hl 0 rfl) ?_
  refine lv_if_lt (tgt := 22) hx hb dX6_readLeaf_12 (by decide) (fun c_7 => ?_) (fun c_7 => ?_)
  · skip
    have ic_7 : (r_3.toInt : Int) < 0 := ic_lt rfl kI_0 c_7
    have a0_ : (ask T σ hd.toNatClampNeg jj.toInt.toNat (st.toNatClampNeg + 1)).1 ≠ 0 := fun z_ => by have := hr_3.1 z_; omega
    refine lv_iload hx hb dX6_readLeaf_22 (lv_at hl 0 rfl) ?_
    exact m_iret (v := r_3) hx hb hr hlk hC hH (fun _ => (0, 0)) ⟨hfr, by rw [thn_1 a0_]; exact ⟨_, _, hM, hR, hac_6, hth_6⟩, fun z_ => absurd z_ a0_, fun _ => by have := hr_3.2 a0_; omega⟩ (Nat.le_of_ble_eq_true rfl) (Nat.le_of_ble_eq_true rfl) dX6_readLeaf_24
  · skip
    have ic_7 : (r_3.toInt : Int) ≥ 0 := ic_nlt rfl kI_0 c_7
    have a0_ : (ask T σ hd.toNatClampNeg jj.toInt.toNat (st.toNatClampNeg + 1)).1 = 0 := Decidable.byContradiction (fun z_ => by have := hr_3.2 z_; omega)
    have rv_ := hr_3.1 a0_
    have on_ := ask_n hR0_ (by omega) a0_
    refine lv_aload_n hx hb dX6_readLeaf_15 rfl (lv_at hl 1 rfl) ?_
    refine lv_iload hx hb dX6_readLeaf_16 (lv_at hl 0 rfl) ?_
    refine lv_iconst (v := 0) hx hb dX6_readLeaf_18 (by decide) ?_
    have F_8 : f_4 (h 0) = some (.inr (6, [.int (nI n), .ref (h 1), .int (nI hg), .ref (h 3), .ref (h 4), .ref (h 5), .ref (h 6), .int (feL fe0 c0q ((ask T σ hd.toNatClampNeg jj.toInt.toNat (st.toNatClampNeg + 1)).2)), .ref (h 8), .ref (h 9), .ref (h 10), .ref (h 11), .ref (h 12), .ref (h 13), .ref (h 14), .ref (h 15), .int ca, .long (gfS ((ask T σ hd.toNatClampNeg jj.toInt.toNat (st.toNatClampNeg + 1)).2)), .int wh, .int (nI ((trS ((ask T σ hd.toNatClampNeg jj.toInt.toNat (st.toNatClampNeg + 1)).2)).length)), .ref (h 20), .ref (h 21), .int (nI wl.length), .ref (h 23), .ref (h 24), .int (nI ac), .ref (h 26), .ref (h 27), .int (nI ((ask T σ hd.toNatClampNeg jj.toInt.toNat (st.toNatClampNeg + 1)).1)), .int sx])) := hM.1
    have hI : FM G h n T z A hg ver (cqL c0q ((ask T σ hd.toNatClampNeg jj.toInt.toNat (st.toNatClampNeg + 1)).2)) (feL fe0 c0q ((ask T σ hd.toNatClampNeg jj.toInt.toNat (st.toNatClampNeg + 1)).2)) tms ca wl wh ac ((ask T σ hd.toNatClampNeg jj.toInt.toNat (st.toNatClampNeg + 1)).1) sx ((ask T σ hd.toNatClampNeg jj.toInt.toNat (st.toNatClampNeg + 1)).2) f_4 := ⟨_, _, hM, hR, hac_6, hth_6⟩
    refine m_gov hH (va_runV (As := [.int r_3, .int 0]) (rest := []) ⟨hx, hb, hml, hown, hts⟩ (c_X6_touch l G h n T z A hg ver c0q fe0 tms ca wl wh ac ((ask T σ hd.toNatClampNeg jj.toInt.toNat (st.toNatClampNeg + 1)).1) sx ((ask T σ hd.toNatClampNeg jj.toInt.toNat (st.toNatClampNeg + 1)).2) f_4 hI hn0 r_3 0 (by have := kI_0; omega) (by have := kI_0; omega)) (cwV 2 hts gX6_readLeaf_X6_touch rfl rfl rfl (by decide +kernel) ⟨Nat.le_of_ble_eq_true rfl, Nat.le_of_ble_eq_true rfl⟩) (m_preV (ci := 6) hC hH F_8 rfl) rfl rfl hl.1 rfl (lv_room (Nat.le_of_ble_eq_true rfl)) dX6_readLeaf_19 ⟨Nat.le_of_ble_eq_true rfl, Nat.le_of_ble_eq_true rfl⟩) (fun rho_11 f_10 H locs hw hH => ?_)
    obtain ⟨hfr1, hI⟩ := hw
    have hfr1 : frM h f_4 f_10 := hfr1
    have hfr := hfr.trans hfr1
    have hI : FM G h n T z A hg ver (cqL c0q (sTc ((ask T σ hd.toNatClampNeg jj.toInt.toNat (st.toNatClampNeg + 1)).2) (2 * r_3.toNatClampNeg + (0 : Int32).toNatClampNeg))) (feL fe0 c0q (sTc ((ask T σ hd.toNatClampNeg jj.toInt.toNat (st.toNatClampNeg + 1)).2) (2 * r_3.toNatClampNeg + (0 : Int32).toNatClampNeg))) tms ca wl wh ac ((ask T σ hd.toNatClampNeg jj.toInt.toNat (st.toNatClampNeg + 1)).1) sx (sTc ((ask T σ hd.toNatClampNeg jj.toInt.toNat (st.toNatClampNeg + 1)).2) (2 * r_3.toNatClampNeg + (0 : Int32).toNatClampNeg)) f_10 := hI
    obtain ⟨I_12, J_12, hM, hR, hac_12, hth_12⟩ := hI
    have hg_12 := hR.hg40
    have n24_12 := hR.n24
    have tl_12 := len_b hR.ok.2.2.1
    have wl_12 := hR.wl192
    have hgI_12 : (nI hg).toInt = ((hg : Nat) : Int) := nI_toInt (by omega)
    have tmI_12 : (nI ((trS (sTc ((ask T σ hd.toNatClampNeg jj.toInt.toNat (st.toNatClampNeg + 1)).2) (2 * r_3.toNatClampNeg + (0 : Int32).toNatClampNeg))).length)).toInt = (((trS (sTc ((ask T σ hd.toNatClampNeg jj.toInt.toNat (st.toNatClampNeg + 1)).2) (2 * r_3.toNatClampNeg + (0 : Int32).toNatClampNeg))).length : Nat) : Int) := nI_toInt (by omega)
    have wmI_12 : (nI wl.length).toInt = ((wl.length : Nat) : Int) := nI_toInt (by omega)
    have acI_12 : (nI ac).toInt = ((ac : Nat) : Int) := nI_toInt (by omega)
    have thI_12 : (nI ((ask T σ hd.toNatClampNeg jj.toInt.toNat (st.toNatClampNeg + 1)).1)).toInt = (((ask T σ hd.toNatClampNeg jj.toInt.toNat (st.toNatClampNeg + 1)).1 : Nat) : Int) := nI_toInt (by omega)
    have nIn_12 : (nI n).toInt = ((n : Nat) : Int) := nI_toInt (by omega)
    refine lv_iload hx hb dX6_readLeaf_22 (lv_at hl 0 rfl) ?_
    exact m_iret (v := r_3) hx hb hr hlk hC hH (fun _ => (0, 0)) ⟨hfr, by rw [thn_0 a0_]; rw [show (rdL (ask T σ hd.toNatClampNeg jj.toInt.toNat (st.toNatClampNeg + 1)).2 hd.toNatClampNeg jj.toInt.toNat) = (sTc ((ask T σ hd.toNatClampNeg jj.toInt.toNat (st.toNatClampNeg + 1)).2) (2 * r_3.toNatClampNeg + (0 : Int32).toNatClampNeg)) from rd_eq rv_ (by omega) hob_ask]; exact ⟨_, _, hM, hR, hac_12, hth_12⟩, fun _ => rv_, fun z_ => absurd a0_ z_⟩ (Nat.le_of_ble_eq_true rfl) (Nat.le_of_ble_eq_true rfl) dX6_readLeaf_24
