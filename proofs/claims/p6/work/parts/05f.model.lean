set_option maxHeartbeats 4000000 in
set_option maxRecDepth 100000 in
theorem c_X6_fieldActs (l : Launch) (G : mG) (h : Nat → Nat) (n : Nat) (T : Nat → Int32) (z : Nat → Nat) (A : Nat → tA) (f : mF) (hI : IM G h n T z A f) (hn0 : 0 < n) (kk : Int32) (K : Nat) (hv : vld z K) (hk : kk.toInt = K) (hd : (A K).1.toInt = 4 ∨ (A K).1.toInt = 5 ∨ (A K).1.toInt = 6 ∨ (A K).1.toInt = 7 ∨ (A K).1.toInt = 12 ∨ (A K).1.toInt = 13) : Met l yX6_fieldActs wsX6_fieldActs ({ frames := 3, cells := 0, slots := 0, locals := 71 }) (va_Pc [.ref (h 0), .int kk] (mW G f)) (va_Qv (fun (u : mS) => IM G h n T z A u.2 ∧ frM h f u.2 ∧ kpM h f u.2) (fun (u : mS) t => mW G u.2 t) (mA G)) 0 0 (mA G) := by
  refine mMet [.ref (h 0), .int kk] (cc := cX6_fieldActs) (maxL := 7) (ret := none) (by decide) rfl (Nat.le_of_ble_eq_true rfl) ?_
  intro p e s m below meth c ls hx hb hr hml hts hown hlk hnm hC hH hl
  have hl : lv_has ls 7 [(0, .ref (h 0)), (1, .int kk)] := hl
  have hj := hI.2.2.1
  have hn24 := hI.2.2.2.1
  have nIn : (nI n).toInt = (n : Int) := nI_toInt (by omega)
  have hfr : frM h f f := frM.rf
  have hkp : kpM h f f := kpM.rf
  have hK192 := hv.1
  have kcl : kk.toNatClampNeg = K := by have := ic_clN hk (by omega); omega
  obtain ⟨κ, hκ, eκ, f0_, f1_, f2_, f3_, f4_⟩ := hI.actAt hv
  have iκ : (A K).1.toInt = κ := ic_nI eκ (by omega)
  refine lv_aload_n hx hb dX6_fieldActs_0 rfl (lv_at hl 0 rfl) ?_
  obtain ⟨he_1, fe_1, ca_1, ga_1, wh_1, tm_1, wm_1, ac_1, th_1, st_1, F_1, b1_1, b2_1, b3_1, b4_1, b5_1, b6_1, b7_1, b8_1⟩ : okM0 h n (f (h 0)) := hI.1 0 (by decide)
  refine m_get (ci := 6) (v := .ref (h 11)) (C := RX6) (T := TX6) (N := 30) hx hb hC hH hts in_X6_fieldActs_X6 hown F_1 rfl 11 (by decide) (hts (.fieldLink RX6 37 "LazyStateModel" "as" "[I") (by decide +kernel)) rfl dX6_fieldActs_1 ?_
  refine lv_iload_n hx hb dX6_fieldActs_4 rfl (lv_at hl 1 rfl) ?_
  obtain ⟨g_2, hg_2, hp_2⟩ : okI G 0 192 (fun g => ∀ k, vld z k → g k = (A k).2.1) (f (h 11)) := hI.1 11 (by decide)
  refine m_iald hx hb hC hH hg_2 (vp_in_iff.mpr ⟨by omega, by omega⟩) dX6_fieldActs_5 ?_
  refine lv_topi (fun x_3 ex_3 => ?_)
  have tx_3 : x_3.toInt = (A K).2.1.toInt := by rw [ex_3, kcl, hp_2 K hv]
  refine lv_istore_n (lv' := [(2, .int x_3), (0, .ref (h 0)), (1, .int kk)]) hx hb dX6_fieldActs_6 rfl hl (by decide) rfl (fun ls hl => ?_)
  refine lv_aload_n hx hb dX6_fieldActs_7 rfl (lv_at hl 1 rfl) ?_
  refine m_get (ci := 6) (v := .ref (h 12)) (C := RX6) (T := TX6) (N := 30) hx hb hC hH hts in_X6_fieldActs_X6 hown F_1 rfl 12 (by decide) (hts (.fieldLink RX6 40 "LazyStateModel" "bs" "[J") (by decide +kernel)) rfl dX6_fieldActs_8 ?_
  refine lv_iload_n hx hb dX6_fieldActs_11 rfl (lv_at hl 2 rfl) ?_
  obtain ⟨g_4, hg_4, hp_4⟩ : okJ G 192 (fun g => ∀ k, vld z k → g k = (A k).2.2.1) (f (h 12)) := hI.1 12 (by decide)
  refine m_lald hx hb hC hH hg_4 (vp_in_iff.mpr ⟨by omega, by omega⟩) dX6_fieldActs_12 ?_
  refine lv_topl (fun y_5 ey_5 => ?_)
  have ty_5 : y_5.toInt = (A K).2.2.1.toInt := by rw [ey_5, kcl, hp_4 K hv]
  refine lv_lstore_n (lv' := [(3, .long y_5), (2, .int x_3), (0, .ref (h 0)), (1, .int kk)]) hx hb dX6_fieldActs_13 rfl hl (by decide) rfl (fun ls hl => ?_)
  refine lv_aload_n hx hb dX6_fieldActs_14 rfl (lv_at hl 2 rfl) ?_
  refine m_get (ci := 6) (v := .ref (h 13)) (C := RX6) (T := TX6) (N := 30) hx hb hC hH hts in_X6_fieldActs_X6 hown F_1 rfl 13 (by decide) (hts (.fieldLink RX6 43 "LazyStateModel" "cs" "[I") (by decide +kernel)) rfl dX6_fieldActs_15 ?_
  refine lv_iload_n hx hb dX6_fieldActs_18 rfl (lv_at hl 3 rfl) ?_
  obtain ⟨g_6, hg_6, hp_6⟩ : okI G 0 192 (fun g => ∀ k, vld z k → g k = (A k).2.2.2.1) (f (h 13)) := hI.1 13 (by decide)
  refine m_iald hx hb hC hH hg_6 (vp_in_iff.mpr ⟨by omega, by omega⟩) dX6_fieldActs_19 ?_
  refine lv_topi (fun x_7 ex_7 => ?_)
  have tx_7 : x_7.toInt = (A K).2.2.2.1.toInt := by rw [ex_7, kcl, hp_6 K hv]
  refine lv_istore (lv' := [(5, .int x_7), (3, .long y_5), (2, .int x_3), (0, .ref (h 0)), (1, .int kk)]) hx hb dX6_fieldActs_20 hl (by decide) rfl (fun ls hl => ?_)
  refine lv_aload_n hx hb dX6_fieldActs_22 rfl (lv_at hl 3 rfl) ?_
  refine m_get (ci := 6) (v := .ref (h 10)) (C := RX6) (T := TX6) (N := 30) hx hb hC hH hts in_X6_fieldActs_X6 hown F_1 rfl 10 (by decide) (hts (.fieldLink RX6 34 "LazyStateModel" "kinds" "[I") (by decide +kernel)) rfl dX6_fieldActs_23 ?_
  refine lv_iload_n hx hb dX6_fieldActs_26 rfl (lv_at hl 4 rfl) ?_
  obtain ⟨g_8, hg_8, hp_8⟩ : okI G 0 192 (fun g => ∀ k, vld z k → g k = (A k).1) (f (h 10)) := hI.1 10 (by decide)
  refine m_iald hx hb hC hH hg_8 (vp_in_iff.mpr ⟨by omega, by omega⟩) dX6_fieldActs_27 ?_
  refine lv_topi (fun x_9 ex_9 => ?_)
  have tx_9 : x_9.toInt = (A K).1.toInt := by rw [ex_9, kcl, hp_8 K hv]
  have hk_10 : (x_9.toInt < 4 ∨ 12 < x_9.toInt) ∨ x_9.toInt = 4 ∨ x_9.toInt = 5 ∨ x_9.toInt = 6 ∨ x_9.toInt = 7 ∨ x_9.toInt = 8 ∨ x_9.toInt = 9 ∨ x_9.toInt = 10 ∨ x_9.toInt = 11 ∨ x_9.toInt = 12 := by omega
  rcases hk_10 with hk_10 | hk_10 | hk_10 | hk_10 | hk_10 | hk_10 | hk_10 | hk_10 | hk_10 | hk_10
  · skip
    have hv_ : κ = 13 := by omega
    subst hv_
    have g0_ := fit_get (m := 3) rfl (by decide) kI_3 f0_
    have g1_ := fit_get (m := 3) rfl (by decide) kI_3 f1_
    have g2_ := fit_get (m := 3) rfl (by decide) kI_3 f2_
    refine lv_tableOut (tgt := 285) hx hb dX6_fieldActs_28 hk_10 (by decide) ?_
    refine lv_aload_n hx hb dX6_fieldActs_285 rfl (lv_at hl 3 rfl) ?_
    refine m_get (ci := 6) (v := .ref (h 27)) (C := RX6) (T := TX6) (N := 30) hx hb hC hH hts in_X6_fieldActs_X6 hown F_1 rfl 27 (by decide) (hts (.fieldLink RX6 71 "LazyStateModel" "values" "[J") (by decide +kernel)) rfl dX6_fieldActs_286 ?_
    refine lv_iload_n hx hb dX6_fieldActs_289 rfl (lv_at hl 2 rfl) ?_
    refine lv_aload_n hx hb dX6_fieldActs_290 rfl (lv_at hl 3 rfl) ?_
    refine lv_aload_n hx hb dX6_fieldActs_291 rfl (lv_at hl 3 rfl) ?_
    refine m_get (ci := 6) (v := .ref (h 26)) (C := RX6) (T := TX6) (N := 30) hx hb hC hH hts in_X6_fieldActs_X6 hown F_1 rfl 26 (by decide) (hts (.fieldLink RX6 68 "LazyStateModel" "handles" "[I") (by decide +kernel)) rfl dX6_fieldActs_292 ?_
    refine lv_lload_n hx hb dX6_fieldActs_295 rfl (lv_at hl 1 rfl) ?_
    refine lv_l2i hx hb dX6_fieldActs_296 rfl ?_
    refine lv_topi (fun x_11 ex_11 => ?_)
    have ix_11 : x_11.toInt = y_5.toInt := ic_l2i ex_11 rfl (by omega) (by omega)
    obtain ⟨g_12, hg_12, hp_12⟩ : okI G 0 4 (fun g => ∀ i, i < 4 → -3 ≤ (g i).toInt ∧ ((g i).toInt < n ∨ (n = 0 ∧ (g i).toInt = 0))) (f (h 26)) := hI.1 26 (by decide)
    refine m_iald hx hb hC hH hg_12 (vp_in_iff.mpr ⟨by omega, by omega⟩) dX6_fieldActs_297 ?_
    refine lv_topi (fun x_13 ex_13 => ?_)
    have qx_13 := hp_12 (x_11.toNatClampNeg) (ic_cl rfl (by omega) (by omega))
    rw [← ex_13] at qx_13
    obtain ⟨q1x_13, q2x_13⟩ := qx_13
    refine lv_aload_n hx hb dX6_fieldActs_298 rfl (lv_at hl 3 rfl) ?_
    refine m_get (ci := 6) (v := .ref (h 26)) (C := RX6) (T := TX6) (N := 30) hx hb hC hH hts in_X6_fieldActs_X6 hown F_1 rfl 26 (by decide) (hts (.fieldLink RX6 68 "LazyStateModel" "handles" "[I") (by decide +kernel)) rfl dX6_fieldActs_299 ?_
    refine lv_iload hx hb dX6_fieldActs_302 (lv_at hl 0 rfl) ?_
    refine m_iald hx hb hC hH hg_12 (vp_in_iff.mpr ⟨by omega, by omega⟩) dX6_fieldActs_304 ?_
    refine lv_topi (fun x_14 ex_14 => ?_)
    have qx_14 := hp_12 (x_7.toNatClampNeg) (ic_cl rfl (by omega) (by omega))
    rw [← ex_14] at qx_14
    obtain ⟨q1x_14, q2x_14⟩ := qx_14
    refine m_goi hH (va_runV (As := [.int x_13, .int x_14]) (rest := [.int x_3, .ref (h 27)]) ⟨hx, hb, hml, hown, hts⟩ (c_X6_like l G h n T z A f hI x_13 x_14 (by omega) (by omega)) (cwV 2 hts gX6_fieldActs_X6_like rfl rfl rfl (by decide +kernel) ⟨Nat.le_of_ble_eq_true rfl, Nat.le_of_ble_eq_true rfl⟩) (m_preV (ci := 6) hC hH F_1 rfl) rfl rfl hl.1 rfl (lv_room (Nat.le_of_ble_eq_true rfl)) dX6_fieldActs_305 ⟨Nat.le_of_ble_eq_true rfl, Nat.le_of_ble_eq_true rfl⟩) (fun r_15 rho_17 f_16 H locs hw hH => ?_)
    obtain ⟨hI, hfr1, hkp1, hr_15⟩ := hw
    have hI : IM G h n T z A f_16 := hI
    have hfr1 : frM h f f_16 := hfr1
    have hkp1 : kpM h f f_16 := hkp1
    try dsimp only at hr_15
    have hfr := hfr.trans hfr1
    have hkp := hkp.trans hkp1
    obtain ⟨he_18, fe_18, ca_18, ga_18, wh_18, tm_18, wm_18, ac_18, th_18, st_18, F_18, b1_18, b2_18, b3_18, b4_18, b5_18, b6_18, b7_18, b8_18⟩ : okM0 h n (f_16 (h 0)) := hI.1 0 (by decide)
    have kk_wm_18 : wm_18.toInt = wm_1.toInt := (congrArg Int32.toInt (show wm_18 = wm_1 from Value.int.inj (by have q := hkp1.1; rw [fldV_eq F_18, fldV_eq F_1] at q; exact q))).trans rfl
    have kk_ac_18 : ac_18.toInt = ac_1.toInt := (congrArg Int32.toInt (show ac_18 = ac_1 from Value.int.inj (by have q := hkp1.2.1; rw [fldV_eq F_18, fldV_eq F_1] at q; exact q))).trans rfl
    have kk_he_18 : he_18.toInt = he_1.toInt := (congrArg Int32.toInt (show he_18 = he_1 from Value.int.inj (by have q := hkp1.2.2; rw [fldV_eq F_18, fldV_eq F_1] at q; exact q))).trans rfl
    refine lv_if_eq (tgt := 315) hx hb dX6_fieldActs_308 (by decide) (fun c_19 => ?_) (fun c_19 => ?_)
    · skip
      have ic_19 : (r_15.toInt : Int) = 0 := ic_eq rfl kI_0 c_19
      refine lv_lconst (v := 0) hx hb dX6_fieldActs_315 (by decide) ?_
      obtain ⟨g_20, hg_20, hp_20⟩ : okJ G 4 (fun _ => True) (f_16 (h 27)) := hI.1 27 (by decide)
      refine m_last hx hb hC hH hg_20 (vp_in_iff.mpr ⟨by omega, by omega⟩) dX6_fieldActs_316 (fun H locs hH => ?_)
      obtain ⟨f_21, ef_21⟩ : ∃ zz_ : mF, zz_ = va_up f_16 (h 27) (some (.inl (gk G 1, 4, .inr (.inl (vp_updL g_20 x_3.toNatClampNeg 0))))) := ⟨_, rfl⟩
      rw [← ef_21] at hH
      have F_22 := upk F_18 ef_21 (neM hj (by decide) (by decide) (by decide))
      have hI : IM G h n T z A f_21 := hI.arr 27 (by decide) (by decide) (by decide) (by decide) (show okJ G 4 (fun _ => True) _ from ⟨_, rfl, trivial⟩) ef_21
      have hfr := hfr.up 27 (by decide) ef_21
      have hkp := hkp.up 27 hj (by decide) (by decide) ef_21
      exact m_vret hx hb hr hlk hC hH (fun _ => (0, 0)) ⟨hI, hfr, hkp⟩ (Nat.le_of_ble_eq_true rfl) (Nat.le_of_ble_eq_true rfl) dX6_fieldActs_317
    · skip
      have ic_19 : (r_15.toInt : Int) ≠ 0 := ic_ne rfl kI_0 c_19
      refine lv_lconst (v := 1) hx hb dX6_fieldActs_311 (by decide) ?_
      refine lv_goto (tgt := 316) hx hb dX6_fieldActs_312 (by decide) ?_
      obtain ⟨g_23, hg_23, hp_23⟩ : okJ G 4 (fun _ => True) (f_16 (h 27)) := hI.1 27 (by decide)
      refine m_last hx hb hC hH hg_23 (vp_in_iff.mpr ⟨by omega, by omega⟩) dX6_fieldActs_316 (fun H locs hH => ?_)
      obtain ⟨f_24, ef_24⟩ : ∃ zz_ : mF, zz_ = va_up f_16 (h 27) (some (.inl (gk G 1, 4, .inr (.inl (vp_updL g_23 x_3.toNatClampNeg 1))))) := ⟨_, rfl⟩
      rw [← ef_24] at hH
      have F_25 := upk F_18 ef_24 (neM hj (by decide) (by decide) (by decide))
      have hI : IM G h n T z A f_24 := hI.arr 27 (by decide) (by decide) (by decide) (by decide) (show okJ G 4 (fun _ => True) _ from ⟨_, rfl, trivial⟩) ef_24
      have hfr := hfr.up 27 (by decide) ef_24
      have hkp := hkp.up 27 hj (by decide) (by decide) ef_24
      exact m_vret hx hb hr hlk hC hH (fun _ => (0, 0)) ⟨hI, hfr, hkp⟩ (Nat.le_of_ble_eq_true rfl) (Nat.le_of_ble_eq_true rfl) dX6_fieldActs_317
  · skip
    have hv_ : κ = 4 := by omega
    subst hv_
    have g0_ := fit_get (m := 3) rfl (by decide) kI_3 f0_
    have g1_ := fit_get (m := 3) rfl (by decide) kI_3 f1_
    have g2_ := fit_get (m := 7) rfl (by decide) kI_7 f2_
    have jk_10 : x_9.toInt = 4 := hk_10
    refine lv_tableIn (off := 52) (tgt := 80) hx hb dX6_fieldActs_28 (by rw [jk_10]; decide) (by rw [jk_10]; decide) (by rw [jk_10]; rfl) (by decide) ?_
    refine lv_aload_n hx hb dX6_fieldActs_80 rfl (lv_at hl 3 rfl) ?_
    refine lv_lload_n hx hb dX6_fieldActs_81 rfl (lv_at hl 1 rfl) ?_
    refine lv_l2i hx hb dX6_fieldActs_82 rfl ?_
    refine lv_topi (fun x_26 ex_26 => ?_)
    have ix_26 : x_26.toInt = y_5.toInt := ic_l2i ex_26 rfl (by omega) (by omega)
    refine lv_iload hx hb dX6_fieldActs_83 (lv_at hl 0 rfl) ?_
    refine lv_i2l hx hb dX6_fieldActs_85 rfl ?_
    refine lv_topl (fun y_27 ey_27 => ?_)
    have iy_27 : y_27.toInt = x_7.toInt := lc_i2l ey_27 rfl
    have gy_27 := ic_rng x_7
    refine lv_iconst (v := 0) hx hb dX6_fieldActs_86 (by decide) ?_
    refine m_goi hH (va_runV (As := [.int x_26, .long y_27, .int 0]) (rest := []) ⟨hx, hb, hml, hown, hts⟩ (c_X6_readLeaf l G h n T z A f hI (by omega) x_26 y_27 0 (by have := kI_0; omega) (by have := kI_0; omega)) (cwV 3 hts gX6_fieldActs_X6_readLeaf rfl rfl rfl (by decide +kernel) ⟨Nat.le_of_ble_eq_true rfl, Nat.le_of_ble_eq_true rfl⟩) (m_preV (ci := 6) hC hH F_1 rfl) rfl rfl hl.1 rfl (lv_room (Nat.le_of_ble_eq_true rfl)) dX6_fieldActs_87 ⟨Nat.le_of_ble_eq_true rfl, Nat.le_of_ble_eq_true rfl⟩) (fun r_28 rho_30 f_29 H locs hw hH => ?_)
    obtain ⟨hI, hfr1, hkp1, hr_28⟩ := hw
    have hI : IM G h n T z A f_29 := hI
    have hfr1 : frM h f f_29 := hfr1
    have hkp1 : kpM h f f_29 := hkp1
    try dsimp only at hr_28
    have hfr := hfr.trans hfr1
    have hkp := hkp.trans hkp1
    obtain ⟨he_31, fe_31, ca_31, ga_31, wh_31, tm_31, wm_31, ac_31, th_31, st_31, F_31, b1_31, b2_31, b3_31, b4_31, b5_31, b6_31, b7_31, b8_31⟩ : okM0 h n (f_29 (h 0)) := hI.1 0 (by decide)
    have kk_wm_31 : wm_31.toInt = wm_1.toInt := (congrArg Int32.toInt (show wm_31 = wm_1 from Value.int.inj (by have q := hkp1.1; rw [fldV_eq F_31, fldV_eq F_1] at q; exact q))).trans rfl
    have kk_ac_31 : ac_31.toInt = ac_1.toInt := (congrArg Int32.toInt (show ac_31 = ac_1 from Value.int.inj (by have q := hkp1.2.1; rw [fldV_eq F_31, fldV_eq F_1] at q; exact q))).trans rfl
    have kk_he_31 : he_31.toInt = he_1.toInt := (congrArg Int32.toInt (show he_31 = he_1 from Value.int.inj (by have q := hkp1.2.2; rw [fldV_eq F_31, fldV_eq F_1] at q; exact q))).trans rfl
    refine lv_istore (lv' := [(6, .int r_28), (5, .int x_7), (3, .long y_5), (2, .int x_3), (0, .ref (h 0)), (1, .int kk)]) hx hb dX6_fieldActs_90 hl (by decide) rfl (fun ls hl => ?_)
    refine lv_aload_n hx hb dX6_fieldActs_92 rfl (lv_at hl 4 rfl) ?_
    refine m_get (ci := 6) (v := .ref (h 27)) (C := RX6) (T := TX6) (N := 30) hx hb hC hH hts in_X6_fieldActs_X6 hown F_31 rfl 27 (by decide) (hts (.fieldLink RX6 71 "LazyStateModel" "values" "[J") (by decide +kernel)) rfl dX6_fieldActs_93 ?_
    refine lv_iload_n hx hb dX6_fieldActs_96 rfl (lv_at hl 3 rfl) ?_
    refine lv_iload hx hb dX6_fieldActs_97 (lv_at hl 0 rfl) ?_
    refine lv_if_ge (tgt := 111) hx hb dX6_fieldActs_99 (by decide) (fun c_32 => ?_) (fun c_32 => ?_)
    · skip
      have ic_32 : (0 : Int) ≤ r_28.toInt := ic_le kI_0 rfl c_32
      obtain ⟨o_, j_, a1_, a2_, a3_, a4_, a5_, a6_⟩ := hr_28.resolve_left (fun q => by omega)
      refine lv_aload_n hx hb dX6_fieldActs_111 rfl (lv_at hl 4 rfl) ?_
      refine m_get (ci := 6) (v := .ref (h 3)) (C := RX6) (T := TX6) (N := 30) hx hb hC hH hts in_X6_fieldActs_X6 hown F_31 rfl 3 (by decide) (hts (.fieldLink RX6 13 "LazyStateModel" "numbers" "[J") (by decide +kernel)) rfl dX6_fieldActs_112 ?_
      refine lv_iload hx hb dX6_fieldActs_115 (lv_at hl 0 rfl) ?_
      refine m_goi hH (va_runS (As := [.int r_28]) (rest := [.ref (h 3), .int x_3, .ref (h 27)]) ⟨hx, hb, hml, hown, hts⟩ (c_X6_at l G f_29 r_28 (by exact ⟨by omega, by omega⟩)) (va_cwS 1 hts gX6_fieldActs_X6_at rfl rfl rfl (by decide +kernel) ⟨Nat.le_of_ble_eq_true rfl, Nat.le_of_ble_eq_true rfl⟩) (m_preS hC hH) rfl rfl hl.1 rfl (lv_room (Nat.le_of_ble_eq_true rfl)) dX6_fieldActs_117 ⟨Nat.le_of_ble_eq_true rfl, Nat.le_of_ble_eq_true rfl⟩) (fun r_33 rho_35 f_34 H locs hw hH => ?_)
      obtain ⟨hu, hr_33⟩ := hw
      have hu : f_34 = f_29 := hu
      rw [hu] at hH
      obtain ⟨g_36, hg_36, hp_36⟩ : okJ G 8064 (pNu n T) (f_29 (h 3)) := hI.1 3 (by decide)
      refine m_lald hx hb hC hH hg_36 (vp_in_iff.mpr ⟨by omega, by omega⟩) dX6_fieldActs_120 ?_
      refine lv_topl (fun y_37 ey_37 => ?_)
      obtain ⟨g_38, hg_38, hp_38⟩ : okJ G 4 (fun _ => True) (f_29 (h 27)) := hI.1 27 (by decide)
      refine m_last hx hb hC hH hg_38 (vp_in_iff.mpr ⟨by omega, by omega⟩) dX6_fieldActs_121 (fun H locs hH => ?_)
      obtain ⟨f_39, ef_39⟩ : ∃ zz_ : mF, zz_ = va_up f_29 (h 27) (some (.inl (gk G 1, 4, .inr (.inl (vp_updL g_38 x_3.toNatClampNeg y_37))))) := ⟨_, rfl⟩
      rw [← ef_39] at hH
      have F_40 := upk F_31 ef_39 (neM hj (by decide) (by decide) (by decide))
      have hI : IM G h n T z A f_39 := hI.arr 27 (by decide) (by decide) (by decide) (by decide) (show okJ G 4 (fun _ => True) _ from ⟨_, rfl, trivial⟩) ef_39
      have hfr := hfr.up 27 (by decide) ef_39
      have hkp := hkp.up 27 hj (by decide) (by decide) ef_39
      refine lv_goto (tgt := 317) hx hb dX6_fieldActs_122 (by decide) ?_
      exact m_vret hx hb hr hlk hC hH (fun _ => (0, 0)) ⟨hI, hfr, hkp⟩ (Nat.le_of_ble_eq_true rfl) (Nat.le_of_ble_eq_true rfl) dX6_fieldActs_317
    · skip
      have ic_32 : (0 : Int) > r_28.toInt := ic_nle kI_0 rfl c_32
      refine lv_aload_n hx hb dX6_fieldActs_102 rfl (lv_at hl 4 rfl) ?_
      refine m_get (ci := 6) (v := .ref (h 27)) (C := RX6) (T := TX6) (N := 30) hx hb hC hH hts in_X6_fieldActs_X6 hown F_31 rfl 27 (by decide) (hts (.fieldLink RX6 71 "LazyStateModel" "values" "[J") (by decide +kernel)) rfl dX6_fieldActs_103 ?_
      refine lv_iload_n hx hb dX6_fieldActs_106 rfl (lv_at hl 3 rfl) ?_
      obtain ⟨g_41, hg_41, hp_41⟩ : okJ G 4 (fun _ => True) (f_29 (h 27)) := hI.1 27 (by decide)
      refine m_lald hx hb hC hH hg_41 (vp_in_iff.mpr ⟨by omega, by omega⟩) dX6_fieldActs_107 ?_
      refine lv_topl (fun y_42 ey_42 => ?_)
      refine lv_goto (tgt := 121) hx hb dX6_fieldActs_108 (by decide) ?_
      refine m_last hx hb hC hH hg_41 (vp_in_iff.mpr ⟨by omega, by omega⟩) dX6_fieldActs_121 (fun H locs hH => ?_)
      obtain ⟨f_43, ef_43⟩ : ∃ zz_ : mF, zz_ = va_up f_29 (h 27) (some (.inl (gk G 1, 4, .inr (.inl (vp_updL g_41 x_3.toNatClampNeg y_42))))) := ⟨_, rfl⟩
      rw [← ef_43] at hH
      have F_44 := upk F_31 ef_43 (neM hj (by decide) (by decide) (by decide))
      have hI : IM G h n T z A f_43 := hI.arr 27 (by decide) (by decide) (by decide) (by decide) (show okJ G 4 (fun _ => True) _ from ⟨_, rfl, trivial⟩) ef_43
      have hfr := hfr.up 27 (by decide) ef_43
      have hkp := hkp.up 27 hj (by decide) (by decide) ef_43
      refine lv_goto (tgt := 317) hx hb dX6_fieldActs_122 (by decide) ?_
      exact m_vret hx hb hr hlk hC hH (fun _ => (0, 0)) ⟨hI, hfr, hkp⟩ (Nat.le_of_ble_eq_true rfl) (Nat.le_of_ble_eq_true rfl) dX6_fieldActs_317
  · skip
    have hv_ : κ = 5 := by omega
    subst hv_
    have g0_ := fit_get (m := 3) rfl (by decide) kI_3 f0_
    have g1_ := fit_get (m := 7) rfl (by decide) kI_7 f1_
    have g2_ := fit_get (m := 3) rfl (by decide) kI_3 f2_
    have jk_10 : x_9.toInt = 5 := hk_10
    refine lv_tableIn (off := 97) (tgt := 125) hx hb dX6_fieldActs_28 (by rw [jk_10]; decide) (by rw [jk_10]; decide) (by rw [jk_10]; rfl) (by decide) ?_
    refine lv_aload_n hx hb dX6_fieldActs_125 rfl (lv_at hl 3 rfl) ?_
    refine lv_iload_n hx hb dX6_fieldActs_126 rfl (lv_at hl 2 rfl) ?_
    refine lv_lload_n hx hb dX6_fieldActs_127 rfl (lv_at hl 1 rfl) ?_
    refine lv_iconst (v := 0) hx hb dX6_fieldActs_128 (by decide) ?_
    refine m_goi hH (va_runV (As := [.int x_3, .long y_5, .int 0]) (rest := []) ⟨hx, hb, hml, hown, hts⟩ (c_X6_leafOf l G h n T z A f hI (by omega) x_3 y_5 0 (by have := kI_0; omega) (by have := kI_0; omega)) (cwV 3 hts gX6_fieldActs_X6_leafOf rfl rfl rfl (by decide +kernel) ⟨Nat.le_of_ble_eq_true rfl, Nat.le_of_ble_eq_true rfl⟩) (m_preV (ci := 6) hC hH F_1 rfl) rfl rfl hl.1 rfl (lv_room (Nat.le_of_ble_eq_true rfl)) dX6_fieldActs_129 ⟨Nat.le_of_ble_eq_true rfl, Nat.le_of_ble_eq_true rfl⟩) (fun r_45 rho_47 f_46 H locs hw hH => ?_)
    obtain ⟨hI, hfr1, hkp1, hr_45⟩ := hw
    have hI : IM G h n T z A f_46 := hI
    have hfr1 : frM h f f_46 := hfr1
    have hkp1 : kpM h f f_46 := hkp1
    try dsimp only at hr_45
    have hfr := hfr.trans hfr1
    have hkp := hkp.trans hkp1
    obtain ⟨he_48, fe_48, ca_48, ga_48, wh_48, tm_48, wm_48, ac_48, th_48, st_48, F_48, b1_48, b2_48, b3_48, b4_48, b5_48, b6_48, b7_48, b8_48⟩ : okM0 h n (f_46 (h 0)) := hI.1 0 (by decide)
    have kk_wm_48 : wm_48.toInt = wm_1.toInt := (congrArg Int32.toInt (show wm_48 = wm_1 from Value.int.inj (by have q := hkp1.1; rw [fldV_eq F_48, fldV_eq F_1] at q; exact q))).trans rfl
    have kk_ac_48 : ac_48.toInt = ac_1.toInt := (congrArg Int32.toInt (show ac_48 = ac_1 from Value.int.inj (by have q := hkp1.2.1; rw [fldV_eq F_48, fldV_eq F_1] at q; exact q))).trans rfl
    have kk_he_48 : he_48.toInt = he_1.toInt := (congrArg Int32.toInt (show he_48 = he_1 from Value.int.inj (by have q := hkp1.2.2; rw [fldV_eq F_48, fldV_eq F_1] at q; exact q))).trans rfl
    refine lv_istore (lv' := [(6, .int r_45), (5, .int x_7), (3, .long y_5), (2, .int x_3), (0, .ref (h 0)), (1, .int kk)]) hx hb dX6_fieldActs_132 hl (by decide) rfl (fun ls hl => ?_)
    refine lv_iload hx hb dX6_fieldActs_134 (lv_at hl 0 rfl) ?_
    refine lv_if_lt (tgt := 317) hx hb dX6_fieldActs_136 (by decide) (fun c_49 => ?_) (fun c_49 => ?_)
    · skip
      have ic_49 : (r_45.toInt : Int) < 0 := ic_lt rfl kI_0 c_49
      exact m_vret hx hb hr hlk hC hH (fun _ => (0, 0)) ⟨hI, hfr, hkp⟩ (Nat.le_of_ble_eq_true rfl) (Nat.le_of_ble_eq_true rfl) dX6_fieldActs_317
    · skip
      have ic_49 : (r_45.toInt : Int) ≥ 0 := ic_nlt rfl kI_0 c_49
      obtain ⟨o_, j_, a1_, a2_, a3_, a4_, a5_, a6_⟩ := hr_45.resolve_left (fun q => by omega)
      refine lv_aload_n hx hb dX6_fieldActs_139 rfl (lv_at hl 4 rfl) ?_
      refine m_get (ci := 6) (v := .ref (h 3)) (C := RX6) (T := TX6) (N := 30) hx hb hC hH hts in_X6_fieldActs_X6 hown F_48 rfl 3 (by decide) (hts (.fieldLink RX6 13 "LazyStateModel" "numbers" "[J") (by decide +kernel)) rfl dX6_fieldActs_140 ?_
      refine lv_iload hx hb dX6_fieldActs_143 (lv_at hl 0 rfl) ?_
      refine m_goi hH (va_runS (As := [.int r_45]) (rest := [.ref (h 3)]) ⟨hx, hb, hml, hown, hts⟩ (c_X6_at l G f_46 r_45 (by exact ⟨by omega, by omega⟩)) (va_cwS 1 hts gX6_fieldActs_X6_at rfl rfl rfl (by decide +kernel) ⟨Nat.le_of_ble_eq_true rfl, Nat.le_of_ble_eq_true rfl⟩) (m_preS hC hH) rfl rfl hl.1 rfl (lv_room (Nat.le_of_ble_eq_true rfl)) dX6_fieldActs_145 ⟨Nat.le_of_ble_eq_true rfl, Nat.le_of_ble_eq_true rfl⟩) (fun r_50 rho_52 f_51 H locs hw hH => ?_)
      obtain ⟨hu, hr_50⟩ := hw
      have hu : f_51 = f_46 := hu
      rw [hu] at hH
      refine lv_aload_n hx hb dX6_fieldActs_148 rfl (lv_at hl 4 rfl) ?_
      refine m_get (ci := 6) (v := .ref (h 27)) (C := RX6) (T := TX6) (N := 30) hx hb hC hH hts in_X6_fieldActs_X6 hown F_48 rfl 27 (by decide) (hts (.fieldLink RX6 71 "LazyStateModel" "values" "[J") (by decide +kernel)) rfl dX6_fieldActs_149 ?_
      refine lv_iload hx hb dX6_fieldActs_152 (lv_at hl 1 rfl) ?_
      obtain ⟨g_53, hg_53, hp_53⟩ : okJ G 4 (fun _ => True) (f_46 (h 27)) := hI.1 27 (by decide)
      refine m_lald hx hb hC hH hg_53 (vp_in_iff.mpr ⟨by omega, by omega⟩) dX6_fieldActs_154 ?_
      refine lv_topl (fun y_54 ey_54 => ?_)
      obtain ⟨g_55, hg_55, hp_55⟩ : okJ G 8064 (pNu n T) (f_46 (h 3)) := hI.1 3 (by decide)
      refine m_last hx hb hC hH hg_55 (vp_in_iff.mpr ⟨by omega, by omega⟩) dX6_fieldActs_155 (fun H locs hH => ?_)
      obtain ⟨f_56, ef_56⟩ : ∃ zz_ : mF, zz_ = va_up f_46 (h 3) (some (.inl (gk G 1, 8064, .inr (.inl (vp_updL g_55 r_50.toNatClampNeg y_54))))) := ⟨_, rfl⟩
      rw [← ef_56] at hH
      have F_57 := upk F_48 ef_56 (neM hj (by decide) (by decide) (by decide))
      have hI : IM G h n T z A f_56 := hI.arr 3 (by decide) (by decide) (by decide) (by decide) (show okJ G 8064 (pNu n T) _ from ⟨_, rfl, pNu_put (i := r_50) (a := 41) (o := o_) (j := j_) (on := o_.toNat) hp_55 (by omega) (by omega) (by omega) (by omega) (by omega) (by omega) (by omega) (by omega) rfl (fun q => by have := kI_0; omega)⟩) ef_56
      have hfr := hfr.up 3 (by decide) ef_56
      have hkp := hkp.up 3 hj (by decide) (by decide) ef_56
      refine lv_aload_n hx hb dX6_fieldActs_156 rfl (lv_at hl 4 rfl) ?_
      refine lv_iload hx hb dX6_fieldActs_157 (lv_at hl 0 rfl) ?_
      refine lv_iconst (v := 1) hx hb dX6_fieldActs_159 (by decide) ?_
      refine m_gov hH (va_runV (As := [.int r_45, .int 1]) (rest := []) ⟨hx, hb, hml, hown, hts⟩ (c_X6_touch l G h n T z A f_56 hI r_45 1 (by have := kI_1; omega) (by have := kI_1; omega)) (cwV 2 hts gX6_fieldActs_X6_touch rfl rfl rfl (by decide +kernel) ⟨Nat.le_of_ble_eq_true rfl, Nat.le_of_ble_eq_true rfl⟩) (m_preV (ci := 6) hC hH F_57 rfl) rfl rfl hl.1 rfl (lv_room (Nat.le_of_ble_eq_true rfl)) dX6_fieldActs_160 ⟨Nat.le_of_ble_eq_true rfl, Nat.le_of_ble_eq_true rfl⟩) (fun rho_60 f_59 H locs hw hH => ?_)
      obtain ⟨hI, hfr1, hkp1⟩ := hw
      have hI : IM G h n T z A f_59 := hI
      have hfr1 : frM h f_56 f_59 := hfr1
      have hkp1 : kpM h f_56 f_59 := hkp1
      have hfr := hfr.trans hfr1
      have hkp := hkp.trans hkp1
      obtain ⟨he_61, fe_61, ca_61, ga_61, wh_61, tm_61, wm_61, ac_61, th_61, st_61, F_61, b1_61, b2_61, b3_61, b4_61, b5_61, b6_61, b7_61, b8_61⟩ : okM0 h n (f_59 (h 0)) := hI.1 0 (by decide)
      have kk_wm_61 : wm_61.toInt = wm_48.toInt := (congrArg Int32.toInt (show wm_61 = wm_48 from Value.int.inj (by have q := hkp1.1; rw [fldV_eq F_61, fldV_eq F_57] at q; exact q))).trans rfl
      have kk_ac_61 : ac_61.toInt = ac_48.toInt := (congrArg Int32.toInt (show ac_61 = ac_48 from Value.int.inj (by have q := hkp1.2.1; rw [fldV_eq F_61, fldV_eq F_57] at q; exact q))).trans rfl
      have kk_he_61 : he_61.toInt = he_48.toInt := (congrArg Int32.toInt (show he_61 = he_48 from Value.int.inj (by have q := hkp1.2.2; rw [fldV_eq F_61, fldV_eq F_57] at q; exact q))).trans rfl
      refine lv_goto (tgt := 317) hx hb dX6_fieldActs_163 (by decide) ?_
      exact m_vret hx hb hr hlk hC hH (fun _ => (0, 0)) ⟨hI, hfr, hkp⟩ (Nat.le_of_ble_eq_true rfl) (Nat.le_of_ble_eq_true rfl) dX6_fieldActs_317
  · skip
    have hv_ : κ = 6 := by omega
    subst hv_
    have g0_ := fit_get (m := 3) rfl (by decide) kI_3 f0_
    have g1_ := fit_get (m := 3) rfl (by decide) kI_3 f1_
    have g2_ := fit_get (m := 7) rfl (by decide) kI_7 f2_
    have jk_10 : x_9.toInt = 6 := hk_10
    refine lv_tableIn (off := 138) (tgt := 166) hx hb dX6_fieldActs_28 (by rw [jk_10]; decide) (by rw [jk_10]; decide) (by rw [jk_10]; rfl) (by decide) ?_
    refine lv_aload_n hx hb dX6_fieldActs_166 rfl (lv_at hl 3 rfl) ?_
    refine lv_lload_n hx hb dX6_fieldActs_167 rfl (lv_at hl 1 rfl) ?_
    refine lv_l2i hx hb dX6_fieldActs_168 rfl ?_
    refine lv_topi (fun x_62 ex_62 => ?_)
    have ix_62 : x_62.toInt = y_5.toInt := ic_l2i ex_62 rfl (by omega) (by omega)
    refine lv_iload hx hb dX6_fieldActs_169 (lv_at hl 0 rfl) ?_
    refine lv_i2l hx hb dX6_fieldActs_171 rfl ?_
    refine lv_topl (fun y_63 ey_63 => ?_)
    have iy_63 : y_63.toInt = x_7.toInt := lc_i2l ey_63 rfl
    have gy_63 := ic_rng x_7
    refine lv_iconst (v := 1) hx hb dX6_fieldActs_172 (by decide) ?_
    refine m_goi hH (va_runV (As := [.int x_62, .long y_63, .int 1]) (rest := []) ⟨hx, hb, hml, hown, hts⟩ (c_X6_readLeaf l G h n T z A f hI (by omega) x_62 y_63 1 (by have := kI_1; omega) (by have := kI_1; omega)) (cwV 3 hts gX6_fieldActs_X6_readLeaf rfl rfl rfl (by decide +kernel) ⟨Nat.le_of_ble_eq_true rfl, Nat.le_of_ble_eq_true rfl⟩) (m_preV (ci := 6) hC hH F_1 rfl) rfl rfl hl.1 rfl (lv_room (Nat.le_of_ble_eq_true rfl)) dX6_fieldActs_173 ⟨Nat.le_of_ble_eq_true rfl, Nat.le_of_ble_eq_true rfl⟩) (fun r_64 rho_66 f_65 H locs hw hH => ?_)
    obtain ⟨hI, hfr1, hkp1, hr_64⟩ := hw
    have hI : IM G h n T z A f_65 := hI
    have hfr1 : frM h f f_65 := hfr1
    have hkp1 : kpM h f f_65 := hkp1
    try dsimp only at hr_64
    have hfr := hfr.trans hfr1
    have hkp := hkp.trans hkp1
    obtain ⟨he_67, fe_67, ca_67, ga_67, wh_67, tm_67, wm_67, ac_67, th_67, st_67, F_67, b1_67, b2_67, b3_67, b4_67, b5_67, b6_67, b7_67, b8_67⟩ : okM0 h n (f_65 (h 0)) := hI.1 0 (by decide)
    have kk_wm_67 : wm_67.toInt = wm_1.toInt := (congrArg Int32.toInt (show wm_67 = wm_1 from Value.int.inj (by have q := hkp1.1; rw [fldV_eq F_67, fldV_eq F_1] at q; exact q))).trans rfl
    have kk_ac_67 : ac_67.toInt = ac_1.toInt := (congrArg Int32.toInt (show ac_67 = ac_1 from Value.int.inj (by have q := hkp1.2.1; rw [fldV_eq F_67, fldV_eq F_1] at q; exact q))).trans rfl
    have kk_he_67 : he_67.toInt = he_1.toInt := (congrArg Int32.toInt (show he_67 = he_1 from Value.int.inj (by have q := hkp1.2.2; rw [fldV_eq F_67, fldV_eq F_1] at q; exact q))).trans rfl
    refine lv_istore (lv' := [(6, .int r_64), (5, .int x_7), (3, .long y_5), (2, .int x_3), (0, .ref (h 0)), (1, .int kk)]) hx hb dX6_fieldActs_176 hl (by decide) rfl (fun ls hl => ?_)
    refine lv_aload_n hx hb dX6_fieldActs_178 rfl (lv_at hl 4 rfl) ?_
    refine m_get (ci := 6) (v := .ref (h 26)) (C := RX6) (T := TX6) (N := 30) hx hb hC hH hts in_X6_fieldActs_X6 hown F_67 rfl 26 (by decide) (hts (.fieldLink RX6 68 "LazyStateModel" "handles" "[I") (by decide +kernel)) rfl dX6_fieldActs_179 ?_
    refine lv_iload_n hx hb dX6_fieldActs_182 rfl (lv_at hl 3 rfl) ?_
    refine lv_iload hx hb dX6_fieldActs_183 (lv_at hl 0 rfl) ?_
    refine lv_if_ge (tgt := 197) hx hb dX6_fieldActs_185 (by decide) (fun c_68 => ?_) (fun c_68 => ?_)
    · skip
      have ic_68 : (0 : Int) ≤ r_64.toInt := ic_le kI_0 rfl c_68
      obtain ⟨o_, j_, a1_, a2_, a3_, a4_, a5_, a6_⟩ := hr_64.resolve_left (fun q => by omega)
      refine lv_aload_n hx hb dX6_fieldActs_197 rfl (lv_at hl 4 rfl) ?_
      refine m_get (ci := 6) (v := .ref (h 3)) (C := RX6) (T := TX6) (N := 30) hx hb hC hH hts in_X6_fieldActs_X6 hown F_67 rfl 3 (by decide) (hts (.fieldLink RX6 13 "LazyStateModel" "numbers" "[J") (by decide +kernel)) rfl dX6_fieldActs_198 ?_
      refine lv_iload hx hb dX6_fieldActs_201 (lv_at hl 0 rfl) ?_
      refine m_goi hH (va_runS (As := [.int r_64]) (rest := [.ref (h 3), .int x_3, .ref (h 26)]) ⟨hx, hb, hml, hown, hts⟩ (c_X6_at l G f_65 r_64 (by exact ⟨by omega, by omega⟩)) (va_cwS 1 hts gX6_fieldActs_X6_at rfl rfl rfl (by decide +kernel) ⟨Nat.le_of_ble_eq_true rfl, Nat.le_of_ble_eq_true rfl⟩) (m_preS hC hH) rfl rfl hl.1 rfl (lv_room (Nat.le_of_ble_eq_true rfl)) dX6_fieldActs_203 ⟨Nat.le_of_ble_eq_true rfl, Nat.le_of_ble_eq_true rfl⟩) (fun r_69 rho_71 f_70 H locs hw hH => ?_)
      obtain ⟨hu, hr_69⟩ := hw
      have hu : f_70 = f_65 := hu
      rw [hu] at hH
      obtain ⟨g_72, hg_72, hp_72⟩ : okJ G 8064 (pNu n T) (f_65 (h 3)) := hI.1 3 (by decide)
      refine m_lald hx hb hC hH hg_72 (vp_in_iff.mpr ⟨by omega, by omega⟩) dX6_fieldActs_206 ?_
      refine lv_topl (fun y_73 ey_73 => ?_)
      have qy_73 := pNu_get (i := r_69) hp_72 (a := 41) (o := o_) (j := j_) (by omega) (by omega) (by omega) (by omega) (by omega) (by omega) (by omega) (by omega) (by have := kI_1; omega)
      rw [← ey_73] at qy_73
      refine lv_l2i hx hb dX6_fieldActs_207 rfl ?_
      refine lv_topi (fun x_74 ex_74 => ?_)
      have ix_74 : x_74.toInt = y_73.toInt := ic_l2i ex_74 rfl (by omega) (by omega)
      obtain ⟨g_75, hg_75, hp_75⟩ : okI G 0 4 (fun g => ∀ i, i < 4 → -3 ≤ (g i).toInt ∧ ((g i).toInt < n ∨ (n = 0 ∧ (g i).toInt = 0))) (f_65 (h 26)) := hI.1 26 (by decide)
      refine m_iast hx hb hC hH hg_75 (vp_in_iff.mpr ⟨by omega, by omega⟩) dX6_fieldActs_208 (fun H locs hH => ?_)
      obtain ⟨f_76, ef_76⟩ : ∃ zz_ : mF, zz_ = va_up f_65 (h 26) (some (.inl (gk G 0, 4, .inl (upd g_75 x_3.toNatClampNeg x_74)))) := ⟨_, rfl⟩
      rw [← ef_76] at hH
      have F_77 := upk F_67 ef_76 (neM hj (by decide) (by decide) (by decide))
      have hI : IM G h n T z A f_76 := hI.arr 26 (by decide) (by decide) (by decide) (by decide) (show okI G 0 4 (fun g => ∀ i, i < 4 → -3 ≤ (g i).toInt ∧ ((g i).toInt < n ∨ (n = 0 ∧ (g i).toInt = 0))) _ from ⟨_, rfl, upd_all (P := fun x : Int32 => -3 ≤ x.toInt ∧ (x.toInt < n ∨ (n = 0 ∧ x.toInt = 0))) hp_75 (by exact ⟨by omega, by omega⟩)⟩) ef_76
      have hfr := hfr.up 26 (by decide) ef_76
      have hkp := hkp.up 26 hj (by decide) (by decide) ef_76
      refine lv_goto (tgt := 317) hx hb dX6_fieldActs_209 (by decide) ?_
      exact m_vret hx hb hr hlk hC hH (fun _ => (0, 0)) ⟨hI, hfr, hkp⟩ (Nat.le_of_ble_eq_true rfl) (Nat.le_of_ble_eq_true rfl) dX6_fieldActs_317
    · skip
      have ic_68 : (0 : Int) > r_64.toInt := ic_nle kI_0 rfl c_68
      refine lv_aload_n hx hb dX6_fieldActs_188 rfl (lv_at hl 4 rfl) ?_
      refine m_get (ci := 6) (v := .ref (h 26)) (C := RX6) (T := TX6) (N := 30) hx hb hC hH hts in_X6_fieldActs_X6 hown F_67 rfl 26 (by decide) (hts (.fieldLink RX6 68 "LazyStateModel" "handles" "[I") (by decide +kernel)) rfl dX6_fieldActs_189 ?_
      refine lv_iload_n hx hb dX6_fieldActs_192 rfl (lv_at hl 3 rfl) ?_
      obtain ⟨g_78, hg_78, hp_78⟩ : okI G 0 4 (fun g => ∀ i, i < 4 → -3 ≤ (g i).toInt ∧ ((g i).toInt < n ∨ (n = 0 ∧ (g i).toInt = 0))) (f_65 (h 26)) := hI.1 26 (by decide)
      refine m_iald hx hb hC hH hg_78 (vp_in_iff.mpr ⟨by omega, by omega⟩) dX6_fieldActs_193 ?_
      refine lv_topi (fun x_79 ex_79 => ?_)
      have qx_79 := hp_78 (x_3.toNatClampNeg) (ic_cl rfl (by omega) (by omega))
      rw [← ex_79] at qx_79
      obtain ⟨q1x_79, q2x_79⟩ := qx_79
      refine lv_goto (tgt := 208) hx hb dX6_fieldActs_194 (by decide) ?_
      refine m_iast hx hb hC hH hg_78 (vp_in_iff.mpr ⟨by omega, by omega⟩) dX6_fieldActs_208 (fun H locs hH => ?_)
      obtain ⟨f_80, ef_80⟩ : ∃ zz_ : mF, zz_ = va_up f_65 (h 26) (some (.inl (gk G 0, 4, .inl (upd g_78 x_3.toNatClampNeg x_79)))) := ⟨_, rfl⟩
      rw [← ef_80] at hH
      have F_81 := upk F_67 ef_80 (neM hj (by decide) (by decide) (by decide))
      have hI : IM G h n T z A f_80 := hI.arr 26 (by decide) (by decide) (by decide) (by decide) (show okI G 0 4 (fun g => ∀ i, i < 4 → -3 ≤ (g i).toInt ∧ ((g i).toInt < n ∨ (n = 0 ∧ (g i).toInt = 0))) _ from ⟨_, rfl, upd_all (P := fun x : Int32 => -3 ≤ x.toInt ∧ (x.toInt < n ∨ (n = 0 ∧ x.toInt = 0))) hp_78 (by exact ⟨by omega, by omega⟩)⟩) ef_80
      have hfr := hfr.up 26 (by decide) ef_80
      have hkp := hkp.up 26 hj (by decide) (by decide) ef_80
      refine lv_goto (tgt := 317) hx hb dX6_fieldActs_209 (by decide) ?_
      exact m_vret hx hb hr hlk hC hH (fun _ => (0, 0)) ⟨hI, hfr, hkp⟩ (Nat.le_of_ble_eq_true rfl) (Nat.le_of_ble_eq_true rfl) dX6_fieldActs_317
  · skip
    have hv_ : κ = 7 := by omega
    subst hv_
    have g0_ := fit_get (m := 3) rfl (by decide) kI_3 f0_
    have g1_ := fit_get (m := 7) rfl (by decide) kI_7 f1_
    have g2_ := fit_get (m := 3) rfl (by decide) kI_3 f2_
    have jk_10 : x_9.toInt = 7 := hk_10
    refine lv_tableIn (off := 184) (tgt := 212) hx hb dX6_fieldActs_28 (by rw [jk_10]; decide) (by rw [jk_10]; decide) (by rw [jk_10]; rfl) (by decide) ?_
    refine lv_aload_n hx hb dX6_fieldActs_212 rfl (lv_at hl 3 rfl) ?_
    refine lv_iload_n hx hb dX6_fieldActs_213 rfl (lv_at hl 2 rfl) ?_
    refine lv_lload_n hx hb dX6_fieldActs_214 rfl (lv_at hl 1 rfl) ?_
    refine lv_iconst (v := 1) hx hb dX6_fieldActs_215 (by decide) ?_
    refine m_goi hH (va_runV (As := [.int x_3, .long y_5, .int 1]) (rest := []) ⟨hx, hb, hml, hown, hts⟩ (c_X6_leafOf l G h n T z A f hI (by omega) x_3 y_5 1 (by have := kI_1; omega) (by have := kI_1; omega)) (cwV 3 hts gX6_fieldActs_X6_leafOf rfl rfl rfl (by decide +kernel) ⟨Nat.le_of_ble_eq_true rfl, Nat.le_of_ble_eq_true rfl⟩) (m_preV (ci := 6) hC hH F_1 rfl) rfl rfl hl.1 rfl (lv_room (Nat.le_of_ble_eq_true rfl)) dX6_fieldActs_216 ⟨Nat.le_of_ble_eq_true rfl, Nat.le_of_ble_eq_true rfl⟩) (fun r_82 rho_84 f_83 H locs hw hH => ?_)
    obtain ⟨hI, hfr1, hkp1, hr_82⟩ := hw
    have hI : IM G h n T z A f_83 := hI
    have hfr1 : frM h f f_83 := hfr1
    have hkp1 : kpM h f f_83 := hkp1
    try dsimp only at hr_82
    have hfr := hfr.trans hfr1
    have hkp := hkp.trans hkp1
    obtain ⟨he_85, fe_85, ca_85, ga_85, wh_85, tm_85, wm_85, ac_85, th_85, st_85, F_85, b1_85, b2_85, b3_85, b4_85, b5_85, b6_85, b7_85, b8_85⟩ : okM0 h n (f_83 (h 0)) := hI.1 0 (by decide)
    have kk_wm_85 : wm_85.toInt = wm_1.toInt := (congrArg Int32.toInt (show wm_85 = wm_1 from Value.int.inj (by have q := hkp1.1; rw [fldV_eq F_85, fldV_eq F_1] at q; exact q))).trans rfl
    have kk_ac_85 : ac_85.toInt = ac_1.toInt := (congrArg Int32.toInt (show ac_85 = ac_1 from Value.int.inj (by have q := hkp1.2.1; rw [fldV_eq F_85, fldV_eq F_1] at q; exact q))).trans rfl
    have kk_he_85 : he_85.toInt = he_1.toInt := (congrArg Int32.toInt (show he_85 = he_1 from Value.int.inj (by have q := hkp1.2.2; rw [fldV_eq F_85, fldV_eq F_1] at q; exact q))).trans rfl
    refine lv_istore (lv' := [(6, .int r_82), (5, .int x_7), (3, .long y_5), (2, .int x_3), (0, .ref (h 0)), (1, .int kk)]) hx hb dX6_fieldActs_219 hl (by decide) rfl (fun ls hl => ?_)
    refine lv_iload hx hb dX6_fieldActs_221 (lv_at hl 0 rfl) ?_
    refine lv_if_lt (tgt := 317) hx hb dX6_fieldActs_223 (by decide) (fun c_86 => ?_) (fun c_86 => ?_)
    · skip
      have ic_86 : (r_82.toInt : Int) < 0 := ic_lt rfl kI_0 c_86
      exact m_vret hx hb hr hlk hC hH (fun _ => (0, 0)) ⟨hI, hfr, hkp⟩ (Nat.le_of_ble_eq_true rfl) (Nat.le_of_ble_eq_true rfl) dX6_fieldActs_317
    · skip
      have ic_86 : (r_82.toInt : Int) ≥ 0 := ic_nlt rfl kI_0 c_86
      obtain ⟨o_, j_, a1_, a2_, a3_, a4_, a5_, a6_⟩ := hr_82.resolve_left (fun q => by omega)
      refine lv_aload_n hx hb dX6_fieldActs_226 rfl (lv_at hl 4 rfl) ?_
      refine m_get (ci := 6) (v := .ref (h 3)) (C := RX6) (T := TX6) (N := 30) hx hb hC hH hts in_X6_fieldActs_X6 hown F_85 rfl 3 (by decide) (hts (.fieldLink RX6 13 "LazyStateModel" "numbers" "[J") (by decide +kernel)) rfl dX6_fieldActs_227 ?_
      refine lv_iload hx hb dX6_fieldActs_230 (lv_at hl 0 rfl) ?_
      refine m_goi hH (va_runS (As := [.int r_82]) (rest := [.ref (h 3)]) ⟨hx, hb, hml, hown, hts⟩ (c_X6_at l G f_83 r_82 (by exact ⟨by omega, by omega⟩)) (va_cwS 1 hts gX6_fieldActs_X6_at rfl rfl rfl (by decide +kernel) ⟨Nat.le_of_ble_eq_true rfl, Nat.le_of_ble_eq_true rfl⟩) (m_preS hC hH) rfl rfl hl.1 rfl (lv_room (Nat.le_of_ble_eq_true rfl)) dX6_fieldActs_232 ⟨Nat.le_of_ble_eq_true rfl, Nat.le_of_ble_eq_true rfl⟩) (fun r_87 rho_89 f_88 H locs hw hH => ?_)
      obtain ⟨hu, hr_87⟩ := hw
      have hu : f_88 = f_83 := hu
      rw [hu] at hH
      refine lv_aload_n hx hb dX6_fieldActs_235 rfl (lv_at hl 4 rfl) ?_
      refine m_get (ci := 6) (v := .ref (h 26)) (C := RX6) (T := TX6) (N := 30) hx hb hC hH hts in_X6_fieldActs_X6 hown F_85 rfl 26 (by decide) (hts (.fieldLink RX6 68 "LazyStateModel" "handles" "[I") (by decide +kernel)) rfl dX6_fieldActs_236 ?_
      refine lv_iload hx hb dX6_fieldActs_239 (lv_at hl 1 rfl) ?_
      obtain ⟨g_90, hg_90, hp_90⟩ : okI G 0 4 (fun g => ∀ i, i < 4 → -3 ≤ (g i).toInt ∧ ((g i).toInt < n ∨ (n = 0 ∧ (g i).toInt = 0))) (f_83 (h 26)) := hI.1 26 (by decide)
      refine m_iald hx hb hC hH hg_90 (vp_in_iff.mpr ⟨by omega, by omega⟩) dX6_fieldActs_241 ?_
      refine lv_topi (fun x_91 ex_91 => ?_)
      have qx_91 := hp_90 (x_7.toNatClampNeg) (ic_cl rfl (by omega) (by omega))
      rw [← ex_91] at qx_91
      obtain ⟨q1x_91, q2x_91⟩ := qx_91
      refine lv_i2l hx hb dX6_fieldActs_242 rfl ?_
      refine lv_topl (fun y_92 ey_92 => ?_)
      have iy_92 : y_92.toInt = x_91.toInt := lc_i2l ey_92 rfl
      have gy_92 := ic_rng x_91
      obtain ⟨g_93, hg_93, hp_93⟩ : okJ G 8064 (pNu n T) (f_83 (h 3)) := hI.1 3 (by decide)
      refine m_last hx hb hC hH hg_93 (vp_in_iff.mpr ⟨by omega, by omega⟩) dX6_fieldActs_243 (fun H locs hH => ?_)
      obtain ⟨f_94, ef_94⟩ : ∃ zz_ : mF, zz_ = va_up f_83 (h 3) (some (.inl (gk G 1, 8064, .inr (.inl (vp_updL g_93 r_87.toNatClampNeg y_92))))) := ⟨_, rfl⟩
      rw [← ef_94] at hH
      have F_95 := upk F_85 ef_94 (neM hj (by decide) (by decide) (by decide))
      have hI : IM G h n T z A f_94 := hI.arr 3 (by decide) (by decide) (by decide) (by decide) (show okJ G 8064 (pNu n T) _ from ⟨_, rfl, pNu_put (i := r_87) (a := 41) (o := o_) (j := j_) (on := o_.toNat) hp_93 (by omega) (by omega) (by omega) (by omega) (by omega) (by omega) (by omega) (by omega) rfl (fun q => by omega)⟩) ef_94
      have hfr := hfr.up 3 (by decide) ef_94
      have hkp := hkp.up 3 hj (by decide) (by decide) ef_94
      refine lv_aload_n hx hb dX6_fieldActs_244 rfl (lv_at hl 4 rfl) ?_
      refine lv_iload hx hb dX6_fieldActs_245 (lv_at hl 0 rfl) ?_
      refine lv_iconst (v := 1) hx hb dX6_fieldActs_247 (by decide) ?_
      refine m_gov hH (va_runV (As := [.int r_82, .int 1]) (rest := []) ⟨hx, hb, hml, hown, hts⟩ (c_X6_touch l G h n T z A f_94 hI r_82 1 (by have := kI_1; omega) (by have := kI_1; omega)) (cwV 2 hts gX6_fieldActs_X6_touch rfl rfl rfl (by decide +kernel) ⟨Nat.le_of_ble_eq_true rfl, Nat.le_of_ble_eq_true rfl⟩) (m_preV (ci := 6) hC hH F_95 rfl) rfl rfl hl.1 rfl (lv_room (Nat.le_of_ble_eq_true rfl)) dX6_fieldActs_248 ⟨Nat.le_of_ble_eq_true rfl, Nat.le_of_ble_eq_true rfl⟩) (fun rho_98 f_97 H locs hw hH => ?_)
      obtain ⟨hI, hfr1, hkp1⟩ := hw
      have hI : IM G h n T z A f_97 := hI
      have hfr1 : frM h f_94 f_97 := hfr1
      have hkp1 : kpM h f_94 f_97 := hkp1
      have hfr := hfr.trans hfr1
      have hkp := hkp.trans hkp1
      obtain ⟨he_99, fe_99, ca_99, ga_99, wh_99, tm_99, wm_99, ac_99, th_99, st_99, F_99, b1_99, b2_99, b3_99, b4_99, b5_99, b6_99, b7_99, b8_99⟩ : okM0 h n (f_97 (h 0)) := hI.1 0 (by decide)
      have kk_wm_99 : wm_99.toInt = wm_85.toInt := (congrArg Int32.toInt (show wm_99 = wm_85 from Value.int.inj (by have q := hkp1.1; rw [fldV_eq F_99, fldV_eq F_95] at q; exact q))).trans rfl
      have kk_ac_99 : ac_99.toInt = ac_85.toInt := (congrArg Int32.toInt (show ac_99 = ac_85 from Value.int.inj (by have q := hkp1.2.1; rw [fldV_eq F_99, fldV_eq F_95] at q; exact q))).trans rfl
      have kk_he_99 : he_99.toInt = he_85.toInt := (congrArg Int32.toInt (show he_99 = he_85 from Value.int.inj (by have q := hkp1.2.2; rw [fldV_eq F_99, fldV_eq F_95] at q; exact q))).trans rfl
      refine lv_goto (tgt := 317) hx hb dX6_fieldActs_251 (by decide) ?_
      exact m_vret hx hb hr hlk hC hH (fun _ => (0, 0)) ⟨hI, hfr, hkp⟩ (Nat.le_of_ble_eq_true rfl) (Nat.le_of_ble_eq_true rfl) dX6_fieldActs_317
  · skip
    omega
  · skip
    omega
  · skip
    omega
  · skip
    omega
  · skip
    have hv_ : κ = 12 := by omega
    subst hv_
    have g0_ := fit_get (m := 3) rfl (by decide) kI_3 f0_
    have g1_ := fit_get (m := 3) rfl (by decide) kI_3 f1_
    have g2_ := fit_get (m := 3) rfl (by decide) kI_3 f2_
    have jk_10 : x_9.toInt = 12 := hk_10
    refine lv_tableIn (off := 226) (tgt := 254) hx hb dX6_fieldActs_28 (by rw [jk_10]; decide) (by rw [jk_10]; decide) (by rw [jk_10]; rfl) (by decide) ?_
    refine lv_aload_n hx hb dX6_fieldActs_254 rfl (lv_at hl 3 rfl) ?_
    refine m_get (ci := 6) (v := .ref (h 27)) (C := RX6) (T := TX6) (N := 30) hx hb hC hH hts in_X6_fieldActs_X6 hown F_1 rfl 27 (by decide) (hts (.fieldLink RX6 71 "LazyStateModel" "values" "[J") (by decide +kernel)) rfl dX6_fieldActs_255 ?_
    refine lv_iload_n hx hb dX6_fieldActs_258 rfl (lv_at hl 2 rfl) ?_
    refine lv_aload_n hx hb dX6_fieldActs_259 rfl (lv_at hl 3 rfl) ?_
    refine m_get (ci := 6) (v := .ref (h 26)) (C := RX6) (T := TX6) (N := 30) hx hb hC hH hts in_X6_fieldActs_X6 hown F_1 rfl 26 (by decide) (hts (.fieldLink RX6 68 "LazyStateModel" "handles" "[I") (by decide +kernel)) rfl dX6_fieldActs_260 ?_
    refine lv_lload_n hx hb dX6_fieldActs_263 rfl (lv_at hl 1 rfl) ?_
    refine lv_l2i hx hb dX6_fieldActs_264 rfl ?_
    refine lv_topi (fun x_100 ex_100 => ?_)
    have ix_100 : x_100.toInt = y_5.toInt := ic_l2i ex_100 rfl (by omega) (by omega)
    obtain ⟨g_101, hg_101, hp_101⟩ : okI G 0 4 (fun g => ∀ i, i < 4 → -3 ≤ (g i).toInt ∧ ((g i).toInt < n ∨ (n = 0 ∧ (g i).toInt = 0))) (f (h 26)) := hI.1 26 (by decide)
    refine m_iald hx hb hC hH hg_101 (vp_in_iff.mpr ⟨by omega, by omega⟩) dX6_fieldActs_265 ?_
    refine lv_topi (fun x_102 ex_102 => ?_)
    have qx_102 := hp_101 (x_100.toNatClampNeg) (ic_cl rfl (by omega) (by omega))
    rw [← ex_102] at qx_102
    obtain ⟨q1x_102, q2x_102⟩ := qx_102
    refine lv_aload_n hx hb dX6_fieldActs_266 rfl (lv_at hl 3 rfl) ?_
    refine m_get (ci := 6) (v := .ref (h 26)) (C := RX6) (T := TX6) (N := 30) hx hb hC hH hts in_X6_fieldActs_X6 hown F_1 rfl 26 (by decide) (hts (.fieldLink RX6 68 "LazyStateModel" "handles" "[I") (by decide +kernel)) rfl dX6_fieldActs_267 ?_
    refine lv_iload hx hb dX6_fieldActs_270 (lv_at hl 0 rfl) ?_
    refine m_iald hx hb hC hH hg_101 (vp_in_iff.mpr ⟨by omega, by omega⟩) dX6_fieldActs_272 ?_
    refine lv_topi (fun x_103 ex_103 => ?_)
    have qx_103 := hp_101 (x_7.toNatClampNeg) (ic_cl rfl (by omega) (by omega))
    rw [← ex_103] at qx_103
    obtain ⟨q1x_103, q2x_103⟩ := qx_103
    refine lv_icmp_ne (tgt := 280) hx hb dX6_fieldActs_273 (by decide) (fun c_104 => ?_) (fun c_104 => ?_)
    · skip
      have ic_104 : (x_102.toInt : Int) ≠ x_103.toInt := ic_ne rfl rfl c_104
      refine lv_lconst (v := 0) hx hb dX6_fieldActs_280 (by decide) ?_
      obtain ⟨g_105, hg_105, hp_105⟩ : okJ G 4 (fun _ => True) (f (h 27)) := hI.1 27 (by decide)
      refine m_last hx hb hC hH hg_105 (vp_in_iff.mpr ⟨by omega, by omega⟩) dX6_fieldActs_281 (fun H locs hH => ?_)
      obtain ⟨f_106, ef_106⟩ : ∃ zz_ : mF, zz_ = va_up f (h 27) (some (.inl (gk G 1, 4, .inr (.inl (vp_updL g_105 x_3.toNatClampNeg 0))))) := ⟨_, rfl⟩
      rw [← ef_106] at hH
      have F_107 := upk F_1 ef_106 (neM hj (by decide) (by decide) (by decide))
      have hI : IM G h n T z A f_106 := hI.arr 27 (by decide) (by decide) (by decide) (by decide) (show okJ G 4 (fun _ => True) _ from ⟨_, rfl, trivial⟩) ef_106
      have hfr := hfr.up 27 (by decide) ef_106
      have hkp := hkp.up 27 hj (by decide) (by decide) ef_106
      refine lv_goto (tgt := 317) hx hb dX6_fieldActs_282 (by decide) ?_
      exact m_vret hx hb hr hlk hC hH (fun _ => (0, 0)) ⟨hI, hfr, hkp⟩ (Nat.le_of_ble_eq_true rfl) (Nat.le_of_ble_eq_true rfl) dX6_fieldActs_317
    · skip
      have ic_104 : (x_102.toInt : Int) = x_103.toInt := ic_eq rfl rfl c_104
      refine lv_lconst (v := 1) hx hb dX6_fieldActs_276 (by decide) ?_
      refine lv_goto (tgt := 281) hx hb dX6_fieldActs_277 (by decide) ?_
      obtain ⟨g_108, hg_108, hp_108⟩ : okJ G 4 (fun _ => True) (f (h 27)) := hI.1 27 (by decide)
      refine m_last hx hb hC hH hg_108 (vp_in_iff.mpr ⟨by omega, by omega⟩) dX6_fieldActs_281 (fun H locs hH => ?_)
      obtain ⟨f_109, ef_109⟩ : ∃ zz_ : mF, zz_ = va_up f (h 27) (some (.inl (gk G 1, 4, .inr (.inl (vp_updL g_108 x_3.toNatClampNeg 1))))) := ⟨_, rfl⟩
      rw [← ef_109] at hH
      have F_110 := upk F_1 ef_109 (neM hj (by decide) (by decide) (by decide))
      have hI : IM G h n T z A f_109 := hI.arr 27 (by decide) (by decide) (by decide) (by decide) (show okJ G 4 (fun _ => True) _ from ⟨_, rfl, trivial⟩) ef_109
      have hfr := hfr.up 27 (by decide) ef_109
      have hkp := hkp.up 27 hj (by decide) (by decide) ef_109
      refine lv_goto (tgt := 317) hx hb dX6_fieldActs_282 (by decide) ?_
      exact m_vret hx hb hr hlk hC hH (fun _ => (0, 0)) ⟨hI, hfr, hkp⟩ (Nat.le_of_ble_eq_true rfl) (Nat.le_of_ble_eq_true rfl) dX6_fieldActs_317
set_option maxHeartbeats 4000000 in
set_option maxRecDepth 100000 in
theorem c_X6_rowActs (l : Launch) (G : mG) (h : Nat → Nat) (n : Nat) (T : Nat → Int32) (z : Nat → Nat) (A : Nat → tA) (f : mF) (hI : IM G h n T z A f) (hn0 : 0 < n) (kk : Int32) (K : Nat) (hv : vld z K) (hk : kk.toInt = K) (hd : (A K).1.toInt = 8 ∨ (A K).1.toInt = 9 ∨ (A K).1.toInt = 10 ∨ (A K).1.toInt = 11) : Met l yX6_rowActs wsX6_rowActs ({ frames := 4, cells := 0, slots := 0, locals := 103 }) (va_Pc [.ref (h 0), .int kk] (mW G f)) (va_Qv (fun (u : mS) => IM G h n T z A u.2 ∧ frM h f u.2 ∧ kpM h f u.2) (fun (u : mS) t => mW G u.2 t) (mA G)) 0 0 (mA G) := by
  refine mMet [.ref (h 0), .int kk] (cc := cX6_rowActs) (maxL := 10) (ret := none) (by decide) rfl (Nat.le_of_ble_eq_true rfl) ?_
  intro p e s m below meth c ls hx hb hr hml hts hown hlk hnm hC hH hl
  have hl : lv_has ls 10 [(0, .ref (h 0)), (1, .int kk)] := hl
  have hj := hI.2.2.1
  have hn24 := hI.2.2.2.1
  have nIn : (nI n).toInt = (n : Int) := nI_toInt (by omega)
  have hfr : frM h f f := frM.rf
  have hkp : kpM h f f := kpM.rf
  have hK192 := hv.1
  have kcl : kk.toNatClampNeg = K := by have := ic_clN hk (by omega); omega
  obtain ⟨κ, hκ, eκ, f0_, f1_, f2_, f3_, f4_⟩ := hI.actAt hv
  have iκ : (A K).1.toInt = κ := ic_nI eκ (by omega)
  refine lv_aload_n hx hb dX6_rowActs_0 rfl (lv_at hl 0 rfl) ?_
  obtain ⟨he_1, fe_1, ca_1, ga_1, wh_1, tm_1, wm_1, ac_1, th_1, st_1, F_1, b1_1, b2_1, b3_1, b4_1, b5_1, b6_1, b7_1, b8_1⟩ : okM0 h n (f (h 0)) := hI.1 0 (by decide)
  refine m_get (ci := 6) (v := .ref (h 11)) (C := RX6) (T := TX6) (N := 30) hx hb hC hH hts in_X6_rowActs_X6 hown F_1 rfl 11 (by decide) (hts (.fieldLink RX6 37 "LazyStateModel" "as" "[I") (by decide +kernel)) rfl dX6_rowActs_1 ?_
  refine lv_iload_n hx hb dX6_rowActs_4 rfl (lv_at hl 1 rfl) ?_
  obtain ⟨g_2, hg_2, hp_2⟩ : okI G 0 192 (fun g => ∀ k, vld z k → g k = (A k).2.1) (f (h 11)) := hI.1 11 (by decide)
  refine m_iald hx hb hC hH hg_2 (vp_in_iff.mpr ⟨by omega, by omega⟩) dX6_rowActs_5 ?_
  refine lv_topi (fun x_3 ex_3 => ?_)
  have tx_3 : x_3.toInt = (A K).2.1.toInt := by rw [ex_3, kcl, hp_2 K hv]
  refine lv_istore_n (lv' := [(2, .int x_3), (0, .ref (h 0)), (1, .int kk)]) hx hb dX6_rowActs_6 rfl hl (by decide) rfl (fun ls hl => ?_)
  refine lv_aload_n hx hb dX6_rowActs_7 rfl (lv_at hl 1 rfl) ?_
  refine m_get (ci := 6) (v := .ref (h 12)) (C := RX6) (T := TX6) (N := 30) hx hb hC hH hts in_X6_rowActs_X6 hown F_1 rfl 12 (by decide) (hts (.fieldLink RX6 40 "LazyStateModel" "bs" "[J") (by decide +kernel)) rfl dX6_rowActs_8 ?_
  refine lv_iload_n hx hb dX6_rowActs_11 rfl (lv_at hl 2 rfl) ?_
  obtain ⟨g_4, hg_4, hp_4⟩ : okJ G 192 (fun g => ∀ k, vld z k → g k = (A k).2.2.1) (f (h 12)) := hI.1 12 (by decide)
  refine m_lald hx hb hC hH hg_4 (vp_in_iff.mpr ⟨by omega, by omega⟩) dX6_rowActs_12 ?_
  refine lv_topl (fun y_5 ey_5 => ?_)
  have ty_5 : y_5.toInt = (A K).2.2.1.toInt := by rw [ey_5, kcl, hp_4 K hv]
  refine lv_lstore_n (lv' := [(3, .long y_5), (2, .int x_3), (0, .ref (h 0)), (1, .int kk)]) hx hb dX6_rowActs_13 rfl hl (by decide) rfl (fun ls hl => ?_)
  refine lv_aload_n hx hb dX6_rowActs_14 rfl (lv_at hl 2 rfl) ?_
  refine m_get (ci := 6) (v := .ref (h 13)) (C := RX6) (T := TX6) (N := 30) hx hb hC hH hts in_X6_rowActs_X6 hown F_1 rfl 13 (by decide) (hts (.fieldLink RX6 43 "LazyStateModel" "cs" "[I") (by decide +kernel)) rfl dX6_rowActs_15 ?_
  refine lv_iload_n hx hb dX6_rowActs_18 rfl (lv_at hl 3 rfl) ?_
  obtain ⟨g_6, hg_6, hp_6⟩ : okI G 0 192 (fun g => ∀ k, vld z k → g k = (A k).2.2.2.1) (f (h 13)) := hI.1 13 (by decide)
  refine m_iald hx hb hC hH hg_6 (vp_in_iff.mpr ⟨by omega, by omega⟩) dX6_rowActs_19 ?_
  refine lv_topi (fun x_7 ex_7 => ?_)
  have tx_7 : x_7.toInt = (A K).2.2.2.1.toInt := by rw [ex_7, kcl, hp_6 K hv]
  refine lv_istore (lv' := [(5, .int x_7), (3, .long y_5), (2, .int x_3), (0, .ref (h 0)), (1, .int kk)]) hx hb dX6_rowActs_20 hl (by decide) rfl (fun ls hl => ?_)
  refine lv_aload_n hx hb dX6_rowActs_22 rfl (lv_at hl 3 rfl) ?_
  refine m_get (ci := 6) (v := .ref (h 14)) (C := RX6) (T := TX6) (N := 30) hx hb hC hH hts in_X6_rowActs_X6 hown F_1 rfl 14 (by decide) (hts (.fieldLink RX6 46 "LazyStateModel" "ds" "[I") (by decide +kernel)) rfl dX6_rowActs_23 ?_
  refine lv_iload_n hx hb dX6_rowActs_26 rfl (lv_at hl 4 rfl) ?_
  obtain ⟨g_8, hg_8, hp_8⟩ : okI G 0 192 (fun g => ∀ k, vld z k → g k = (A k).2.2.2.2.1) (f (h 14)) := hI.1 14 (by decide)
  refine m_iald hx hb hC hH hg_8 (vp_in_iff.mpr ⟨by omega, by omega⟩) dX6_rowActs_27 ?_
  refine lv_topi (fun x_9 ex_9 => ?_)
  have tx_9 : x_9.toInt = (A K).2.2.2.2.1.toInt := by rw [ex_9, kcl, hp_8 K hv]
  refine lv_istore (lv' := [(6, .int x_9), (5, .int x_7), (3, .long y_5), (2, .int x_3), (0, .ref (h 0)), (1, .int kk)]) hx hb dX6_rowActs_28 hl (by decide) rfl (fun ls hl => ?_)
  refine lv_aload_n hx hb dX6_rowActs_30 rfl (lv_at hl 4 rfl) ?_
  refine m_get (ci := 6) (v := .ref (h 10)) (C := RX6) (T := TX6) (N := 30) hx hb hC hH hts in_X6_rowActs_X6 hown F_1 rfl 10 (by decide) (hts (.fieldLink RX6 34 "LazyStateModel" "kinds" "[I") (by decide +kernel)) rfl dX6_rowActs_31 ?_
  refine lv_iload_n hx hb dX6_rowActs_34 rfl (lv_at hl 5 rfl) ?_
  obtain ⟨g_10, hg_10, hp_10⟩ : okI G 0 192 (fun g => ∀ k, vld z k → g k = (A k).1) (f (h 10)) := hI.1 10 (by decide)
  refine m_iald hx hb hC hH hg_10 (vp_in_iff.mpr ⟨by omega, by omega⟩) dX6_rowActs_35 ?_
  refine lv_topi (fun x_11 ex_11 => ?_)
  have tx_11 : x_11.toInt = (A K).1.toInt := by rw [ex_11, kcl, hp_10 K hv]
  refine lv_bipush (v := 8) hx hb dX6_rowActs_36 (by decide) ?_
  refine lv_icmp_ne (tgt := 95) hx hb dX6_rowActs_38 (by decide) (fun c_12 => ?_) (fun c_12 => ?_)
  · skip
    have ic_12 : (x_11.toInt : Int) ≠ 8 := ic_ne rfl kI_8 c_12
    refine lv_aload_n hx hb dX6_rowActs_95 rfl (lv_at hl 4 rfl) ?_
    refine m_get (ci := 6) (v := .ref (h 10)) (C := RX6) (T := TX6) (N := 30) hx hb hC hH hts in_X6_rowActs_X6 hown F_1 rfl 10 (by decide) (hts (.fieldLink RX6 34 "LazyStateModel" "kinds" "[I") (by decide +kernel)) rfl dX6_rowActs_96 ?_
    refine lv_iload_n hx hb dX6_rowActs_99 rfl (lv_at hl 5 rfl) ?_
    refine m_iald hx hb hC hH hg_10 (vp_in_iff.mpr ⟨by omega, by omega⟩) dX6_rowActs_100 ?_
    refine lv_topi (fun x_13 ex_13 => ?_)
    have tx_13 : x_13.toInt = (A K).1.toInt := by rw [ex_13, kcl, hp_10 K hv]
    refine lv_bipush (v := 9) hx hb dX6_rowActs_101 (by decide) ?_
    refine lv_icmp_ne (tgt := 160) hx hb dX6_rowActs_103 (by decide) (fun c_14 => ?_) (fun c_14 => ?_)
    · skip
      have ic_14 : (x_13.toInt : Int) ≠ 9 := ic_ne rfl kI_9 c_14
      refine lv_aload_n hx hb dX6_rowActs_160 rfl (lv_at hl 4 rfl) ?_
      refine m_get (ci := 6) (v := .ref (h 10)) (C := RX6) (T := TX6) (N := 30) hx hb hC hH hts in_X6_rowActs_X6 hown F_1 rfl 10 (by decide) (hts (.fieldLink RX6 34 "LazyStateModel" "kinds" "[I") (by decide +kernel)) rfl dX6_rowActs_161 ?_
      refine lv_iload_n hx hb dX6_rowActs_164 rfl (lv_at hl 5 rfl) ?_
      refine m_iald hx hb hC hH hg_10 (vp_in_iff.mpr ⟨by omega, by omega⟩) dX6_rowActs_165 ?_
      refine lv_topi (fun x_15 ex_15 => ?_)
      have tx_15 : x_15.toInt = (A K).1.toInt := by rw [ex_15, kcl, hp_10 K hv]
      refine lv_bipush (v := 10) hx hb dX6_rowActs_166 (by decide) ?_
      refine lv_icmp_ne (tgt := 250) hx hb dX6_rowActs_168 (by decide) (fun c_16 => ?_) (fun c_16 => ?_)
      · skip
        have ic_16 : (x_15.toInt : Int) ≠ 10 := ic_ne rfl kI_10 c_16
        have hv_ : κ = 11 := by omega
        subst hv_
        have g0_ := fit_get (m := 3) rfl (by decide) kI_3 f0_
        have g1_ := fit_get (m := 7) rfl (by decide) kI_7 f1_
        have g2_ := fit_get (m := 3) rfl (by decide) kI_3 f2_
        have g3_ := fit_get (m := 7) rfl (by decide) kI_7 f3_
        have g4_ := fit_get (m := 3) rfl (by decide) kI_3 f4_
        refine lv_aload_n hx hb dX6_rowActs_250 rfl (lv_at hl 4 rfl) ?_
        refine lv_iload_n hx hb dX6_rowActs_251 rfl (lv_at hl 3 rfl) ?_
        refine lv_lload_n hx hb dX6_rowActs_252 rfl (lv_at hl 2 rfl) ?_
        refine lv_iload hx hb dX6_rowActs_253 (lv_at hl 1 rfl) ?_
        refine lv_iload hx hb dX6_rowActs_255 (lv_at hl 0 rfl) ?_
        refine lv_aload_n hx hb dX6_rowActs_257 rfl (lv_at hl 4 rfl) ?_
        refine m_get (ci := 6) (v := .ref (h 27)) (C := RX6) (T := TX6) (N := 30) hx hb hC hH hts in_X6_rowActs_X6 hown F_1 rfl 27 (by decide) (hts (.fieldLink RX6 71 "LazyStateModel" "values" "[J") (by decide +kernel)) rfl dX6_rowActs_258 ?_
        refine lv_aload_n hx hb dX6_rowActs_261 rfl (lv_at hl 4 rfl) ?_
        refine m_get (ci := 6) (v := .ref (h 15)) (C := RX6) (T := TX6) (N := 30) hx hb hC hH hts in_X6_rowActs_X6 hown F_1 rfl 15 (by decide) (hts (.fieldLink RX6 49 "LazyStateModel" "es" "[I") (by decide +kernel)) rfl dX6_rowActs_262 ?_
        refine lv_iload_n hx hb dX6_rowActs_265 rfl (lv_at hl 5 rfl) ?_
        obtain ⟨g_17, hg_17, hp_17⟩ : okI G 0 192 (fun g => ∀ k, vld z k → g k = (A k).2.2.2.2.2) (f (h 15)) := hI.1 15 (by decide)
        refine m_iald hx hb hC hH hg_17 (vp_in_iff.mpr ⟨by omega, by omega⟩) dX6_rowActs_266 ?_
        refine lv_topi (fun x_18 ex_18 => ?_)
        have tx_18 : x_18.toInt = (A K).2.2.2.2.2.toInt := by rw [ex_18, kcl, hp_17 K hv]
        obtain ⟨g_19, hg_19, hp_19⟩ : okJ G 4 (fun _ => True) (f (h 27)) := hI.1 27 (by decide)
        refine m_lald hx hb hC hH hg_19 (vp_in_iff.mpr ⟨by omega, by omega⟩) dX6_rowActs_267 ?_
        refine lv_topl (fun y_20 ey_20 => ?_)
        refine m_gov hH (va_runV (As := [.int x_3, .long y_5, .int x_7, .int x_9, .long y_20]) (rest := []) ⟨hx, hb, hml, hown, hts⟩ (c_X6_shift l G h n T z A f hI (by omega) x_3 y_5 x_7 x_9 y_20 (by omega) (by omega) (by omega) (by omega)) (cwV 5 hts gX6_rowActs_X6_shift rfl rfl rfl (by decide +kernel) ⟨Nat.le_of_ble_eq_true rfl, Nat.le_of_ble_eq_true rfl⟩) (m_preV (ci := 6) hC hH F_1 rfl) rfl rfl hl.1 rfl (lv_room (Nat.le_of_ble_eq_true rfl)) dX6_rowActs_268 ⟨Nat.le_of_ble_eq_true rfl, Nat.le_of_ble_eq_true rfl⟩) (fun rho_23 f_22 H locs hw hH => ?_)
        obtain ⟨hI, hfr1, hkp1⟩ := hw
        have hI : IM G h n T z A f_22 := hI
        have hfr1 : frM h f f_22 := hfr1
        have hkp1 : kpM h f f_22 := hkp1
        have hfr := hfr.trans hfr1
        have hkp := hkp.trans hkp1
        obtain ⟨he_24, fe_24, ca_24, ga_24, wh_24, tm_24, wm_24, ac_24, th_24, st_24, F_24, b1_24, b2_24, b3_24, b4_24, b5_24, b6_24, b7_24, b8_24⟩ : okM0 h n (f_22 (h 0)) := hI.1 0 (by decide)
        have kk_wm_24 : wm_24.toInt = wm_1.toInt := (congrArg Int32.toInt (show wm_24 = wm_1 from Value.int.inj (by have q := hkp1.1; rw [fldV_eq F_24, fldV_eq F_1] at q; exact q))).trans rfl
        have kk_ac_24 : ac_24.toInt = ac_1.toInt := (congrArg Int32.toInt (show ac_24 = ac_1 from Value.int.inj (by have q := hkp1.2.1; rw [fldV_eq F_24, fldV_eq F_1] at q; exact q))).trans rfl
        have kk_he_24 : he_24.toInt = he_1.toInt := (congrArg Int32.toInt (show he_24 = he_1 from Value.int.inj (by have q := hkp1.2.2; rw [fldV_eq F_24, fldV_eq F_1] at q; exact q))).trans rfl
        exact m_vret hx hb hr hlk hC hH (fun _ => (0, 0)) ⟨hI, hfr, hkp⟩ (Nat.le_of_ble_eq_true rfl) (Nat.le_of_ble_eq_true rfl) dX6_rowActs_271
      · skip
        have ic_16 : (x_15.toInt : Int) = 10 := ic_eq rfl kI_10 c_16
        have hv_ : κ = 10 := by omega
        subst hv_
        have g0_ := fit_get (m := 3) rfl (by decide) kI_3 f0_
        have g1_ := fit_get (m := 7) rfl (by decide) kI_7 f1_
        have g2_ := fit_get (m := 3) rfl (by decide) kI_3 f2_
        refine lv_aload_n hx hb dX6_rowActs_171 rfl (lv_at hl 4 rfl) ?_
        refine lv_iload_n hx hb dX6_rowActs_172 rfl (lv_at hl 3 rfl) ?_
        refine lv_lload_n hx hb dX6_rowActs_173 rfl (lv_at hl 2 rfl) ?_
        refine lv_iconst (v := 2) hx hb dX6_rowActs_174 (by decide) ?_
        refine m_goi hH (va_runV (As := [.int x_3, .long y_5, .int 2]) (rest := []) ⟨hx, hb, hml, hown, hts⟩ (c_X6_leafOf l G h n T z A f hI (by omega) x_3 y_5 2 (by have := kI_2; omega) (by have := kI_2; omega)) (cwV 3 hts gX6_rowActs_X6_leafOf rfl rfl rfl (by decide +kernel) ⟨Nat.le_of_ble_eq_true rfl, Nat.le_of_ble_eq_true rfl⟩) (m_preV (ci := 6) hC hH F_1 rfl) rfl rfl hl.1 rfl (lv_room (Nat.le_of_ble_eq_true rfl)) dX6_rowActs_175 ⟨Nat.le_of_ble_eq_true rfl, Nat.le_of_ble_eq_true rfl⟩) (fun r_25 rho_27 f_26 H locs hw hH => ?_)
        obtain ⟨hI, hfr1, hkp1, hr_25⟩ := hw
        have hI : IM G h n T z A f_26 := hI
        have hfr1 : frM h f f_26 := hfr1
        have hkp1 : kpM h f f_26 := hkp1
        try dsimp only at hr_25
        have hfr := hfr.trans hfr1
        have hkp := hkp.trans hkp1
        obtain ⟨he_28, fe_28, ca_28, ga_28, wh_28, tm_28, wm_28, ac_28, th_28, st_28, F_28, b1_28, b2_28, b3_28, b4_28, b5_28, b6_28, b7_28, b8_28⟩ : okM0 h n (f_26 (h 0)) := hI.1 0 (by decide)
        have kk_wm_28 : wm_28.toInt = wm_1.toInt := (congrArg Int32.toInt (show wm_28 = wm_1 from Value.int.inj (by have q := hkp1.1; rw [fldV_eq F_28, fldV_eq F_1] at q; exact q))).trans rfl
        have kk_ac_28 : ac_28.toInt = ac_1.toInt := (congrArg Int32.toInt (show ac_28 = ac_1 from Value.int.inj (by have q := hkp1.2.1; rw [fldV_eq F_28, fldV_eq F_1] at q; exact q))).trans rfl
        have kk_he_28 : he_28.toInt = he_1.toInt := (congrArg Int32.toInt (show he_28 = he_1 from Value.int.inj (by have q := hkp1.2.2; rw [fldV_eq F_28, fldV_eq F_1] at q; exact q))).trans rfl
        refine lv_istore (lv' := [(7, .int r_25), (6, .int x_9), (5, .int x_7), (3, .long y_5), (2, .int x_3), (0, .ref (h 0)), (1, .int kk)]) hx hb dX6_rowActs_178 hl (by decide) rfl (fun ls hl => ?_)
        refine lv_aload_n hx hb dX6_rowActs_180 rfl (lv_at hl 5 rfl) ?_
        refine m_get (ci := 6) (v := .ref (h 27)) (C := RX6) (T := TX6) (N := 30) hx hb hC hH hts in_X6_rowActs_X6 hown F_28 rfl 27 (by decide) (hts (.fieldLink RX6 71 "LazyStateModel" "values" "[J") (by decide +kernel)) rfl dX6_rowActs_181 ?_
        refine lv_iload hx hb dX6_rowActs_184 (lv_at hl 2 rfl) ?_
        obtain ⟨g_29, hg_29, hp_29⟩ : okJ G 4 (fun _ => True) (f_26 (h 27)) := hI.1 27 (by decide)
        refine m_lald hx hb hC hH hg_29 (vp_in_iff.mpr ⟨by omega, by omega⟩) dX6_rowActs_186 ?_
        refine lv_topl (fun y_30 ey_30 => ?_)
        refine lv_lstore (lv' := [(8, .long y_30), (7, .int r_25), (6, .int x_9), (5, .int x_7), (3, .long y_5), (2, .int x_3), (0, .ref (h 0)), (1, .int kk)]) hx hb dX6_rowActs_187 hl (by decide) rfl (fun ls hl => ?_)
        refine lv_iload hx hb dX6_rowActs_189 (lv_at hl 1 rfl) ?_
        refine lv_if_lt (tgt := 224) hx hb dX6_rowActs_191 (by decide) (fun c_31 => ?_) (fun c_31 => ?_)
        · skip
          have ic_31 : (r_25.toInt : Int) < 0 := ic_lt rfl kI_0 c_31
          have nth : th_28.toInt ≠ 0 := by obtain ⟨x, q1, q2⟩ := (hr_25.resolve_right (fun ⟨o, j, q⟩ => by omega)).2; rw [fldV_eq F_28] at q1; cases q1; exact q2
          refine lv_aload_n hx hb dX6_rowActs_224 rfl (lv_at hl 6 rfl) ?_
          refine m_get (ci := 6) (v := .int th_28) (C := RX6) (T := TX6) (N := 30) hx hb hC hH hts in_X6_rowActs_X6 hown F_28 rfl 28 (by decide) (hts (.fieldLink RX6 155 "LazyStateModel" "threw" "I") (by decide +kernel)) rfl dX6_rowActs_225 ?_
          refine lv_if_ne (tgt := 247) hx hb dX6_rowActs_228 (by decide) (fun c_32 => ?_) (fun c_32 => ?_)
          · skip
            have ic_32 : (th_28.toInt : Int) ≠ 0 := ic_ne rfl kI_0 c_32
            refine lv_goto (tgt := 271) hx hb dX6_rowActs_247 (by decide) ?_
            exact m_vret hx hb hr hlk hC hH (fun _ => (0, 0)) ⟨hI, hfr, hkp⟩ (Nat.le_of_ble_eq_true rfl) (Nat.le_of_ble_eq_true rfl) dX6_rowActs_271
          · skip
            have ic_32 : (th_28.toInt : Int) = 0 := ic_eq rfl kI_0 c_32
            refine lv_aload_n hx hb dX6_rowActs_231 rfl (lv_at hl 6 rfl) ?_
            refine lv_iload hx hb dX6_rowActs_232 (lv_at hl 1 rfl) ?_
            refine lv_lload hx hb dX6_rowActs_234 (lv_at hl 0 rfl) ?_
            refine lv_l2i hx hb dX6_rowActs_236 rfl ?_
            refine lv_topi (fun x_33 ex_33 => ?_)
            have ix_33 : x_33.toInt = y_30.toInt := ic_l2i ex_33 rfl (by omega) (by omega)
            refine m_gov hH (va_runV (As := [.int r_25, .int x_33]) (rest := []) ⟨hx, hb, hml, hown, hts⟩ (c_X6_newRow l G h n T z A f_26 hI r_25 x_33 (by omega) (by omega)) (cwV 2 hts gX6_rowActs_X6_newRow rfl rfl rfl (by decide +kernel) ⟨Nat.le_of_ble_eq_true rfl, Nat.le_of_ble_eq_true rfl⟩) (m_preV (ci := 6) hC hH F_28 rfl) rfl rfl hl.1 rfl (lv_room (Nat.le_of_ble_eq_true rfl)) dX6_rowActs_237 ⟨Nat.le_of_ble_eq_true rfl, Nat.le_of_ble_eq_true rfl⟩) (fun rho_36 f_35 H locs hw hH => ?_)
            obtain ⟨hI, hfr1, hkp1⟩ := hw
            have hI : IM G h n T z A f_35 := hI
            have hfr1 : frM h f_26 f_35 := hfr1
            have hkp1 : kpM h f_26 f_35 := hkp1
            have hfr := hfr.trans hfr1
            have hkp := hkp.trans hkp1
            obtain ⟨he_37, fe_37, ca_37, ga_37, wh_37, tm_37, wm_37, ac_37, th_37, st_37, F_37, b1_37, b2_37, b3_37, b4_37, b5_37, b6_37, b7_37, b8_37⟩ : okM0 h n (f_35 (h 0)) := hI.1 0 (by decide)
            have kk_wm_37 : wm_37.toInt = wm_28.toInt := (congrArg Int32.toInt (show wm_37 = wm_28 from Value.int.inj (by have q := hkp1.1; rw [fldV_eq F_37, fldV_eq F_28] at q; exact q))).trans rfl
            have kk_ac_37 : ac_37.toInt = ac_28.toInt := (congrArg Int32.toInt (show ac_37 = ac_28 from Value.int.inj (by have q := hkp1.2.1; rw [fldV_eq F_37, fldV_eq F_28] at q; exact q))).trans rfl
            have kk_he_37 : he_37.toInt = he_28.toInt := (congrArg Int32.toInt (show he_37 = he_28 from Value.int.inj (by have q := hkp1.2.2; rw [fldV_eq F_37, fldV_eq F_28] at q; exact q))).trans rfl
            refine lv_aload_n hx hb dX6_rowActs_240 rfl (lv_at hl 6 rfl) ?_
            refine lv_iload hx hb dX6_rowActs_241 (lv_at hl 1 rfl) ?_
            refine lv_iconst (v := 1) hx hb dX6_rowActs_243 (by decide) ?_
            refine m_gov hH (va_runV (As := [.int r_25, .int 1]) (rest := []) ⟨hx, hb, hml, hown, hts⟩ (c_X6_touch l G h n T z A f_35 hI r_25 1 (by have := kI_1; omega) (by have := kI_1; omega)) (cwV 2 hts gX6_rowActs_X6_touch rfl rfl rfl (by decide +kernel) ⟨Nat.le_of_ble_eq_true rfl, Nat.le_of_ble_eq_true rfl⟩) (m_preV (ci := 6) hC hH F_37 rfl) rfl rfl hl.1 rfl (lv_room (Nat.le_of_ble_eq_true rfl)) dX6_rowActs_244 ⟨Nat.le_of_ble_eq_true rfl, Nat.le_of_ble_eq_true rfl⟩) (fun rho_40 f_39 H locs hw hH => ?_)
            obtain ⟨hI, hfr1, hkp1⟩ := hw
            have hI : IM G h n T z A f_39 := hI
            have hfr1 : frM h f_35 f_39 := hfr1
            have hkp1 : kpM h f_35 f_39 := hkp1
            have hfr := hfr.trans hfr1
            have hkp := hkp.trans hkp1
            obtain ⟨he_41, fe_41, ca_41, ga_41, wh_41, tm_41, wm_41, ac_41, th_41, st_41, F_41, b1_41, b2_41, b3_41, b4_41, b5_41, b6_41, b7_41, b8_41⟩ : okM0 h n (f_39 (h 0)) := hI.1 0 (by decide)
            have kk_wm_41 : wm_41.toInt = wm_37.toInt := (congrArg Int32.toInt (show wm_41 = wm_37 from Value.int.inj (by have q := hkp1.1; rw [fldV_eq F_41, fldV_eq F_37] at q; exact q))).trans rfl
            have kk_ac_41 : ac_41.toInt = ac_37.toInt := (congrArg Int32.toInt (show ac_41 = ac_37 from Value.int.inj (by have q := hkp1.2.1; rw [fldV_eq F_41, fldV_eq F_37] at q; exact q))).trans rfl
            have kk_he_41 : he_41.toInt = he_37.toInt := (congrArg Int32.toInt (show he_41 = he_37 from Value.int.inj (by have q := hkp1.2.2; rw [fldV_eq F_41, fldV_eq F_37] at q; exact q))).trans rfl
            refine lv_goto (tgt := 271) hx hb dX6_rowActs_247 (by decide) ?_
            exact m_vret hx hb hr hlk hC hH (fun _ => (0, 0)) ⟨hI, hfr, hkp⟩ (Nat.le_of_ble_eq_true rfl) (Nat.le_of_ble_eq_true rfl) dX6_rowActs_271
        · skip
          have ic_31 : (r_25.toInt : Int) ≥ 0 := ic_nlt rfl kI_0 c_31
          obtain ⟨o_, j_, a1_, a2_, a3_, a4_, a5_, a6_⟩ := hr_25.resolve_left (fun q => by omega)
          refine lv_aload_n hx hb dX6_rowActs_194 rfl (lv_at hl 6 rfl) ?_
          refine lv_lload hx hb dX6_rowActs_195 (lv_at hl 0 rfl) ?_
          refine lv_lconst (v := 0) hx hb dX6_rowActs_197 (by decide) ?_
          refine W.lcmp hx hb dX6_rowActs_198 ?_
          refine lv_if_ge (tgt := 206) hx hb dX6_rowActs_199 (by decide) (fun c_42 => ?_) (fun c_42 => ?_)
          · skip
            have ic_42 : (0 : Int) ≤ y_30.toInt := lc_le kJ_0 rfl ((lg_cmp_ge _ _).mp c_42)
            refine lv_lload hx hb dX6_rowActs_206 (lv_at hl 0 rfl) ?_
            refine lv_ldc2 (v := 8) hx hb hown (hts (.constantLong RX6 125 (8)) (by decide +kernel)) dX6_rowActs_208 ?_
            refine W.lcmp hx hb dX6_rowActs_211 ?_
            refine lv_if_le (tgt := 220) hx hb dX6_rowActs_212 (by decide) (fun c_43 => ?_) (fun c_43 => ?_)
            · skip
              have ic_43 : (y_30.toInt : Int) ≤ 8 := lc_le rfl kJ_8 ((lg_cmp_le _ _).mp c_43)
              refine lv_iconst (v := 0) hx hb dX6_rowActs_220 (by decide) ?_
              refine m_put (ci := 6) (v := .int 0) (C := RX6) (T := TX6) (N := 30) hx hb hC hH hts in_X6_rowActs_X6 tyX6 tyX6_ok nmX6 hown F_28 rfl 28 (by decide) (hts (.fieldLink RX6 155 "LazyStateModel" "threw" "I") (by decide +kernel)) rfl rfl rfl (Nat.le_of_ble_eq_true rfl) dX6_rowActs_221 (fun H locs hH => ?_)
              have hH : mH G s (va_up f_26 (h 0) (some (.inr (6, [.int (nI n), .ref (h 1), .int he_28, .ref (h 3), .ref (h 4), .ref (h 5), .ref (h 6), .int fe_28, .ref (h 8), .ref (h 9), .ref (h 10), .ref (h 11), .ref (h 12), .ref (h 13), .ref (h 14), .ref (h 15), .int ca_28, .long ga_28, .int wh_28, .int tm_28, .ref (h 20), .ref (h 21), .int wm_28, .ref (h 23), .ref (h 24), .int ac_28, .ref (h 26), .ref (h 27), .int 0, .int st_28])))) H locs := hH
              obtain ⟨f_44, ef_44⟩ : ∃ zz_ : mF, zz_ = va_up f_26 (h 0) (some (.inr (6, [.int (nI n), .ref (h 1), .int he_28, .ref (h 3), .ref (h 4), .ref (h 5), .ref (h 6), .int fe_28, .ref (h 8), .ref (h 9), .ref (h 10), .ref (h 11), .ref (h 12), .ref (h 13), .ref (h 14), .ref (h 15), .int ca_28, .long ga_28, .int wh_28, .int tm_28, .ref (h 20), .ref (h 21), .int wm_28, .ref (h 23), .ref (h 24), .int ac_28, .ref (h 26), .ref (h 27), .int 0, .int st_28]))) := ⟨_, rfl⟩
              rw [← ef_44] at hH
              have F_45 : f_44 (h 0) = some (.inr (6, [.int (nI n), .ref (h 1), .int he_28, .ref (h 3), .ref (h 4), .ref (h 5), .ref (h 6), .int fe_28, .ref (h 8), .ref (h 9), .ref (h 10), .ref (h 11), .ref (h 12), .ref (h 13), .ref (h 14), .ref (h 15), .int ca_28, .long ga_28, .int wh_28, .int tm_28, .ref (h 20), .ref (h 21), .int wm_28, .ref (h 23), .ref (h 24), .int ac_28, .ref (h 26), .ref (h 27), .int 0, .int st_28])) := by rw [ef_44]; exact va_up_self _ _ _
              have hI : IM G h n T z A f_44 := hI.obj F_28 ef_44 rfl ⟨_, _, _, _, _, _, _, _, _, _, rfl, by have := True.intro; have := True.intro; have := True.intro; have := True.intro; omega, by have := True.intro; have := True.intro; have := True.intro; have := True.intro; omega, by have := True.intro; have := True.intro; have := True.intro; have := True.intro; omega, by have := True.intro; have := True.intro; have := True.intro; have := True.intro; omega, by have := True.intro; have := True.intro; have := True.intro; have := True.intro; omega, by have := True.intro; have := True.intro; have := True.intro; have := True.intro; omega, by have := True.intro; have := True.intro; have := True.intro; have := True.intro; omega, by have := True.intro; have := True.intro; have := True.intro; have := True.intro; omega⟩
              have hfr := hfr.up 0 (by decide) ef_44
              have hkp := hkp.obj F_28 F_45 rfl rfl rfl
              have hg_46 := upk hg_29 ef_44 (neM hj (by decide) (by decide) (by decide))
              refine lv_aload_n hx hb dX6_rowActs_224 rfl (lv_at hl 6 rfl) ?_
              refine m_get (ci := 6) (v := .int 0) (C := RX6) (T := TX6) (N := 30) hx hb hC hH hts in_X6_rowActs_X6 hown F_45 rfl 28 (by decide) (hts (.fieldLink RX6 155 "LazyStateModel" "threw" "I") (by decide +kernel)) rfl dX6_rowActs_225 ?_
              refine lv_if_ne (tgt := 247) hx hb dX6_rowActs_228 (by decide) (fun c_47 => ?_) (fun c_47 => ?_)
              · skip
                have ic_47 : (0 : Int) ≠ 0 := ic_ne kI_0 kI_0 c_47
                omega
              · skip
                have ic_47 : (0 : Int) = 0 := ic_eq kI_0 kI_0 c_47
                refine lv_aload_n hx hb dX6_rowActs_231 rfl (lv_at hl 6 rfl) ?_
                refine lv_iload hx hb dX6_rowActs_232 (lv_at hl 1 rfl) ?_
                refine lv_lload hx hb dX6_rowActs_234 (lv_at hl 0 rfl) ?_
                refine lv_l2i hx hb dX6_rowActs_236 rfl ?_
                refine lv_topi (fun x_48 ex_48 => ?_)
                have ix_48 : x_48.toInt = y_30.toInt := ic_l2i ex_48 rfl (by omega) (by omega)
                refine m_gov hH (va_runV (As := [.int r_25, .int x_48]) (rest := []) ⟨hx, hb, hml, hown, hts⟩ (c_X6_newRow l G h n T z A f_44 hI r_25 x_48 (by omega) (by omega)) (cwV 2 hts gX6_rowActs_X6_newRow rfl rfl rfl (by decide +kernel) ⟨Nat.le_of_ble_eq_true rfl, Nat.le_of_ble_eq_true rfl⟩) (m_preV (ci := 6) hC hH F_45 rfl) rfl rfl hl.1 rfl (lv_room (Nat.le_of_ble_eq_true rfl)) dX6_rowActs_237 ⟨Nat.le_of_ble_eq_true rfl, Nat.le_of_ble_eq_true rfl⟩) (fun rho_51 f_50 H locs hw hH => ?_)
                obtain ⟨hI, hfr1, hkp1⟩ := hw
                have hI : IM G h n T z A f_50 := hI
                have hfr1 : frM h f_44 f_50 := hfr1
                have hkp1 : kpM h f_44 f_50 := hkp1
                have hfr := hfr.trans hfr1
                have hkp := hkp.trans hkp1
                obtain ⟨he_52, fe_52, ca_52, ga_52, wh_52, tm_52, wm_52, ac_52, th_52, st_52, F_52, b1_52, b2_52, b3_52, b4_52, b5_52, b6_52, b7_52, b8_52⟩ : okM0 h n (f_50 (h 0)) := hI.1 0 (by decide)
                have kk_wm_52 : wm_52.toInt = wm_28.toInt := (congrArg Int32.toInt (show wm_52 = wm_28 from Value.int.inj (by have q := hkp1.1; rw [fldV_eq F_52, fldV_eq F_45] at q; exact q))).trans rfl
                have kk_ac_52 : ac_52.toInt = ac_28.toInt := (congrArg Int32.toInt (show ac_52 = ac_28 from Value.int.inj (by have q := hkp1.2.1; rw [fldV_eq F_52, fldV_eq F_45] at q; exact q))).trans rfl
                have kk_he_52 : he_52.toInt = he_28.toInt := (congrArg Int32.toInt (show he_52 = he_28 from Value.int.inj (by have q := hkp1.2.2; rw [fldV_eq F_52, fldV_eq F_45] at q; exact q))).trans rfl
                refine lv_aload_n hx hb dX6_rowActs_240 rfl (lv_at hl 6 rfl) ?_
                refine lv_iload hx hb dX6_rowActs_241 (lv_at hl 1 rfl) ?_
                refine lv_iconst (v := 1) hx hb dX6_rowActs_243 (by decide) ?_
                refine m_gov hH (va_runV (As := [.int r_25, .int 1]) (rest := []) ⟨hx, hb, hml, hown, hts⟩ (c_X6_touch l G h n T z A f_50 hI r_25 1 (by have := kI_1; omega) (by have := kI_1; omega)) (cwV 2 hts gX6_rowActs_X6_touch rfl rfl rfl (by decide +kernel) ⟨Nat.le_of_ble_eq_true rfl, Nat.le_of_ble_eq_true rfl⟩) (m_preV (ci := 6) hC hH F_52 rfl) rfl rfl hl.1 rfl (lv_room (Nat.le_of_ble_eq_true rfl)) dX6_rowActs_244 ⟨Nat.le_of_ble_eq_true rfl, Nat.le_of_ble_eq_true rfl⟩) (fun rho_55 f_54 H locs hw hH => ?_)
                obtain ⟨hI, hfr1, hkp1⟩ := hw
                have hI : IM G h n T z A f_54 := hI
                have hfr1 : frM h f_50 f_54 := hfr1
                have hkp1 : kpM h f_50 f_54 := hkp1
                have hfr := hfr.trans hfr1
                have hkp := hkp.trans hkp1
                obtain ⟨he_56, fe_56, ca_56, ga_56, wh_56, tm_56, wm_56, ac_56, th_56, st_56, F_56, b1_56, b2_56, b3_56, b4_56, b5_56, b6_56, b7_56, b8_56⟩ : okM0 h n (f_54 (h 0)) := hI.1 0 (by decide)
                have kk_wm_56 : wm_56.toInt = wm_52.toInt := (congrArg Int32.toInt (show wm_56 = wm_52 from Value.int.inj (by have q := hkp1.1; rw [fldV_eq F_56, fldV_eq F_52] at q; exact q))).trans rfl
                have kk_ac_56 : ac_56.toInt = ac_52.toInt := (congrArg Int32.toInt (show ac_56 = ac_52 from Value.int.inj (by have q := hkp1.2.1; rw [fldV_eq F_56, fldV_eq F_52] at q; exact q))).trans rfl
                have kk_he_56 : he_56.toInt = he_52.toInt := (congrArg Int32.toInt (show he_56 = he_52 from Value.int.inj (by have q := hkp1.2.2; rw [fldV_eq F_56, fldV_eq F_52] at q; exact q))).trans rfl
                refine lv_goto (tgt := 271) hx hb dX6_rowActs_247 (by decide) ?_
                exact m_vret hx hb hr hlk hC hH (fun _ => (0, 0)) ⟨hI, hfr, hkp⟩ (Nat.le_of_ble_eq_true rfl) (Nat.le_of_ble_eq_true rfl) dX6_rowActs_271
            · skip
              have ic_43 : (y_30.toInt : Int) > 8 := lc_nle rfl kJ_8 (fun q_ => c_43 ((lg_cmp_le _ _).mpr q_))
              refine lv_bipush (v := 8) hx hb dX6_rowActs_215 (by decide) ?_
              refine lv_goto (tgt := 221) hx hb dX6_rowActs_217 (by decide) ?_
              refine m_put (ci := 6) (v := .int 8) (C := RX6) (T := TX6) (N := 30) hx hb hC hH hts in_X6_rowActs_X6 tyX6 tyX6_ok nmX6 hown F_28 rfl 28 (by decide) (hts (.fieldLink RX6 155 "LazyStateModel" "threw" "I") (by decide +kernel)) rfl rfl rfl (Nat.le_of_ble_eq_true rfl) dX6_rowActs_221 (fun H locs hH => ?_)
              have hH : mH G s (va_up f_26 (h 0) (some (.inr (6, [.int (nI n), .ref (h 1), .int he_28, .ref (h 3), .ref (h 4), .ref (h 5), .ref (h 6), .int fe_28, .ref (h 8), .ref (h 9), .ref (h 10), .ref (h 11), .ref (h 12), .ref (h 13), .ref (h 14), .ref (h 15), .int ca_28, .long ga_28, .int wh_28, .int tm_28, .ref (h 20), .ref (h 21), .int wm_28, .ref (h 23), .ref (h 24), .int ac_28, .ref (h 26), .ref (h 27), .int 8, .int st_28])))) H locs := hH
              obtain ⟨f_57, ef_57⟩ : ∃ zz_ : mF, zz_ = va_up f_26 (h 0) (some (.inr (6, [.int (nI n), .ref (h 1), .int he_28, .ref (h 3), .ref (h 4), .ref (h 5), .ref (h 6), .int fe_28, .ref (h 8), .ref (h 9), .ref (h 10), .ref (h 11), .ref (h 12), .ref (h 13), .ref (h 14), .ref (h 15), .int ca_28, .long ga_28, .int wh_28, .int tm_28, .ref (h 20), .ref (h 21), .int wm_28, .ref (h 23), .ref (h 24), .int ac_28, .ref (h 26), .ref (h 27), .int 8, .int st_28]))) := ⟨_, rfl⟩
              rw [← ef_57] at hH
              have F_58 : f_57 (h 0) = some (.inr (6, [.int (nI n), .ref (h 1), .int he_28, .ref (h 3), .ref (h 4), .ref (h 5), .ref (h 6), .int fe_28, .ref (h 8), .ref (h 9), .ref (h 10), .ref (h 11), .ref (h 12), .ref (h 13), .ref (h 14), .ref (h 15), .int ca_28, .long ga_28, .int wh_28, .int tm_28, .ref (h 20), .ref (h 21), .int wm_28, .ref (h 23), .ref (h 24), .int ac_28, .ref (h 26), .ref (h 27), .int 8, .int st_28])) := by rw [ef_57]; exact va_up_self _ _ _
              have hI : IM G h n T z A f_57 := hI.obj F_28 ef_57 rfl ⟨_, _, _, _, _, _, _, _, _, _, rfl, by have := True.intro; have := True.intro; have := True.intro; have := True.intro; omega, by have := True.intro; have := True.intro; have := True.intro; have := True.intro; omega, by have := True.intro; have := True.intro; have := True.intro; have := True.intro; omega, by have := True.intro; have := True.intro; have := True.intro; have := True.intro; omega, by have := True.intro; have := True.intro; have := True.intro; have := True.intro; omega, by have := True.intro; have := True.intro; have := True.intro; have := True.intro; omega, by have := True.intro; have := True.intro; have := True.intro; have := True.intro; omega, by have := True.intro; have := True.intro; have := True.intro; have := True.intro; omega⟩
              have hfr := hfr.up 0 (by decide) ef_57
              have hkp := hkp.obj F_28 F_58 rfl rfl rfl
              have hg_59 := upk hg_29 ef_57 (neM hj (by decide) (by decide) (by decide))
              refine lv_aload_n hx hb dX6_rowActs_224 rfl (lv_at hl 6 rfl) ?_
              refine m_get (ci := 6) (v := .int 8) (C := RX6) (T := TX6) (N := 30) hx hb hC hH hts in_X6_rowActs_X6 hown F_58 rfl 28 (by decide) (hts (.fieldLink RX6 155 "LazyStateModel" "threw" "I") (by decide +kernel)) rfl dX6_rowActs_225 ?_
              refine lv_if_ne (tgt := 247) hx hb dX6_rowActs_228 (by decide) (fun c_60 => ?_) (fun c_60 => ?_)
              · skip
                have ic_60 : (8 : Int) ≠ 0 := ic_ne kI_8 kI_0 c_60
                refine lv_goto (tgt := 271) hx hb dX6_rowActs_247 (by decide) ?_
                exact m_vret hx hb hr hlk hC hH (fun _ => (0, 0)) ⟨hI, hfr, hkp⟩ (Nat.le_of_ble_eq_true rfl) (Nat.le_of_ble_eq_true rfl) dX6_rowActs_271
              · skip
                have ic_60 : (8 : Int) = 0 := ic_eq kI_8 kI_0 c_60
                omega
          · skip
            have ic_42 : (0 : Int) > y_30.toInt := lc_nle kJ_0 rfl (fun q_ => c_42 ((lg_cmp_ge _ _).mpr q_))
            refine lv_iconst (v := 4) hx hb dX6_rowActs_202 (by decide) ?_
            refine lv_goto (tgt := 221) hx hb dX6_rowActs_203 (by decide) ?_
            refine m_put (ci := 6) (v := .int 4) (C := RX6) (T := TX6) (N := 30) hx hb hC hH hts in_X6_rowActs_X6 tyX6 tyX6_ok nmX6 hown F_28 rfl 28 (by decide) (hts (.fieldLink RX6 155 "LazyStateModel" "threw" "I") (by decide +kernel)) rfl rfl rfl (Nat.le_of_ble_eq_true rfl) dX6_rowActs_221 (fun H locs hH => ?_)
            have hH : mH G s (va_up f_26 (h 0) (some (.inr (6, [.int (nI n), .ref (h 1), .int he_28, .ref (h 3), .ref (h 4), .ref (h 5), .ref (h 6), .int fe_28, .ref (h 8), .ref (h 9), .ref (h 10), .ref (h 11), .ref (h 12), .ref (h 13), .ref (h 14), .ref (h 15), .int ca_28, .long ga_28, .int wh_28, .int tm_28, .ref (h 20), .ref (h 21), .int wm_28, .ref (h 23), .ref (h 24), .int ac_28, .ref (h 26), .ref (h 27), .int 4, .int st_28])))) H locs := hH
            obtain ⟨f_61, ef_61⟩ : ∃ zz_ : mF, zz_ = va_up f_26 (h 0) (some (.inr (6, [.int (nI n), .ref (h 1), .int he_28, .ref (h 3), .ref (h 4), .ref (h 5), .ref (h 6), .int fe_28, .ref (h 8), .ref (h 9), .ref (h 10), .ref (h 11), .ref (h 12), .ref (h 13), .ref (h 14), .ref (h 15), .int ca_28, .long ga_28, .int wh_28, .int tm_28, .ref (h 20), .ref (h 21), .int wm_28, .ref (h 23), .ref (h 24), .int ac_28, .ref (h 26), .ref (h 27), .int 4, .int st_28]))) := ⟨_, rfl⟩
            rw [← ef_61] at hH
            have F_62 : f_61 (h 0) = some (.inr (6, [.int (nI n), .ref (h 1), .int he_28, .ref (h 3), .ref (h 4), .ref (h 5), .ref (h 6), .int fe_28, .ref (h 8), .ref (h 9), .ref (h 10), .ref (h 11), .ref (h 12), .ref (h 13), .ref (h 14), .ref (h 15), .int ca_28, .long ga_28, .int wh_28, .int tm_28, .ref (h 20), .ref (h 21), .int wm_28, .ref (h 23), .ref (h 24), .int ac_28, .ref (h 26), .ref (h 27), .int 4, .int st_28])) := by rw [ef_61]; exact va_up_self _ _ _
            have hI : IM G h n T z A f_61 := hI.obj F_28 ef_61 rfl ⟨_, _, _, _, _, _, _, _, _, _, rfl, by have := True.intro; have := True.intro; have := True.intro; have := True.intro; omega, by have := True.intro; have := True.intro; have := True.intro; have := True.intro; omega, by have := True.intro; have := True.intro; have := True.intro; have := True.intro; omega, by have := True.intro; have := True.intro; have := True.intro; have := True.intro; omega, by have := True.intro; have := True.intro; have := True.intro; have := True.intro; omega, by have := True.intro; have := True.intro; have := True.intro; have := True.intro; omega, by have := True.intro; have := True.intro; have := True.intro; have := True.intro; omega, by have := True.intro; have := True.intro; have := True.intro; have := True.intro; omega⟩
            have hfr := hfr.up 0 (by decide) ef_61
            have hkp := hkp.obj F_28 F_62 rfl rfl rfl
            have hg_63 := upk hg_29 ef_61 (neM hj (by decide) (by decide) (by decide))
            refine lv_aload_n hx hb dX6_rowActs_224 rfl (lv_at hl 6 rfl) ?_
            refine m_get (ci := 6) (v := .int 4) (C := RX6) (T := TX6) (N := 30) hx hb hC hH hts in_X6_rowActs_X6 hown F_62 rfl 28 (by decide) (hts (.fieldLink RX6 155 "LazyStateModel" "threw" "I") (by decide +kernel)) rfl dX6_rowActs_225 ?_
            refine lv_if_ne (tgt := 247) hx hb dX6_rowActs_228 (by decide) (fun c_64 => ?_) (fun c_64 => ?_)
            · skip
              have ic_64 : (4 : Int) ≠ 0 := ic_ne kI_4 kI_0 c_64
              refine lv_goto (tgt := 271) hx hb dX6_rowActs_247 (by decide) ?_
              exact m_vret hx hb hr hlk hC hH (fun _ => (0, 0)) ⟨hI, hfr, hkp⟩ (Nat.le_of_ble_eq_true rfl) (Nat.le_of_ble_eq_true rfl) dX6_rowActs_271
            · skip
              have ic_64 : (4 : Int) = 0 := ic_eq kI_4 kI_0 c_64
              omega
    · skip
      have ic_14 : (x_13.toInt : Int) = 9 := ic_eq rfl kI_9 c_14
      have hv_ : κ = 9 := by omega
      subst hv_
      have g0_ := fit_get (m := 3) rfl (by decide) kI_3 f0_
      have g1_ := fit_get (m := 7) rfl (by decide) kI_7 f1_
      have g2_ := fit_get (m := 3) rfl (by decide) kI_3 f2_
      have g3_ := fit_get (m := 3) rfl (by decide) kI_3 f3_
      refine lv_aload_n hx hb dX6_rowActs_106 rfl (lv_at hl 4 rfl) ?_
      refine lv_iload_n hx hb dX6_rowActs_107 rfl (lv_at hl 3 rfl) ?_
      refine lv_lload_n hx hb dX6_rowActs_108 rfl (lv_at hl 2 rfl) ?_
      refine lv_iconst (v := 2) hx hb dX6_rowActs_109 (by decide) ?_
      refine m_goi hH (va_runV (As := [.int x_3, .long y_5, .int 2]) (rest := []) ⟨hx, hb, hml, hown, hts⟩ (c_X6_readLeaf l G h n T z A f hI (by omega) x_3 y_5 2 (by have := kI_2; omega) (by have := kI_2; omega)) (cwV 3 hts gX6_rowActs_X6_readLeaf rfl rfl rfl (by decide +kernel) ⟨Nat.le_of_ble_eq_true rfl, Nat.le_of_ble_eq_true rfl⟩) (m_preV (ci := 6) hC hH F_1 rfl) rfl rfl hl.1 rfl (lv_room (Nat.le_of_ble_eq_true rfl)) dX6_rowActs_110 ⟨Nat.le_of_ble_eq_true rfl, Nat.le_of_ble_eq_true rfl⟩) (fun r_65 rho_67 f_66 H locs hw hH => ?_)
      obtain ⟨hI, hfr1, hkp1, hr_65⟩ := hw
      have hI : IM G h n T z A f_66 := hI
      have hfr1 : frM h f f_66 := hfr1
      have hkp1 : kpM h f f_66 := hkp1
      try dsimp only at hr_65
      have hfr := hfr.trans hfr1
      have hkp := hkp.trans hkp1
      obtain ⟨he_68, fe_68, ca_68, ga_68, wh_68, tm_68, wm_68, ac_68, th_68, st_68, F_68, b1_68, b2_68, b3_68, b4_68, b5_68, b6_68, b7_68, b8_68⟩ : okM0 h n (f_66 (h 0)) := hI.1 0 (by decide)
      have kk_wm_68 : wm_68.toInt = wm_1.toInt := (congrArg Int32.toInt (show wm_68 = wm_1 from Value.int.inj (by have q := hkp1.1; rw [fldV_eq F_68, fldV_eq F_1] at q; exact q))).trans rfl
      have kk_ac_68 : ac_68.toInt = ac_1.toInt := (congrArg Int32.toInt (show ac_68 = ac_1 from Value.int.inj (by have q := hkp1.2.1; rw [fldV_eq F_68, fldV_eq F_1] at q; exact q))).trans rfl
      have kk_he_68 : he_68.toInt = he_1.toInt := (congrArg Int32.toInt (show he_68 = he_1 from Value.int.inj (by have q := hkp1.2.2; rw [fldV_eq F_68, fldV_eq F_1] at q; exact q))).trans rfl
      refine lv_istore (lv' := [(7, .int r_65), (6, .int x_9), (5, .int x_7), (3, .long y_5), (2, .int x_3), (0, .ref (h 0)), (1, .int kk)]) hx hb dX6_rowActs_113 hl (by decide) rfl (fun ls hl => ?_)
      refine lv_aload_n hx hb dX6_rowActs_115 rfl (lv_at hl 5 rfl) ?_
      refine lv_iload hx hb dX6_rowActs_116 (lv_at hl 0 rfl) ?_
      refine lv_aload_n hx hb dX6_rowActs_118 rfl (lv_at hl 5 rfl) ?_
      refine m_get (ci := 6) (v := .ref (h 27)) (C := RX6) (T := TX6) (N := 30) hx hb hC hH hts in_X6_rowActs_X6 hown F_68 rfl 27 (by decide) (hts (.fieldLink RX6 71 "LazyStateModel" "values" "[J") (by decide +kernel)) rfl dX6_rowActs_119 ?_
      refine lv_iload hx hb dX6_rowActs_122 (lv_at hl 2 rfl) ?_
      obtain ⟨g_69, hg_69, hp_69⟩ : okJ G 4 (fun _ => True) (f_66 (h 27)) := hI.1 27 (by decide)
      refine m_lald hx hb hC hH hg_69 (vp_in_iff.mpr ⟨by omega, by omega⟩) dX6_rowActs_124 ?_
      refine lv_topl (fun y_70 ey_70 => ?_)
      refine m_goi hH (va_runV (As := [.int r_65, .long y_70]) (rest := []) ⟨hx, hb, hml, hown, hts⟩ (c_X6_itemOf l G h n T z A f_66 hI r_65 y_70 (by omega)) (cwV 2 hts gX6_rowActs_X6_itemOf rfl rfl rfl (by decide +kernel) ⟨Nat.le_of_ble_eq_true rfl, Nat.le_of_ble_eq_true rfl⟩) (m_preV (ci := 6) hC hH F_68 rfl) rfl rfl hl.1 rfl (lv_room (Nat.le_of_ble_eq_true rfl)) dX6_rowActs_125 ⟨Nat.le_of_ble_eq_true rfl, Nat.le_of_ble_eq_true rfl⟩) (fun r_71 rho_73 f_72 H locs hw hH => ?_)
      obtain ⟨hI, hfr1, hkp1, hr_71⟩ := hw
      have hI : IM G h n T z A f_72 := hI
      have hfr1 : frM h f_66 f_72 := hfr1
      have hkp1 : kpM h f_66 f_72 := hkp1
      try dsimp only at hr_71
      have hfr := hfr.trans hfr1
      have hkp := hkp.trans hkp1
      obtain ⟨he_74, fe_74, ca_74, ga_74, wh_74, tm_74, wm_74, ac_74, th_74, st_74, F_74, b1_74, b2_74, b3_74, b4_74, b5_74, b6_74, b7_74, b8_74⟩ : okM0 h n (f_72 (h 0)) := hI.1 0 (by decide)
      have kk_wm_74 : wm_74.toInt = wm_68.toInt := (congrArg Int32.toInt (show wm_74 = wm_68 from Value.int.inj (by have q := hkp1.1; rw [fldV_eq F_74, fldV_eq F_68] at q; exact q))).trans rfl
      have kk_ac_74 : ac_74.toInt = ac_68.toInt := (congrArg Int32.toInt (show ac_74 = ac_68 from Value.int.inj (by have q := hkp1.2.1; rw [fldV_eq F_74, fldV_eq F_68] at q; exact q))).trans rfl
      have kk_he_74 : he_74.toInt = he_68.toInt := (congrArg Int32.toInt (show he_74 = he_68 from Value.int.inj (by have q := hkp1.2.2; rw [fldV_eq F_74, fldV_eq F_68] at q; exact q))).trans rfl
      refine lv_istore (lv' := [(8, .int r_71), (7, .int r_65), (6, .int x_9), (5, .int x_7), (3, .long y_5), (2, .int x_3), (0, .ref (h 0)), (1, .int kk)]) hx hb dX6_rowActs_128 hl (by decide) rfl (fun ls hl => ?_)
      refine lv_iload hx hb dX6_rowActs_130 (lv_at hl 0 rfl) ?_
      refine lv_if_lt (tgt := 157) hx hb dX6_rowActs_132 (by decide) (fun c_75 => ?_) (fun c_75 => ?_)
      · skip
        have ic_75 : (r_71.toInt : Int) < 0 := ic_lt rfl kI_0 c_75
        refine lv_goto (tgt := 271) hx hb dX6_rowActs_157 (by decide) ?_
        exact m_vret hx hb hr hlk hC hH (fun _ => (0, 0)) ⟨hI, hfr, hkp⟩ (Nat.le_of_ble_eq_true rfl) (Nat.le_of_ble_eq_true rfl) dX6_rowActs_271
      · skip
        have ic_75 : (r_71.toInt : Int) ≥ 0 := ic_nlt rfl kI_0 c_75
        refine lv_aload_n hx hb dX6_rowActs_135 rfl (lv_at hl 6 rfl) ?_
        refine m_get (ci := 6) (v := .ref (h 5)) (C := RX6) (T := TX6) (N := 30) hx hb hC hH hts in_X6_rowActs_X6 hown F_74 rfl 5 (by decide) (hts (.fieldLink RX6 21 "LazyStateModel" "items" "[I") (by decide +kernel)) rfl dX6_rowActs_136 ?_
        refine lv_iload hx hb dX6_rowActs_139 (lv_at hl 0 rfl) ?_
        refine lv_aload_n hx hb dX6_rowActs_141 rfl (lv_at hl 6 rfl) ?_
        refine m_get (ci := 6) (v := .ref (h 27)) (C := RX6) (T := TX6) (N := 30) hx hb hC hH hts in_X6_rowActs_X6 hown F_74 rfl 27 (by decide) (hts (.fieldLink RX6 71 "LazyStateModel" "values" "[J") (by decide +kernel)) rfl dX6_rowActs_142 ?_
        refine lv_iload hx hb dX6_rowActs_145 (lv_at hl 2 rfl) ?_
        obtain ⟨g_76, hg_76, hp_76⟩ : okJ G 4 (fun _ => True) (f_72 (h 27)) := hI.1 27 (by decide)
        refine m_lald hx hb hC hH hg_76 (vp_in_iff.mpr ⟨by omega, by omega⟩) dX6_rowActs_147 ?_
        refine lv_topl (fun y_77 ey_77 => ?_)
        refine lv_l2i hx hb dX6_rowActs_148 rfl ?_
        refine lv_topi (fun x_78 ex_78 => ?_)
        obtain ⟨g_79, hg_79, hp_79⟩ : okI G 0 64512 (fun _ => True) (f_72 (h 5)) := hI.1 5 (by decide)
        refine m_iast hx hb hC hH hg_79 (vp_in_iff.mpr ⟨by omega, by omega⟩) dX6_rowActs_149 (fun H locs hH => ?_)
        obtain ⟨f_80, ef_80⟩ : ∃ zz_ : mF, zz_ = va_up f_72 (h 5) (some (.inl (gk G 0, 64512, .inl (upd g_79 r_71.toNatClampNeg x_78)))) := ⟨_, rfl⟩
        rw [← ef_80] at hH
        have F_81 := upk F_74 ef_80 (neM hj (by decide) (by decide) (by decide))
        have hI : IM G h n T z A f_80 := hI.arr 5 (by decide) (by decide) (by decide) (by decide) (show okI G 0 64512 (fun _ => True) _ from ⟨_, rfl, trivial⟩) ef_80
        have hfr := hfr.up 5 (by decide) ef_80
        have hkp := hkp.up 5 hj (by decide) (by decide) ef_80
        refine lv_aload_n hx hb dX6_rowActs_150 rfl (lv_at hl 6 rfl) ?_
        refine lv_iload hx hb dX6_rowActs_151 (lv_at hl 1 rfl) ?_
        refine lv_iconst (v := 1) hx hb dX6_rowActs_153 (by decide) ?_
        refine m_gov hH (va_runV (As := [.int r_65, .int 1]) (rest := []) ⟨hx, hb, hml, hown, hts⟩ (c_X6_touch l G h n T z A f_80 hI r_65 1 (by have := kI_1; omega) (by have := kI_1; omega)) (cwV 2 hts gX6_rowActs_X6_touch rfl rfl rfl (by decide +kernel) ⟨Nat.le_of_ble_eq_true rfl, Nat.le_of_ble_eq_true rfl⟩) (m_preV (ci := 6) hC hH F_81 rfl) rfl rfl hl.1 rfl (lv_room (Nat.le_of_ble_eq_true rfl)) dX6_rowActs_154 ⟨Nat.le_of_ble_eq_true rfl, Nat.le_of_ble_eq_true rfl⟩) (fun rho_84 f_83 H locs hw hH => ?_)
        obtain ⟨hI, hfr1, hkp1⟩ := hw
        have hI : IM G h n T z A f_83 := hI
        have hfr1 : frM h f_80 f_83 := hfr1
        have hkp1 : kpM h f_80 f_83 := hkp1
        have hfr := hfr.trans hfr1
        have hkp := hkp.trans hkp1
        obtain ⟨he_85, fe_85, ca_85, ga_85, wh_85, tm_85, wm_85, ac_85, th_85, st_85, F_85, b1_85, b2_85, b3_85, b4_85, b5_85, b6_85, b7_85, b8_85⟩ : okM0 h n (f_83 (h 0)) := hI.1 0 (by decide)
        have kk_wm_85 : wm_85.toInt = wm_74.toInt := (congrArg Int32.toInt (show wm_85 = wm_74 from Value.int.inj (by have q := hkp1.1; rw [fldV_eq F_85, fldV_eq F_81] at q; exact q))).trans rfl
        have kk_ac_85 : ac_85.toInt = ac_74.toInt := (congrArg Int32.toInt (show ac_85 = ac_74 from Value.int.inj (by have q := hkp1.2.1; rw [fldV_eq F_85, fldV_eq F_81] at q; exact q))).trans rfl
        have kk_he_85 : he_85.toInt = he_74.toInt := (congrArg Int32.toInt (show he_85 = he_74 from Value.int.inj (by have q := hkp1.2.2; rw [fldV_eq F_85, fldV_eq F_81] at q; exact q))).trans rfl
        refine lv_goto (tgt := 271) hx hb dX6_rowActs_157 (by decide) ?_
        exact m_vret hx hb hr hlk hC hH (fun _ => (0, 0)) ⟨hI, hfr, hkp⟩ (Nat.le_of_ble_eq_true rfl) (Nat.le_of_ble_eq_true rfl) dX6_rowActs_271
  · skip
    have ic_12 : (x_11.toInt : Int) = 8 := ic_eq rfl kI_8 c_12
    have hv_ : κ = 8 := by omega
    subst hv_
    have g0_ := fit_get (m := 3) rfl (by decide) kI_3 f0_
    have g1_ := fit_get (m := 3) rfl (by decide) kI_3 f1_
    have g2_ := fit_get (m := 7) rfl (by decide) kI_7 f2_
    have g3_ := fit_get (m := 3) rfl (by decide) kI_3 f3_
    refine lv_aload_n hx hb dX6_rowActs_41 rfl (lv_at hl 4 rfl) ?_
    refine lv_aload_n hx hb dX6_rowActs_42 rfl (lv_at hl 4 rfl) ?_
    refine lv_lload_n hx hb dX6_rowActs_43 rfl (lv_at hl 2 rfl) ?_
    refine lv_l2i hx hb dX6_rowActs_44 rfl ?_
    refine lv_topi (fun x_86 ex_86 => ?_)
    have ix_86 : x_86.toInt = y_5.toInt := ic_l2i ex_86 rfl (by omega) (by omega)
    refine lv_iload hx hb dX6_rowActs_45 (lv_at hl 1 rfl) ?_
    refine lv_i2l hx hb dX6_rowActs_47 rfl ?_
    refine lv_topl (fun y_87 ey_87 => ?_)
    have iy_87 : y_87.toInt = x_7.toInt := lc_i2l ey_87 rfl
    have gy_87 := ic_rng x_7
    refine lv_iconst (v := 2) hx hb dX6_rowActs_48 (by decide) ?_
    refine m_goi hH (va_runV (As := [.int x_86, .long y_87, .int 2]) (rest := [.ref (h 0)]) ⟨hx, hb, hml, hown, hts⟩ (c_X6_readLeaf l G h n T z A f hI (by omega) x_86 y_87 2 (by have := kI_2; omega) (by have := kI_2; omega)) (cwV 3 hts gX6_rowActs_X6_readLeaf rfl rfl rfl (by decide +kernel) ⟨Nat.le_of_ble_eq_true rfl, Nat.le_of_ble_eq_true rfl⟩) (m_preV (ci := 6) hC hH F_1 rfl) rfl rfl hl.1 rfl (lv_room (Nat.le_of_ble_eq_true rfl)) dX6_rowActs_49 ⟨Nat.le_of_ble_eq_true rfl, Nat.le_of_ble_eq_true rfl⟩) (fun r_88 rho_90 f_89 H locs hw hH => ?_)
    obtain ⟨hI, hfr1, hkp1, hr_88⟩ := hw
    have hI : IM G h n T z A f_89 := hI
    have hfr1 : frM h f f_89 := hfr1
    have hkp1 : kpM h f f_89 := hkp1
    try dsimp only at hr_88
    have hfr := hfr.trans hfr1
    have hkp := hkp.trans hkp1
    obtain ⟨he_91, fe_91, ca_91, ga_91, wh_91, tm_91, wm_91, ac_91, th_91, st_91, F_91, b1_91, b2_91, b3_91, b4_91, b5_91, b6_91, b7_91, b8_91⟩ : okM0 h n (f_89 (h 0)) := hI.1 0 (by decide)
    have kk_wm_91 : wm_91.toInt = wm_1.toInt := (congrArg Int32.toInt (show wm_91 = wm_1 from Value.int.inj (by have q := hkp1.1; rw [fldV_eq F_91, fldV_eq F_1] at q; exact q))).trans rfl
    have kk_ac_91 : ac_91.toInt = ac_1.toInt := (congrArg Int32.toInt (show ac_91 = ac_1 from Value.int.inj (by have q := hkp1.2.1; rw [fldV_eq F_91, fldV_eq F_1] at q; exact q))).trans rfl
    have kk_he_91 : he_91.toInt = he_1.toInt := (congrArg Int32.toInt (show he_91 = he_1 from Value.int.inj (by have q := hkp1.2.2; rw [fldV_eq F_91, fldV_eq F_1] at q; exact q))).trans rfl
    refine lv_aload_n hx hb dX6_rowActs_52 rfl (lv_at hl 4 rfl) ?_
    refine m_get (ci := 6) (v := .ref (h 27)) (C := RX6) (T := TX6) (N := 30) hx hb hC hH hts in_X6_rowActs_X6 hown F_91 rfl 27 (by decide) (hts (.fieldLink RX6 71 "LazyStateModel" "values" "[J") (by decide +kernel)) rfl dX6_rowActs_53 ?_
    refine lv_iload hx hb dX6_rowActs_56 (lv_at hl 0 rfl) ?_
    obtain ⟨g_92, hg_92, hp_92⟩ : okJ G 4 (fun _ => True) (f_89 (h 27)) := hI.1 27 (by decide)
    refine m_lald hx hb hC hH hg_92 (vp_in_iff.mpr ⟨by omega, by omega⟩) dX6_rowActs_58 ?_
    refine lv_topl (fun y_93 ey_93 => ?_)
    refine m_goi hH (va_runV (As := [.int r_88, .long y_93]) (rest := []) ⟨hx, hb, hml, hown, hts⟩ (c_X6_itemOf l G h n T z A f_89 hI r_88 y_93 (by omega)) (cwV 2 hts gX6_rowActs_X6_itemOf rfl rfl rfl (by decide +kernel) ⟨Nat.le_of_ble_eq_true rfl, Nat.le_of_ble_eq_true rfl⟩) (m_preV (ci := 6) hC hH F_91 rfl) rfl rfl hl.1 rfl (lv_room (Nat.le_of_ble_eq_true rfl)) dX6_rowActs_59 ⟨Nat.le_of_ble_eq_true rfl, Nat.le_of_ble_eq_true rfl⟩) (fun r_94 rho_96 f_95 H locs hw hH => ?_)
    obtain ⟨hI, hfr1, hkp1, hr_94⟩ := hw
    have hI : IM G h n T z A f_95 := hI
    have hfr1 : frM h f_89 f_95 := hfr1
    have hkp1 : kpM h f_89 f_95 := hkp1
    try dsimp only at hr_94
    have hfr := hfr.trans hfr1
    have hkp := hkp.trans hkp1
    obtain ⟨he_97, fe_97, ca_97, ga_97, wh_97, tm_97, wm_97, ac_97, th_97, st_97, F_97, b1_97, b2_97, b3_97, b4_97, b5_97, b6_97, b7_97, b8_97⟩ : okM0 h n (f_95 (h 0)) := hI.1 0 (by decide)
    have kk_wm_97 : wm_97.toInt = wm_91.toInt := (congrArg Int32.toInt (show wm_97 = wm_91 from Value.int.inj (by have q := hkp1.1; rw [fldV_eq F_97, fldV_eq F_91] at q; exact q))).trans rfl
    have kk_ac_97 : ac_97.toInt = ac_91.toInt := (congrArg Int32.toInt (show ac_97 = ac_91 from Value.int.inj (by have q := hkp1.2.1; rw [fldV_eq F_97, fldV_eq F_91] at q; exact q))).trans rfl
    have kk_he_97 : he_97.toInt = he_91.toInt := (congrArg Int32.toInt (show he_97 = he_91 from Value.int.inj (by have q := hkp1.2.2; rw [fldV_eq F_97, fldV_eq F_91] at q; exact q))).trans rfl
    refine lv_istore (lv' := [(7, .int r_94), (6, .int x_9), (5, .int x_7), (3, .long y_5), (2, .int x_3), (0, .ref (h 0)), (1, .int kk)]) hx hb dX6_rowActs_62 hl (by decide) rfl (fun ls hl => ?_)
    refine lv_aload_n hx hb dX6_rowActs_64 rfl (lv_at hl 5 rfl) ?_
    refine m_get (ci := 6) (v := .ref (h 27)) (C := RX6) (T := TX6) (N := 30) hx hb hC hH hts in_X6_rowActs_X6 hown F_97 rfl 27 (by decide) (hts (.fieldLink RX6 71 "LazyStateModel" "values" "[J") (by decide +kernel)) rfl dX6_rowActs_65 ?_
    refine lv_iload_n hx hb dX6_rowActs_68 rfl (lv_at hl 4 rfl) ?_
    refine lv_iload hx hb dX6_rowActs_69 (lv_at hl 0 rfl) ?_
    refine lv_if_ge (tgt := 83) hx hb dX6_rowActs_71 (by decide) (fun c_98 => ?_) (fun c_98 => ?_)
    · skip
      have ic_98 : (0 : Int) ≤ r_94.toInt := ic_le kI_0 rfl c_98
      refine lv_aload_n hx hb dX6_rowActs_83 rfl (lv_at hl 5 rfl) ?_
      refine m_get (ci := 6) (v := .ref (h 5)) (C := RX6) (T := TX6) (N := 30) hx hb hC hH hts in_X6_rowActs_X6 hown F_97 rfl 5 (by decide) (hts (.fieldLink RX6 21 "LazyStateModel" "items" "[I") (by decide +kernel)) rfl dX6_rowActs_84 ?_
      refine lv_iload hx hb dX6_rowActs_87 (lv_at hl 0 rfl) ?_
      obtain ⟨g_99, hg_99, hp_99⟩ : okI G 0 64512 (fun _ => True) (f_95 (h 5)) := hI.1 5 (by decide)
      refine m_iald hx hb hC hH hg_99 (vp_in_iff.mpr ⟨by omega, by omega⟩) dX6_rowActs_89 ?_
      refine lv_topi (fun x_100 ex_100 => ?_)
      refine lv_i2l hx hb dX6_rowActs_90 rfl ?_
      refine lv_topl (fun y_101 ey_101 => ?_)
      have iy_101 : y_101.toInt = x_100.toInt := lc_i2l ey_101 rfl
      have gy_101 := ic_rng x_100
      obtain ⟨g_102, hg_102, hp_102⟩ : okJ G 4 (fun _ => True) (f_95 (h 27)) := hI.1 27 (by decide)
      refine m_last hx hb hC hH hg_102 (vp_in_iff.mpr ⟨by omega, by omega⟩) dX6_rowActs_91 (fun H locs hH => ?_)
      obtain ⟨f_103, ef_103⟩ : ∃ zz_ : mF, zz_ = va_up f_95 (h 27) (some (.inl (gk G 1, 4, .inr (.inl (vp_updL g_102 x_3.toNatClampNeg y_101))))) := ⟨_, rfl⟩
      rw [← ef_103] at hH
      have F_104 := upk F_97 ef_103 (neM hj (by decide) (by decide) (by decide))
      have hI : IM G h n T z A f_103 := hI.arr 27 (by decide) (by decide) (by decide) (by decide) (show okJ G 4 (fun _ => True) _ from ⟨_, rfl, trivial⟩) ef_103
      have hfr := hfr.up 27 (by decide) ef_103
      have hkp := hkp.up 27 hj (by decide) (by decide) ef_103
      refine lv_goto (tgt := 271) hx hb dX6_rowActs_92 (by decide) ?_
      exact m_vret hx hb hr hlk hC hH (fun _ => (0, 0)) ⟨hI, hfr, hkp⟩ (Nat.le_of_ble_eq_true rfl) (Nat.le_of_ble_eq_true rfl) dX6_rowActs_271
    · skip
      have ic_98 : (0 : Int) > r_94.toInt := ic_nle kI_0 rfl c_98
      refine lv_aload_n hx hb dX6_rowActs_74 rfl (lv_at hl 5 rfl) ?_
      refine m_get (ci := 6) (v := .ref (h 27)) (C := RX6) (T := TX6) (N := 30) hx hb hC hH hts in_X6_rowActs_X6 hown F_97 rfl 27 (by decide) (hts (.fieldLink RX6 71 "LazyStateModel" "values" "[J") (by decide +kernel)) rfl dX6_rowActs_75 ?_
      refine lv_iload_n hx hb dX6_rowActs_78 rfl (lv_at hl 4 rfl) ?_
      obtain ⟨g_105, hg_105, hp_105⟩ : okJ G 4 (fun _ => True) (f_95 (h 27)) := hI.1 27 (by decide)
      refine m_lald hx hb hC hH hg_105 (vp_in_iff.mpr ⟨by omega, by omega⟩) dX6_rowActs_79 ?_
      refine lv_topl (fun y_106 ey_106 => ?_)
      refine lv_goto (tgt := 91) hx hb dX6_rowActs_80 (by decide) ?_
      refine m_last hx hb hC hH hg_105 (vp_in_iff.mpr ⟨by omega, by omega⟩) dX6_rowActs_91 (fun H locs hH => ?_)
      obtain ⟨f_107, ef_107⟩ : ∃ zz_ : mF, zz_ = va_up f_95 (h 27) (some (.inl (gk G 1, 4, .inr (.inl (vp_updL g_105 x_3.toNatClampNeg y_106))))) := ⟨_, rfl⟩
      rw [← ef_107] at hH
      have F_108 := upk F_97 ef_107 (neM hj (by decide) (by decide) (by decide))
      have hI : IM G h n T z A f_107 := hI.arr 27 (by decide) (by decide) (by decide) (by decide) (show okJ G 4 (fun _ => True) _ from ⟨_, rfl, trivial⟩) ef_107
      have hfr := hfr.up 27 (by decide) ef_107
      have hkp := hkp.up 27 hj (by decide) (by decide) ef_107
      refine lv_goto (tgt := 271) hx hb dX6_rowActs_92 (by decide) ?_
      exact m_vret hx hb hr hlk hC hH (fun _ => (0, 0)) ⟨hI, hfr, hkp⟩ (Nat.le_of_ble_eq_true rfl) (Nat.le_of_ble_eq_true rfl) dX6_rowActs_271
set_option maxHeartbeats 4000000 in
set_option maxRecDepth 100000 in
theorem c_X6_does (l : Launch) (G : mG) (h : Nat → Nat) (n : Nat) (T : Nat → Int32) (z : Nat → Nat) (A : Nat → tA) (f : mF) (hI : IM G h n T z A f) (hn0 : 0 < n) (kk : Int32) (K : Nat) (hv : vld z K) (hk : kk.toInt = K) (pp : Int32) (hpp : 0 ≤ pp.toInt ∧ pp.toInt < 32) : Met l yX6_does wsX6_does ({ frames := 5, cells := 0, slots := 0, locals := 132 }) (va_Pc [.ref (h 0), .int kk, .int pp] (mW G f)) (va_Qi (fun (r : Int32) (u : mS) => IM G h n T z A u.2 ∧ frM h f u.2 ∧ kpM h f u.2 ∧ 0 ≤ r.toInt ∧ r.toInt ≤ 32) (fun (u : mS) t => mW G u.2 t) (mA G)) 0 0 (mA G) := by
  refine mMet [.ref (h 0), .int kk, .int pp] (cc := cX6_does) (maxL := 4) (ret := (some .int)) (by decide) rfl (Nat.le_of_ble_eq_true rfl) ?_
  intro p e s m below meth c ls hx hb hr hml hts hown hlk hnm hC hH hl
  have hl : lv_has ls 4 [(0, .ref (h 0)), (1, .int kk), (2, .int pp)] := hl
  have hj := hI.2.2.1
  have hn24 := hI.2.2.2.1
  have nIn : (nI n).toInt = (n : Int) := nI_toInt (by omega)
  have hfr : frM h f f := frM.rf
  have hkp : kpM h f f := kpM.rf
  have hK192 := hv.1
  have kcl : kk.toNatClampNeg = K := by have := ic_clN hk (by omega); omega
  obtain ⟨κ, hκ, eκ, f0_, f1_, f2_, f3_, f4_⟩ := hI.actAt hv
  have iκ : (A K).1.toInt = κ := ic_nI eκ (by omega)
  refine lv_aload_n hx hb dX6_does_0 rfl (lv_at hl 0 rfl) ?_
  obtain ⟨he_1, fe_1, ca_1, ga_1, wh_1, tm_1, wm_1, ac_1, th_1, st_1, F_1, b1_1, b2_1, b3_1, b4_1, b5_1, b6_1, b7_1, b8_1⟩ : okM0 h n (f (h 0)) := hI.1 0 (by decide)
  refine m_get (ci := 6) (v := .ref (h 11)) (C := RX6) (T := TX6) (N := 30) hx hb hC hH hts in_X6_does_X6 hown F_1 rfl 11 (by decide) (hts (.fieldLink RX6 37 "LazyStateModel" "as" "[I") (by decide +kernel)) rfl dX6_does_1 ?_
  refine lv_iload_n hx hb dX6_does_4 rfl (lv_at hl 1 rfl) ?_
  obtain ⟨g_2, hg_2, hp_2⟩ : okI G 0 192 (fun g => ∀ k, vld z k → g k = (A k).2.1) (f (h 11)) := hI.1 11 (by decide)
  refine m_iald hx hb hC hH hg_2 (vp_in_iff.mpr ⟨by omega, by omega⟩) dX6_does_5 ?_
  refine lv_topi (fun x_3 ex_3 => ?_)
  have tx_3 : x_3.toInt = (A K).2.1.toInt := by rw [ex_3, kcl, hp_2 K hv]
  refine lv_istore_n (lv' := [(3, .int x_3), (0, .ref (h 0)), (1, .int kk), (2, .int pp)]) hx hb dX6_does_6 rfl hl (by decide) rfl (fun ls hl => ?_)
  refine lv_aload_n hx hb dX6_does_7 rfl (lv_at hl 1 rfl) ?_
  refine m_get (ci := 6) (v := .ref (h 10)) (C := RX6) (T := TX6) (N := 30) hx hb hC hH hts in_X6_does_X6 hown F_1 rfl 10 (by decide) (hts (.fieldLink RX6 34 "LazyStateModel" "kinds" "[I") (by decide +kernel)) rfl dX6_does_8 ?_
  refine lv_iload_n hx hb dX6_does_11 rfl (lv_at hl 2 rfl) ?_
  obtain ⟨g_4, hg_4, hp_4⟩ : okI G 0 192 (fun g => ∀ k, vld z k → g k = (A k).1) (f (h 10)) := hI.1 10 (by decide)
  refine m_iald hx hb hC hH hg_4 (vp_in_iff.mpr ⟨by omega, by omega⟩) dX6_does_12 ?_
  refine lv_topi (fun x_5 ex_5 => ?_)
  have tx_5 : x_5.toInt = (A K).1.toInt := by rw [ex_5, kcl, hp_4 K hv]
  have hk_6 : (x_5.toInt < 0 ∨ 17 < x_5.toInt) ∨ x_5.toInt = 0 ∨ x_5.toInt = 1 ∨ x_5.toInt = 2 ∨ x_5.toInt = 3 ∨ x_5.toInt = 4 ∨ x_5.toInt = 5 ∨ x_5.toInt = 6 ∨ x_5.toInt = 7 ∨ x_5.toInt = 8 ∨ x_5.toInt = 9 ∨ x_5.toInt = 10 ∨ x_5.toInt = 11 ∨ x_5.toInt = 12 ∨ x_5.toInt = 13 ∨ x_5.toInt = 14 ∨ x_5.toInt = 15 ∨ x_5.toInt = 16 ∨ x_5.toInt = 17 := by omega
  rcases hk_6 with hk_6 | hk_6 | hk_6 | hk_6 | hk_6 | hk_6 | hk_6 | hk_6 | hk_6 | hk_6 | hk_6 | hk_6 | hk_6 | hk_6 | hk_6 | hk_6 | hk_6 | hk_6 | hk_6
  · skip
    omega
  · skip
    have hv_ : κ = 0 := by omega
    subst hv_
    have g0_ := fit_get (m := 3) rfl (by decide) kI_3 f0_
    have jk_6 : x_5.toInt = 0 := hk_6
    refine lv_tableIn (off := 87) (tgt := 100) hx hb dX6_does_13 (by rw [jk_6]; decide) (by rw [jk_6]; decide) (by rw [jk_6]; rfl) (by decide) ?_
    refine lv_aload_n hx hb dX6_does_100 rfl (lv_at hl 1 rfl) ?_
    refine m_get (ci := 6) (v := .ref (h 27)) (C := RX6) (T := TX6) (N := 30) hx hb hC hH hts in_X6_does_X6 hown F_1 rfl 27 (by decide) (hts (.fieldLink RX6 71 "LazyStateModel" "values" "[J") (by decide +kernel)) rfl dX6_does_101 ?_
    refine lv_iload_n hx hb dX6_does_104 rfl (lv_at hl 0 rfl) ?_
    refine lv_aload_n hx hb dX6_does_105 rfl (lv_at hl 1 rfl) ?_
    refine m_get (ci := 6) (v := .ref (h 12)) (C := RX6) (T := TX6) (N := 30) hx hb hC hH hts in_X6_does_X6 hown F_1 rfl 12 (by decide) (hts (.fieldLink RX6 40 "LazyStateModel" "bs" "[J") (by decide +kernel)) rfl dX6_does_106 ?_
    refine lv_iload_n hx hb dX6_does_109 rfl (lv_at hl 2 rfl) ?_
    obtain ⟨g_7, hg_7, hp_7⟩ : okJ G 192 (fun g => ∀ k, vld z k → g k = (A k).2.2.1) (f (h 12)) := hI.1 12 (by decide)
    refine m_lald hx hb hC hH hg_7 (vp_in_iff.mpr ⟨by omega, by omega⟩) dX6_does_110 ?_
    refine lv_topl (fun y_8 ey_8 => ?_)
    have ty_8 : y_8.toInt = (A K).2.2.1.toInt := by rw [ey_8, kcl, hp_7 K hv]
    obtain ⟨g_9, hg_9, hp_9⟩ : okJ G 4 (fun _ => True) (f (h 27)) := hI.1 27 (by decide)
    refine m_last hx hb hC hH hg_9 (vp_in_iff.mpr ⟨by omega, by omega⟩) dX6_does_111 (fun H locs hH => ?_)
    obtain ⟨f_10, ef_10⟩ : ∃ zz_ : mF, zz_ = va_up f (h 27) (some (.inl (gk G 1, 4, .inr (.inl (vp_updL g_9 x_3.toNatClampNeg y_8))))) := ⟨_, rfl⟩
    rw [← ef_10] at hH
    have F_11 := upk F_1 ef_10 (neM hj (by decide) (by decide) (by decide))
    have hI : IM G h n T z A f_10 := hI.arr 27 (by decide) (by decide) (by decide) (by decide) (show okJ G 4 (fun _ => True) _ from ⟨_, rfl, trivial⟩) ef_10
    have hfr := hfr.up 27 (by decide) ef_10
    have hkp := hkp.up 27 hj (by decide) (by decide) ef_10
    refine lv_iload_n hx hb dX6_does_112 rfl (lv_at hl 3 rfl) ?_
    refine lv_iconst (v := 1) hx hb dX6_does_113 (by decide) ?_
    refine lv_iadd hx hb dX6_does_114 ?_
    refine lv_topi (fun x_12 ex_12 => ?_)
    have ix_12 : x_12.toInt = pp.toInt + 1 := ic_add ex_12 rfl kI_1 (by omega) (by omega)
    exact m_iret (v := x_12) hx hb hr hlk hC hH (fun _ => (0, 0)) ⟨hI, hfr, hkp, by omega, by omega⟩ (Nat.le_of_ble_eq_true rfl) (Nat.le_of_ble_eq_true rfl) dX6_does_115
  · skip
    have hv_ : κ = 1 := by omega
    subst hv_
    have g0_ := fit_get (m := 3) rfl (by decide) kI_3 f0_
    have g1_ := fit_get (m := 3) rfl (by decide) kI_3 f1_
    have g2_ := fit_get (m := 3) rfl (by decide) kI_3 f2_
    have jk_6 : x_5.toInt = 1 := hk_6
    refine lv_tableIn (off := 103) (tgt := 116) hx hb dX6_does_13 (by rw [jk_6]; decide) (by rw [jk_6]; decide) (by rw [jk_6]; rfl) (by decide) ?_
    refine lv_aload_n hx hb dX6_does_116 rfl (lv_at hl 1 rfl) ?_
    refine m_get (ci := 6) (v := .ref (h 27)) (C := RX6) (T := TX6) (N := 30) hx hb hC hH hts in_X6_does_X6 hown F_1 rfl 27 (by decide) (hts (.fieldLink RX6 71 "LazyStateModel" "values" "[J") (by decide +kernel)) rfl dX6_does_117 ?_
    refine lv_iload_n hx hb dX6_does_120 rfl (lv_at hl 0 rfl) ?_
    refine lv_aload_n hx hb dX6_does_121 rfl (lv_at hl 1 rfl) ?_
    refine m_get (ci := 6) (v := .ref (h 27)) (C := RX6) (T := TX6) (N := 30) hx hb hC hH hts in_X6_does_X6 hown F_1 rfl 27 (by decide) (hts (.fieldLink RX6 71 "LazyStateModel" "values" "[J") (by decide +kernel)) rfl dX6_does_122 ?_
    refine lv_aload_n hx hb dX6_does_125 rfl (lv_at hl 1 rfl) ?_
    refine m_get (ci := 6) (v := .ref (h 12)) (C := RX6) (T := TX6) (N := 30) hx hb hC hH hts in_X6_does_X6 hown F_1 rfl 12 (by decide) (hts (.fieldLink RX6 40 "LazyStateModel" "bs" "[J") (by decide +kernel)) rfl dX6_does_126 ?_
    refine lv_iload_n hx hb dX6_does_129 rfl (lv_at hl 2 rfl) ?_
    obtain ⟨g_13, hg_13, hp_13⟩ : okJ G 192 (fun g => ∀ k, vld z k → g k = (A k).2.2.1) (f (h 12)) := hI.1 12 (by decide)
    refine m_lald hx hb hC hH hg_13 (vp_in_iff.mpr ⟨by omega, by omega⟩) dX6_does_130 ?_
    refine lv_topl (fun y_14 ey_14 => ?_)
    have ty_14 : y_14.toInt = (A K).2.2.1.toInt := by rw [ey_14, kcl, hp_13 K hv]
    refine lv_l2i hx hb dX6_does_131 rfl ?_
    refine lv_topi (fun x_15 ex_15 => ?_)
    have ix_15 : x_15.toInt = y_14.toInt := ic_l2i ex_15 rfl (by omega) (by omega)
    obtain ⟨g_16, hg_16, hp_16⟩ : okJ G 4 (fun _ => True) (f (h 27)) := hI.1 27 (by decide)
    refine m_lald hx hb hC hH hg_16 (vp_in_iff.mpr ⟨by omega, by omega⟩) dX6_does_132 ?_
    refine lv_topl (fun y_17 ey_17 => ?_)
    refine lv_aload_n hx hb dX6_does_133 rfl (lv_at hl 1 rfl) ?_
    refine m_get (ci := 6) (v := .ref (h 27)) (C := RX6) (T := TX6) (N := 30) hx hb hC hH hts in_X6_does_X6 hown F_1 rfl 27 (by decide) (hts (.fieldLink RX6 71 "LazyStateModel" "values" "[J") (by decide +kernel)) rfl dX6_does_134 ?_
    refine lv_aload_n hx hb dX6_does_137 rfl (lv_at hl 1 rfl) ?_
    refine m_get (ci := 6) (v := .ref (h 13)) (C := RX6) (T := TX6) (N := 30) hx hb hC hH hts in_X6_does_X6 hown F_1 rfl 13 (by decide) (hts (.fieldLink RX6 43 "LazyStateModel" "cs" "[I") (by decide +kernel)) rfl dX6_does_138 ?_
    refine lv_iload_n hx hb dX6_does_141 rfl (lv_at hl 2 rfl) ?_
    obtain ⟨g_18, hg_18, hp_18⟩ : okI G 0 192 (fun g => ∀ k, vld z k → g k = (A k).2.2.2.1) (f (h 13)) := hI.1 13 (by decide)
    refine m_iald hx hb hC hH hg_18 (vp_in_iff.mpr ⟨by omega, by omega⟩) dX6_does_142 ?_
    refine lv_topi (fun x_19 ex_19 => ?_)
    have tx_19 : x_19.toInt = (A K).2.2.2.1.toInt := by rw [ex_19, kcl, hp_18 K hv]
    refine m_lald hx hb hC hH hg_16 (vp_in_iff.mpr ⟨by omega, by omega⟩) dX6_does_143 ?_
    refine lv_topl (fun y_20 ey_20 => ?_)
    refine lv_ladd hx hb dX6_does_144 ?_
    refine lv_topl (fun y_21 ey_21 => ?_)
    refine m_last hx hb hC hH hg_16 (vp_in_iff.mpr ⟨by omega, by omega⟩) dX6_does_145 (fun H locs hH => ?_)
    obtain ⟨f_22, ef_22⟩ : ∃ zz_ : mF, zz_ = va_up f (h 27) (some (.inl (gk G 1, 4, .inr (.inl (vp_updL g_16 x_3.toNatClampNeg y_21))))) := ⟨_, rfl⟩
    rw [← ef_22] at hH
    have F_23 := upk F_1 ef_22 (neM hj (by decide) (by decide) (by decide))
    have hI : IM G h n T z A f_22 := hI.arr 27 (by decide) (by decide) (by decide) (by decide) (show okJ G 4 (fun _ => True) _ from ⟨_, rfl, trivial⟩) ef_22
    have hfr := hfr.up 27 (by decide) ef_22
    have hkp := hkp.up 27 hj (by decide) (by decide) ef_22
    refine lv_iload_n hx hb dX6_does_146 rfl (lv_at hl 3 rfl) ?_
    refine lv_iconst (v := 1) hx hb dX6_does_147 (by decide) ?_
    refine lv_iadd hx hb dX6_does_148 ?_
    refine lv_topi (fun x_24 ex_24 => ?_)
    have ix_24 : x_24.toInt = pp.toInt + 1 := ic_add ex_24 rfl kI_1 (by omega) (by omega)
    exact m_iret (v := x_24) hx hb hr hlk hC hH (fun _ => (0, 0)) ⟨hI, hfr, hkp, by omega, by omega⟩ (Nat.le_of_ble_eq_true rfl) (Nat.le_of_ble_eq_true rfl) dX6_does_149
  · skip
    have hv_ : κ = 2 := by omega
    subst hv_
    have g0_ := fit_get (m := 3) rfl (by decide) kI_3 f0_
    have g1_ := fit_get (m := 3) rfl (by decide) kI_3 f1_
    have g2_ := fit_get (m := 3) rfl (by decide) kI_3 f2_
    have jk_6 : x_5.toInt = 2 := hk_6
    refine lv_tableIn (off := 137) (tgt := 150) hx hb dX6_does_13 (by rw [jk_6]; decide) (by rw [jk_6]; decide) (by rw [jk_6]; rfl) (by decide) ?_
    refine lv_aload_n hx hb dX6_does_150 rfl (lv_at hl 1 rfl) ?_
    refine m_get (ci := 6) (v := .ref (h 27)) (C := RX6) (T := TX6) (N := 30) hx hb hC hH hts in_X6_does_X6 hown F_1 rfl 27 (by decide) (hts (.fieldLink RX6 71 "LazyStateModel" "values" "[J") (by decide +kernel)) rfl dX6_does_151 ?_
    refine lv_iload_n hx hb dX6_does_154 rfl (lv_at hl 0 rfl) ?_
    refine lv_aload_n hx hb dX6_does_155 rfl (lv_at hl 1 rfl) ?_
    refine m_get (ci := 6) (v := .ref (h 27)) (C := RX6) (T := TX6) (N := 30) hx hb hC hH hts in_X6_does_X6 hown F_1 rfl 27 (by decide) (hts (.fieldLink RX6 71 "LazyStateModel" "values" "[J") (by decide +kernel)) rfl dX6_does_156 ?_
    refine lv_aload_n hx hb dX6_does_159 rfl (lv_at hl 1 rfl) ?_
    refine m_get (ci := 6) (v := .ref (h 12)) (C := RX6) (T := TX6) (N := 30) hx hb hC hH hts in_X6_does_X6 hown F_1 rfl 12 (by decide) (hts (.fieldLink RX6 40 "LazyStateModel" "bs" "[J") (by decide +kernel)) rfl dX6_does_160 ?_
    refine lv_iload_n hx hb dX6_does_163 rfl (lv_at hl 2 rfl) ?_
    obtain ⟨g_25, hg_25, hp_25⟩ : okJ G 192 (fun g => ∀ k, vld z k → g k = (A k).2.2.1) (f (h 12)) := hI.1 12 (by decide)
    refine m_lald hx hb hC hH hg_25 (vp_in_iff.mpr ⟨by omega, by omega⟩) dX6_does_164 ?_
    refine lv_topl (fun y_26 ey_26 => ?_)
    have ty_26 : y_26.toInt = (A K).2.2.1.toInt := by rw [ey_26, kcl, hp_25 K hv]
    refine lv_l2i hx hb dX6_does_165 rfl ?_
    refine lv_topi (fun x_27 ex_27 => ?_)
    have ix_27 : x_27.toInt = y_26.toInt := ic_l2i ex_27 rfl (by omega) (by omega)
    obtain ⟨g_28, hg_28, hp_28⟩ : okJ G 4 (fun _ => True) (f (h 27)) := hI.1 27 (by decide)
    refine m_lald hx hb hC hH hg_28 (vp_in_iff.mpr ⟨by omega, by omega⟩) dX6_does_166 ?_
    refine lv_topl (fun y_29 ey_29 => ?_)
    refine lv_aload_n hx hb dX6_does_167 rfl (lv_at hl 1 rfl) ?_
    refine m_get (ci := 6) (v := .ref (h 27)) (C := RX6) (T := TX6) (N := 30) hx hb hC hH hts in_X6_does_X6 hown F_1 rfl 27 (by decide) (hts (.fieldLink RX6 71 "LazyStateModel" "values" "[J") (by decide +kernel)) rfl dX6_does_168 ?_
    refine lv_aload_n hx hb dX6_does_171 rfl (lv_at hl 1 rfl) ?_
    refine m_get (ci := 6) (v := .ref (h 13)) (C := RX6) (T := TX6) (N := 30) hx hb hC hH hts in_X6_does_X6 hown F_1 rfl 13 (by decide) (hts (.fieldLink RX6 43 "LazyStateModel" "cs" "[I") (by decide +kernel)) rfl dX6_does_172 ?_
    refine lv_iload_n hx hb dX6_does_175 rfl (lv_at hl 2 rfl) ?_
    obtain ⟨g_30, hg_30, hp_30⟩ : okI G 0 192 (fun g => ∀ k, vld z k → g k = (A k).2.2.2.1) (f (h 13)) := hI.1 13 (by decide)
    refine m_iald hx hb hC hH hg_30 (vp_in_iff.mpr ⟨by omega, by omega⟩) dX6_does_176 ?_
    refine lv_topi (fun x_31 ex_31 => ?_)
    have tx_31 : x_31.toInt = (A K).2.2.2.1.toInt := by rw [ex_31, kcl, hp_30 K hv]
    refine m_lald hx hb hC hH hg_28 (vp_in_iff.mpr ⟨by omega, by omega⟩) dX6_does_177 ?_
    refine lv_topl (fun y_32 ey_32 => ?_)
    refine lv_lsub hx hb dX6_does_178 ?_
    refine lv_topl (fun y_33 ey_33 => ?_)
    refine m_last hx hb hC hH hg_28 (vp_in_iff.mpr ⟨by omega, by omega⟩) dX6_does_179 (fun H locs hH => ?_)
    obtain ⟨f_34, ef_34⟩ : ∃ zz_ : mF, zz_ = va_up f (h 27) (some (.inl (gk G 1, 4, .inr (.inl (vp_updL g_28 x_3.toNatClampNeg y_33))))) := ⟨_, rfl⟩
    rw [← ef_34] at hH
    have F_35 := upk F_1 ef_34 (neM hj (by decide) (by decide) (by decide))
    have hI : IM G h n T z A f_34 := hI.arr 27 (by decide) (by decide) (by decide) (by decide) (show okJ G 4 (fun _ => True) _ from ⟨_, rfl, trivial⟩) ef_34
    have hfr := hfr.up 27 (by decide) ef_34
    have hkp := hkp.up 27 hj (by decide) (by decide) ef_34
    refine lv_iload_n hx hb dX6_does_180 rfl (lv_at hl 3 rfl) ?_
    refine lv_iconst (v := 1) hx hb dX6_does_181 (by decide) ?_
    refine lv_iadd hx hb dX6_does_182 ?_
    refine lv_topi (fun x_36 ex_36 => ?_)
    have ix_36 : x_36.toInt = pp.toInt + 1 := ic_add ex_36 rfl kI_1 (by omega) (by omega)
    exact m_iret (v := x_36) hx hb hr hlk hC hH (fun _ => (0, 0)) ⟨hI, hfr, hkp, by omega, by omega⟩ (Nat.le_of_ble_eq_true rfl) (Nat.le_of_ble_eq_true rfl) dX6_does_183
  · skip
    have hv_ : κ = 3 := by omega
    subst hv_
    have g0_ := fit_get (m := 3) rfl (by decide) kI_3 f0_
    have g1_ := fit_get (m := 3) rfl (by decide) kI_3 f1_
    have g2_ := fit_get (m := 3) rfl (by decide) kI_3 f2_
    have jk_6 : x_5.toInt = 3 := hk_6
    refine lv_tableIn (off := 171) (tgt := 184) hx hb dX6_does_13 (by rw [jk_6]; decide) (by rw [jk_6]; decide) (by rw [jk_6]; rfl) (by decide) ?_
    refine lv_aload_n hx hb dX6_does_184 rfl (lv_at hl 1 rfl) ?_
    refine lv_aload_n hx hb dX6_does_185 rfl (lv_at hl 1 rfl) ?_
    refine m_get (ci := 6) (v := .ref (h 27)) (C := RX6) (T := TX6) (N := 30) hx hb hC hH hts in_X6_does_X6 hown F_1 rfl 27 (by decide) (hts (.fieldLink RX6 71 "LazyStateModel" "values" "[J") (by decide +kernel)) rfl dX6_does_186 ?_
    refine lv_aload_n hx hb dX6_does_189 rfl (lv_at hl 1 rfl) ?_
    refine m_get (ci := 6) (v := .ref (h 13)) (C := RX6) (T := TX6) (N := 30) hx hb hC hH hts in_X6_does_X6 hown F_1 rfl 13 (by decide) (hts (.fieldLink RX6 43 "LazyStateModel" "cs" "[I") (by decide +kernel)) rfl dX6_does_190 ?_
    refine lv_iload_n hx hb dX6_does_193 rfl (lv_at hl 2 rfl) ?_
    obtain ⟨g_37, hg_37, hp_37⟩ : okI G 0 192 (fun g => ∀ k, vld z k → g k = (A k).2.2.2.1) (f (h 13)) := hI.1 13 (by decide)
    refine m_iald hx hb hC hH hg_37 (vp_in_iff.mpr ⟨by omega, by omega⟩) dX6_does_194 ?_
    refine lv_topi (fun x_38 ex_38 => ?_)
    have tx_38 : x_38.toInt = (A K).2.2.2.1.toInt := by rw [ex_38, kcl, hp_37 K hv]
    obtain ⟨g_39, hg_39, hp_39⟩ : okJ G 4 (fun _ => True) (f (h 27)) := hI.1 27 (by decide)
    refine m_lald hx hb hC hH hg_39 (vp_in_iff.mpr ⟨by omega, by omega⟩) dX6_does_195 ?_
    refine lv_topl (fun y_40 ey_40 => ?_)
    refine lv_lconst (v := 0) hx hb dX6_does_196 (by decide) ?_
    refine W.lcmp hx hb dX6_does_197 ?_
    refine lv_if_ne (tgt := 205) hx hb dX6_does_198 (by decide) (fun c_41 => ?_) (fun c_41 => ?_)
    · skip
      have ic_41 : (y_40.toInt : Int) ≠ 0 := lc_ne rfl kJ_0 (fun q_ => c_41 ((lg_cmp_eq _ _).mpr q_))
      refine lv_iconst (v := 0) hx hb dX6_does_205 (by decide) ?_
      refine m_put (ci := 6) (v := .int 0) (C := RX6) (T := TX6) (N := 30) hx hb hC hH hts in_X6_does_X6 tyX6 tyX6_ok nmX6 hown F_1 rfl 28 (by decide) (hts (.fieldLink RX6 155 "LazyStateModel" "threw" "I") (by decide +kernel)) rfl rfl rfl (Nat.le_of_ble_eq_true rfl) dX6_does_206 (fun H locs hH => ?_)
      have hH : mH G s (va_up f (h 0) (some (.inr (6, [.int (nI n), .ref (h 1), .int he_1, .ref (h 3), .ref (h 4), .ref (h 5), .ref (h 6), .int fe_1, .ref (h 8), .ref (h 9), .ref (h 10), .ref (h 11), .ref (h 12), .ref (h 13), .ref (h 14), .ref (h 15), .int ca_1, .long ga_1, .int wh_1, .int tm_1, .ref (h 20), .ref (h 21), .int wm_1, .ref (h 23), .ref (h 24), .int ac_1, .ref (h 26), .ref (h 27), .int 0, .int st_1])))) H locs := hH
      obtain ⟨f_42, ef_42⟩ : ∃ zz_ : mF, zz_ = va_up f (h 0) (some (.inr (6, [.int (nI n), .ref (h 1), .int he_1, .ref (h 3), .ref (h 4), .ref (h 5), .ref (h 6), .int fe_1, .ref (h 8), .ref (h 9), .ref (h 10), .ref (h 11), .ref (h 12), .ref (h 13), .ref (h 14), .ref (h 15), .int ca_1, .long ga_1, .int wh_1, .int tm_1, .ref (h 20), .ref (h 21), .int wm_1, .ref (h 23), .ref (h 24), .int ac_1, .ref (h 26), .ref (h 27), .int 0, .int st_1]))) := ⟨_, rfl⟩
      rw [← ef_42] at hH
      have F_43 : f_42 (h 0) = some (.inr (6, [.int (nI n), .ref (h 1), .int he_1, .ref (h 3), .ref (h 4), .ref (h 5), .ref (h 6), .int fe_1, .ref (h 8), .ref (h 9), .ref (h 10), .ref (h 11), .ref (h 12), .ref (h 13), .ref (h 14), .ref (h 15), .int ca_1, .long ga_1, .int wh_1, .int tm_1, .ref (h 20), .ref (h 21), .int wm_1, .ref (h 23), .ref (h 24), .int ac_1, .ref (h 26), .ref (h 27), .int 0, .int st_1])) := by rw [ef_42]; exact va_up_self _ _ _
      have hI : IM G h n T z A f_42 := hI.obj F_1 ef_42 rfl ⟨_, _, _, _, _, _, _, _, _, _, rfl, by have := True.intro; have := True.intro; have := True.intro; have := True.intro; omega, by have := True.intro; have := True.intro; have := True.intro; have := True.intro; omega, by have := True.intro; have := True.intro; have := True.intro; have := True.intro; omega, by have := True.intro; have := True.intro; have := True.intro; have := True.intro; omega, by have := True.intro; have := True.intro; have := True.intro; have := True.intro; omega, by have := True.intro; have := True.intro; have := True.intro; have := True.intro; omega, by have := True.intro; have := True.intro; have := True.intro; have := True.intro; omega, by have := True.intro; have := True.intro; have := True.intro; have := True.intro; omega⟩
      have hfr := hfr.up 0 (by decide) ef_42
      have hkp := hkp.obj F_1 F_43 rfl rfl rfl
      have hg_44 := upk hg_2 ef_42 (neM hj (by decide) (by decide) (by decide))
      have hg_45 := upk hg_4 ef_42 (neM hj (by decide) (by decide) (by decide))
      have hg_46 := upk hg_37 ef_42 (neM hj (by decide) (by decide) (by decide))
      have hg_47 := upk hg_39 ef_42 (neM hj (by decide) (by decide) (by decide))
      refine lv_aload_n hx hb dX6_does_209 rfl (lv_at hl 1 rfl) ?_
      refine m_get (ci := 6) (v := .ref (h 27)) (C := RX6) (T := TX6) (N := 30) hx hb hC hH hts in_X6_does_X6 hown F_43 rfl 27 (by decide) (hts (.fieldLink RX6 71 "LazyStateModel" "values" "[J") (by decide +kernel)) rfl dX6_does_210 ?_
      refine lv_iload_n hx hb dX6_does_213 rfl (lv_at hl 0 rfl) ?_
      refine lv_aload_n hx hb dX6_does_214 rfl (lv_at hl 1 rfl) ?_
      refine m_get (ci := 6) (v := .int 0) (C := RX6) (T := TX6) (N := 30) hx hb hC hH hts in_X6_does_X6 hown F_43 rfl 28 (by decide) (hts (.fieldLink RX6 155 "LazyStateModel" "threw" "I") (by decide +kernel)) rfl dX6_does_215 ?_
      refine lv_if_le (tgt := 230) hx hb dX6_does_218 (by decide) (fun c_48 => ?_) (fun c_48 => ?_)
      · skip
        have ic_48 : (0 : Int) ≤ 0 := ic_le kI_0 kI_0 c_48
        refine lv_aload_n hx hb dX6_does_230 rfl (lv_at hl 1 rfl) ?_
        refine m_get (ci := 6) (v := .ref (h 27)) (C := RX6) (T := TX6) (N := 30) hx hb hC hH hts in_X6_does_X6 hown F_43 rfl 27 (by decide) (hts (.fieldLink RX6 71 "LazyStateModel" "values" "[J") (by decide +kernel)) rfl dX6_does_231 ?_
        refine lv_aload_n hx hb dX6_does_234 rfl (lv_at hl 1 rfl) ?_
        refine m_get (ci := 6) (v := .ref (h 12)) (C := RX6) (T := TX6) (N := 30) hx hb hC hH hts in_X6_does_X6 hown F_43 rfl 12 (by decide) (hts (.fieldLink RX6 40 "LazyStateModel" "bs" "[J") (by decide +kernel)) rfl dX6_does_235 ?_
        refine lv_iload_n hx hb dX6_does_238 rfl (lv_at hl 2 rfl) ?_
        obtain ⟨g_49, hg_49, hp_49⟩ : okJ G 192 (fun g => ∀ k, vld z k → g k = (A k).2.2.1) (f_42 (h 12)) := hI.1 12 (by decide)
        refine m_lald hx hb hC hH hg_49 (vp_in_iff.mpr ⟨by omega, by omega⟩) dX6_does_239 ?_
        refine lv_topl (fun y_50 ey_50 => ?_)
        have ty_50 : y_50.toInt = (A K).2.2.1.toInt := by rw [ey_50, kcl, hp_49 K hv]
        refine lv_l2i hx hb dX6_does_240 rfl ?_
        refine lv_topi (fun x_51 ex_51 => ?_)
        have ix_51 : x_51.toInt = y_50.toInt := ic_l2i ex_51 rfl (by omega) (by omega)
        refine m_lald hx hb hC hH hg_47 (vp_in_iff.mpr ⟨by omega, by omega⟩) dX6_does_241 ?_
        refine lv_topl (fun y_52 ey_52 => ?_)
        refine lv_aload_n hx hb dX6_does_242 rfl (lv_at hl 1 rfl) ?_
        refine m_get (ci := 6) (v := .ref (h 27)) (C := RX6) (T := TX6) (N := 30) hx hb hC hH hts in_X6_does_X6 hown F_43 rfl 27 (by decide) (hts (.fieldLink RX6 71 "LazyStateModel" "values" "[J") (by decide +kernel)) rfl dX6_does_243 ?_
        refine lv_aload_n hx hb dX6_does_246 rfl (lv_at hl 1 rfl) ?_
        refine m_get (ci := 6) (v := .ref (h 13)) (C := RX6) (T := TX6) (N := 30) hx hb hC hH hts in_X6_does_X6 hown F_43 rfl 13 (by decide) (hts (.fieldLink RX6 43 "LazyStateModel" "cs" "[I") (by decide +kernel)) rfl dX6_does_247 ?_
        refine lv_iload_n hx hb dX6_does_250 rfl (lv_at hl 2 rfl) ?_
        refine m_iald hx hb hC hH hg_46 (vp_in_iff.mpr ⟨by omega, by omega⟩) dX6_does_251 ?_
        refine lv_topi (fun x_53 ex_53 => ?_)
        have tx_53 : x_53.toInt = (A K).2.2.2.1.toInt := by rw [ex_53, kcl, hp_37 K hv]
        refine m_lald hx hb hC hH hg_47 (vp_in_iff.mpr ⟨by omega, by omega⟩) dX6_does_252 ?_
        refine lv_topl (fun y_54 ey_54 => ?_)
        refine lv_ldiv hx hb dX6_does_253 (fun q => by have hq : y_54 = y_40 := (by rw [ey_54, ey_40, ex_53, ex_38]); rw [hq] at q; have q2 : y_40.toInt = 0 := (by rw [q]; rfl); omega) ?_
        refine lv_topl (fun y_55 ey_55 => ?_)
        refine m_last hx hb hC hH hg_47 (vp_in_iff.mpr ⟨by omega, by omega⟩) dX6_does_254 (fun H locs hH => ?_)
        obtain ⟨f_56, ef_56⟩ : ∃ zz_ : mF, zz_ = va_up f_42 (h 27) (some (.inl (gk G 1, 4, .inr (.inl (vp_updL g_39 x_3.toNatClampNeg y_55))))) := ⟨_, rfl⟩
        rw [← ef_56] at hH
        have F_57 := upk F_43 ef_56 (neM hj (by decide) (by decide) (by decide))
        have hI : IM G h n T z A f_56 := hI.arr 27 (by decide) (by decide) (by decide) (by decide) (show okJ G 4 (fun _ => True) _ from ⟨_, rfl, trivial⟩) ef_56
        have hfr := hfr.up 27 (by decide) ef_56
        have hkp := hkp.up 27 hj (by decide) (by decide) ef_56
        refine lv_iload_n hx hb dX6_does_255 rfl (lv_at hl 3 rfl) ?_
        refine lv_iconst (v := 1) hx hb dX6_does_256 (by decide) ?_
        refine lv_iadd hx hb dX6_does_257 ?_
        refine lv_topi (fun x_58 ex_58 => ?_)
        have ix_58 : x_58.toInt = pp.toInt + 1 := ic_add ex_58 rfl kI_1 (by omega) (by omega)
        exact m_iret (v := x_58) hx hb hr hlk hC hH (fun _ => (0, 0)) ⟨hI, hfr, hkp, by omega, by omega⟩ (Nat.le_of_ble_eq_true rfl) (Nat.le_of_ble_eq_true rfl) dX6_does_258
      · skip
        have ic_48 : (0 : Int) > 0 := ic_nle kI_0 kI_0 c_48
        omega
    · skip
      have ic_41 : (y_40.toInt : Int) = 0 := lc_eq rfl kJ_0 ((lg_cmp_eq _ _).mp c_41)
      refine lv_iconst (v := 5) hx hb dX6_does_201 (by decide) ?_
      refine lv_goto (tgt := 206) hx hb dX6_does_202 (by decide) ?_
      refine m_put (ci := 6) (v := .int 5) (C := RX6) (T := TX6) (N := 30) hx hb hC hH hts in_X6_does_X6 tyX6 tyX6_ok nmX6 hown F_1 rfl 28 (by decide) (hts (.fieldLink RX6 155 "LazyStateModel" "threw" "I") (by decide +kernel)) rfl rfl rfl (Nat.le_of_ble_eq_true rfl) dX6_does_206 (fun H locs hH => ?_)
      have hH : mH G s (va_up f (h 0) (some (.inr (6, [.int (nI n), .ref (h 1), .int he_1, .ref (h 3), .ref (h 4), .ref (h 5), .ref (h 6), .int fe_1, .ref (h 8), .ref (h 9), .ref (h 10), .ref (h 11), .ref (h 12), .ref (h 13), .ref (h 14), .ref (h 15), .int ca_1, .long ga_1, .int wh_1, .int tm_1, .ref (h 20), .ref (h 21), .int wm_1, .ref (h 23), .ref (h 24), .int ac_1, .ref (h 26), .ref (h 27), .int 5, .int st_1])))) H locs := hH
      obtain ⟨f_59, ef_59⟩ : ∃ zz_ : mF, zz_ = va_up f (h 0) (some (.inr (6, [.int (nI n), .ref (h 1), .int he_1, .ref (h 3), .ref (h 4), .ref (h 5), .ref (h 6), .int fe_1, .ref (h 8), .ref (h 9), .ref (h 10), .ref (h 11), .ref (h 12), .ref (h 13), .ref (h 14), .ref (h 15), .int ca_1, .long ga_1, .int wh_1, .int tm_1, .ref (h 20), .ref (h 21), .int wm_1, .ref (h 23), .ref (h 24), .int ac_1, .ref (h 26), .ref (h 27), .int 5, .int st_1]))) := ⟨_, rfl⟩
      rw [← ef_59] at hH
      have F_60 : f_59 (h 0) = some (.inr (6, [.int (nI n), .ref (h 1), .int he_1, .ref (h 3), .ref (h 4), .ref (h 5), .ref (h 6), .int fe_1, .ref (h 8), .ref (h 9), .ref (h 10), .ref (h 11), .ref (h 12), .ref (h 13), .ref (h 14), .ref (h 15), .int ca_1, .long ga_1, .int wh_1, .int tm_1, .ref (h 20), .ref (h 21), .int wm_1, .ref (h 23), .ref (h 24), .int ac_1, .ref (h 26), .ref (h 27), .int 5, .int st_1])) := by rw [ef_59]; exact va_up_self _ _ _
      have hI : IM G h n T z A f_59 := hI.obj F_1 ef_59 rfl ⟨_, _, _, _, _, _, _, _, _, _, rfl, by have := True.intro; have := True.intro; have := True.intro; have := True.intro; omega, by have := True.intro; have := True.intro; have := True.intro; have := True.intro; omega, by have := True.intro; have := True.intro; have := True.intro; have := True.intro; omega, by have := True.intro; have := True.intro; have := True.intro; have := True.intro; omega, by have := True.intro; have := True.intro; have := True.intro; have := True.intro; omega, by have := True.intro; have := True.intro; have := True.intro; have := True.intro; omega, by have := True.intro; have := True.intro; have := True.intro; have := True.intro; omega, by have := True.intro; have := True.intro; have := True.intro; have := True.intro; omega⟩
      have hfr := hfr.up 0 (by decide) ef_59
      have hkp := hkp.obj F_1 F_60 rfl rfl rfl
      have hg_61 := upk hg_2 ef_59 (neM hj (by decide) (by decide) (by decide))
      have hg_62 := upk hg_4 ef_59 (neM hj (by decide) (by decide) (by decide))
      have hg_63 := upk hg_37 ef_59 (neM hj (by decide) (by decide) (by decide))
      have hg_64 := upk hg_39 ef_59 (neM hj (by decide) (by decide) (by decide))
      refine lv_aload_n hx hb dX6_does_209 rfl (lv_at hl 1 rfl) ?_
      refine m_get (ci := 6) (v := .ref (h 27)) (C := RX6) (T := TX6) (N := 30) hx hb hC hH hts in_X6_does_X6 hown F_60 rfl 27 (by decide) (hts (.fieldLink RX6 71 "LazyStateModel" "values" "[J") (by decide +kernel)) rfl dX6_does_210 ?_
      refine lv_iload_n hx hb dX6_does_213 rfl (lv_at hl 0 rfl) ?_
      refine lv_aload_n hx hb dX6_does_214 rfl (lv_at hl 1 rfl) ?_
      refine m_get (ci := 6) (v := .int 5) (C := RX6) (T := TX6) (N := 30) hx hb hC hH hts in_X6_does_X6 hown F_60 rfl 28 (by decide) (hts (.fieldLink RX6 155 "LazyStateModel" "threw" "I") (by decide +kernel)) rfl dX6_does_215 ?_
      refine lv_if_le (tgt := 230) hx hb dX6_does_218 (by decide) (fun c_65 => ?_) (fun c_65 => ?_)
      · skip
        have ic_65 : (5 : Int) ≤ 0 := ic_le kI_5 kI_0 c_65
        omega
      · skip
        have ic_65 : (5 : Int) > 0 := ic_nle kI_5 kI_0 c_65
        refine lv_aload_n hx hb dX6_does_221 rfl (lv_at hl 1 rfl) ?_
        refine m_get (ci := 6) (v := .ref (h 27)) (C := RX6) (T := TX6) (N := 30) hx hb hC hH hts in_X6_does_X6 hown F_60 rfl 27 (by decide) (hts (.fieldLink RX6 71 "LazyStateModel" "values" "[J") (by decide +kernel)) rfl dX6_does_222 ?_
        refine lv_iload_n hx hb dX6_does_225 rfl (lv_at hl 0 rfl) ?_
        refine m_lald hx hb hC hH hg_64 (vp_in_iff.mpr ⟨by omega, by omega⟩) dX6_does_226 ?_
        refine lv_topl (fun y_66 ey_66 => ?_)
        refine lv_goto (tgt := 254) hx hb dX6_does_227 (by decide) ?_
        refine m_last hx hb hC hH hg_64 (vp_in_iff.mpr ⟨by omega, by omega⟩) dX6_does_254 (fun H locs hH => ?_)
        obtain ⟨f_67, ef_67⟩ : ∃ zz_ : mF, zz_ = va_up f_59 (h 27) (some (.inl (gk G 1, 4, .inr (.inl (vp_updL g_39 x_3.toNatClampNeg y_66))))) := ⟨_, rfl⟩
        rw [← ef_67] at hH
        have F_68 := upk F_60 ef_67 (neM hj (by decide) (by decide) (by decide))
        have hI : IM G h n T z A f_67 := hI.arr 27 (by decide) (by decide) (by decide) (by decide) (show okJ G 4 (fun _ => True) _ from ⟨_, rfl, trivial⟩) ef_67
        have hfr := hfr.up 27 (by decide) ef_67
        have hkp := hkp.up 27 hj (by decide) (by decide) ef_67
        refine lv_iload_n hx hb dX6_does_255 rfl (lv_at hl 3 rfl) ?_
        refine lv_iconst (v := 1) hx hb dX6_does_256 (by decide) ?_
        refine lv_iadd hx hb dX6_does_257 ?_
        refine lv_topi (fun x_69 ex_69 => ?_)
        have ix_69 : x_69.toInt = pp.toInt + 1 := ic_add ex_69 rfl kI_1 (by omega) (by omega)
        exact m_iret (v := x_69) hx hb hr hlk hC hH (fun _ => (0, 0)) ⟨hI, hfr, hkp, by omega, by omega⟩ (Nat.le_of_ble_eq_true rfl) (Nat.le_of_ble_eq_true rfl) dX6_does_258
  · skip
    have hv_ : κ = 4 := by omega
    subst hv_
    have g0_ := fit_get (m := 3) rfl (by decide) kI_3 f0_
    have g1_ := fit_get (m := 3) rfl (by decide) kI_3 f1_
    have g2_ := fit_get (m := 7) rfl (by decide) kI_7 f2_
    have jk_6 : x_5.toInt = 4 := hk_6
    refine lv_tableIn (off := 309) (tgt := 322) hx hb dX6_does_13 (by rw [jk_6]; decide) (by rw [jk_6]; decide) (by rw [jk_6]; rfl) (by decide) ?_
    refine lv_aload_n hx hb dX6_does_322 rfl (lv_at hl 1 rfl) ?_
    refine lv_iload_n hx hb dX6_does_323 rfl (lv_at hl 2 rfl) ?_
    refine m_gov hH (va_runV (As := [.int kk]) (rest := []) ⟨hx, hb, hml, hown, hts⟩ (c_X6_fieldActs l G h n T z A f hI (by omega) kk K hv hk (by omega)) (cwV 1 hts gX6_does_X6_fieldActs rfl rfl rfl (by decide +kernel) ⟨Nat.le_of_ble_eq_true rfl, Nat.le_of_ble_eq_true rfl⟩) (m_preV (ci := 6) hC hH F_1 rfl) rfl rfl hl.1 rfl (lv_room (Nat.le_of_ble_eq_true rfl)) dX6_does_324 ⟨Nat.le_of_ble_eq_true rfl, Nat.le_of_ble_eq_true rfl⟩) (fun rho_72 f_71 H locs hw hH => ?_)
    obtain ⟨hI, hfr1, hkp1⟩ := hw
    have hI : IM G h n T z A f_71 := hI
    have hfr1 : frM h f f_71 := hfr1
    have hkp1 : kpM h f f_71 := hkp1
    have hfr := hfr.trans hfr1
    have hkp := hkp.trans hkp1
    obtain ⟨he_73, fe_73, ca_73, ga_73, wh_73, tm_73, wm_73, ac_73, th_73, st_73, F_73, b1_73, b2_73, b3_73, b4_73, b5_73, b6_73, b7_73, b8_73⟩ : okM0 h n (f_71 (h 0)) := hI.1 0 (by decide)
    have kk_wm_73 : wm_73.toInt = wm_1.toInt := (congrArg Int32.toInt (show wm_73 = wm_1 from Value.int.inj (by have q := hkp1.1; rw [fldV_eq F_73, fldV_eq F_1] at q; exact q))).trans rfl
    have kk_ac_73 : ac_73.toInt = ac_1.toInt := (congrArg Int32.toInt (show ac_73 = ac_1 from Value.int.inj (by have q := hkp1.2.1; rw [fldV_eq F_73, fldV_eq F_1] at q; exact q))).trans rfl
    have kk_he_73 : he_73.toInt = he_1.toInt := (congrArg Int32.toInt (show he_73 = he_1 from Value.int.inj (by have q := hkp1.2.2; rw [fldV_eq F_73, fldV_eq F_1] at q; exact q))).trans rfl
    refine lv_iload_n hx hb dX6_does_327 rfl (lv_at hl 3 rfl) ?_
    refine lv_iconst (v := 1) hx hb dX6_does_328 (by decide) ?_
    refine lv_iadd hx hb dX6_does_329 ?_
    refine lv_topi (fun x_74 ex_74 => ?_)
    have ix_74 : x_74.toInt = pp.toInt + 1 := ic_add ex_74 rfl kI_1 (by omega) (by omega)
    exact m_iret (v := x_74) hx hb hr hlk hC hH (fun _ => (0, 0)) ⟨hI, hfr, hkp, by omega, by omega⟩ (Nat.le_of_ble_eq_true rfl) (Nat.le_of_ble_eq_true rfl) dX6_does_330
  · skip
    have hv_ : κ = 5 := by omega
    subst hv_
    have g0_ := fit_get (m := 3) rfl (by decide) kI_3 f0_
    have g1_ := fit_get (m := 7) rfl (by decide) kI_7 f1_
    have g2_ := fit_get (m := 3) rfl (by decide) kI_3 f2_
    have jk_6 : x_5.toInt = 5 := hk_6
    refine lv_tableIn (off := 309) (tgt := 322) hx hb dX6_does_13 (by rw [jk_6]; decide) (by rw [jk_6]; decide) (by rw [jk_6]; rfl) (by decide) ?_
    refine lv_aload_n hx hb dX6_does_322 rfl (lv_at hl 1 rfl) ?_
    refine lv_iload_n hx hb dX6_does_323 rfl (lv_at hl 2 rfl) ?_
    refine m_gov hH (va_runV (As := [.int kk]) (rest := []) ⟨hx, hb, hml, hown, hts⟩ (c_X6_fieldActs l G h n T z A f hI (by omega) kk K hv hk (by omega)) (cwV 1 hts gX6_does_X6_fieldActs rfl rfl rfl (by decide +kernel) ⟨Nat.le_of_ble_eq_true rfl, Nat.le_of_ble_eq_true rfl⟩) (m_preV (ci := 6) hC hH F_1 rfl) rfl rfl hl.1 rfl (lv_room (Nat.le_of_ble_eq_true rfl)) dX6_does_324 ⟨Nat.le_of_ble_eq_true rfl, Nat.le_of_ble_eq_true rfl⟩) (fun rho_77 f_76 H locs hw hH => ?_)
    obtain ⟨hI, hfr1, hkp1⟩ := hw
    have hI : IM G h n T z A f_76 := hI
    have hfr1 : frM h f f_76 := hfr1
    have hkp1 : kpM h f f_76 := hkp1
    have hfr := hfr.trans hfr1
    have hkp := hkp.trans hkp1
    obtain ⟨he_78, fe_78, ca_78, ga_78, wh_78, tm_78, wm_78, ac_78, th_78, st_78, F_78, b1_78, b2_78, b3_78, b4_78, b5_78, b6_78, b7_78, b8_78⟩ : okM0 h n (f_76 (h 0)) := hI.1 0 (by decide)
    have kk_wm_78 : wm_78.toInt = wm_1.toInt := (congrArg Int32.toInt (show wm_78 = wm_1 from Value.int.inj (by have q := hkp1.1; rw [fldV_eq F_78, fldV_eq F_1] at q; exact q))).trans rfl
    have kk_ac_78 : ac_78.toInt = ac_1.toInt := (congrArg Int32.toInt (show ac_78 = ac_1 from Value.int.inj (by have q := hkp1.2.1; rw [fldV_eq F_78, fldV_eq F_1] at q; exact q))).trans rfl
    have kk_he_78 : he_78.toInt = he_1.toInt := (congrArg Int32.toInt (show he_78 = he_1 from Value.int.inj (by have q := hkp1.2.2; rw [fldV_eq F_78, fldV_eq F_1] at q; exact q))).trans rfl
    refine lv_iload_n hx hb dX6_does_327 rfl (lv_at hl 3 rfl) ?_
    refine lv_iconst (v := 1) hx hb dX6_does_328 (by decide) ?_
    refine lv_iadd hx hb dX6_does_329 ?_
    refine lv_topi (fun x_79 ex_79 => ?_)
    have ix_79 : x_79.toInt = pp.toInt + 1 := ic_add ex_79 rfl kI_1 (by omega) (by omega)
    exact m_iret (v := x_79) hx hb hr hlk hC hH (fun _ => (0, 0)) ⟨hI, hfr, hkp, by omega, by omega⟩ (Nat.le_of_ble_eq_true rfl) (Nat.le_of_ble_eq_true rfl) dX6_does_330
  · skip
    have hv_ : κ = 6 := by omega
    subst hv_
    have g0_ := fit_get (m := 3) rfl (by decide) kI_3 f0_
    have g1_ := fit_get (m := 3) rfl (by decide) kI_3 f1_
    have g2_ := fit_get (m := 7) rfl (by decide) kI_7 f2_
    have jk_6 : x_5.toInt = 6 := hk_6
    refine lv_tableIn (off := 309) (tgt := 322) hx hb dX6_does_13 (by rw [jk_6]; decide) (by rw [jk_6]; decide) (by rw [jk_6]; rfl) (by decide) ?_
    refine lv_aload_n hx hb dX6_does_322 rfl (lv_at hl 1 rfl) ?_
    refine lv_iload_n hx hb dX6_does_323 rfl (lv_at hl 2 rfl) ?_
    refine m_gov hH (va_runV (As := [.int kk]) (rest := []) ⟨hx, hb, hml, hown, hts⟩ (c_X6_fieldActs l G h n T z A f hI (by omega) kk K hv hk (by omega)) (cwV 1 hts gX6_does_X6_fieldActs rfl rfl rfl (by decide +kernel) ⟨Nat.le_of_ble_eq_true rfl, Nat.le_of_ble_eq_true rfl⟩) (m_preV (ci := 6) hC hH F_1 rfl) rfl rfl hl.1 rfl (lv_room (Nat.le_of_ble_eq_true rfl)) dX6_does_324 ⟨Nat.le_of_ble_eq_true rfl, Nat.le_of_ble_eq_true rfl⟩) (fun rho_82 f_81 H locs hw hH => ?_)
    obtain ⟨hI, hfr1, hkp1⟩ := hw
    have hI : IM G h n T z A f_81 := hI
    have hfr1 : frM h f f_81 := hfr1
    have hkp1 : kpM h f f_81 := hkp1
    have hfr := hfr.trans hfr1
    have hkp := hkp.trans hkp1
    obtain ⟨he_83, fe_83, ca_83, ga_83, wh_83, tm_83, wm_83, ac_83, th_83, st_83, F_83, b1_83, b2_83, b3_83, b4_83, b5_83, b6_83, b7_83, b8_83⟩ : okM0 h n (f_81 (h 0)) := hI.1 0 (by decide)
    have kk_wm_83 : wm_83.toInt = wm_1.toInt := (congrArg Int32.toInt (show wm_83 = wm_1 from Value.int.inj (by have q := hkp1.1; rw [fldV_eq F_83, fldV_eq F_1] at q; exact q))).trans rfl
    have kk_ac_83 : ac_83.toInt = ac_1.toInt := (congrArg Int32.toInt (show ac_83 = ac_1 from Value.int.inj (by have q := hkp1.2.1; rw [fldV_eq F_83, fldV_eq F_1] at q; exact q))).trans rfl
    have kk_he_83 : he_83.toInt = he_1.toInt := (congrArg Int32.toInt (show he_83 = he_1 from Value.int.inj (by have q := hkp1.2.2; rw [fldV_eq F_83, fldV_eq F_1] at q; exact q))).trans rfl
    refine lv_iload_n hx hb dX6_does_327 rfl (lv_at hl 3 rfl) ?_
    refine lv_iconst (v := 1) hx hb dX6_does_328 (by decide) ?_
    refine lv_iadd hx hb dX6_does_329 ?_
    refine lv_topi (fun x_84 ex_84 => ?_)
    have ix_84 : x_84.toInt = pp.toInt + 1 := ic_add ex_84 rfl kI_1 (by omega) (by omega)
    exact m_iret (v := x_84) hx hb hr hlk hC hH (fun _ => (0, 0)) ⟨hI, hfr, hkp, by omega, by omega⟩ (Nat.le_of_ble_eq_true rfl) (Nat.le_of_ble_eq_true rfl) dX6_does_330
  · skip
    have hv_ : κ = 7 := by omega
    subst hv_
    have g0_ := fit_get (m := 3) rfl (by decide) kI_3 f0_
    have g1_ := fit_get (m := 7) rfl (by decide) kI_7 f1_
    have g2_ := fit_get (m := 3) rfl (by decide) kI_3 f2_
    have jk_6 : x_5.toInt = 7 := hk_6
    refine lv_tableIn (off := 309) (tgt := 322) hx hb dX6_does_13 (by rw [jk_6]; decide) (by rw [jk_6]; decide) (by rw [jk_6]; rfl) (by decide) ?_
    refine lv_aload_n hx hb dX6_does_322 rfl (lv_at hl 1 rfl) ?_
    refine lv_iload_n hx hb dX6_does_323 rfl (lv_at hl 2 rfl) ?_
    refine m_gov hH (va_runV (As := [.int kk]) (rest := []) ⟨hx, hb, hml, hown, hts⟩ (c_X6_fieldActs l G h n T z A f hI (by omega) kk K hv hk (by omega)) (cwV 1 hts gX6_does_X6_fieldActs rfl rfl rfl (by decide +kernel) ⟨Nat.le_of_ble_eq_true rfl, Nat.le_of_ble_eq_true rfl⟩) (m_preV (ci := 6) hC hH F_1 rfl) rfl rfl hl.1 rfl (lv_room (Nat.le_of_ble_eq_true rfl)) dX6_does_324 ⟨Nat.le_of_ble_eq_true rfl, Nat.le_of_ble_eq_true rfl⟩) (fun rho_87 f_86 H locs hw hH => ?_)
    obtain ⟨hI, hfr1, hkp1⟩ := hw
    have hI : IM G h n T z A f_86 := hI
    have hfr1 : frM h f f_86 := hfr1
    have hkp1 : kpM h f f_86 := hkp1
    have hfr := hfr.trans hfr1
    have hkp := hkp.trans hkp1
    obtain ⟨he_88, fe_88, ca_88, ga_88, wh_88, tm_88, wm_88, ac_88, th_88, st_88, F_88, b1_88, b2_88, b3_88, b4_88, b5_88, b6_88, b7_88, b8_88⟩ : okM0 h n (f_86 (h 0)) := hI.1 0 (by decide)
    have kk_wm_88 : wm_88.toInt = wm_1.toInt := (congrArg Int32.toInt (show wm_88 = wm_1 from Value.int.inj (by have q := hkp1.1; rw [fldV_eq F_88, fldV_eq F_1] at q; exact q))).trans rfl
    have kk_ac_88 : ac_88.toInt = ac_1.toInt := (congrArg Int32.toInt (show ac_88 = ac_1 from Value.int.inj (by have q := hkp1.2.1; rw [fldV_eq F_88, fldV_eq F_1] at q; exact q))).trans rfl
    have kk_he_88 : he_88.toInt = he_1.toInt := (congrArg Int32.toInt (show he_88 = he_1 from Value.int.inj (by have q := hkp1.2.2; rw [fldV_eq F_88, fldV_eq F_1] at q; exact q))).trans rfl
    refine lv_iload_n hx hb dX6_does_327 rfl (lv_at hl 3 rfl) ?_
    refine lv_iconst (v := 1) hx hb dX6_does_328 (by decide) ?_
    refine lv_iadd hx hb dX6_does_329 ?_
    refine lv_topi (fun x_89 ex_89 => ?_)
    have ix_89 : x_89.toInt = pp.toInt + 1 := ic_add ex_89 rfl kI_1 (by omega) (by omega)
    exact m_iret (v := x_89) hx hb hr hlk hC hH (fun _ => (0, 0)) ⟨hI, hfr, hkp, by omega, by omega⟩ (Nat.le_of_ble_eq_true rfl) (Nat.le_of_ble_eq_true rfl) dX6_does_330
  · skip
    have hv_ : κ = 8 := by omega
    subst hv_
    have g0_ := fit_get (m := 3) rfl (by decide) kI_3 f0_
    have g1_ := fit_get (m := 3) rfl (by decide) kI_3 f1_
    have g2_ := fit_get (m := 7) rfl (by decide) kI_7 f2_
    have g3_ := fit_get (m := 3) rfl (by decide) kI_3 f3_
    have jk_6 : x_5.toInt = 8 := hk_6
    refine lv_tableIn (off := 300) (tgt := 313) hx hb dX6_does_13 (by rw [jk_6]; decide) (by rw [jk_6]; decide) (by rw [jk_6]; rfl) (by decide) ?_
    refine lv_aload_n hx hb dX6_does_313 rfl (lv_at hl 1 rfl) ?_
    refine lv_iload_n hx hb dX6_does_314 rfl (lv_at hl 2 rfl) ?_
    refine m_gov hH (va_runV (As := [.int kk]) (rest := []) ⟨hx, hb, hml, hown, hts⟩ (c_X6_rowActs l G h n T z A f hI (by omega) kk K hv hk (by omega)) (cwV 1 hts gX6_does_X6_rowActs rfl rfl rfl (by decide +kernel) ⟨Nat.le_of_ble_eq_true rfl, Nat.le_of_ble_eq_true rfl⟩) (m_preV (ci := 6) hC hH F_1 rfl) rfl rfl hl.1 rfl (lv_room (Nat.le_of_ble_eq_true rfl)) dX6_does_315 ⟨Nat.le_of_ble_eq_true rfl, Nat.le_of_ble_eq_true rfl⟩) (fun rho_92 f_91 H locs hw hH => ?_)
    obtain ⟨hI, hfr1, hkp1⟩ := hw
    have hI : IM G h n T z A f_91 := hI
    have hfr1 : frM h f f_91 := hfr1
    have hkp1 : kpM h f f_91 := hkp1
    have hfr := hfr.trans hfr1
    have hkp := hkp.trans hkp1
    obtain ⟨he_93, fe_93, ca_93, ga_93, wh_93, tm_93, wm_93, ac_93, th_93, st_93, F_93, b1_93, b2_93, b3_93, b4_93, b5_93, b6_93, b7_93, b8_93⟩ : okM0 h n (f_91 (h 0)) := hI.1 0 (by decide)
    have kk_wm_93 : wm_93.toInt = wm_1.toInt := (congrArg Int32.toInt (show wm_93 = wm_1 from Value.int.inj (by have q := hkp1.1; rw [fldV_eq F_93, fldV_eq F_1] at q; exact q))).trans rfl
    have kk_ac_93 : ac_93.toInt = ac_1.toInt := (congrArg Int32.toInt (show ac_93 = ac_1 from Value.int.inj (by have q := hkp1.2.1; rw [fldV_eq F_93, fldV_eq F_1] at q; exact q))).trans rfl
    have kk_he_93 : he_93.toInt = he_1.toInt := (congrArg Int32.toInt (show he_93 = he_1 from Value.int.inj (by have q := hkp1.2.2; rw [fldV_eq F_93, fldV_eq F_1] at q; exact q))).trans rfl
    refine lv_iload_n hx hb dX6_does_318 rfl (lv_at hl 3 rfl) ?_
    refine lv_iconst (v := 1) hx hb dX6_does_319 (by decide) ?_
    refine lv_iadd hx hb dX6_does_320 ?_
    refine lv_topi (fun x_94 ex_94 => ?_)
    have ix_94 : x_94.toInt = pp.toInt + 1 := ic_add ex_94 rfl kI_1 (by omega) (by omega)
    exact m_iret (v := x_94) hx hb hr hlk hC hH (fun _ => (0, 0)) ⟨hI, hfr, hkp, by omega, by omega⟩ (Nat.le_of_ble_eq_true rfl) (Nat.le_of_ble_eq_true rfl) dX6_does_321
  · skip
    have hv_ : κ = 9 := by omega
    subst hv_
    have g0_ := fit_get (m := 3) rfl (by decide) kI_3 f0_
    have g1_ := fit_get (m := 7) rfl (by decide) kI_7 f1_
    have g2_ := fit_get (m := 3) rfl (by decide) kI_3 f2_
    have g3_ := fit_get (m := 3) rfl (by decide) kI_3 f3_
    have jk_6 : x_5.toInt = 9 := hk_6
    refine lv_tableIn (off := 300) (tgt := 313) hx hb dX6_does_13 (by rw [jk_6]; decide) (by rw [jk_6]; decide) (by rw [jk_6]; rfl) (by decide) ?_
    refine lv_aload_n hx hb dX6_does_313 rfl (lv_at hl 1 rfl) ?_
    refine lv_iload_n hx hb dX6_does_314 rfl (lv_at hl 2 rfl) ?_
    refine m_gov hH (va_runV (As := [.int kk]) (rest := []) ⟨hx, hb, hml, hown, hts⟩ (c_X6_rowActs l G h n T z A f hI (by omega) kk K hv hk (by omega)) (cwV 1 hts gX6_does_X6_rowActs rfl rfl rfl (by decide +kernel) ⟨Nat.le_of_ble_eq_true rfl, Nat.le_of_ble_eq_true rfl⟩) (m_preV (ci := 6) hC hH F_1 rfl) rfl rfl hl.1 rfl (lv_room (Nat.le_of_ble_eq_true rfl)) dX6_does_315 ⟨Nat.le_of_ble_eq_true rfl, Nat.le_of_ble_eq_true rfl⟩) (fun rho_97 f_96 H locs hw hH => ?_)
    obtain ⟨hI, hfr1, hkp1⟩ := hw
    have hI : IM G h n T z A f_96 := hI
    have hfr1 : frM h f f_96 := hfr1
    have hkp1 : kpM h f f_96 := hkp1
    have hfr := hfr.trans hfr1
    have hkp := hkp.trans hkp1
    obtain ⟨he_98, fe_98, ca_98, ga_98, wh_98, tm_98, wm_98, ac_98, th_98, st_98, F_98, b1_98, b2_98, b3_98, b4_98, b5_98, b6_98, b7_98, b8_98⟩ : okM0 h n (f_96 (h 0)) := hI.1 0 (by decide)
    have kk_wm_98 : wm_98.toInt = wm_1.toInt := (congrArg Int32.toInt (show wm_98 = wm_1 from Value.int.inj (by have q := hkp1.1; rw [fldV_eq F_98, fldV_eq F_1] at q; exact q))).trans rfl
    have kk_ac_98 : ac_98.toInt = ac_1.toInt := (congrArg Int32.toInt (show ac_98 = ac_1 from Value.int.inj (by have q := hkp1.2.1; rw [fldV_eq F_98, fldV_eq F_1] at q; exact q))).trans rfl
    have kk_he_98 : he_98.toInt = he_1.toInt := (congrArg Int32.toInt (show he_98 = he_1 from Value.int.inj (by have q := hkp1.2.2; rw [fldV_eq F_98, fldV_eq F_1] at q; exact q))).trans rfl
    refine lv_iload_n hx hb dX6_does_318 rfl (lv_at hl 3 rfl) ?_
    refine lv_iconst (v := 1) hx hb dX6_does_319 (by decide) ?_
    refine lv_iadd hx hb dX6_does_320 ?_
    refine lv_topi (fun x_99 ex_99 => ?_)
    have ix_99 : x_99.toInt = pp.toInt + 1 := ic_add ex_99 rfl kI_1 (by omega) (by omega)
    exact m_iret (v := x_99) hx hb hr hlk hC hH (fun _ => (0, 0)) ⟨hI, hfr, hkp, by omega, by omega⟩ (Nat.le_of_ble_eq_true rfl) (Nat.le_of_ble_eq_true rfl) dX6_does_321
  · skip
    have hv_ : κ = 10 := by omega
    subst hv_
    have g0_ := fit_get (m := 3) rfl (by decide) kI_3 f0_
    have g1_ := fit_get (m := 7) rfl (by decide) kI_7 f1_
    have g2_ := fit_get (m := 3) rfl (by decide) kI_3 f2_
    have jk_6 : x_5.toInt = 10 := hk_6
    refine lv_tableIn (off := 300) (tgt := 313) hx hb dX6_does_13 (by rw [jk_6]; decide) (by rw [jk_6]; decide) (by rw [jk_6]; rfl) (by decide) ?_
    refine lv_aload_n hx hb dX6_does_313 rfl (lv_at hl 1 rfl) ?_
    refine lv_iload_n hx hb dX6_does_314 rfl (lv_at hl 2 rfl) ?_
    refine m_gov hH (va_runV (As := [.int kk]) (rest := []) ⟨hx, hb, hml, hown, hts⟩ (c_X6_rowActs l G h n T z A f hI (by omega) kk K hv hk (by omega)) (cwV 1 hts gX6_does_X6_rowActs rfl rfl rfl (by decide +kernel) ⟨Nat.le_of_ble_eq_true rfl, Nat.le_of_ble_eq_true rfl⟩) (m_preV (ci := 6) hC hH F_1 rfl) rfl rfl hl.1 rfl (lv_room (Nat.le_of_ble_eq_true rfl)) dX6_does_315 ⟨Nat.le_of_ble_eq_true rfl, Nat.le_of_ble_eq_true rfl⟩) (fun rho_102 f_101 H locs hw hH => ?_)
    obtain ⟨hI, hfr1, hkp1⟩ := hw
    have hI : IM G h n T z A f_101 := hI
    have hfr1 : frM h f f_101 := hfr1
    have hkp1 : kpM h f f_101 := hkp1
    have hfr := hfr.trans hfr1
    have hkp := hkp.trans hkp1
    obtain ⟨he_103, fe_103, ca_103, ga_103, wh_103, tm_103, wm_103, ac_103, th_103, st_103, F_103, b1_103, b2_103, b3_103, b4_103, b5_103, b6_103, b7_103, b8_103⟩ : okM0 h n (f_101 (h 0)) := hI.1 0 (by decide)
    have kk_wm_103 : wm_103.toInt = wm_1.toInt := (congrArg Int32.toInt (show wm_103 = wm_1 from Value.int.inj (by have q := hkp1.1; rw [fldV_eq F_103, fldV_eq F_1] at q; exact q))).trans rfl
    have kk_ac_103 : ac_103.toInt = ac_1.toInt := (congrArg Int32.toInt (show ac_103 = ac_1 from Value.int.inj (by have q := hkp1.2.1; rw [fldV_eq F_103, fldV_eq F_1] at q; exact q))).trans rfl
    have kk_he_103 : he_103.toInt = he_1.toInt := (congrArg Int32.toInt (show he_103 = he_1 from Value.int.inj (by have q := hkp1.2.2; rw [fldV_eq F_103, fldV_eq F_1] at q; exact q))).trans rfl
    refine lv_iload_n hx hb dX6_does_318 rfl (lv_at hl 3 rfl) ?_
    refine lv_iconst (v := 1) hx hb dX6_does_319 (by decide) ?_
    refine lv_iadd hx hb dX6_does_320 ?_
    refine lv_topi (fun x_104 ex_104 => ?_)
    have ix_104 : x_104.toInt = pp.toInt + 1 := ic_add ex_104 rfl kI_1 (by omega) (by omega)
    exact m_iret (v := x_104) hx hb hr hlk hC hH (fun _ => (0, 0)) ⟨hI, hfr, hkp, by omega, by omega⟩ (Nat.le_of_ble_eq_true rfl) (Nat.le_of_ble_eq_true rfl) dX6_does_321
  · skip
    have hv_ : κ = 11 := by omega
    subst hv_
    have g0_ := fit_get (m := 3) rfl (by decide) kI_3 f0_
    have g1_ := fit_get (m := 7) rfl (by decide) kI_7 f1_
    have g2_ := fit_get (m := 3) rfl (by decide) kI_3 f2_
    have g3_ := fit_get (m := 7) rfl (by decide) kI_7 f3_
    have g4_ := fit_get (m := 3) rfl (by decide) kI_3 f4_
    have jk_6 : x_5.toInt = 11 := hk_6
    refine lv_tableIn (off := 300) (tgt := 313) hx hb dX6_does_13 (by rw [jk_6]; decide) (by rw [jk_6]; decide) (by rw [jk_6]; rfl) (by decide) ?_
    refine lv_aload_n hx hb dX6_does_313 rfl (lv_at hl 1 rfl) ?_
    refine lv_iload_n hx hb dX6_does_314 rfl (lv_at hl 2 rfl) ?_
    refine m_gov hH (va_runV (As := [.int kk]) (rest := []) ⟨hx, hb, hml, hown, hts⟩ (c_X6_rowActs l G h n T z A f hI (by omega) kk K hv hk (by omega)) (cwV 1 hts gX6_does_X6_rowActs rfl rfl rfl (by decide +kernel) ⟨Nat.le_of_ble_eq_true rfl, Nat.le_of_ble_eq_true rfl⟩) (m_preV (ci := 6) hC hH F_1 rfl) rfl rfl hl.1 rfl (lv_room (Nat.le_of_ble_eq_true rfl)) dX6_does_315 ⟨Nat.le_of_ble_eq_true rfl, Nat.le_of_ble_eq_true rfl⟩) (fun rho_107 f_106 H locs hw hH => ?_)
    obtain ⟨hI, hfr1, hkp1⟩ := hw
    have hI : IM G h n T z A f_106 := hI
    have hfr1 : frM h f f_106 := hfr1
    have hkp1 : kpM h f f_106 := hkp1
    have hfr := hfr.trans hfr1
    have hkp := hkp.trans hkp1
    obtain ⟨he_108, fe_108, ca_108, ga_108, wh_108, tm_108, wm_108, ac_108, th_108, st_108, F_108, b1_108, b2_108, b3_108, b4_108, b5_108, b6_108, b7_108, b8_108⟩ : okM0 h n (f_106 (h 0)) := hI.1 0 (by decide)
    have kk_wm_108 : wm_108.toInt = wm_1.toInt := (congrArg Int32.toInt (show wm_108 = wm_1 from Value.int.inj (by have q := hkp1.1; rw [fldV_eq F_108, fldV_eq F_1] at q; exact q))).trans rfl
    have kk_ac_108 : ac_108.toInt = ac_1.toInt := (congrArg Int32.toInt (show ac_108 = ac_1 from Value.int.inj (by have q := hkp1.2.1; rw [fldV_eq F_108, fldV_eq F_1] at q; exact q))).trans rfl
    have kk_he_108 : he_108.toInt = he_1.toInt := (congrArg Int32.toInt (show he_108 = he_1 from Value.int.inj (by have q := hkp1.2.2; rw [fldV_eq F_108, fldV_eq F_1] at q; exact q))).trans rfl
    refine lv_iload_n hx hb dX6_does_318 rfl (lv_at hl 3 rfl) ?_
    refine lv_iconst (v := 1) hx hb dX6_does_319 (by decide) ?_
    refine lv_iadd hx hb dX6_does_320 ?_
    refine lv_topi (fun x_109 ex_109 => ?_)
    have ix_109 : x_109.toInt = pp.toInt + 1 := ic_add ex_109 rfl kI_1 (by omega) (by omega)
    exact m_iret (v := x_109) hx hb hr hlk hC hH (fun _ => (0, 0)) ⟨hI, hfr, hkp, by omega, by omega⟩ (Nat.le_of_ble_eq_true rfl) (Nat.le_of_ble_eq_true rfl) dX6_does_321
  · skip
    have hv_ : κ = 12 := by omega
    subst hv_
    have g0_ := fit_get (m := 3) rfl (by decide) kI_3 f0_
    have g1_ := fit_get (m := 3) rfl (by decide) kI_3 f1_
    have g2_ := fit_get (m := 3) rfl (by decide) kI_3 f2_
    have jk_6 : x_5.toInt = 12 := hk_6
    refine lv_tableIn (off := 309) (tgt := 322) hx hb dX6_does_13 (by rw [jk_6]; decide) (by rw [jk_6]; decide) (by rw [jk_6]; rfl) (by decide) ?_
    refine lv_aload_n hx hb dX6_does_322 rfl (lv_at hl 1 rfl) ?_
    refine lv_iload_n hx hb dX6_does_323 rfl (lv_at hl 2 rfl) ?_
    refine m_gov hH (va_runV (As := [.int kk]) (rest := []) ⟨hx, hb, hml, hown, hts⟩ (c_X6_fieldActs l G h n T z A f hI (by omega) kk K hv hk (by omega)) (cwV 1 hts gX6_does_X6_fieldActs rfl rfl rfl (by decide +kernel) ⟨Nat.le_of_ble_eq_true rfl, Nat.le_of_ble_eq_true rfl⟩) (m_preV (ci := 6) hC hH F_1 rfl) rfl rfl hl.1 rfl (lv_room (Nat.le_of_ble_eq_true rfl)) dX6_does_324 ⟨Nat.le_of_ble_eq_true rfl, Nat.le_of_ble_eq_true rfl⟩) (fun rho_112 f_111 H locs hw hH => ?_)
    obtain ⟨hI, hfr1, hkp1⟩ := hw
    have hI : IM G h n T z A f_111 := hI
    have hfr1 : frM h f f_111 := hfr1
    have hkp1 : kpM h f f_111 := hkp1
    have hfr := hfr.trans hfr1
    have hkp := hkp.trans hkp1
    obtain ⟨he_113, fe_113, ca_113, ga_113, wh_113, tm_113, wm_113, ac_113, th_113, st_113, F_113, b1_113, b2_113, b3_113, b4_113, b5_113, b6_113, b7_113, b8_113⟩ : okM0 h n (f_111 (h 0)) := hI.1 0 (by decide)
    have kk_wm_113 : wm_113.toInt = wm_1.toInt := (congrArg Int32.toInt (show wm_113 = wm_1 from Value.int.inj (by have q := hkp1.1; rw [fldV_eq F_113, fldV_eq F_1] at q; exact q))).trans rfl
    have kk_ac_113 : ac_113.toInt = ac_1.toInt := (congrArg Int32.toInt (show ac_113 = ac_1 from Value.int.inj (by have q := hkp1.2.1; rw [fldV_eq F_113, fldV_eq F_1] at q; exact q))).trans rfl
    have kk_he_113 : he_113.toInt = he_1.toInt := (congrArg Int32.toInt (show he_113 = he_1 from Value.int.inj (by have q := hkp1.2.2; rw [fldV_eq F_113, fldV_eq F_1] at q; exact q))).trans rfl
    refine lv_iload_n hx hb dX6_does_327 rfl (lv_at hl 3 rfl) ?_
    refine lv_iconst (v := 1) hx hb dX6_does_328 (by decide) ?_
    refine lv_iadd hx hb dX6_does_329 ?_
    refine lv_topi (fun x_114 ex_114 => ?_)
    have ix_114 : x_114.toInt = pp.toInt + 1 := ic_add ex_114 rfl kI_1 (by omega) (by omega)
    exact m_iret (v := x_114) hx hb hr hlk hC hH (fun _ => (0, 0)) ⟨hI, hfr, hkp, by omega, by omega⟩ (Nat.le_of_ble_eq_true rfl) (Nat.le_of_ble_eq_true rfl) dX6_does_330
  · skip
    have hv_ : κ = 13 := by omega
    subst hv_
    have g0_ := fit_get (m := 3) rfl (by decide) kI_3 f0_
    have g1_ := fit_get (m := 3) rfl (by decide) kI_3 f1_
    have g2_ := fit_get (m := 3) rfl (by decide) kI_3 f2_
    have jk_6 : x_5.toInt = 13 := hk_6
    refine lv_tableIn (off := 309) (tgt := 322) hx hb dX6_does_13 (by rw [jk_6]; decide) (by rw [jk_6]; decide) (by rw [jk_6]; rfl) (by decide) ?_
    refine lv_aload_n hx hb dX6_does_322 rfl (lv_at hl 1 rfl) ?_
    refine lv_iload_n hx hb dX6_does_323 rfl (lv_at hl 2 rfl) ?_
    refine m_gov hH (va_runV (As := [.int kk]) (rest := []) ⟨hx, hb, hml, hown, hts⟩ (c_X6_fieldActs l G h n T z A f hI (by omega) kk K hv hk (by omega)) (cwV 1 hts gX6_does_X6_fieldActs rfl rfl rfl (by decide +kernel) ⟨Nat.le_of_ble_eq_true rfl, Nat.le_of_ble_eq_true rfl⟩) (m_preV (ci := 6) hC hH F_1 rfl) rfl rfl hl.1 rfl (lv_room (Nat.le_of_ble_eq_true rfl)) dX6_does_324 ⟨Nat.le_of_ble_eq_true rfl, Nat.le_of_ble_eq_true rfl⟩) (fun rho_117 f_116 H locs hw hH => ?_)
    obtain ⟨hI, hfr1, hkp1⟩ := hw
    have hI : IM G h n T z A f_116 := hI
    have hfr1 : frM h f f_116 := hfr1
    have hkp1 : kpM h f f_116 := hkp1
    have hfr := hfr.trans hfr1
    have hkp := hkp.trans hkp1
    obtain ⟨he_118, fe_118, ca_118, ga_118, wh_118, tm_118, wm_118, ac_118, th_118, st_118, F_118, b1_118, b2_118, b3_118, b4_118, b5_118, b6_118, b7_118, b8_118⟩ : okM0 h n (f_116 (h 0)) := hI.1 0 (by decide)
    have kk_wm_118 : wm_118.toInt = wm_1.toInt := (congrArg Int32.toInt (show wm_118 = wm_1 from Value.int.inj (by have q := hkp1.1; rw [fldV_eq F_118, fldV_eq F_1] at q; exact q))).trans rfl
    have kk_ac_118 : ac_118.toInt = ac_1.toInt := (congrArg Int32.toInt (show ac_118 = ac_1 from Value.int.inj (by have q := hkp1.2.1; rw [fldV_eq F_118, fldV_eq F_1] at q; exact q))).trans rfl
    have kk_he_118 : he_118.toInt = he_1.toInt := (congrArg Int32.toInt (show he_118 = he_1 from Value.int.inj (by have q := hkp1.2.2; rw [fldV_eq F_118, fldV_eq F_1] at q; exact q))).trans rfl
    refine lv_iload_n hx hb dX6_does_327 rfl (lv_at hl 3 rfl) ?_
    refine lv_iconst (v := 1) hx hb dX6_does_328 (by decide) ?_
    refine lv_iadd hx hb dX6_does_329 ?_
    refine lv_topi (fun x_119 ex_119 => ?_)
    have ix_119 : x_119.toInt = pp.toInt + 1 := ic_add ex_119 rfl kI_1 (by omega) (by omega)
    exact m_iret (v := x_119) hx hb hr hlk hC hH (fun _ => (0, 0)) ⟨hI, hfr, hkp, by omega, by omega⟩ (Nat.le_of_ble_eq_true rfl) (Nat.le_of_ble_eq_true rfl) dX6_does_330
  · skip
    have hv_ : κ = 14 := by omega
    subst hv_
    have g1_ := fit_get (m := 32) rfl (by decide) kI_32 f1_
    have jk_6 : x_5.toInt = 14 := hk_6
    refine lv_tableIn (off := 246) (tgt := 259) hx hb dX6_does_13 (by rw [jk_6]; decide) (by rw [jk_6]; decide) (by rw [jk_6]; rfl) (by decide) ?_
    refine lv_aload_n hx hb dX6_does_259 rfl (lv_at hl 1 rfl) ?_
    refine m_get (ci := 6) (v := .ref (h 12)) (C := RX6) (T := TX6) (N := 30) hx hb hC hH hts in_X6_does_X6 hown F_1 rfl 12 (by decide) (hts (.fieldLink RX6 40 "LazyStateModel" "bs" "[J") (by decide +kernel)) rfl dX6_does_260 ?_
    refine lv_iload_n hx hb dX6_does_263 rfl (lv_at hl 2 rfl) ?_
    obtain ⟨g_120, hg_120, hp_120⟩ : okJ G 192 (fun g => ∀ k, vld z k → g k = (A k).2.2.1) (f (h 12)) := hI.1 12 (by decide)
    refine m_lald hx hb hC hH hg_120 (vp_in_iff.mpr ⟨by omega, by omega⟩) dX6_does_264 ?_
    refine lv_topl (fun y_121 ey_121 => ?_)
    have ty_121 : y_121.toInt = (A K).2.2.1.toInt := by rw [ey_121, kcl, hp_120 K hv]
    refine lv_l2i hx hb dX6_does_265 rfl ?_
    refine lv_topi (fun x_122 ex_122 => ?_)
    have ix_122 : x_122.toInt = y_121.toInt := ic_l2i ex_122 rfl (by omega) (by omega)
    exact m_iret (v := x_122) hx hb hr hlk hC hH (fun _ => (0, 0)) ⟨hI, hfr, hkp, by omega, by omega⟩ (Nat.le_of_ble_eq_true rfl) (Nat.le_of_ble_eq_true rfl) dX6_does_266
  · skip
    have hv_ : κ = 15 := by omega
    subst hv_
    have g0_ := fit_get (m := 3) rfl (by decide) kI_3 f0_
    have g1_ := fit_get (m := 32) rfl (by decide) kI_32 f1_
    have jk_6 : x_5.toInt = 15 := hk_6
    refine lv_tableIn (off := 254) (tgt := 267) hx hb dX6_does_13 (by rw [jk_6]; decide) (by rw [jk_6]; decide) (by rw [jk_6]; rfl) (by decide) ?_
    refine lv_aload_n hx hb dX6_does_267 rfl (lv_at hl 1 rfl) ?_
    refine m_get (ci := 6) (v := .ref (h 27)) (C := RX6) (T := TX6) (N := 30) hx hb hC hH hts in_X6_does_X6 hown F_1 rfl 27 (by decide) (hts (.fieldLink RX6 71 "LazyStateModel" "values" "[J") (by decide +kernel)) rfl dX6_does_268 ?_
    refine lv_iload_n hx hb dX6_does_271 rfl (lv_at hl 0 rfl) ?_
    obtain ⟨g_123, hg_123, hp_123⟩ : okJ G 4 (fun _ => True) (f (h 27)) := hI.1 27 (by decide)
    refine m_lald hx hb hC hH hg_123 (vp_in_iff.mpr ⟨by omega, by omega⟩) dX6_does_272 ?_
    refine lv_topl (fun y_124 ey_124 => ?_)
    refine lv_lconst (v := 0) hx hb dX6_does_273 (by decide) ?_
    refine W.lcmp hx hb dX6_does_274 ?_
    refine lv_if_le (tgt := 288) hx hb dX6_does_275 (by decide) (fun c_125 => ?_) (fun c_125 => ?_)
    · skip
      have ic_125 : (y_124.toInt : Int) ≤ 0 := lc_le rfl kJ_0 ((lg_cmp_le _ _).mp c_125)
      refine lv_iload_n hx hb dX6_does_288 rfl (lv_at hl 3 rfl) ?_
      refine lv_iconst (v := 1) hx hb dX6_does_289 (by decide) ?_
      refine lv_iadd hx hb dX6_does_290 ?_
      refine lv_topi (fun x_126 ex_126 => ?_)
      have ix_126 : x_126.toInt = pp.toInt + 1 := ic_add ex_126 rfl kI_1 (by omega) (by omega)
      exact m_iret (v := x_126) hx hb hr hlk hC hH (fun _ => (0, 0)) ⟨hI, hfr, hkp, by omega, by omega⟩ (Nat.le_of_ble_eq_true rfl) (Nat.le_of_ble_eq_true rfl) dX6_does_291
    · skip
      have ic_125 : (y_124.toInt : Int) > 0 := lc_nle rfl kJ_0 (fun q_ => c_125 ((lg_cmp_le _ _).mpr q_))
      refine lv_aload_n hx hb dX6_does_278 rfl (lv_at hl 1 rfl) ?_
      refine m_get (ci := 6) (v := .ref (h 12)) (C := RX6) (T := TX6) (N := 30) hx hb hC hH hts in_X6_does_X6 hown F_1 rfl 12 (by decide) (hts (.fieldLink RX6 40 "LazyStateModel" "bs" "[J") (by decide +kernel)) rfl dX6_does_279 ?_
      refine lv_iload_n hx hb dX6_does_282 rfl (lv_at hl 2 rfl) ?_
      obtain ⟨g_127, hg_127, hp_127⟩ : okJ G 192 (fun g => ∀ k, vld z k → g k = (A k).2.2.1) (f (h 12)) := hI.1 12 (by decide)
      refine m_lald hx hb hC hH hg_127 (vp_in_iff.mpr ⟨by omega, by omega⟩) dX6_does_283 ?_
      refine lv_topl (fun y_128 ey_128 => ?_)
      have ty_128 : y_128.toInt = (A K).2.2.1.toInt := by rw [ey_128, kcl, hp_127 K hv]
      refine lv_l2i hx hb dX6_does_284 rfl ?_
      refine lv_topi (fun x_129 ex_129 => ?_)
      have ix_129 : x_129.toInt = y_128.toInt := ic_l2i ex_129 rfl (by omega) (by omega)
      refine lv_goto (tgt := 291) hx hb dX6_does_285 (by decide) ?_
      exact m_iret (v := x_129) hx hb hr hlk hC hH (fun _ => (0, 0)) ⟨hI, hfr, hkp, by omega, by omega⟩ (Nat.le_of_ble_eq_true rfl) (Nat.le_of_ble_eq_true rfl) dX6_does_291
  · skip
    have hv_ : κ = 16 := by omega
    subst hv_
    have g0_ := fit_get (m := 3) rfl (by decide) kI_3 f0_
    have jk_6 : x_5.toInt = 16 := hk_6
    refine lv_tableIn (off := 279) (tgt := 292) hx hb dX6_does_13 (by rw [jk_6]; decide) (by rw [jk_6]; decide) (by rw [jk_6]; rfl) (by decide) ?_
    refine lv_aload_n hx hb dX6_does_292 rfl (lv_at hl 1 rfl) ?_
    refine lv_aload_n hx hb dX6_does_293 rfl (lv_at hl 1 rfl) ?_
    refine m_get (ci := 6) (v := .ref (h 27)) (C := RX6) (T := TX6) (N := 30) hx hb hC hH hts in_X6_does_X6 hown F_1 rfl 27 (by decide) (hts (.fieldLink RX6 71 "LazyStateModel" "values" "[J") (by decide +kernel)) rfl dX6_does_294 ?_
    refine lv_iload_n hx hb dX6_does_297 rfl (lv_at hl 0 rfl) ?_
    obtain ⟨g_130, hg_130, hp_130⟩ : okJ G 4 (fun _ => True) (f (h 27)) := hI.1 27 (by decide)
    refine m_lald hx hb hC hH hg_130 (vp_in_iff.mpr ⟨by omega, by omega⟩) dX6_does_298 ?_
    refine lv_topl (fun y_131 ey_131 => ?_)
    refine m_put (ci := 6) (v := .long y_131) (C := RX6) (T := TX6) (N := 30) hx hb hC hH hts in_X6_does_X6 tyX6 tyX6_ok nmX6 hown F_1 rfl 17 (by decide) (hts (.fieldLink RX6 186 "LazyStateModel" "gave" "J") (by decide +kernel)) rfl rfl rfl (Nat.le_of_ble_eq_true rfl) dX6_does_299 (fun H locs hH => ?_)
    have hH : mH G s (va_up f (h 0) (some (.inr (6, [.int (nI n), .ref (h 1), .int he_1, .ref (h 3), .ref (h 4), .ref (h 5), .ref (h 6), .int fe_1, .ref (h 8), .ref (h 9), .ref (h 10), .ref (h 11), .ref (h 12), .ref (h 13), .ref (h 14), .ref (h 15), .int ca_1, .long y_131, .int wh_1, .int tm_1, .ref (h 20), .ref (h 21), .int wm_1, .ref (h 23), .ref (h 24), .int ac_1, .ref (h 26), .ref (h 27), .int th_1, .int st_1])))) H locs := hH
    obtain ⟨f_132, ef_132⟩ : ∃ zz_ : mF, zz_ = va_up f (h 0) (some (.inr (6, [.int (nI n), .ref (h 1), .int he_1, .ref (h 3), .ref (h 4), .ref (h 5), .ref (h 6), .int fe_1, .ref (h 8), .ref (h 9), .ref (h 10), .ref (h 11), .ref (h 12), .ref (h 13), .ref (h 14), .ref (h 15), .int ca_1, .long y_131, .int wh_1, .int tm_1, .ref (h 20), .ref (h 21), .int wm_1, .ref (h 23), .ref (h 24), .int ac_1, .ref (h 26), .ref (h 27), .int th_1, .int st_1]))) := ⟨_, rfl⟩
    rw [← ef_132] at hH
    have F_133 : f_132 (h 0) = some (.inr (6, [.int (nI n), .ref (h 1), .int he_1, .ref (h 3), .ref (h 4), .ref (h 5), .ref (h 6), .int fe_1, .ref (h 8), .ref (h 9), .ref (h 10), .ref (h 11), .ref (h 12), .ref (h 13), .ref (h 14), .ref (h 15), .int ca_1, .long y_131, .int wh_1, .int tm_1, .ref (h 20), .ref (h 21), .int wm_1, .ref (h 23), .ref (h 24), .int ac_1, .ref (h 26), .ref (h 27), .int th_1, .int st_1])) := by rw [ef_132]; exact va_up_self _ _ _
    have hI : IM G h n T z A f_132 := hI.obj F_1 ef_132 rfl ⟨_, _, _, _, _, _, _, _, _, _, rfl, by omega, by omega, by omega, by omega, by omega, by omega, by omega, by omega⟩
    have hfr := hfr.up 0 (by decide) ef_132
    have hkp := hkp.obj F_1 F_133 rfl rfl rfl
    have hg_134 := upk hg_2 ef_132 (neM hj (by decide) (by decide) (by decide))
    have hg_135 := upk hg_4 ef_132 (neM hj (by decide) (by decide) (by decide))
    have hg_136 := upk hg_130 ef_132 (neM hj (by decide) (by decide) (by decide))
    refine lv_bipush (v := 32) hx hb dX6_does_302 (by decide) ?_
    exact m_iret (v := 32) hx hb hr hlk hC hH (fun _ => (0, 0)) ⟨hI, hfr, hkp, by have := kI_32; omega, by have := kI_32; omega⟩ (Nat.le_of_ble_eq_true rfl) (Nat.le_of_ble_eq_true rfl) dX6_does_304
  · skip
    have hv_ : κ = 17 := by omega
    subst hv_
    have jk_6 : x_5.toInt = 17 := hk_6
    refine lv_tableIn (off := 292) (tgt := 305) hx hb dX6_does_13 (by rw [jk_6]; decide) (by rw [jk_6]; decide) (by rw [jk_6]; rfl) (by decide) ?_
    refine lv_aload_n hx hb dX6_does_305 rfl (lv_at hl 1 rfl) ?_
    refine lv_bipush (v := 6) hx hb dX6_does_306 (by decide) ?_
    refine m_put (ci := 6) (v := .int 6) (C := RX6) (T := TX6) (N := 30) hx hb hC hH hts in_X6_does_X6 tyX6 tyX6_ok nmX6 hown F_1 rfl 28 (by decide) (hts (.fieldLink RX6 155 "LazyStateModel" "threw" "I") (by decide +kernel)) rfl rfl rfl (Nat.le_of_ble_eq_true rfl) dX6_does_308 (fun H locs hH => ?_)
    have hH : mH G s (va_up f (h 0) (some (.inr (6, [.int (nI n), .ref (h 1), .int he_1, .ref (h 3), .ref (h 4), .ref (h 5), .ref (h 6), .int fe_1, .ref (h 8), .ref (h 9), .ref (h 10), .ref (h 11), .ref (h 12), .ref (h 13), .ref (h 14), .ref (h 15), .int ca_1, .long ga_1, .int wh_1, .int tm_1, .ref (h 20), .ref (h 21), .int wm_1, .ref (h 23), .ref (h 24), .int ac_1, .ref (h 26), .ref (h 27), .int 6, .int st_1])))) H locs := hH
    obtain ⟨f_137, ef_137⟩ : ∃ zz_ : mF, zz_ = va_up f (h 0) (some (.inr (6, [.int (nI n), .ref (h 1), .int he_1, .ref (h 3), .ref (h 4), .ref (h 5), .ref (h 6), .int fe_1, .ref (h 8), .ref (h 9), .ref (h 10), .ref (h 11), .ref (h 12), .ref (h 13), .ref (h 14), .ref (h 15), .int ca_1, .long ga_1, .int wh_1, .int tm_1, .ref (h 20), .ref (h 21), .int wm_1, .ref (h 23), .ref (h 24), .int ac_1, .ref (h 26), .ref (h 27), .int 6, .int st_1]))) := ⟨_, rfl⟩
    rw [← ef_137] at hH
    have F_138 : f_137 (h 0) = some (.inr (6, [.int (nI n), .ref (h 1), .int he_1, .ref (h 3), .ref (h 4), .ref (h 5), .ref (h 6), .int fe_1, .ref (h 8), .ref (h 9), .ref (h 10), .ref (h 11), .ref (h 12), .ref (h 13), .ref (h 14), .ref (h 15), .int ca_1, .long ga_1, .int wh_1, .int tm_1, .ref (h 20), .ref (h 21), .int wm_1, .ref (h 23), .ref (h 24), .int ac_1, .ref (h 26), .ref (h 27), .int 6, .int st_1])) := by rw [ef_137]; exact va_up_self _ _ _
    have hI : IM G h n T z A f_137 := hI.obj F_1 ef_137 rfl ⟨_, _, _, _, _, _, _, _, _, _, rfl, by have := True.intro; have := True.intro; have := True.intro; have := True.intro; omega, by have := True.intro; have := True.intro; have := True.intro; have := True.intro; omega, by have := True.intro; have := True.intro; have := True.intro; have := True.intro; omega, by have := True.intro; have := True.intro; have := True.intro; have := True.intro; omega, by have := True.intro; have := True.intro; have := True.intro; have := True.intro; omega, by have := True.intro; have := True.intro; have := True.intro; have := True.intro; omega, by have := True.intro; have := True.intro; have := True.intro; have := True.intro; omega, by have := True.intro; have := True.intro; have := True.intro; have := True.intro; omega⟩
    have hfr := hfr.up 0 (by decide) ef_137
    have hkp := hkp.obj F_1 F_138 rfl rfl rfl
    have hg_139 := upk hg_2 ef_137 (neM hj (by decide) (by decide) (by decide))
    have hg_140 := upk hg_4 ef_137 (neM hj (by decide) (by decide) (by decide))
    refine lv_iload_n hx hb dX6_does_311 rfl (lv_at hl 3 rfl) ?_
    exact m_iret (v := pp) hx hb hr hlk hC hH (fun _ => (0, 0)) ⟨hI, hfr, hkp, by omega, by omega⟩ (Nat.le_of_ble_eq_true rfl) (Nat.le_of_ble_eq_true rfl) dX6_does_312
