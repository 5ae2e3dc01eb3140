set_option maxHeartbeats 4000000 in
set_option maxRecDepth 100000 in
theorem c_X6_rowActs (l : Launch) (G : mG) (h : Nat → Nat) (n : Nat) (T z : Nat → Nat) (A : Nat → tA) (hg : Nat) (ver : Nat → Nat → tB) (c0q : Nat → Bool) (fe0 : Int32) (tms : Nat → Int32) (ca : Int32) (wl : List Nat) (wh : Int32) (ac : Nat) (sx : Int32) (σ : tS) (f : mF) (hI : FM G h n T z A hg ver (cqL c0q σ) (feL fe0 c0q σ) tms ca wl wh ac 0 sx σ f) (hn0 : 0 < n) (kk : Int32) (K : Nat) (hv : vld z K) (hk : kk.toInt = K) (hd : (A K).1.toInt = 8 ∨ (A K).1.toInt = 9 ∨ (A K).1.toInt = 10 ∨ (A K).1.toInt = 11) : Met l yX6_rowActs wsX6_rowActs ({ frames := 4, cells := 0, slots := 0, locals := 103 }) (va_Pc [.ref (h 0), .int kk] (mW G f)) (va_Qv (fun (u : mS) => frM h f u.2 ∧ FM G h n T z A hg ver (cqL c0q ((prf T (A K) σ).2)) (feL fe0 c0q ((prf T (A K) σ).2)) tms ca wl wh ac ((prf T (A K) σ).1) sx ((prf T (A K) σ).2) u.2) (fun (u : mS) t => mW G u.2 t) (mA G)) 0 0 (mA G) := by
  refine mMet [.ref (h 0), .int kk] (cc := cX6_rowActs) (maxL := 10) (ret := none) (by decide) rfl (Nat.le_of_ble_eq_true rfl) ?_
  intro p e s m below meth c ls hx hb hr hml hts hown hlk hnm hC hH hl
  have hl : lv_has ls 10 [(0, .ref (h 0)), (1, .int kk)] := hl
  have hI0_ := hI
  have hfr : frM h f f := frM.rf
  obtain ⟨I_1, J_1, hM, hR, hac_1, hth_1⟩ := hI
  have hg_1 := hR.hg40
  have n24_1 := hR.n24
  have tl_1 := len_b hR.ok.2.2.1
  have wl_1 := hR.wl192
  have hgI_1 : (nI hg).toInt = ((hg : Nat) : Int) := nI_toInt (by omega)
  have tmI_1 : (nI ((trS σ).length)).toInt = (((trS σ).length : Nat) : Int) := nI_toInt (by omega)
  have wmI_1 : (nI wl.length).toInt = ((wl.length : Nat) : Int) := nI_toInt (by omega)
  have acI_1 : (nI ac).toInt = ((ac : Nat) : Int) := nI_toInt (by omega)
  have thI_1 : (nI 0).toInt = ((0 : Nat) : Int) := nI_toInt (by omega)
  have nIn_1 : (nI n).toInt = ((n : Nat) : Int) := nI_toInt (by omega)
  have hK192 := hv.1
  have kcl : kk.toNatClampNeg = K := by have := ic_clN hk (by omega); omega
  obtain ⟨κ, hκ, eκ, f0_, f1_, f2_, f3_, f4_⟩ := hR.okA hv
  have iκ : (A K).1.toInt = κ := ic_nI eκ (by omega)
  have ok0_ := hR.ok
  have n24_ := hR.n24
  have hT3_ := hR.T3
  refine lv_aload_n hx hb dX6_rowActs_0 rfl (lv_at hl 0 rfl) ?_
  have F_2 : f (h 0) = some (.inr (6, [.int (nI n), .ref (h 1), .int (nI hg), .ref (h 3), .ref (h 4), .ref (h 5), .ref (h 6), .int (feL fe0 c0q σ), .ref (h 8), .ref (h 9), .ref (h 10), .ref (h 11), .ref (h 12), .ref (h 13), .ref (h 14), .ref (h 15), .int ca, .long (gfS σ), .int wh, .int (nI ((trS σ).length)), .ref (h 20), .ref (h 21), .int (nI wl.length), .ref (h 23), .ref (h 24), .int (nI ac), .ref (h 26), .ref (h 27), .int (nI 0), .int sx])) := hM.1
  refine m_get (ci := 6) (v := .ref (h 11)) (C := RX6) (T := TX6) (N := 30) hx hb hC hH hts in_X6_rowActs_X6 hown F_2 rfl 11 (by decide) (hts (.fieldLink RX6 37 "LazyStateModel" "as" "[I") (by decide +kernel)) rfl dX6_rowActs_1 ?_
  refine lv_iload_n hx hb dX6_rowActs_4 rfl (lv_at hl 1 rfl) ?_
  have hg_3 : f (h 11) = some (.inl (gk G 0, 192, .inl (I_1 11))) := hM.2.1 11 (by decide) rfl
  refine m_iald hx hb hC hH hg_3 (vp_in_iff.mpr ⟨by omega, by omega⟩) dX6_rowActs_5 ?_
  refine lv_topi (fun x_4 ex_4 => ?_)
  have qx_4 : x_4 = (A K).2.1 := by rw [ex_4, kcl]; exact (hR.ac hv).2.1
  have tx_4 : x_4.toInt = (A K).2.1.toInt := by rw [qx_4]
  refine lv_istore_n (lv' := [(2, .int x_4), (0, .ref (h 0)), (1, .int kk)]) hx hb dX6_rowActs_6 rfl hl (by decide) rfl (fun ls hl => ?_)
  refine lv_aload_n hx hb dX6_rowActs_7 rfl (lv_at hl 1 rfl) ?_
  refine m_get (ci := 6) (v := .ref (h 12)) (C := RX6) (T := TX6) (N := 30) hx hb hC hH hts in_X6_rowActs_X6 hown F_2 rfl 12 (by decide) (hts (.fieldLink RX6 40 "LazyStateModel" "bs" "[J") (by decide +kernel)) rfl dX6_rowActs_8 ?_
  refine lv_iload_n hx hb dX6_rowActs_11 rfl (lv_at hl 2 rfl) ?_
  have hg_5 : f (h 12) = some (.inl (gk G 1, 192, .inr (.inl (J_1 12)))) := hM.2.2.1 12 (by decide) rfl
  refine m_lald hx hb hC hH hg_5 (vp_in_iff.mpr ⟨by omega, by omega⟩) dX6_rowActs_12 ?_
  refine lv_topl (fun y_6 ey_6 => ?_)
  have qy_6 : y_6 = (A K).2.2.1 := by rw [ey_6, kcl]; exact (hR.ac hv).2.2.1
  have ty_6 : y_6.toInt = (A K).2.2.1.toInt := by rw [qy_6]
  refine lv_lstore_n (lv' := [(3, .long y_6), (2, .int x_4), (0, .ref (h 0)), (1, .int kk)]) hx hb dX6_rowActs_13 rfl hl (by decide) rfl (fun ls hl => ?_)
  refine lv_aload_n hx hb dX6_rowActs_14 rfl (lv_at hl 2 rfl) ?_
  refine m_get (ci := 6) (v := .ref (h 13)) (C := RX6) (T := TX6) (N := 30) hx hb hC hH hts in_X6_rowActs_X6 hown F_2 rfl 13 (by decide) (hts (.fieldLink RX6 43 "LazyStateModel" "cs" "[I") (by decide +kernel)) rfl dX6_rowActs_15 ?_
  refine lv_iload_n hx hb dX6_rowActs_18 rfl (lv_at hl 3 rfl) ?_
  have hg_7 : f (h 13) = some (.inl (gk G 0, 192, .inl (I_1 13))) := hM.2.1 13 (by decide) rfl
  refine m_iald hx hb hC hH hg_7 (vp_in_iff.mpr ⟨by omega, by omega⟩) dX6_rowActs_19 ?_
  refine lv_topi (fun x_8 ex_8 => ?_)
  have qx_8 : x_8 = (A K).2.2.2.1 := by rw [ex_8, kcl]; exact (hR.ac hv).2.2.2.1
  have tx_8 : x_8.toInt = (A K).2.2.2.1.toInt := by rw [qx_8]
  refine lv_istore (lv' := [(5, .int x_8), (3, .long y_6), (2, .int x_4), (0, .ref (h 0)), (1, .int kk)]) hx hb dX6_rowActs_20 hl (by decide) rfl (fun ls hl => ?_)
  refine lv_aload_n hx hb dX6_rowActs_22 rfl (lv_at hl 3 rfl) ?_
  refine m_get (ci := 6) (v := .ref (h 14)) (C := RX6) (T := TX6) (N := 30) hx hb hC hH hts in_X6_rowActs_X6 hown F_2 rfl 14 (by decide) (hts (.fieldLink RX6 46 "LazyStateModel" "ds" "[I") (by decide +kernel)) rfl dX6_rowActs_23 ?_
  refine lv_iload_n hx hb dX6_rowActs_26 rfl (lv_at hl 4 rfl) ?_
  have hg_9 : f (h 14) = some (.inl (gk G 0, 192, .inl (I_1 14))) := hM.2.1 14 (by decide) rfl
  refine m_iald hx hb hC hH hg_9 (vp_in_iff.mpr ⟨by omega, by omega⟩) dX6_rowActs_27 ?_
  refine lv_topi (fun x_10 ex_10 => ?_)
  have qx_10 : x_10 = (A K).2.2.2.2.1 := by rw [ex_10, kcl]; exact (hR.ac hv).2.2.2.2.1
  have tx_10 : x_10.toInt = (A K).2.2.2.2.1.toInt := by rw [qx_10]
  refine lv_istore (lv' := [(6, .int x_10), (5, .int x_8), (3, .long y_6), (2, .int x_4), (0, .ref (h 0)), (1, .int kk)]) hx hb dX6_rowActs_28 hl (by decide) rfl (fun ls hl => ?_)
  refine lv_aload_n hx hb dX6_rowActs_30 rfl (lv_at hl 4 rfl) ?_
  refine m_get (ci := 6) (v := .ref (h 10)) (C := RX6) (T := TX6) (N := 30) hx hb hC hH hts in_X6_rowActs_X6 hown F_2 rfl 10 (by decide) (hts (.fieldLink RX6 34 "LazyStateModel" "kinds" "[I") (by decide +kernel)) rfl dX6_rowActs_31 ?_
  refine lv_iload_n hx hb dX6_rowActs_34 rfl (lv_at hl 5 rfl) ?_
  have hg_11 : f (h 10) = some (.inl (gk G 0, 192, .inl (I_1 10))) := hM.2.1 10 (by decide) rfl
  refine m_iald hx hb hC hH hg_11 (vp_in_iff.mpr ⟨by omega, by omega⟩) dX6_rowActs_35 ?_
  refine lv_topi (fun x_12 ex_12 => ?_)
  have qx_12 : x_12 = (A K).1 := by rw [ex_12, kcl]; exact (hR.ac hv).1
  have tx_12 : x_12.toInt = (A K).1.toInt := by rw [qx_12]
  refine lv_bipush (v := 8) hx hb dX6_rowActs_36 (by decide) ?_
  refine lv_icmp_ne (tgt := 95) hx hb dX6_rowActs_38 (by decide) (fun c_13 => ?_) (fun c_13 => ?_)
  · skip
    have ic_13 : (x_12.toInt : Int) ≠ 8 := ic_ne rfl kI_8 c_13
    refine lv_aload_n hx hb dX6_rowActs_95 rfl (lv_at hl 4 rfl) ?_
    refine m_get (ci := 6) (v := .ref (h 10)) (C := RX6) (T := TX6) (N := 30) hx hb hC hH hts in_X6_rowActs_X6 hown F_2 rfl 10 (by decide) (hts (.fieldLink RX6 34 "LazyStateModel" "kinds" "[I") (by decide +kernel)) rfl dX6_rowActs_96 ?_
    refine lv_iload_n hx hb dX6_rowActs_99 rfl (lv_at hl 5 rfl) ?_
    refine m_iald hx hb hC hH hg_11 (vp_in_iff.mpr ⟨by omega, by omega⟩) dX6_rowActs_100 ?_
    refine lv_topi (fun x_14 ex_14 => ?_)
    have qx_14 : x_14 = (A K).1 := by rw [ex_14, kcl]; exact (hR.ac hv).1
    have tx_14 : x_14.toInt = (A K).1.toInt := by rw [qx_14]
    refine lv_bipush (v := 9) hx hb dX6_rowActs_101 (by decide) ?_
    refine lv_icmp_ne (tgt := 160) hx hb dX6_rowActs_103 (by decide) (fun c_15 => ?_) (fun c_15 => ?_)
    · skip
      have ic_15 : (x_14.toInt : Int) ≠ 9 := ic_ne rfl kI_9 c_15
      refine lv_aload_n hx hb dX6_rowActs_160 rfl (lv_at hl 4 rfl) ?_
      refine m_get (ci := 6) (v := .ref (h 10)) (C := RX6) (T := TX6) (N := 30) hx hb hC hH hts in_X6_rowActs_X6 hown F_2 rfl 10 (by decide) (hts (.fieldLink RX6 34 "LazyStateModel" "kinds" "[I") (by decide +kernel)) rfl dX6_rowActs_161 ?_
      refine lv_iload_n hx hb dX6_rowActs_164 rfl (lv_at hl 5 rfl) ?_
      refine m_iald hx hb hC hH hg_11 (vp_in_iff.mpr ⟨by omega, by omega⟩) dX6_rowActs_165 ?_
      refine lv_topi (fun x_16 ex_16 => ?_)
      have qx_16 : x_16 = (A K).1 := by rw [ex_16, kcl]; exact (hR.ac hv).1
      have tx_16 : x_16.toInt = (A K).1.toInt := by rw [qx_16]
      refine lv_bipush (v := 10) hx hb dX6_rowActs_166 (by decide) ?_
      refine lv_icmp_ne (tgt := 250) hx hb dX6_rowActs_168 (by decide) (fun c_17 => ?_) (fun c_17 => ?_)
      · skip
        have ic_17 : (x_16.toInt : Int) ≠ 10 := ic_ne rfl kI_10 c_17
        have hv_ : κ = 11 := by omega
        subst hv_
        have g0_ := fit_get (m := 3) rfl (by decide) kI_3 f0_
        have nA_ : (aA (A K)) < 4 := (show (A K).2.1.toInt.toNat < 4 from (by omega))
        have g1_ := fit_get (m := 7) rfl (by decide) kI_7 f1_
        have nB_ : (aB (A K)) < 8 := (show (A K).2.2.1.toInt.toNat < 8 from (by omega))
        have g2_ := fit_get (m := 3) rfl (by decide) kI_3 f2_
        have nC_ : (aC (A K)) < 4 := (show (A K).2.2.2.1.toInt.toNat < 4 from (by omega))
        have g3_ := fit_get (m := 7) rfl (by decide) kI_7 f3_
        have nD_ : (aD (A K)) < 8 := (show (A K).2.2.2.2.1.toInt.toNat < 8 from (by omega))
        have g4_ := fit_get (m := 3) rfl (by decide) kI_3 f4_
        have nE_ : (aE (A K)) < 4 := (show (A K).2.2.2.2.2.toInt.toNat < 4 from (by omega))
        refine lv_aload_n hx hb dX6_rowActs_250 rfl (lv_at hl 4 rfl) ?_
        refine lv_iload_n hx hb dX6_rowActs_251 rfl (lv_at hl 3 rfl) ?_
        refine lv_lload_n hx hb dX6_rowActs_252 rfl (lv_at hl 2 rfl) ?_
        refine lv_iload hx hb dX6_rowActs_253 (lv_at hl 1 rfl) ?_
        refine lv_iload hx hb dX6_rowActs_255 (lv_at hl 0 rfl) ?_
        refine lv_aload_n hx hb dX6_rowActs_257 rfl (lv_at hl 4 rfl) ?_
        refine m_get (ci := 6) (v := .ref (h 27)) (C := RX6) (T := TX6) (N := 30) hx hb hC hH hts in_X6_rowActs_X6 hown F_2 rfl 27 (by decide) (hts (.fieldLink RX6 71 "LazyStateModel" "values" "[J") (by decide +kernel)) rfl dX6_rowActs_258 ?_
        refine lv_aload_n hx hb dX6_rowActs_261 rfl (lv_at hl 4 rfl) ?_
        refine m_get (ci := 6) (v := .ref (h 15)) (C := RX6) (T := TX6) (N := 30) hx hb hC hH hts in_X6_rowActs_X6 hown F_2 rfl 15 (by decide) (hts (.fieldLink RX6 49 "LazyStateModel" "es" "[I") (by decide +kernel)) rfl dX6_rowActs_262 ?_
        refine lv_iload_n hx hb dX6_rowActs_265 rfl (lv_at hl 5 rfl) ?_
        have hg_18 : f (h 15) = some (.inl (gk G 0, 192, .inl (I_1 15))) := hM.2.1 15 (by decide) rfl
        refine m_iald hx hb hC hH hg_18 (vp_in_iff.mpr ⟨by omega, by omega⟩) dX6_rowActs_266 ?_
        refine lv_topi (fun x_19 ex_19 => ?_)
        have qx_19 : x_19 = (A K).2.2.2.2.2 := by rw [ex_19, kcl]; exact (hR.ac hv).2.2.2.2.2
        have tx_19 : x_19.toInt = (A K).2.2.2.2.2.toInt := by rw [qx_19]
        have hg_20 : f (h 27) = some (.inl (gk G 1, 4, .inr (.inl (J_1 27)))) := hM.2.2.1 27 (by decide) rfl
        refine m_lald hx hb hC hH hg_20 (vp_in_iff.mpr ⟨by omega, by omega⟩) dX6_rowActs_267 ?_
        refine lv_topl (fun y_21 ey_21 => ?_)
        have vy_21 : y_21 = vaS σ (aE (A K)) := by rw [ey_21, (show x_19.toNatClampNeg = (aE (A K)) from (by show x_19.toInt.toNat = (A K).2.2.2.2.2.toInt.toNat; omega))]; exact hR.vaI (show (A K).2.2.2.2.2.toInt.toNat < 4 from by omega)
        have hI : FM G h n T z A hg ver (cqL c0q σ) (feL fe0 c0q σ) tms ca wl wh ac 0 sx σ f := ⟨_, _, hM, hR, hac_1, hth_1⟩
        refine m_gov hH (va_runV (As := [.int x_4, .long y_6, .int x_8, .int x_10, .long y_21]) (rest := []) ⟨hx, hb, hml, hown, hts⟩ (c_X6_shift l G h n T z A hg ver c0q fe0 tms ca wl wh ac sx σ f hI hn0 x_4 y_6 x_8 x_10 y_21 (aE (A K)) vy_21 (by omega) (by omega) (by omega) (by omega)) (cwV 5 hts gX6_rowActs_X6_shift rfl rfl rfl (by decide +kernel) ⟨Nat.le_of_ble_eq_true rfl, Nat.le_of_ble_eq_true rfl⟩) (m_preV (ci := 6) hC hH F_2 rfl) rfl rfl hl.1 rfl (lv_room (Nat.le_of_ble_eq_true rfl)) dX6_rowActs_268 ⟨Nat.le_of_ble_eq_true rfl, Nat.le_of_ble_eq_true rfl⟩) (fun rho_24 f_23 H locs hw hH => ?_)
        obtain ⟨hfr1, hI⟩ := hw
        have hfr1 : frM h f f_23 := hfr1
        have hfr := hfr.trans hfr1
        have hI : FM G h n T z A hg ver (cqL c0q ((pShf T σ x_4.toNatClampNeg y_6.toInt.toNat x_8.toNatClampNeg x_10.toNatClampNeg (aE (A K))).2)) (feL fe0 c0q ((pShf T σ x_4.toNatClampNeg y_6.toInt.toNat x_8.toNatClampNeg x_10.toNatClampNeg (aE (A K))).2)) tms ca wl wh ac ((pShf T σ x_4.toNatClampNeg y_6.toInt.toNat x_8.toNatClampNeg x_10.toNatClampNeg (aE (A K))).1) sx ((pShf T σ x_4.toNatClampNeg y_6.toInt.toNat x_8.toNatClampNeg x_10.toNatClampNeg (aE (A K))).2) f_23 := hI
        rw [(show x_4.toNatClampNeg = (aA (A K)) from (by show x_4.toInt.toNat = (A K).2.1.toInt.toNat; omega)), (show y_6.toInt.toNat = (aB (A K)) from (by show y_6.toInt.toNat = (A K).2.2.1.toInt.toNat; omega)), (show x_8.toNatClampNeg = (aC (A K)) from (by show x_8.toInt.toNat = (A K).2.2.2.1.toInt.toNat; omega)), (show x_10.toNatClampNeg = (aD (A K)) from (by show x_10.toInt.toNat = (A K).2.2.2.2.1.toInt.toNat; omega))] at hI
        have hI : FM G h n T z A hg ver (cqL c0q ((pShf T σ (aA (A K)) (aB (A K)) (aC (A K)) (aD (A K)) (aE (A K))).2)) (feL fe0 c0q ((pShf T σ (aA (A K)) (aB (A K)) (aC (A K)) (aD (A K)) (aE (A K))).2)) tms ca wl wh ac ((pShf T σ (aA (A K)) (aB (A K)) (aC (A K)) (aD (A K)) (aE (A K))).1) sx ((pShf T σ (aA (A K)) (aB (A K)) (aC (A K)) (aD (A K)) (aE (A K))).2) f_23 := hI
        obtain ⟨I_25, J_25, hM, hR, hac_25, hth_25⟩ := hI
        have hg_25 := hR.hg40
        have n24_25 := hR.n24
        have tl_25 := len_b hR.ok.2.2.1
        have wl_25 := hR.wl192
        have hgI_25 : (nI hg).toInt = ((hg : Nat) : Int) := nI_toInt (by omega)
        have tmI_25 : (nI ((trS ((pShf T σ (aA (A K)) (aB (A K)) (aC (A K)) (aD (A K)) (aE (A K))).2)).length)).toInt = (((trS ((pShf T σ (aA (A K)) (aB (A K)) (aC (A K)) (aD (A K)) (aE (A K))).2)).length : Nat) : Int) := nI_toInt (by omega)
        have wmI_25 : (nI wl.length).toInt = ((wl.length : Nat) : Int) := nI_toInt (by omega)
        have acI_25 : (nI ac).toInt = ((ac : Nat) : Int) := nI_toInt (by omega)
        have thI_25 : (nI ((pShf T σ (aA (A K)) (aB (A K)) (aC (A K)) (aD (A K)) (aE (A K))).1)).toInt = (((pShf T σ (aA (A K)) (aB (A K)) (aC (A K)) (aD (A K)) (aE (A K))).1 : Nat) : Int) := nI_toInt (by omega)
        have nIn_25 : (nI n).toInt = ((n : Nat) : Int) := nI_toInt (by omega)
        exact m_vret hx hb hr hlk hC hH (fun _ => (0, 0)) ⟨hfr, by rw [prf_11 eκ]; exact ⟨_, _, hM, hR, hac_25, hth_25⟩⟩ (Nat.le_of_ble_eq_true rfl) (Nat.le_of_ble_eq_true rfl) dX6_rowActs_271
      · skip
        have ic_17 : (x_16.toInt : Int) = 10 := ic_eq rfl kI_10 c_17
        have hv_ : κ = 10 := by omega
        subst hv_
        have g0_ := fit_get (m := 3) rfl (by decide) kI_3 f0_
        have nA_ : (aA (A K)) < 4 := (show (A K).2.1.toInt.toNat < 4 from (by omega))
        have g1_ := fit_get (m := 7) rfl (by decide) kI_7 f1_
        have nB_ : (aB (A K)) < 8 := (show (A K).2.2.1.toInt.toNat < 8 from (by omega))
        have g2_ := fit_get (m := 3) rfl (by decide) kI_3 f2_
        have nC_ : (aC (A K)) < 4 := (show (A K).2.2.2.1.toInt.toNat < 4 from (by omega))
        refine lv_aload_n hx hb dX6_rowActs_171 rfl (lv_at hl 4 rfl) ?_
        refine lv_iload_n hx hb dX6_rowActs_172 rfl (lv_at hl 3 rfl) ?_
        refine lv_lload_n hx hb dX6_rowActs_173 rfl (lv_at hl 2 rfl) ?_
        refine lv_iconst (v := 2) hx hb dX6_rowActs_174 (by decide) ?_
        have hI : FM G h n T z A hg ver (cqL c0q σ) (feL fe0 c0q σ) tms ca wl wh ac 0 sx σ f := ⟨_, _, hM, hR, hac_1, hth_1⟩
        refine m_goi hH (va_runV (As := [.int x_4, .long y_6, .int 2]) (rest := []) ⟨hx, hb, hml, hown, hts⟩ (c_X6_leafOf l G h n T z A hg ver c0q fe0 tms ca wl wh ac sx σ f hI hn0 x_4 y_6 2 (by have := kI_2; omega) (by have := kI_2; omega) (by have := kI_2; omega)) (cwV 3 hts gX6_rowActs_X6_leafOf rfl rfl rfl (by decide +kernel) ⟨Nat.le_of_ble_eq_true rfl, Nat.le_of_ble_eq_true rfl⟩) (m_preV (ci := 6) hC hH F_2 rfl) rfl rfl hl.1 rfl (lv_room (Nat.le_of_ble_eq_true rfl)) dX6_rowActs_175 ⟨Nat.le_of_ble_eq_true rfl, Nat.le_of_ble_eq_true rfl⟩) (fun r_26 rho_28 f_27 H locs hw hH => ?_)
        obtain ⟨hfr1, hI, hr_26⟩ := hw
        have hfr1 : frM h f f_27 := hfr1
        have hfr := hfr.trans hfr1
        have hI : FM G h n T z A hg ver (cqL c0q ((ask T σ x_4.toNatClampNeg y_6.toInt.toNat ((2 : Int32).toNatClampNeg + 1)).2)) (feL fe0 c0q ((ask T σ x_4.toNatClampNeg y_6.toInt.toNat ((2 : Int32).toNatClampNeg + 1)).2)) tms ca wl wh ac ((ask T σ x_4.toNatClampNeg y_6.toInt.toNat ((2 : Int32).toNatClampNeg + 1)).1) sx ((ask T σ x_4.toNatClampNeg y_6.toInt.toNat ((2 : Int32).toNatClampNeg + 1)).2) f_27 := hI
        try dsimp only at hr_26
        rw [(show x_4.toNatClampNeg = (aA (A K)) from (by show x_4.toInt.toNat = (A K).2.1.toInt.toNat; omega)), (show y_6.toInt.toNat = (aB (A K)) from (by show y_6.toInt.toNat = (A K).2.2.1.toInt.toNat; omega)), (show (2 : Int32).toNatClampNeg + 1 = 3 from rfl)] at hI hr_26
        by_cases a01 : (ask T σ (aA (A K)) (aB (A K)) 3).1 = 0
        · skip
          have rv1 := hr_26.1 a01
          obtain ⟨au11, au21, au31, au41, au51⟩ := ask_use hR.ok (by omega) a01
          have eho1 : hob σ (aA (A K)) = hob (ask T σ (aA (A K)) (aB (A K)) 3).2 (aA (A K)) := hob_ask.symm
          rw [eho1] at rv1
          have hI : FM G h n T z A hg ver (cqL c0q ((ask T σ (aA (A K)) (aB (A K)) 3).2)) (feL fe0 c0q ((ask T σ (aA (A K)) (aB (A K)) 3).2)) tms ca wl wh ac ((ask T σ (aA (A K)) (aB (A K)) 3).1) sx ((ask T σ (aA (A K)) (aB (A K)) 3).2) f_27 := hI
          rw [a01] at hI
          obtain ⟨s1_, es1_⟩ : ∃ zs_ : tS, zs_ = (ask T σ (aA (A K)) (aB (A K)) 3).2 := ⟨_, rfl⟩
          rw [← es1_] at hI au11 au21 au31 au41 au51 rv1
          have hI : FM G h n T z A hg ver (cqL c0q s1_) (feL fe0 c0q s1_) tms ca wl wh ac 0 sx s1_ f_27 := hI
          obtain ⟨I_29, J_29, hM, hR, hac_29, hth_29⟩ := hI
          have hg_29 := hR.hg40
          have n24_29 := hR.n24
          have tl_29 := len_b hR.ok.2.2.1
          have wl_29 := hR.wl192
          have hgI_29 : (nI hg).toInt = ((hg : Nat) : Int) := nI_toInt (by omega)
          have tmI_29 : (nI ((trS s1_).length)).toInt = (((trS s1_).length : Nat) : Int) := nI_toInt (by omega)
          have wmI_29 : (nI wl.length).toInt = ((wl.length : Nat) : Int) := nI_toInt (by omega)
          have acI_29 : (nI ac).toInt = ((ac : Nat) : Int) := nI_toInt (by omega)
          have thI_29 : (nI 0).toInt = ((0 : Nat) : Int) := nI_toInt (by omega)
          have nIn_29 : (nI n).toInt = ((n : Nat) : Int) := nI_toInt (by omega)
          refine lv_istore (lv' := [(7, .int r_26), (6, .int x_10), (5, .int x_8), (3, .long y_6), (2, .int x_4), (0, .ref (h 0)), (1, .int kk)]) hx hb dX6_rowActs_178 hl (by decide) rfl (fun ls hl => ?_)
          refine lv_aload_n hx hb dX6_rowActs_180 rfl (lv_at hl 5 rfl) ?_
          have F_30 : f_27 (h 0) = some (.inr (6, [.int (nI n), .ref (h 1), .int (nI hg), .ref (h 3), .ref (h 4), .ref (h 5), .ref (h 6), .int (feL fe0 c0q s1_), .ref (h 8), .ref (h 9), .ref (h 10), .ref (h 11), .ref (h 12), .ref (h 13), .ref (h 14), .ref (h 15), .int ca, .long (gfS s1_), .int wh, .int (nI ((trS s1_).length)), .ref (h 20), .ref (h 21), .int (nI wl.length), .ref (h 23), .ref (h 24), .int (nI ac), .ref (h 26), .ref (h 27), .int (nI 0), .int sx])) := hM.1
          refine m_get (ci := 6) (v := .ref (h 27)) (C := RX6) (T := TX6) (N := 30) hx hb hC hH hts in_X6_rowActs_X6 hown F_30 rfl 27 (by decide) (hts (.fieldLink RX6 71 "LazyStateModel" "values" "[J") (by decide +kernel)) rfl dX6_rowActs_181 ?_
          refine lv_iload hx hb dX6_rowActs_184 (lv_at hl 2 rfl) ?_
          have hg_31 : f_27 (h 27) = some (.inl (gk G 1, 4, .inr (.inl (J_29 27)))) := hM.2.2.1 27 (by decide) rfl
          refine m_lald hx hb hC hH hg_31 (vp_in_iff.mpr ⟨by omega, by omega⟩) dX6_rowActs_186 ?_
          refine lv_topl (fun y_32 ey_32 => ?_)
          have vy_32 : y_32 = vaS s1_ (aC (A K)) := by rw [ey_32, (show x_8.toNatClampNeg = (aC (A K)) from (by show x_8.toInt.toNat = (A K).2.2.2.1.toInt.toNat; omega))]; exact hR.vaI (show (A K).2.2.2.1.toInt.toNat < 4 from by omega)
          have vq_ : y_32 = vaS σ (aC (A K)) := by rw [vy_32, es1_, ask_va]
          refine lv_lstore (lv' := [(8, .long y_32), (7, .int r_26), (6, .int x_10), (5, .int x_8), (3, .long y_6), (2, .int x_4), (0, .ref (h 0)), (1, .int kk)]) hx hb dX6_rowActs_187 hl (by decide) rfl (fun ls hl => ?_)
          refine lv_iload hx hb dX6_rowActs_189 (lv_at hl 1 rfl) ?_
          refine lv_if_lt (tgt := 224) hx hb dX6_rowActs_191 (by decide) (fun c_33 => ?_) (fun c_33 => ?_)
          · skip
            have ic_33 : (r_26.toInt : Int) < 0 := ic_lt rfl kI_0 c_33
            omega
          · skip
            have ic_33 : (r_26.toInt : Int) ≥ 0 := ic_nlt rfl kI_0 c_33
            refine lv_aload_n hx hb dX6_rowActs_194 rfl (lv_at hl 6 rfl) ?_
            refine lv_lload hx hb dX6_rowActs_195 (lv_at hl 0 rfl) ?_
            refine lv_lconst (v := 0) hx hb dX6_rowActs_197 (by decide) ?_
            refine W.lcmp hx hb dX6_rowActs_198 ?_
            refine lv_if_ge (tgt := 206) hx hb dX6_rowActs_199 (by decide) (fun c_34 => ?_) (fun c_34 => ?_)
            · skip
              have ic_34 : (0 : Int) ≤ y_32.toInt := lc_le kJ_0 rfl ((lg_cmp_ge _ _).mp c_34)
              refine lv_lload hx hb dX6_rowActs_206 (lv_at hl 0 rfl) ?_
              refine lv_ldc2 (v := 8) hx hb hown (hts (.constantLong RX6 125 (8)) (by decide +kernel)) dX6_rowActs_208 ?_
              refine W.lcmp hx hb dX6_rowActs_211 ?_
              refine lv_if_le (tgt := 220) hx hb dX6_rowActs_212 (by decide) (fun c_35 => ?_) (fun c_35 => ?_)
              · skip
                have ic_35 : (y_32.toInt : Int) ≤ 8 := lc_le rfl kJ_8 ((lg_cmp_le _ _).mp c_35)
                refine lv_iconst (v := 0) hx hb dX6_rowActs_220 (by decide) ?_
                refine m_put (ci := 6) (v := .int 0) (C := RX6) (T := TX6) (N := 30) hx hb hC hH hts in_X6_rowActs_X6 tyX6 tyX6_ok nmX6 hown F_30 rfl 28 (by decide) (hts (.fieldLink RX6 155 "LazyStateModel" "threw" "I") (by decide +kernel)) rfl rfl rfl (Nat.le_of_ble_eq_true rfl) dX6_rowActs_221 (fun H locs hH => ?_)
                have hH : mH G s (va_up f_27 (h 0) (some (.inr (6, [.int (nI n), .ref (h 1), .int (nI hg), .ref (h 3), .ref (h 4), .ref (h 5), .ref (h 6), .int (feL fe0 c0q s1_), .ref (h 8), .ref (h 9), .ref (h 10), .ref (h 11), .ref (h 12), .ref (h 13), .ref (h 14), .ref (h 15), .int ca, .long (gfS s1_), .int wh, .int (nI ((trS s1_).length)), .ref (h 20), .ref (h 21), .int (nI wl.length), .ref (h 23), .ref (h 24), .int (nI ac), .ref (h 26), .ref (h 27), .int 0, .int sx])))) H locs := hH
                obtain ⟨f_36, ef_36⟩ : ∃ zz_ : mF, zz_ = va_up f_27 (h 0) (some (.inr (6, [.int (nI n), .ref (h 1), .int (nI hg), .ref (h 3), .ref (h 4), .ref (h 5), .ref (h 6), .int (feL fe0 c0q s1_), .ref (h 8), .ref (h 9), .ref (h 10), .ref (h 11), .ref (h 12), .ref (h 13), .ref (h 14), .ref (h 15), .int ca, .long (gfS s1_), .int wh, .int (nI ((trS s1_).length)), .ref (h 20), .ref (h 21), .int (nI wl.length), .ref (h 23), .ref (h 24), .int (nI ac), .ref (h 26), .ref (h 27), .int 0, .int sx]))) := ⟨_, rfl⟩
                rw [← ef_36] at hH
                have hM : MEM G h n (nI hg, (feL fe0 c0q s1_), ca, (gfS s1_), wh, nI ((trS s1_).length), nI wl.length, nI ac, 0, sx) I_29 J_29 f_36 := hM.set0 ef_36
                have hfr := hfr.up 0 (by decide) ef_36
                have hI : FM G h n T z A hg ver (cqL c0q s1_) (feL fe0 c0q s1_) tms ca wl wh ac 0 sx s1_ f_36 := ⟨_, _, hM, hR, hac_29, by omega⟩
                obtain ⟨I_37, J_37, hM, hR, hac_37, hth_37⟩ := hI
                have hg_37 := hR.hg40
                have n24_37 := hR.n24
                have tl_37 := len_b hR.ok.2.2.1
                have wl_37 := hR.wl192
                have hgI_37 : (nI hg).toInt = ((hg : Nat) : Int) := nI_toInt (by omega)
                have tmI_37 : (nI ((trS s1_).length)).toInt = (((trS s1_).length : Nat) : Int) := nI_toInt (by omega)
                have wmI_37 : (nI wl.length).toInt = ((wl.length : Nat) : Int) := nI_toInt (by omega)
                have acI_37 : (nI ac).toInt = ((ac : Nat) : Int) := nI_toInt (by omega)
                have thI_37 : (nI 0).toInt = ((0 : Nat) : Int) := nI_toInt (by omega)
                have nIn_37 : (nI n).toInt = ((n : Nat) : Int) := nI_toInt (by omega)
                refine lv_aload_n hx hb dX6_rowActs_224 rfl (lv_at hl 6 rfl) ?_
                have F_38 : f_36 (h 0) = some (.inr (6, [.int (nI n), .ref (h 1), .int (nI hg), .ref (h 3), .ref (h 4), .ref (h 5), .ref (h 6), .int (feL fe0 c0q s1_), .ref (h 8), .ref (h 9), .ref (h 10), .ref (h 11), .ref (h 12), .ref (h 13), .ref (h 14), .ref (h 15), .int ca, .long (gfS s1_), .int wh, .int (nI ((trS s1_).length)), .ref (h 20), .ref (h 21), .int (nI wl.length), .ref (h 23), .ref (h 24), .int (nI ac), .ref (h 26), .ref (h 27), .int (nI 0), .int sx])) := hM.1
                refine m_get (ci := 6) (v := .int (nI 0)) (C := RX6) (T := TX6) (N := 30) hx hb hC hH hts in_X6_rowActs_X6 hown F_38 rfl 28 (by decide) (hts (.fieldLink RX6 155 "LazyStateModel" "threw" "I") (by decide +kernel)) rfl dX6_rowActs_225 ?_
                refine lv_if_ne (tgt := 247) hx hb dX6_rowActs_228 (by decide) (fun c_39 => ?_) (fun c_39 => ?_)
                · skip
                  have ic_39 : (((0 : Nat) : Int) : Int) ≠ 0 := ic_ne thI_37 kI_0 c_39
                  omega
                · skip
                  have ic_39 : (((0 : Nat) : Int) : Int) = 0 := ic_eq thI_37 kI_0 c_39
                  refine lv_aload_n hx hb dX6_rowActs_231 rfl (lv_at hl 6 rfl) ?_
                  refine lv_iload hx hb dX6_rowActs_232 (lv_at hl 1 rfl) ?_
                  refine lv_lload hx hb dX6_rowActs_234 (lv_at hl 0 rfl) ?_
                  refine lv_l2i hx hb dX6_rowActs_236 rfl ?_
                  refine lv_topi (fun x_40 ex_40 => ?_)
                  have ix_40 : x_40.toInt = y_32.toInt := ic_l2i ex_40 rfl (by omega) (by omega)
                  refine m_gov hH (va_runV (As := [.int r_26, .int x_40]) (rest := []) ⟨hx, hb, hml, hown, hts⟩ (c_X6_newRow l G h n (nI hg, (feL fe0 c0q s1_), ca, (gfS s1_), wh, nI ((trS s1_).length), nI wl.length, nI ac, nI 0, sx) I_37 J_37 f_36 hM r_26 x_40 (by omega)) (cwV 2 hts gX6_rowActs_X6_newRow rfl rfl rfl (by decide +kernel) ⟨Nat.le_of_ble_eq_true rfl, Nat.le_of_ble_eq_true rfl⟩) (m_preV (ci := 6) hC hH F_38 rfl) rfl rfl hl.1 rfl (lv_room (Nat.le_of_ble_eq_true rfl)) dX6_rowActs_237 ⟨Nat.le_of_ble_eq_true rfl, Nat.le_of_ble_eq_true rfl⟩) (fun rho_43 f_42 H locs hw hH => ?_)
                  obtain ⟨hfr1, it_237, hM, hz_237⟩ := hw
                  have hfr1 : frM h f_36 f_42 := hfr1
                  have hfr := hfr.trans hfr1
                  have hM : MEM G h n (nI hg, (feL fe0 c0q s1_), ca, (gfS s1_), wh, nI ((trS s1_).length), nI wl.length, nI ac, nI 0, sx) (va_up (va_up I_37 4 (upd (I_37 4) (7872 + r_26.toNatClampNeg) x_40)) 5 it_237) J_37 f_42 := hM
                  have hz_237 : ∀ x, it_237 x = if 8 * (7872 + r_26.toNatClampNeg) ≤ x ∧ x < 8 * (7872 + r_26.toNatClampNeg) + 8 then 0 else (I_37 5) x := hz_237
                  have nr_ : 7872 + r_26.toNatClampNeg = 192 * 41 + 8 * (hob s1_ (aA (A K))) + (aB (A K)) := by have := ic_clN (rfl : r_26.toInt = _) (by omega); omega
                  rw [nr_] at hM hz_237
                  have hR := hR.row (o := (hob s1_ (aA (A K)))) (j := (aB (A K))) (v := y_32) au21 (by omega) au31 (Or.inr (by omega)) (congrArg (upd _ _) ex_40) hz_237
                  have hI : FM G h n T z A hg ver (cqL c0q (sBd s1_ (hob s1_ (aA (A K))) (renB (bdS s1_ (hob s1_ (aA (A K)))) (aB (A K)) y_32))) (feL fe0 c0q (sBd s1_ (hob s1_ (aA (A K))) (renB (bdS s1_ (hob s1_ (aA (A K)))) (aB (A K)) y_32))) tms ca wl wh ac 0 sx (sBd s1_ (hob s1_ (aA (A K))) (renB (bdS s1_ (hob s1_ (aA (A K)))) (aB (A K)) y_32)) f_42 := ⟨_, _, hM, hR, hac_37, hth_37⟩
                  obtain ⟨I_44, J_44, hM, hR, hac_44, hth_44⟩ := hI
                  have hg_44 := hR.hg40
                  have n24_44 := hR.n24
                  have tl_44 := len_b hR.ok.2.2.1
                  have wl_44 := hR.wl192
                  have hgI_44 : (nI hg).toInt = ((hg : Nat) : Int) := nI_toInt (by omega)
                  have tmI_44 : (nI ((trS (sBd s1_ (hob s1_ (aA (A K))) (renB (bdS s1_ (hob s1_ (aA (A K)))) (aB (A K)) y_32))).length)).toInt = (((trS (sBd s1_ (hob s1_ (aA (A K))) (renB (bdS s1_ (hob s1_ (aA (A K)))) (aB (A K)) y_32))).length : Nat) : Int) := nI_toInt (by omega)
                  have wmI_44 : (nI wl.length).toInt = ((wl.length : Nat) : Int) := nI_toInt (by omega)
                  have acI_44 : (nI ac).toInt = ((ac : Nat) : Int) := nI_toInt (by omega)
                  have thI_44 : (nI 0).toInt = ((0 : Nat) : Int) := nI_toInt (by omega)
                  have nIn_44 : (nI n).toInt = ((n : Nat) : Int) := nI_toInt (by omega)
                  refine lv_aload_n hx hb dX6_rowActs_240 rfl (lv_at hl 6 rfl) ?_
                  refine lv_iload hx hb dX6_rowActs_241 (lv_at hl 1 rfl) ?_
                  refine lv_iconst (v := 1) hx hb dX6_rowActs_243 (by decide) ?_
                  have F_45 : f_42 (h 0) = some (.inr (6, [.int (nI n), .ref (h 1), .int (nI hg), .ref (h 3), .ref (h 4), .ref (h 5), .ref (h 6), .int (feL fe0 c0q (sBd s1_ (hob s1_ (aA (A K))) (renB (bdS s1_ (hob s1_ (aA (A K)))) (aB (A K)) y_32))), .ref (h 8), .ref (h 9), .ref (h 10), .ref (h 11), .ref (h 12), .ref (h 13), .ref (h 14), .ref (h 15), .int ca, .long (gfS (sBd s1_ (hob s1_ (aA (A K))) (renB (bdS s1_ (hob s1_ (aA (A K)))) (aB (A K)) y_32))), .int wh, .int (nI ((trS (sBd s1_ (hob s1_ (aA (A K))) (renB (bdS s1_ (hob s1_ (aA (A K)))) (aB (A K)) y_32))).length)), .ref (h 20), .ref (h 21), .int (nI wl.length), .ref (h 23), .ref (h 24), .int (nI ac), .ref (h 26), .ref (h 27), .int (nI 0), .int sx])) := hM.1
                  have hI : FM G h n T z A hg ver (cqL c0q (sBd s1_ (hob s1_ (aA (A K))) (renB (bdS s1_ (hob s1_ (aA (A K)))) (aB (A K)) y_32))) (feL fe0 c0q (sBd s1_ (hob s1_ (aA (A K))) (renB (bdS s1_ (hob s1_ (aA (A K)))) (aB (A K)) y_32))) tms ca wl wh ac 0 sx (sBd s1_ (hob s1_ (aA (A K))) (renB (bdS s1_ (hob s1_ (aA (A K)))) (aB (A K)) y_32)) f_42 := ⟨_, _, hM, hR, hac_44, hth_44⟩
                  refine m_gov hH (va_runV (As := [.int r_26, .int 1]) (rest := []) ⟨hx, hb, hml, hown, hts⟩ (c_X6_touch l G h n T z A hg ver c0q fe0 tms ca wl wh ac 0 sx (sBd s1_ (hob s1_ (aA (A K))) (renB (bdS s1_ (hob s1_ (aA (A K)))) (aB (A K)) y_32)) f_42 hI hn0 r_26 1 (by have := kI_1; omega) (by have := kI_1; omega)) (cwV 2 hts gX6_rowActs_X6_touch rfl rfl rfl (by decide +kernel) ⟨Nat.le_of_ble_eq_true rfl, Nat.le_of_ble_eq_true rfl⟩) (m_preV (ci := 6) hC hH F_45 rfl) rfl rfl hl.1 rfl (lv_room (Nat.le_of_ble_eq_true rfl)) dX6_rowActs_244 ⟨Nat.le_of_ble_eq_true rfl, Nat.le_of_ble_eq_true rfl⟩) (fun rho_48 f_47 H locs hw hH => ?_)
                  obtain ⟨hfr1, hI⟩ := hw
                  have hfr1 : frM h f_42 f_47 := hfr1
                  have hfr := hfr.trans hfr1
                  have hI : FM G h n T z A hg ver (cqL c0q (sTc (sBd s1_ (hob s1_ (aA (A K))) (renB (bdS s1_ (hob s1_ (aA (A K)))) (aB (A K)) y_32)) (2 * r_26.toNatClampNeg + (1 : Int32).toNatClampNeg))) (feL fe0 c0q (sTc (sBd s1_ (hob s1_ (aA (A K))) (renB (bdS s1_ (hob s1_ (aA (A K)))) (aB (A K)) y_32)) (2 * r_26.toNatClampNeg + (1 : Int32).toNatClampNeg))) tms ca wl wh ac 0 sx (sTc (sBd s1_ (hob s1_ (aA (A K))) (renB (bdS s1_ (hob s1_ (aA (A K)))) (aB (A K)) y_32)) (2 * r_26.toNatClampNeg + (1 : Int32).toNatClampNeg)) f_47 := hI
                  rw [show 2 * r_26.toNatClampNeg + (1 : Int32).toNatClampNeg = 2 * (8 * (hob s1_ (aA (A K))) + (aB (A K))) + 1 from by have := ic_clN (rfl : r_26.toInt = _) (by omega); show 2 * r_26.toNatClampNeg + 1 = _; omega] at hI
                  have hI : FM G h n T z A hg ver (cqL c0q (sTc (sBd s1_ (hob s1_ (aA (A K))) (renB (bdS s1_ (hob s1_ (aA (A K)))) (aB (A K)) y_32)) (2 * (8 * (hob s1_ (aA (A K))) + (aB (A K))) + 1))) (feL fe0 c0q (sTc (sBd s1_ (hob s1_ (aA (A K))) (renB (bdS s1_ (hob s1_ (aA (A K)))) (aB (A K)) y_32)) (2 * (8 * (hob s1_ (aA (A K))) + (aB (A K))) + 1))) tms ca wl wh ac 0 sx (sTc (sBd s1_ (hob s1_ (aA (A K))) (renB (bdS s1_ (hob s1_ (aA (A K)))) (aB (A K)) y_32)) (2 * (8 * (hob s1_ (aA (A K))) + (aB (A K))) + 1)) f_47 := hI
                  obtain ⟨I_49, J_49, hM, hR, hac_49, hth_49⟩ := hI
                  have hg_49 := hR.hg40
                  have n24_49 := hR.n24
                  have tl_49 := len_b hR.ok.2.2.1
                  have wl_49 := hR.wl192
                  have hgI_49 : (nI hg).toInt = ((hg : Nat) : Int) := nI_toInt (by omega)
                  have tmI_49 : (nI ((trS (sTc (sBd s1_ (hob s1_ (aA (A K))) (renB (bdS s1_ (hob s1_ (aA (A K)))) (aB (A K)) y_32)) (2 * (8 * (hob s1_ (aA (A K))) + (aB (A K))) + 1))).length)).toInt = (((trS (sTc (sBd s1_ (hob s1_ (aA (A K))) (renB (bdS s1_ (hob s1_ (aA (A K)))) (aB (A K)) y_32)) (2 * (8 * (hob s1_ (aA (A K))) + (aB (A K))) + 1))).length : Nat) : Int) := nI_toInt (by omega)
                  have wmI_49 : (nI wl.length).toInt = ((wl.length : Nat) : Int) := nI_toInt (by omega)
                  have acI_49 : (nI ac).toInt = ((ac : Nat) : Int) := nI_toInt (by omega)
                  have thI_49 : (nI 0).toInt = ((0 : Nat) : Int) := nI_toInt (by omega)
                  have nIn_49 : (nI n).toInt = ((n : Nat) : Int) := nI_toInt (by omega)
                  refine lv_goto (tgt := 271) hx hb dX6_rowActs_247 (by decide) ?_
                  exact m_vret hx hb hr hlk hC hH (fun _ => (0, 0)) ⟨hfr, by rw [prf_10 eκ]; rw [show pRow T σ (aA (A K)) (aB (A K)) (vaS σ (aC (A K))) = (0, (sTc (sBd s1_ (hob s1_ (aA (A K))) (renB (bdS s1_ (hob s1_ (aA (A K)))) (aB (A K)) y_32)) (2 * (8 * (hob s1_ (aA (A K))) + (aB (A K))) + 1))) from (thn_0 a01).trans (by rw [← es1_]; exact (if_neg (by rw [← vq_]; omega)).trans ((if_neg (by rw [← vq_]; omega)).trans (by rw [vq_]; rfl)))]; exact ⟨_, _, hM, hR, hac_49, hth_49⟩⟩ (Nat.le_of_ble_eq_true rfl) (Nat.le_of_ble_eq_true rfl) dX6_rowActs_271
              · skip
                have ic_35 : (y_32.toInt : Int) > 8 := lc_nle rfl kJ_8 (fun q_ => c_35 ((lg_cmp_le _ _).mpr q_))
                refine lv_bipush (v := 8) hx hb dX6_rowActs_215 (by decide) ?_
                refine lv_goto (tgt := 221) hx hb dX6_rowActs_217 (by decide) ?_
                refine m_put (ci := 6) (v := .int 8) (C := RX6) (T := TX6) (N := 30) hx hb hC hH hts in_X6_rowActs_X6 tyX6 tyX6_ok nmX6 hown F_30 rfl 28 (by decide) (hts (.fieldLink RX6 155 "LazyStateModel" "threw" "I") (by decide +kernel)) rfl rfl rfl (Nat.le_of_ble_eq_true rfl) dX6_rowActs_221 (fun H locs hH => ?_)
                have hH : mH G s (va_up f_27 (h 0) (some (.inr (6, [.int (nI n), .ref (h 1), .int (nI hg), .ref (h 3), .ref (h 4), .ref (h 5), .ref (h 6), .int (feL fe0 c0q s1_), .ref (h 8), .ref (h 9), .ref (h 10), .ref (h 11), .ref (h 12), .ref (h 13), .ref (h 14), .ref (h 15), .int ca, .long (gfS s1_), .int wh, .int (nI ((trS s1_).length)), .ref (h 20), .ref (h 21), .int (nI wl.length), .ref (h 23), .ref (h 24), .int (nI ac), .ref (h 26), .ref (h 27), .int 8, .int sx])))) H locs := hH
                obtain ⟨f_50, ef_50⟩ : ∃ zz_ : mF, zz_ = va_up f_27 (h 0) (some (.inr (6, [.int (nI n), .ref (h 1), .int (nI hg), .ref (h 3), .ref (h 4), .ref (h 5), .ref (h 6), .int (feL fe0 c0q s1_), .ref (h 8), .ref (h 9), .ref (h 10), .ref (h 11), .ref (h 12), .ref (h 13), .ref (h 14), .ref (h 15), .int ca, .long (gfS s1_), .int wh, .int (nI ((trS s1_).length)), .ref (h 20), .ref (h 21), .int (nI wl.length), .ref (h 23), .ref (h 24), .int (nI ac), .ref (h 26), .ref (h 27), .int 8, .int sx]))) := ⟨_, rfl⟩
                rw [← ef_50] at hH
                have hM : MEM G h n (nI hg, (feL fe0 c0q s1_), ca, (gfS s1_), wh, nI ((trS s1_).length), nI wl.length, nI ac, 8, sx) I_29 J_29 f_50 := hM.set0 ef_50
                have hfr := hfr.up 0 (by decide) ef_50
                have hI : FM G h n T z A hg ver (cqL c0q s1_) (feL fe0 c0q s1_) tms ca wl wh ac 8 sx s1_ f_50 := ⟨_, _, hM, hR, hac_29, by omega⟩
                obtain ⟨I_51, J_51, hM, hR, hac_51, hth_51⟩ := hI
                have hg_51 := hR.hg40
                have n24_51 := hR.n24
                have tl_51 := len_b hR.ok.2.2.1
                have wl_51 := hR.wl192
                have hgI_51 : (nI hg).toInt = ((hg : Nat) : Int) := nI_toInt (by omega)
                have tmI_51 : (nI ((trS s1_).length)).toInt = (((trS s1_).length : Nat) : Int) := nI_toInt (by omega)
                have wmI_51 : (nI wl.length).toInt = ((wl.length : Nat) : Int) := nI_toInt (by omega)
                have acI_51 : (nI ac).toInt = ((ac : Nat) : Int) := nI_toInt (by omega)
                have thI_51 : (nI 8).toInt = ((8 : Nat) : Int) := nI_toInt (by omega)
                have nIn_51 : (nI n).toInt = ((n : Nat) : Int) := nI_toInt (by omega)
                refine lv_aload_n hx hb dX6_rowActs_224 rfl (lv_at hl 6 rfl) ?_
                have F_52 : f_50 (h 0) = some (.inr (6, [.int (nI n), .ref (h 1), .int (nI hg), .ref (h 3), .ref (h 4), .ref (h 5), .ref (h 6), .int (feL fe0 c0q s1_), .ref (h 8), .ref (h 9), .ref (h 10), .ref (h 11), .ref (h 12), .ref (h 13), .ref (h 14), .ref (h 15), .int ca, .long (gfS s1_), .int wh, .int (nI ((trS s1_).length)), .ref (h 20), .ref (h 21), .int (nI wl.length), .ref (h 23), .ref (h 24), .int (nI ac), .ref (h 26), .ref (h 27), .int (nI 8), .int sx])) := hM.1
                refine m_get (ci := 6) (v := .int (nI 8)) (C := RX6) (T := TX6) (N := 30) hx hb hC hH hts in_X6_rowActs_X6 hown F_52 rfl 28 (by decide) (hts (.fieldLink RX6 155 "LazyStateModel" "threw" "I") (by decide +kernel)) rfl dX6_rowActs_225 ?_
                refine lv_if_ne (tgt := 247) hx hb dX6_rowActs_228 (by decide) (fun c_53 => ?_) (fun c_53 => ?_)
                · skip
                  have ic_53 : (((8 : Nat) : Int) : Int) ≠ 0 := ic_ne thI_51 kI_0 c_53
                  refine lv_goto (tgt := 271) hx hb dX6_rowActs_247 (by decide) ?_
                  exact m_vret hx hb hr hlk hC hH (fun _ => (0, 0)) ⟨hfr, by rw [prf_10 eκ]; rw [show pRow T σ (aA (A K)) (aB (A K)) (vaS σ (aC (A K))) = (8, s1_) from (thn_0 a01).trans (by rw [← es1_]; exact (if_neg (by rw [← vq_]; omega)).trans (if_pos (by rw [← vq_]; omega)))]; exact ⟨_, _, hM, hR, hac_51, hth_51⟩⟩ (Nat.le_of_ble_eq_true rfl) (Nat.le_of_ble_eq_true rfl) dX6_rowActs_271
                · skip
                  have ic_53 : (((8 : Nat) : Int) : Int) = 0 := ic_eq thI_51 kI_0 c_53
                  omega
            · skip
              have ic_34 : (0 : Int) > y_32.toInt := lc_nle kJ_0 rfl (fun q_ => c_34 ((lg_cmp_ge _ _).mpr q_))
              refine lv_iconst (v := 4) hx hb dX6_rowActs_202 (by decide) ?_
              refine lv_goto (tgt := 221) hx hb dX6_rowActs_203 (by decide) ?_
              refine m_put (ci := 6) (v := .int 4) (C := RX6) (T := TX6) (N := 30) hx hb hC hH hts in_X6_rowActs_X6 tyX6 tyX6_ok nmX6 hown F_30 rfl 28 (by decide) (hts (.fieldLink RX6 155 "LazyStateModel" "threw" "I") (by decide +kernel)) rfl rfl rfl (Nat.le_of_ble_eq_true rfl) dX6_rowActs_221 (fun H locs hH => ?_)
              have hH : mH G s (va_up f_27 (h 0) (some (.inr (6, [.int (nI n), .ref (h 1), .int (nI hg), .ref (h 3), .ref (h 4), .ref (h 5), .ref (h 6), .int (feL fe0 c0q s1_), .ref (h 8), .ref (h 9), .ref (h 10), .ref (h 11), .ref (h 12), .ref (h 13), .ref (h 14), .ref (h 15), .int ca, .long (gfS s1_), .int wh, .int (nI ((trS s1_).length)), .ref (h 20), .ref (h 21), .int (nI wl.length), .ref (h 23), .ref (h 24), .int (nI ac), .ref (h 26), .ref (h 27), .int 4, .int sx])))) H locs := hH
              obtain ⟨f_54, ef_54⟩ : ∃ zz_ : mF, zz_ = va_up f_27 (h 0) (some (.inr (6, [.int (nI n), .ref (h 1), .int (nI hg), .ref (h 3), .ref (h 4), .ref (h 5), .ref (h 6), .int (feL fe0 c0q s1_), .ref (h 8), .ref (h 9), .ref (h 10), .ref (h 11), .ref (h 12), .ref (h 13), .ref (h 14), .ref (h 15), .int ca, .long (gfS s1_), .int wh, .int (nI ((trS s1_).length)), .ref (h 20), .ref (h 21), .int (nI wl.length), .ref (h 23), .ref (h 24), .int (nI ac), .ref (h 26), .ref (h 27), .int 4, .int sx]))) := ⟨_, rfl⟩
              rw [← ef_54] at hH
              have hM : MEM G h n (nI hg, (feL fe0 c0q s1_), ca, (gfS s1_), wh, nI ((trS s1_).length), nI wl.length, nI ac, 4, sx) I_29 J_29 f_54 := hM.set0 ef_54
              have hfr := hfr.up 0 (by decide) ef_54
              have hI : FM G h n T z A hg ver (cqL c0q s1_) (feL fe0 c0q s1_) tms ca wl wh ac 4 sx s1_ f_54 := ⟨_, _, hM, hR, hac_29, by omega⟩
              obtain ⟨I_55, J_55, hM, hR, hac_55, hth_55⟩ := hI
              have hg_55 := hR.hg40
              have n24_55 := hR.n24
              have tl_55 := len_b hR.ok.2.2.1
              have wl_55 := hR.wl192
              have hgI_55 : (nI hg).toInt = ((hg : Nat) : Int) := nI_toInt (by omega)
              have tmI_55 : (nI ((trS s1_).length)).toInt = (((trS s1_).length : Nat) : Int) := nI_toInt (by omega)
              have wmI_55 : (nI wl.length).toInt = ((wl.length : Nat) : Int) := nI_toInt (by omega)
              have acI_55 : (nI ac).toInt = ((ac : Nat) : Int) := nI_toInt (by omega)
              have thI_55 : (nI 4).toInt = ((4 : Nat) : Int) := nI_toInt (by omega)
              have nIn_55 : (nI n).toInt = ((n : Nat) : Int) := nI_toInt (by omega)
              refine lv_aload_n hx hb dX6_rowActs_224 rfl (lv_at hl 6 rfl) ?_
              have F_56 : f_54 (h 0) = some (.inr (6, [.int (nI n), .ref (h 1), .int (nI hg), .ref (h 3), .ref (h 4), .ref (h 5), .ref (h 6), .int (feL fe0 c0q s1_), .ref (h 8), .ref (h 9), .ref (h 10), .ref (h 11), .ref (h 12), .ref (h 13), .ref (h 14), .ref (h 15), .int ca, .long (gfS s1_), .int wh, .int (nI ((trS s1_).length)), .ref (h 20), .ref (h 21), .int (nI wl.length), .ref (h 23), .ref (h 24), .int (nI ac), .ref (h 26), .ref (h 27), .int (nI 4), .int sx])) := hM.1
              refine m_get (ci := 6) (v := .int (nI 4)) (C := RX6) (T := TX6) (N := 30) hx hb hC hH hts in_X6_rowActs_X6 hown F_56 rfl 28 (by decide) (hts (.fieldLink RX6 155 "LazyStateModel" "threw" "I") (by decide +kernel)) rfl dX6_rowActs_225 ?_
              refine lv_if_ne (tgt := 247) hx hb dX6_rowActs_228 (by decide) (fun c_57 => ?_) (fun c_57 => ?_)
              · skip
                have ic_57 : (((4 : Nat) : Int) : Int) ≠ 0 := ic_ne thI_55 kI_0 c_57
                refine lv_goto (tgt := 271) hx hb dX6_rowActs_247 (by decide) ?_
                exact m_vret hx hb hr hlk hC hH (fun _ => (0, 0)) ⟨hfr, by rw [prf_10 eκ]; rw [show pRow T σ (aA (A K)) (aB (A K)) (vaS σ (aC (A K))) = (4, s1_) from (thn_0 a01).trans (by rw [← es1_]; exact if_pos (by rw [← vq_]; omega))]; exact ⟨_, _, hM, hR, hac_55, hth_55⟩⟩ (Nat.le_of_ble_eq_true rfl) (Nat.le_of_ble_eq_true rfl) dX6_rowActs_271
              · skip
                have ic_57 : (((4 : Nat) : Int) : Int) = 0 := ic_eq thI_55 kI_0 c_57
                omega
        · skip
          have rv1 := hr_26.2 a01
          have hI : FM G h n T z A hg ver (cqL c0q ((ask T σ (aA (A K)) (aB (A K)) 3).2)) (feL fe0 c0q ((ask T σ (aA (A K)) (aB (A K)) 3).2)) tms ca wl wh ac ((ask T σ (aA (A K)) (aB (A K)) 3).1) sx ((ask T σ (aA (A K)) (aB (A K)) 3).2) f_27 := hI
          obtain ⟨I_58, J_58, hM, hR, hac_58, hth_58⟩ := hI
          have hg_58 := hR.hg40
          have n24_58 := hR.n24
          have tl_58 := len_b hR.ok.2.2.1
          have wl_58 := hR.wl192
          have hgI_58 : (nI hg).toInt = ((hg : Nat) : Int) := nI_toInt (by omega)
          have tmI_58 : (nI ((trS ((ask T σ (aA (A K)) (aB (A K)) 3).2)).length)).toInt = (((trS ((ask T σ (aA (A K)) (aB (A K)) 3).2)).length : Nat) : Int) := nI_toInt (by omega)
          have wmI_58 : (nI wl.length).toInt = ((wl.length : Nat) : Int) := nI_toInt (by omega)
          have acI_58 : (nI ac).toInt = ((ac : Nat) : Int) := nI_toInt (by omega)
          have thI_58 : (nI ((ask T σ (aA (A K)) (aB (A K)) 3).1)).toInt = (((ask T σ (aA (A K)) (aB (A K)) 3).1 : Nat) : Int) := nI_toInt (by omega)
          have nIn_58 : (nI n).toInt = ((n : Nat) : Int) := nI_toInt (by omega)
          refine lv_istore (lv' := [(7, .int r_26), (6, .int x_10), (5, .int x_8), (3, .long y_6), (2, .int x_4), (0, .ref (h 0)), (1, .int kk)]) hx hb dX6_rowActs_178 hl (by decide) rfl (fun ls hl => ?_)
          refine lv_aload_n hx hb dX6_rowActs_180 rfl (lv_at hl 5 rfl) ?_
          have F_59 : f_27 (h 0) = some (.inr (6, [.int (nI n), .ref (h 1), .int (nI hg), .ref (h 3), .ref (h 4), .ref (h 5), .ref (h 6), .int (feL fe0 c0q ((ask T σ (aA (A K)) (aB (A K)) 3).2)), .ref (h 8), .ref (h 9), .ref (h 10), .ref (h 11), .ref (h 12), .ref (h 13), .ref (h 14), .ref (h 15), .int ca, .long (gfS ((ask T σ (aA (A K)) (aB (A K)) 3).2)), .int wh, .int (nI ((trS ((ask T σ (aA (A K)) (aB (A K)) 3).2)).length)), .ref (h 20), .ref (h 21), .int (nI wl.length), .ref (h 23), .ref (h 24), .int (nI ac), .ref (h 26), .ref (h 27), .int (nI ((ask T σ (aA (A K)) (aB (A K)) 3).1)), .int sx])) := hM.1
          refine m_get (ci := 6) (v := .ref (h 27)) (C := RX6) (T := TX6) (N := 30) hx hb hC hH hts in_X6_rowActs_X6 hown F_59 rfl 27 (by decide) (hts (.fieldLink RX6 71 "LazyStateModel" "values" "[J") (by decide +kernel)) rfl dX6_rowActs_181 ?_
          refine lv_iload hx hb dX6_rowActs_184 (lv_at hl 2 rfl) ?_
          have hg_60 : f_27 (h 27) = some (.inl (gk G 1, 4, .inr (.inl (J_58 27)))) := hM.2.2.1 27 (by decide) rfl
          refine m_lald hx hb hC hH hg_60 (vp_in_iff.mpr ⟨by omega, by omega⟩) dX6_rowActs_186 ?_
          refine lv_topl (fun y_61 ey_61 => ?_)
          have vy_61 : y_61 = vaS ((ask T σ (aA (A K)) (aB (A K)) 3).2) (aC (A K)) := by rw [ey_61, (show x_8.toNatClampNeg = (aC (A K)) from (by show x_8.toInt.toNat = (A K).2.2.2.1.toInt.toNat; omega))]; exact hR.vaI (show (A K).2.2.2.1.toInt.toNat < 4 from by omega)
          refine lv_lstore (lv' := [(8, .long y_61), (7, .int r_26), (6, .int x_10), (5, .int x_8), (3, .long y_6), (2, .int x_4), (0, .ref (h 0)), (1, .int kk)]) hx hb dX6_rowActs_187 hl (by decide) rfl (fun ls hl => ?_)
          refine lv_iload hx hb dX6_rowActs_189 (lv_at hl 1 rfl) ?_
          refine lv_if_lt (tgt := 224) hx hb dX6_rowActs_191 (by decide) (fun c_62 => ?_) (fun c_62 => ?_)
          · skip
            have ic_62 : (r_26.toInt : Int) < 0 := ic_lt rfl kI_0 c_62
            refine lv_aload_n hx hb dX6_rowActs_224 rfl (lv_at hl 6 rfl) ?_
            refine m_get (ci := 6) (v := .int (nI ((ask T σ (aA (A K)) (aB (A K)) 3).1))) (C := RX6) (T := TX6) (N := 30) hx hb hC hH hts in_X6_rowActs_X6 hown F_59 rfl 28 (by decide) (hts (.fieldLink RX6 155 "LazyStateModel" "threw" "I") (by decide +kernel)) rfl dX6_rowActs_225 ?_
            refine lv_if_ne (tgt := 247) hx hb dX6_rowActs_228 (by decide) (fun c_63 => ?_) (fun c_63 => ?_)
            · skip
              have ic_63 : ((((ask T σ (aA (A K)) (aB (A K)) 3).1 : Nat) : Int) : Int) ≠ 0 := ic_ne thI_58 kI_0 c_63
              refine lv_goto (tgt := 271) hx hb dX6_rowActs_247 (by decide) ?_
              exact m_vret hx hb hr hlk hC hH (fun _ => (0, 0)) ⟨hfr, by rw [prf_10 eκ]; rw [show pRow T σ (aA (A K)) (aB (A K)) (vaS σ (aC (A K))) = (ask T σ (aA (A K)) (aB (A K)) 3) from thn_1 a01]; exact ⟨_, _, hM, hR, hac_58, hth_58⟩⟩ (Nat.le_of_ble_eq_true rfl) (Nat.le_of_ble_eq_true rfl) dX6_rowActs_271
            · skip
              have ic_63 : ((((ask T σ (aA (A K)) (aB (A K)) 3).1 : Nat) : Int) : Int) = 0 := ic_eq thI_58 kI_0 c_63
              omega
          · skip
            have ic_62 : (r_26.toInt : Int) ≥ 0 := ic_nlt rfl kI_0 c_62
            omega
    · skip
      have ic_15 : (x_14.toInt : Int) = 9 := ic_eq rfl kI_9 c_15
      have hv_ : κ = 9 := by omega
      subst hv_
      have g0_ := fit_get (m := 3) rfl (by decide) kI_3 f0_
      have nA_ : (aA (A K)) < 4 := (show (A K).2.1.toInt.toNat < 4 from (by omega))
      have g1_ := fit_get (m := 7) rfl (by decide) kI_7 f1_
      have nB_ : (aB (A K)) < 8 := (show (A K).2.2.1.toInt.toNat < 8 from (by omega))
      have g2_ := fit_get (m := 3) rfl (by decide) kI_3 f2_
      have nC_ : (aC (A K)) < 4 := (show (A K).2.2.2.1.toInt.toNat < 4 from (by omega))
      have g3_ := fit_get (m := 3) rfl (by decide) kI_3 f3_
      have nD_ : (aD (A K)) < 4 := (show (A K).2.2.2.2.1.toInt.toNat < 4 from (by omega))
      refine lv_aload_n hx hb dX6_rowActs_106 rfl (lv_at hl 4 rfl) ?_
      refine lv_iload_n hx hb dX6_rowActs_107 rfl (lv_at hl 3 rfl) ?_
      refine lv_lload_n hx hb dX6_rowActs_108 rfl (lv_at hl 2 rfl) ?_
      refine lv_iconst (v := 2) hx hb dX6_rowActs_109 (by decide) ?_
      have hI : FM G h n T z A hg ver (cqL c0q σ) (feL fe0 c0q σ) tms ca wl wh ac 0 sx σ f := ⟨_, _, hM, hR, hac_1, hth_1⟩
      refine m_goi hH (va_runV (As := [.int x_4, .long y_6, .int 2]) (rest := []) ⟨hx, hb, hml, hown, hts⟩ (c_X6_readLeaf l G h n T z A hg ver c0q fe0 tms ca wl wh ac sx σ f hI hn0 x_4 y_6 2 (by have := kI_2; omega) (by have := kI_2; omega) (by have := kI_2; omega)) (cwV 3 hts gX6_rowActs_X6_readLeaf rfl rfl rfl (by decide +kernel) ⟨Nat.le_of_ble_eq_true rfl, Nat.le_of_ble_eq_true rfl⟩) (m_preV (ci := 6) hC hH F_2 rfl) rfl rfl hl.1 rfl (lv_room (Nat.le_of_ble_eq_true rfl)) dX6_rowActs_110 ⟨Nat.le_of_ble_eq_true rfl, Nat.le_of_ble_eq_true rfl⟩) (fun r_64 rho_66 f_65 H locs hw hH => ?_)
      obtain ⟨hfr1, hI, hr_64⟩ := hw
      have hfr1 : frM h f f_65 := hfr1
      have hfr := hfr.trans hfr1
      have hI : FM G h n T z A hg ver (cqL c0q ((thn (ask T σ x_4.toNatClampNeg y_6.toInt.toNat ((2 : Int32).toNatClampNeg + 1)) (fun s1 => (0, rdL s1 x_4.toNatClampNeg y_6.toInt.toNat))).2)) (feL fe0 c0q ((thn (ask T σ x_4.toNatClampNeg y_6.toInt.toNat ((2 : Int32).toNatClampNeg + 1)) (fun s1 => (0, rdL s1 x_4.toNatClampNeg y_6.toInt.toNat))).2)) tms ca wl wh ac ((ask T σ x_4.toNatClampNeg y_6.toInt.toNat ((2 : Int32).toNatClampNeg + 1)).1) sx ((thn (ask T σ x_4.toNatClampNeg y_6.toInt.toNat ((2 : Int32).toNatClampNeg + 1)) (fun s1 => (0, rdL s1 x_4.toNatClampNeg y_6.toInt.toNat))).2) f_65 := hI
      try dsimp only at hr_64
      rw [(show x_4.toNatClampNeg = (aA (A K)) from (by show x_4.toInt.toNat = (A K).2.1.toInt.toNat; omega)), (show y_6.toInt.toNat = (aB (A K)) from (by show y_6.toInt.toNat = (A K).2.2.1.toInt.toNat; omega)), (show (2 : Int32).toNatClampNeg + 1 = 3 from rfl)] at hI hr_64
      by_cases a01 : (ask T σ (aA (A K)) (aB (A K)) 3).1 = 0
      · skip
        have rv1 := hr_64.1 a01
        obtain ⟨au11, au21, au31, au41, au51⟩ := ask_use hR.ok (by omega) a01
        have eho1 : hob σ (aA (A K)) = hob (ask T σ (aA (A K)) (aB (A K)) 3).2 (aA (A K)) := hob_ask.symm
        rw [eho1] at rv1
        rw [thn_0 a01] at hI
        have hI : FM G h n T z A hg ver (cqL c0q (rdL (ask T σ (aA (A K)) (aB (A K)) 3).2 (aA (A K)) (aB (A K)))) (feL fe0 c0q (rdL (ask T σ (aA (A K)) (aB (A K)) 3).2 (aA (A K)) (aB (A K)))) tms ca wl wh ac ((ask T σ (aA (A K)) (aB (A K)) 3).1) sx (rdL (ask T σ (aA (A K)) (aB (A K)) 3).2 (aA (A K)) (aB (A K))) f_65 := hI
        rw [a01] at hI
        obtain ⟨s1_, es1_⟩ : ∃ zs_ : tS, zs_ = (ask T σ (aA (A K)) (aB (A K)) 3).2 := ⟨_, rfl⟩
        rw [← es1_] at hI au11 au21 au31 au41 au51 rv1
        have hI : FM G h n T z A hg ver (cqL c0q (rdL s1_ (aA (A K)) (aB (A K)))) (feL fe0 c0q (rdL s1_ (aA (A K)) (aB (A K)))) tms ca wl wh ac 0 sx (rdL s1_ (aA (A K)) (aB (A K))) f_65 := hI
        obtain ⟨I_67, J_67, hM, hR, hac_67, hth_67⟩ := hI
        have hg_67 := hR.hg40
        have n24_67 := hR.n24
        have tl_67 := len_b hR.ok.2.2.1
        have wl_67 := hR.wl192
        have hgI_67 : (nI hg).toInt = ((hg : Nat) : Int) := nI_toInt (by omega)
        have tmI_67 : (nI ((trS (rdL s1_ (aA (A K)) (aB (A K)))).length)).toInt = (((trS (rdL s1_ (aA (A K)) (aB (A K)))).length : Nat) : Int) := nI_toInt (by omega)
        have wmI_67 : (nI wl.length).toInt = ((wl.length : Nat) : Int) := nI_toInt (by omega)
        have acI_67 : (nI ac).toInt = ((ac : Nat) : Int) := nI_toInt (by omega)
        have thI_67 : (nI 0).toInt = ((0 : Nat) : Int) := nI_toInt (by omega)
        have nIn_67 : (nI n).toInt = ((n : Nat) : Int) := nI_toInt (by omega)
        refine lv_istore (lv' := [(7, .int r_64), (6, .int x_10), (5, .int x_8), (3, .long y_6), (2, .int x_4), (0, .ref (h 0)), (1, .int kk)]) hx hb dX6_rowActs_113 hl (by decide) rfl (fun ls hl => ?_)
        refine lv_aload_n hx hb dX6_rowActs_115 rfl (lv_at hl 5 rfl) ?_
        refine lv_iload hx hb dX6_rowActs_116 (lv_at hl 0 rfl) ?_
        refine lv_aload_n hx hb dX6_rowActs_118 rfl (lv_at hl 5 rfl) ?_
        have F_68 : f_65 (h 0) = some (.inr (6, [.int (nI n), .ref (h 1), .int (nI hg), .ref (h 3), .ref (h 4), .ref (h 5), .ref (h 6), .int (feL fe0 c0q (rdL s1_ (aA (A K)) (aB (A K)))), .ref (h 8), .ref (h 9), .ref (h 10), .ref (h 11), .ref (h 12), .ref (h 13), .ref (h 14), .ref (h 15), .int ca, .long (gfS (rdL s1_ (aA (A K)) (aB (A K)))), .int wh, .int (nI ((trS (rdL s1_ (aA (A K)) (aB (A K)))).length)), .ref (h 20), .ref (h 21), .int (nI wl.length), .ref (h 23), .ref (h 24), .int (nI ac), .ref (h 26), .ref (h 27), .int (nI 0), .int sx])) := hM.1
        refine m_get (ci := 6) (v := .ref (h 27)) (C := RX6) (T := TX6) (N := 30) hx hb hC hH hts in_X6_rowActs_X6 hown F_68 rfl 27 (by decide) (hts (.fieldLink RX6 71 "LazyStateModel" "values" "[J") (by decide +kernel)) rfl dX6_rowActs_119 ?_
        refine lv_iload hx hb dX6_rowActs_122 (lv_at hl 2 rfl) ?_
        have hg_69 : f_65 (h 27) = some (.inl (gk G 1, 4, .inr (.inl (J_67 27)))) := hM.2.2.1 27 (by decide) rfl
        refine m_lald hx hb hC hH hg_69 (vp_in_iff.mpr ⟨by omega, by omega⟩) dX6_rowActs_124 ?_
        refine lv_topl (fun y_70 ey_70 => ?_)
        have vy_70 : y_70 = vaS (rdL s1_ (aA (A K)) (aB (A K))) (aC (A K)) := by rw [ey_70, (show x_8.toNatClampNeg = (aC (A K)) from (by show x_8.toInt.toNat = (A K).2.2.2.1.toInt.toNat; omega))]; exact hR.vaI (show (A K).2.2.2.1.toInt.toNat < 4 from by omega)
        have vy_ : y_70 = vaS s1_ (aC (A K)) := vy_70
        have hI : FM G h n T z A hg ver (cqL c0q (rdL s1_ (aA (A K)) (aB (A K)))) (feL fe0 c0q (rdL s1_ (aA (A K)) (aB (A K)))) tms ca wl wh ac 0 sx (rdL s1_ (aA (A K)) (aB (A K))) f_65 := ⟨_, _, hM, hR, hac_67, hth_67⟩
        refine m_goi hH (va_runV (As := [.int r_64, .long y_70]) (rest := []) ⟨hx, hb, hml, hown, hts⟩ (c_X6_itemOf l G h n T z A hg ver c0q fe0 tms ca wl wh ac sx (rdL s1_ (aA (A K)) (aB (A K))) f_65 hI hn0 r_64 y_70 (hob s1_ (aA (A K))) (aB (A K)) au21 (by omega) au31 rv1) (cwV 2 hts gX6_rowActs_X6_itemOf rfl rfl rfl (by decide +kernel) ⟨Nat.le_of_ble_eq_true rfl, Nat.le_of_ble_eq_true rfl⟩) (m_preV (ci := 6) hC hH F_68 rfl) rfl rfl hl.1 rfl (lv_room (Nat.le_of_ble_eq_true rfl)) dX6_rowActs_125 ⟨Nat.le_of_ble_eq_true rfl, Nat.le_of_ble_eq_true rfl⟩) (fun r_71 rho_73 f_72 H locs hw hH => ?_)
        obtain ⟨hfr1, hI, hr_71⟩ := hw
        have hfr1 : frM h f_65 f_72 := hfr1
        have hfr := hfr.trans hfr1
        have hI : FM G h n T z A hg ver (cqL c0q (rdL s1_ (aA (A K)) (aB (A K)))) (feL fe0 c0q (rdL s1_ (aA (A K)) (aB (A K)))) tms ca wl wh ac (iRf (bdS (rdL s1_ (aA (A K)) (aB (A K))) (hob s1_ (aA (A K)))) (aB (A K)) y_70) sx (rdL s1_ (aA (A K)) (aB (A K))) f_72 := hI
        try dsimp only at hr_71
        obtain ⟨I_74, J_74, hM, hR, hac_74, hth_74⟩ := hI
        have hg_74 := hR.hg40
        have n24_74 := hR.n24
        have tl_74 := len_b hR.ok.2.2.1
        have wl_74 := hR.wl192
        have hgI_74 : (nI hg).toInt = ((hg : Nat) : Int) := nI_toInt (by omega)
        have tmI_74 : (nI ((trS (rdL s1_ (aA (A K)) (aB (A K)))).length)).toInt = (((trS (rdL s1_ (aA (A K)) (aB (A K)))).length : Nat) : Int) := nI_toInt (by omega)
        have wmI_74 : (nI wl.length).toInt = ((wl.length : Nat) : Int) := nI_toInt (by omega)
        have acI_74 : (nI ac).toInt = ((ac : Nat) : Int) := nI_toInt (by omega)
        have thI_74 : (nI (iRf (bdS (rdL s1_ (aA (A K)) (aB (A K))) (hob s1_ (aA (A K)))) (aB (A K)) y_70)).toInt = (((iRf (bdS (rdL s1_ (aA (A K)) (aB (A K))) (hob s1_ (aA (A K)))) (aB (A K)) y_70) : Nat) : Int) := nI_toInt (by omega)
        have nIn_74 : (nI n).toInt = ((n : Nat) : Int) := nI_toInt (by omega)
        refine lv_istore (lv' := [(8, .int r_71), (7, .int r_64), (6, .int x_10), (5, .int x_8), (3, .long y_6), (2, .int x_4), (0, .ref (h 0)), (1, .int kk)]) hx hb dX6_rowActs_128 hl (by decide) rfl (fun ls hl => ?_)
        refine lv_iload hx hb dX6_rowActs_130 (lv_at hl 0 rfl) ?_
        refine lv_if_lt (tgt := 157) hx hb dX6_rowActs_132 (by decide) (fun c_75 => ?_) (fun c_75 => ?_)
        · skip
          have ic_75 : (r_71.toInt : Int) < 0 := ic_lt rfl kI_0 c_75
          have ir_ : (iRf (bdS (rdL s1_ (aA (A K)) (aB (A K))) (hob s1_ (aA (A K)))) (aB (A K)) y_70) ≠ 0 := fun z_ => by have q1_ := hr_71.1 z_; have q2_ := iRf_0 z_; omega
          refine lv_goto (tgt := 271) hx hb dX6_rowActs_157 (by decide) ?_
          exact m_vret hx hb hr hlk hC hH (fun _ => (0, 0)) ⟨hfr, by rw [prf_9 eκ]; rw [show pLay T σ (aA (A K)) (aB (A K)) (aC (A K)) (aD (A K)) = ((iRf (bdS (rdL s1_ (aA (A K)) (aB (A K))) (hob s1_ (aA (A K)))) (aB (A K)) y_70), rdL s1_ (aA (A K)) (aB (A K))) from (thn_0 a01).trans (by rw [← es1_]; exact (thn_1 (by show iRf (bdS s1_ (hob s1_ (aA (A K)))) (aB (A K)) (vaS s1_ (aC (A K))) ≠ 0; rw [← vy_]; exact ir_)).trans (by rw [vy_]; rfl))]; exact ⟨_, _, hM, hR, hac_74, hth_74⟩⟩ (Nat.le_of_ble_eq_true rfl) (Nat.le_of_ble_eq_true rfl) dX6_rowActs_271
        · skip
          have ic_75 : (r_71.toInt : Int) ≥ 0 := ic_nlt rfl kI_0 c_75
          have ir_ : (iRf (bdS (rdL s1_ (aA (A K)) (aB (A K))) (hob s1_ (aA (A K)))) (aB (A K)) y_70) = 0 := Decidable.byContradiction (fun z_ => by have := hr_71.2 z_; omega)
          have ri_ := hr_71.1 ir_
          have ib_ := iRf_0 ir_
          have i8_ := ((au51 (aB (A K)) (by omega)).2.2 au31).1
          have ib_ : 0 ≤ y_70.toInt ∧ y_70.toInt < ((bdS s1_ (hob s1_ (aA (A K)))).1 (aB (A K))).toInt := ib_
          have ck_ : ((y_70.toInt.toNat : Nat) : Int) = y_70.toInt := by omega
          have hI : FM G h n T z A hg ver (cqL c0q (rdL s1_ (aA (A K)) (aB (A K)))) (feL fe0 c0q (rdL s1_ (aA (A K)) (aB (A K)))) tms ca wl wh ac (iRf (bdS (rdL s1_ (aA (A K)) (aB (A K))) (hob s1_ (aA (A K)))) (aB (A K)) y_70) sx (rdL s1_ (aA (A K)) (aB (A K))) f_72 := ⟨_, _, hM, hR, hac_74, hth_74⟩
          rw [ir_] at hI
          have hI : FM G h n T z A hg ver (cqL c0q (rdL s1_ (aA (A K)) (aB (A K)))) (feL fe0 c0q (rdL s1_ (aA (A K)) (aB (A K)))) tms ca wl wh ac 0 sx (rdL s1_ (aA (A K)) (aB (A K))) f_72 := hI
          obtain ⟨I_76, J_76, hM, hR, hac_76, hth_76⟩ := hI
          have hg_76 := hR.hg40
          have n24_76 := hR.n24
          have tl_76 := len_b hR.ok.2.2.1
          have wl_76 := hR.wl192
          have hgI_76 : (nI hg).toInt = ((hg : Nat) : Int) := nI_toInt (by omega)
          have tmI_76 : (nI ((trS (rdL s1_ (aA (A K)) (aB (A K)))).length)).toInt = (((trS (rdL s1_ (aA (A K)) (aB (A K)))).length : Nat) : Int) := nI_toInt (by omega)
          have wmI_76 : (nI wl.length).toInt = ((wl.length : Nat) : Int) := nI_toInt (by omega)
          have acI_76 : (nI ac).toInt = ((ac : Nat) : Int) := nI_toInt (by omega)
          have thI_76 : (nI 0).toInt = ((0 : Nat) : Int) := nI_toInt (by omega)
          have nIn_76 : (nI n).toInt = ((n : Nat) : Int) := nI_toInt (by omega)
          refine lv_aload_n hx hb dX6_rowActs_135 rfl (lv_at hl 6 rfl) ?_
          have F_77 : f_72 (h 0) = some (.inr (6, [.int (nI n), .ref (h 1), .int (nI hg), .ref (h 3), .ref (h 4), .ref (h 5), .ref (h 6), .int (feL fe0 c0q (rdL s1_ (aA (A K)) (aB (A K)))), .ref (h 8), .ref (h 9), .ref (h 10), .ref (h 11), .ref (h 12), .ref (h 13), .ref (h 14), .ref (h 15), .int ca, .long (gfS (rdL s1_ (aA (A K)) (aB (A K)))), .int wh, .int (nI ((trS (rdL s1_ (aA (A K)) (aB (A K)))).length)), .ref (h 20), .ref (h 21), .int (nI wl.length), .ref (h 23), .ref (h 24), .int (nI ac), .ref (h 26), .ref (h 27), .int (nI 0), .int sx])) := hM.1
          refine m_get (ci := 6) (v := .ref (h 5)) (C := RX6) (T := TX6) (N := 30) hx hb hC hH hts in_X6_rowActs_X6 hown F_77 rfl 5 (by decide) (hts (.fieldLink RX6 21 "LazyStateModel" "items" "[I") (by decide +kernel)) rfl dX6_rowActs_136 ?_
          refine lv_iload hx hb dX6_rowActs_139 (lv_at hl 0 rfl) ?_
          refine lv_aload_n hx hb dX6_rowActs_141 rfl (lv_at hl 6 rfl) ?_
          refine m_get (ci := 6) (v := .ref (h 27)) (C := RX6) (T := TX6) (N := 30) hx hb hC hH hts in_X6_rowActs_X6 hown F_77 rfl 27 (by decide) (hts (.fieldLink RX6 71 "LazyStateModel" "values" "[J") (by decide +kernel)) rfl dX6_rowActs_142 ?_
          refine lv_iload hx hb dX6_rowActs_145 (lv_at hl 2 rfl) ?_
          have hg_78 : f_72 (h 27) = some (.inl (gk G 1, 4, .inr (.inl (J_76 27)))) := hM.2.2.1 27 (by decide) rfl
          refine m_lald hx hb hC hH hg_78 (vp_in_iff.mpr ⟨by omega, by omega⟩) dX6_rowActs_147 ?_
          refine lv_topl (fun y_79 ey_79 => ?_)
          have vy_79 : y_79 = vaS (rdL s1_ (aA (A K)) (aB (A K))) (aD (A K)) := by rw [ey_79, (show x_10.toNatClampNeg = (aD (A K)) from (by show x_10.toInt.toNat = (A K).2.2.2.2.1.toInt.toNat; omega))]; exact hR.vaI (show (A K).2.2.2.2.1.toInt.toNat < 4 from by omega)
          skip
          refine lv_l2i hx hb dX6_rowActs_148 rfl ?_
          refine lv_topi (fun x_80 ex_80 => ?_)
          have fv_ : x_80 = (vaS s1_ (aD (A K))).toInt32 := by rw [ex_80, vy_79]; rfl
          have hg_81 : f_72 (h 5) = some (.inl (gk G 0, 64512, .inl (I_76 5))) := hM.2.1 5 (by decide) rfl
          refine m_iast hx hb hC hH hg_81 (vp_in_iff.mpr ⟨by omega, by omega⟩) dX6_rowActs_149 (fun H locs hH => ?_)
          obtain ⟨f_82, ef_82⟩ : ∃ zz_ : mF, zz_ = va_up f_72 (h 5) (some (.inl (gk G 0, 64512, .inl (upd (I_76 5) r_71.toNatClampNeg x_80)))) := ⟨_, rfl⟩
          rw [← ef_82] at hH
          have hM : MEM G h n (nI hg, (feL fe0 c0q (rdL s1_ (aA (A K)) (aB (A K)))), ca, (gfS (rdL s1_ (aA (A K)) (aB (A K)))), wh, nI ((trS (rdL s1_ (aA (A K)) (aB (A K)))).length), nI wl.length, nI ac, nI 0, sx) (va_up I_76 5 (upd (I_76 5) r_71.toNatClampNeg x_80)) J_76 f_82 := hM.setI 5 (by decide) rfl ef_82
          have hfr := hfr.up 5 (by decide) ef_82
          have nn_83 : r_71.toNatClampNeg = 8 * (192 * 41 + 8 * (hob s1_ (aA (A K))) + (aB (A K))) + y_70.toInt.toNat := by have := ic_clN (rfl : r_71.toInt = _) (by omega); omega
          rw [nn_83] at hM
          have hR := hR.it (o := (hob s1_ (aA (A K)))) (j := (aB (A K))) (i := y_70.toInt.toNat) (v := x_80) au21 (by omega) au31 (by omega) (by show ((y_70.toInt.toNat : Nat) : Int) < ((bdS s1_ (hob s1_ (aA (A K)))).1 (aB (A K))).toInt; omega)
          have hI : FM G h n T z A hg ver (cqL c0q (sBd (rdL s1_ (aA (A K)) (aB (A K))) (hob s1_ (aA (A K))) (setM (bdS (rdL s1_ (aA (A K)) (aB (A K))) (hob s1_ (aA (A K)))) (plc (aB (A K)) y_70.toInt.toNat) x_80))) (feL fe0 c0q (sBd (rdL s1_ (aA (A K)) (aB (A K))) (hob s1_ (aA (A K))) (setM (bdS (rdL s1_ (aA (A K)) (aB (A K))) (hob s1_ (aA (A K)))) (plc (aB (A K)) y_70.toInt.toNat) x_80))) tms ca wl wh ac 0 sx (sBd (rdL s1_ (aA (A K)) (aB (A K))) (hob s1_ (aA (A K))) (setM (bdS (rdL s1_ (aA (A K)) (aB (A K))) (hob s1_ (aA (A K)))) (plc (aB (A K)) y_70.toInt.toNat) x_80)) f_82 := ⟨_, _, hM, hR, hac_76, hth_76⟩
          obtain ⟨I_84, J_84, hM, hR, hac_84, hth_84⟩ := hI
          have hg_84 := hR.hg40
          have n24_84 := hR.n24
          have tl_84 := len_b hR.ok.2.2.1
          have wl_84 := hR.wl192
          have hgI_84 : (nI hg).toInt = ((hg : Nat) : Int) := nI_toInt (by omega)
          have tmI_84 : (nI ((trS (sBd (rdL s1_ (aA (A K)) (aB (A K))) (hob s1_ (aA (A K))) (setM (bdS (rdL s1_ (aA (A K)) (aB (A K))) (hob s1_ (aA (A K)))) (plc (aB (A K)) y_70.toInt.toNat) x_80))).length)).toInt = (((trS (sBd (rdL s1_ (aA (A K)) (aB (A K))) (hob s1_ (aA (A K))) (setM (bdS (rdL s1_ (aA (A K)) (aB (A K))) (hob s1_ (aA (A K)))) (plc (aB (A K)) y_70.toInt.toNat) x_80))).length : Nat) : Int) := nI_toInt (by omega)
          have wmI_84 : (nI wl.length).toInt = ((wl.length : Nat) : Int) := nI_toInt (by omega)
          have acI_84 : (nI ac).toInt = ((ac : Nat) : Int) := nI_toInt (by omega)
          have thI_84 : (nI 0).toInt = ((0 : Nat) : Int) := nI_toInt (by omega)
          have nIn_84 : (nI n).toInt = ((n : Nat) : Int) := nI_toInt (by omega)
          refine lv_aload_n hx hb dX6_rowActs_150 rfl (lv_at hl 6 rfl) ?_
          refine lv_iload hx hb dX6_rowActs_151 (lv_at hl 1 rfl) ?_
          refine lv_iconst (v := 1) hx hb dX6_rowActs_153 (by decide) ?_
          have F_85 : f_82 (h 0) = some (.inr (6, [.int (nI n), .ref (h 1), .int (nI hg), .ref (h 3), .ref (h 4), .ref (h 5), .ref (h 6), .int (feL fe0 c0q (sBd (rdL s1_ (aA (A K)) (aB (A K))) (hob s1_ (aA (A K))) (setM (bdS (rdL s1_ (aA (A K)) (aB (A K))) (hob s1_ (aA (A K)))) (plc (aB (A K)) y_70.toInt.toNat) x_80))), .ref (h 8), .ref (h 9), .ref (h 10), .ref (h 11), .ref (h 12), .ref (h 13), .ref (h 14), .ref (h 15), .int ca, .long (gfS (sBd (rdL s1_ (aA (A K)) (aB (A K))) (hob s1_ (aA (A K))) (setM (bdS (rdL s1_ (aA (A K)) (aB (A K))) (hob s1_ (aA (A K)))) (plc (aB (A K)) y_70.toInt.toNat) x_80))), .int wh, .int (nI ((trS (sBd (rdL s1_ (aA (A K)) (aB (A K))) (hob s1_ (aA (A K))) (setM (bdS (rdL s1_ (aA (A K)) (aB (A K))) (hob s1_ (aA (A K)))) (plc (aB (A K)) y_70.toInt.toNat) x_80))).length)), .ref (h 20), .ref (h 21), .int (nI wl.length), .ref (h 23), .ref (h 24), .int (nI ac), .ref (h 26), .ref (h 27), .int (nI 0), .int sx])) := hM.1
          have hI : FM G h n T z A hg ver (cqL c0q (sBd (rdL s1_ (aA (A K)) (aB (A K))) (hob s1_ (aA (A K))) (setM (bdS (rdL s1_ (aA (A K)) (aB (A K))) (hob s1_ (aA (A K)))) (plc (aB (A K)) y_70.toInt.toNat) x_80))) (feL fe0 c0q (sBd (rdL s1_ (aA (A K)) (aB (A K))) (hob s1_ (aA (A K))) (setM (bdS (rdL s1_ (aA (A K)) (aB (A K))) (hob s1_ (aA (A K)))) (plc (aB (A K)) y_70.toInt.toNat) x_80))) tms ca wl wh ac 0 sx (sBd (rdL s1_ (aA (A K)) (aB (A K))) (hob s1_ (aA (A K))) (setM (bdS (rdL s1_ (aA (A K)) (aB (A K))) (hob s1_ (aA (A K)))) (plc (aB (A K)) y_70.toInt.toNat) x_80)) f_82 := ⟨_, _, hM, hR, hac_84, hth_84⟩
          refine m_gov hH (va_runV (As := [.int r_64, .int 1]) (rest := []) ⟨hx, hb, hml, hown, hts⟩ (c_X6_touch l G h n T z A hg ver c0q fe0 tms ca wl wh ac 0 sx (sBd (rdL s1_ (aA (A K)) (aB (A K))) (hob s1_ (aA (A K))) (setM (bdS (rdL s1_ (aA (A K)) (aB (A K))) (hob s1_ (aA (A K)))) (plc (aB (A K)) y_70.toInt.toNat) x_80)) f_82 hI hn0 r_64 1 (by have := kI_1; omega) (by have := kI_1; omega)) (cwV 2 hts gX6_rowActs_X6_touch rfl rfl rfl (by decide +kernel) ⟨Nat.le_of_ble_eq_true rfl, Nat.le_of_ble_eq_true rfl⟩) (m_preV (ci := 6) hC hH F_85 rfl) rfl rfl hl.1 rfl (lv_room (Nat.le_of_ble_eq_true rfl)) dX6_rowActs_154 ⟨Nat.le_of_ble_eq_true rfl, Nat.le_of_ble_eq_true rfl⟩) (fun rho_88 f_87 H locs hw hH => ?_)
          obtain ⟨hfr1, hI⟩ := hw
          have hfr1 : frM h f_82 f_87 := hfr1
          have hfr := hfr.trans hfr1
          have hI : FM G h n T z A hg ver (cqL c0q (sTc (sBd (rdL s1_ (aA (A K)) (aB (A K))) (hob s1_ (aA (A K))) (setM (bdS (rdL s1_ (aA (A K)) (aB (A K))) (hob s1_ (aA (A K)))) (plc (aB (A K)) y_70.toInt.toNat) x_80)) (2 * r_64.toNatClampNeg + (1 : Int32).toNatClampNeg))) (feL fe0 c0q (sTc (sBd (rdL s1_ (aA (A K)) (aB (A K))) (hob s1_ (aA (A K))) (setM (bdS (rdL s1_ (aA (A K)) (aB (A K))) (hob s1_ (aA (A K)))) (plc (aB (A K)) y_70.toInt.toNat) x_80)) (2 * r_64.toNatClampNeg + (1 : Int32).toNatClampNeg))) tms ca wl wh ac 0 sx (sTc (sBd (rdL s1_ (aA (A K)) (aB (A K))) (hob s1_ (aA (A K))) (setM (bdS (rdL s1_ (aA (A K)) (aB (A K))) (hob s1_ (aA (A K)))) (plc (aB (A K)) y_70.toInt.toNat) x_80)) (2 * r_64.toNatClampNeg + (1 : Int32).toNatClampNeg)) f_87 := hI
          rw [show 2 * r_64.toNatClampNeg + (1 : Int32).toNatClampNeg = 2 * (8 * (hob s1_ (aA (A K))) + (aB (A K))) + 1 from by have := ic_clN (rfl : r_64.toInt = _) (by omega); show 2 * r_64.toNatClampNeg + 1 = _; omega] at hI
          have hI : FM G h n T z A hg ver (cqL c0q (sTc (sBd (rdL s1_ (aA (A K)) (aB (A K))) (hob s1_ (aA (A K))) (setM (bdS (rdL s1_ (aA (A K)) (aB (A K))) (hob s1_ (aA (A K)))) (plc (aB (A K)) y_70.toInt.toNat) x_80)) (2 * (8 * (hob s1_ (aA (A K))) + (aB (A K))) + 1))) (feL fe0 c0q (sTc (sBd (rdL s1_ (aA (A K)) (aB (A K))) (hob s1_ (aA (A K))) (setM (bdS (rdL s1_ (aA (A K)) (aB (A K))) (hob s1_ (aA (A K)))) (plc (aB (A K)) y_70.toInt.toNat) x_80)) (2 * (8 * (hob s1_ (aA (A K))) + (aB (A K))) + 1))) tms ca wl wh ac 0 sx (sTc (sBd (rdL s1_ (aA (A K)) (aB (A K))) (hob s1_ (aA (A K))) (setM (bdS (rdL s1_ (aA (A K)) (aB (A K))) (hob s1_ (aA (A K)))) (plc (aB (A K)) y_70.toInt.toNat) x_80)) (2 * (8 * (hob s1_ (aA (A K))) + (aB (A K))) + 1)) f_87 := hI
          obtain ⟨I_89, J_89, hM, hR, hac_89, hth_89⟩ := hI
          have hg_89 := hR.hg40
          have n24_89 := hR.n24
          have tl_89 := len_b hR.ok.2.2.1
          have wl_89 := hR.wl192
          have hgI_89 : (nI hg).toInt = ((hg : Nat) : Int) := nI_toInt (by omega)
          have tmI_89 : (nI ((trS (sTc (sBd (rdL s1_ (aA (A K)) (aB (A K))) (hob s1_ (aA (A K))) (setM (bdS (rdL s1_ (aA (A K)) (aB (A K))) (hob s1_ (aA (A K)))) (plc (aB (A K)) y_70.toInt.toNat) x_80)) (2 * (8 * (hob s1_ (aA (A K))) + (aB (A K))) + 1))).length)).toInt = (((trS (sTc (sBd (rdL s1_ (aA (A K)) (aB (A K))) (hob s1_ (aA (A K))) (setM (bdS (rdL s1_ (aA (A K)) (aB (A K))) (hob s1_ (aA (A K)))) (plc (aB (A K)) y_70.toInt.toNat) x_80)) (2 * (8 * (hob s1_ (aA (A K))) + (aB (A K))) + 1))).length : Nat) : Int) := nI_toInt (by omega)
          have wmI_89 : (nI wl.length).toInt = ((wl.length : Nat) : Int) := nI_toInt (by omega)
          have acI_89 : (nI ac).toInt = ((ac : Nat) : Int) := nI_toInt (by omega)
          have thI_89 : (nI 0).toInt = ((0 : Nat) : Int) := nI_toInt (by omega)
          have nIn_89 : (nI n).toInt = ((n : Nat) : Int) := nI_toInt (by omega)
          refine lv_goto (tgt := 271) hx hb dX6_rowActs_157 (by decide) ?_
          exact m_vret hx hb hr hlk hC hH (fun _ => (0, 0)) ⟨hfr, by rw [prf_9 eκ]; rw [show pLay T σ (aA (A K)) (aB (A K)) (aC (A K)) (aD (A K)) = (0, (sTc (sBd (rdL s1_ (aA (A K)) (aB (A K))) (hob s1_ (aA (A K))) (setM (bdS (rdL s1_ (aA (A K)) (aB (A K))) (hob s1_ (aA (A K)))) (plc (aB (A K)) y_70.toInt.toNat) x_80)) (2 * (8 * (hob s1_ (aA (A K))) + (aB (A K))) + 1))) from (thn_0 a01).trans (by rw [← es1_]; exact (thn_0 (by show iRf (bdS s1_ (hob s1_ (aA (A K)))) (aB (A K)) (vaS s1_ (aC (A K))) = 0; rw [← vy_]; exact ir_)).trans (by rw [fv_, vy_]; rfl))]; exact ⟨_, _, hM, hR, hac_89, hth_89⟩⟩ (Nat.le_of_ble_eq_true rfl) (Nat.le_of_ble_eq_true rfl) dX6_rowActs_271
      · skip
        have rv1 := hr_64.2 a01
        rw [thn_1 a01] at hI
        have hI : FM G h n T z A hg ver (cqL c0q ((ask T σ (aA (A K)) (aB (A K)) 3).2)) (feL fe0 c0q ((ask T σ (aA (A K)) (aB (A K)) 3).2)) tms ca wl wh ac ((ask T σ (aA (A K)) (aB (A K)) 3).1) sx ((ask T σ (aA (A K)) (aB (A K)) 3).2) f_65 := hI
        obtain ⟨I_90, J_90, hM, hR, hac_90, hth_90⟩ := hI
        have hg_90 := hR.hg40
        have n24_90 := hR.n24
        have tl_90 := len_b hR.ok.2.2.1
        have wl_90 := hR.wl192
        have hgI_90 : (nI hg).toInt = ((hg : Nat) : Int) := nI_toInt (by omega)
        have tmI_90 : (nI ((trS ((ask T σ (aA (A K)) (aB (A K)) 3).2)).length)).toInt = (((trS ((ask T σ (aA (A K)) (aB (A K)) 3).2)).length : Nat) : Int) := nI_toInt (by omega)
        have wmI_90 : (nI wl.length).toInt = ((wl.length : Nat) : Int) := nI_toInt (by omega)
        have acI_90 : (nI ac).toInt = ((ac : Nat) : Int) := nI_toInt (by omega)
        have thI_90 : (nI ((ask T σ (aA (A K)) (aB (A K)) 3).1)).toInt = (((ask T σ (aA (A K)) (aB (A K)) 3).1 : Nat) : Int) := nI_toInt (by omega)
        have nIn_90 : (nI n).toInt = ((n : Nat) : Int) := nI_toInt (by omega)
        refine lv_istore (lv' := [(7, .int r_64), (6, .int x_10), (5, .int x_8), (3, .long y_6), (2, .int x_4), (0, .ref (h 0)), (1, .int kk)]) hx hb dX6_rowActs_113 hl (by decide) rfl (fun ls hl => ?_)
        refine lv_aload_n hx hb dX6_rowActs_115 rfl (lv_at hl 5 rfl) ?_
        refine lv_iload hx hb dX6_rowActs_116 (lv_at hl 0 rfl) ?_
        refine lv_aload_n hx hb dX6_rowActs_118 rfl (lv_at hl 5 rfl) ?_
        have F_91 : f_65 (h 0) = some (.inr (6, [.int (nI n), .ref (h 1), .int (nI hg), .ref (h 3), .ref (h 4), .ref (h 5), .ref (h 6), .int (feL fe0 c0q ((ask T σ (aA (A K)) (aB (A K)) 3).2)), .ref (h 8), .ref (h 9), .ref (h 10), .ref (h 11), .ref (h 12), .ref (h 13), .ref (h 14), .ref (h 15), .int ca, .long (gfS ((ask T σ (aA (A K)) (aB (A K)) 3).2)), .int wh, .int (nI ((trS ((ask T σ (aA (A K)) (aB (A K)) 3).2)).length)), .ref (h 20), .ref (h 21), .int (nI wl.length), .ref (h 23), .ref (h 24), .int (nI ac), .ref (h 26), .ref (h 27), .int (nI ((ask T σ (aA (A K)) (aB (A K)) 3).1)), .int sx])) := hM.1
        refine m_get (ci := 6) (v := .ref (h 27)) (C := RX6) (T := TX6) (N := 30) hx hb hC hH hts in_X6_rowActs_X6 hown F_91 rfl 27 (by decide) (hts (.fieldLink RX6 71 "LazyStateModel" "values" "[J") (by decide +kernel)) rfl dX6_rowActs_119 ?_
        refine lv_iload hx hb dX6_rowActs_122 (lv_at hl 2 rfl) ?_
        have hg_92 : f_65 (h 27) = some (.inl (gk G 1, 4, .inr (.inl (J_90 27)))) := hM.2.2.1 27 (by decide) rfl
        refine m_lald hx hb hC hH hg_92 (vp_in_iff.mpr ⟨by omega, by omega⟩) dX6_rowActs_124 ?_
        refine lv_topl (fun y_93 ey_93 => ?_)
        have vy_93 : y_93 = vaS ((ask T σ (aA (A K)) (aB (A K)) 3).2) (aC (A K)) := by rw [ey_93, (show x_8.toNatClampNeg = (aC (A K)) from (by show x_8.toInt.toNat = (A K).2.2.2.1.toInt.toNat; omega))]; exact hR.vaI (show (A K).2.2.2.1.toInt.toNat < 4 from by omega)
        skip
        refine m_goi hH (va_runV (As := [.int r_64, .long y_93]) (rest := []) ⟨hx, hb, hml, hown, hts⟩ (c_X6_itemOf_n l G h n (nI hg, (feL fe0 c0q ((ask T σ (aA (A K)) (aB (A K)) 3).2)), ca, (gfS ((ask T σ (aA (A K)) (aB (A K)) 3).2)), wh, nI ((trS ((ask T σ (aA (A K)) (aB (A K)) 3).2)).length), nI wl.length, nI ac, nI ((ask T σ (aA (A K)) (aB (A K)) 3).1), sx) I_90 J_90 f_65 hM r_64 y_93 (by omega)) (cwV 2 hts gX6_rowActs_X6_itemOf rfl rfl rfl (by decide +kernel) ⟨Nat.le_of_ble_eq_true rfl, Nat.le_of_ble_eq_true rfl⟩) (m_preV (ci := 6) hC hH F_91 rfl) rfl rfl hl.1 rfl (lv_room (Nat.le_of_ble_eq_true rfl)) dX6_rowActs_125 ⟨Nat.le_of_ble_eq_true rfl, Nat.le_of_ble_eq_true rfl⟩) (fun r_94 rho_96 f_95 H locs hw hH => ?_)
        obtain ⟨hu, hr_94⟩ := hw
        have hu : f_95 = f_65 := hu
        rw [hu] at hH
        refine lv_istore (lv' := [(8, .int r_94), (7, .int r_64), (6, .int x_10), (5, .int x_8), (3, .long y_6), (2, .int x_4), (0, .ref (h 0)), (1, .int kk)]) hx hb dX6_rowActs_128 hl (by decide) rfl (fun ls hl => ?_)
        refine lv_iload hx hb dX6_rowActs_130 (lv_at hl 0 rfl) ?_
        refine lv_if_lt (tgt := 157) hx hb dX6_rowActs_132 (by decide) (fun c_97 => ?_) (fun c_97 => ?_)
        · skip
          have ic_97 : (r_94.toInt : Int) < 0 := ic_lt rfl kI_0 c_97
          refine lv_goto (tgt := 271) hx hb dX6_rowActs_157 (by decide) ?_
          exact m_vret hx hb hr hlk hC hH (fun _ => (0, 0)) ⟨hfr, by rw [prf_9 eκ]; rw [show pLay T σ (aA (A K)) (aB (A K)) (aC (A K)) (aD (A K)) = (ask T σ (aA (A K)) (aB (A K)) 3) from thn_1 a01]; exact ⟨_, _, hM, hR, hac_90, hth_90⟩⟩ (Nat.le_of_ble_eq_true rfl) (Nat.le_of_ble_eq_true rfl) dX6_rowActs_271
        · skip
          have ic_97 : (r_94.toInt : Int) ≥ 0 := ic_nlt rfl kI_0 c_97
          omega
  · skip
    have ic_13 : (x_12.toInt : Int) = 8 := ic_eq rfl kI_8 c_13
    have hv_ : κ = 8 := by omega
    subst hv_
    have g0_ := fit_get (m := 3) rfl (by decide) kI_3 f0_
    have nA_ : (aA (A K)) < 4 := (show (A K).2.1.toInt.toNat < 4 from (by omega))
    have g1_ := fit_get (m := 3) rfl (by decide) kI_3 f1_
    have nB_ : (aB (A K)) < 4 := (show (A K).2.2.1.toInt.toNat < 4 from (by omega))
    have g2_ := fit_get (m := 7) rfl (by decide) kI_7 f2_
    have nC_ : (aC (A K)) < 8 := (show (A K).2.2.2.1.toInt.toNat < 8 from (by omega))
    have g3_ := fit_get (m := 3) rfl (by decide) kI_3 f3_
    have nD_ : (aD (A K)) < 4 := (show (A K).2.2.2.2.1.toInt.toNat < 4 from (by omega))
    refine lv_aload_n hx hb dX6_rowActs_41 rfl (lv_at hl 4 rfl) ?_
    refine lv_aload_n hx hb dX6_rowActs_42 rfl (lv_at hl 4 rfl) ?_
    refine lv_lload_n hx hb dX6_rowActs_43 rfl (lv_at hl 2 rfl) ?_
    refine lv_l2i hx hb dX6_rowActs_44 rfl ?_
    refine lv_topi (fun x_98 ex_98 => ?_)
    have ix_98 : x_98.toInt = y_6.toInt := ic_l2i ex_98 rfl (by omega) (by omega)
    refine lv_iload hx hb dX6_rowActs_45 (lv_at hl 1 rfl) ?_
    refine lv_i2l hx hb dX6_rowActs_47 rfl ?_
    refine lv_topl (fun y_99 ey_99 => ?_)
    have iy_99 : y_99.toInt = x_8.toInt := lc_i2l ey_99 rfl
    have gy_99 := ic_rng x_8
    refine lv_iconst (v := 2) hx hb dX6_rowActs_48 (by decide) ?_
    have hI : FM G h n T z A hg ver (cqL c0q σ) (feL fe0 c0q σ) tms ca wl wh ac 0 sx σ f := ⟨_, _, hM, hR, hac_1, hth_1⟩
    refine m_goi hH (va_runV (As := [.int x_98, .long y_99, .int 2]) (rest := [.ref (h 0)]) ⟨hx, hb, hml, hown, hts⟩ (c_X6_readLeaf l G h n T z A hg ver c0q fe0 tms ca wl wh ac sx σ f hI hn0 x_98 y_99 2 (by have := kI_2; omega) (by have := kI_2; omega) (by have := kI_2; omega)) (cwV 3 hts gX6_rowActs_X6_readLeaf rfl rfl rfl (by decide +kernel) ⟨Nat.le_of_ble_eq_true rfl, Nat.le_of_ble_eq_true rfl⟩) (m_preV (ci := 6) hC hH F_2 rfl) rfl rfl hl.1 rfl (lv_room (Nat.le_of_ble_eq_true rfl)) dX6_rowActs_49 ⟨Nat.le_of_ble_eq_true rfl, Nat.le_of_ble_eq_true rfl⟩) (fun r_100 rho_102 f_101 H locs hw hH => ?_)
    obtain ⟨hfr1, hI, hr_100⟩ := hw
    have hfr1 : frM h f f_101 := hfr1
    have hfr := hfr.trans hfr1
    have hI : FM G h n T z A hg ver (cqL c0q ((thn (ask T σ x_98.toNatClampNeg y_99.toInt.toNat ((2 : Int32).toNatClampNeg + 1)) (fun s1 => (0, rdL s1 x_98.toNatClampNeg y_99.toInt.toNat))).2)) (feL fe0 c0q ((thn (ask T σ x_98.toNatClampNeg y_99.toInt.toNat ((2 : Int32).toNatClampNeg + 1)) (fun s1 => (0, rdL s1 x_98.toNatClampNeg y_99.toInt.toNat))).2)) tms ca wl wh ac ((ask T σ x_98.toNatClampNeg y_99.toInt.toNat ((2 : Int32).toNatClampNeg + 1)).1) sx ((thn (ask T σ x_98.toNatClampNeg y_99.toInt.toNat ((2 : Int32).toNatClampNeg + 1)) (fun s1 => (0, rdL s1 x_98.toNatClampNeg y_99.toInt.toNat))).2) f_101 := hI
    try dsimp only at hr_100
    rw [(show x_98.toNatClampNeg = (aB (A K)) from (by show x_98.toInt.toNat = (A K).2.2.1.toInt.toNat; omega)), (show y_99.toInt.toNat = (aC (A K)) from (by show y_99.toInt.toNat = (A K).2.2.2.1.toInt.toNat; omega)), (show (2 : Int32).toNatClampNeg + 1 = 3 from rfl)] at hI hr_100
    by_cases a01 : (ask T σ (aB (A K)) (aC (A K)) 3).1 = 0
    · skip
      have rv1 := hr_100.1 a01
      obtain ⟨au11, au21, au31, au41, au51⟩ := ask_use hR.ok (by omega) a01
      have eho1 : hob σ (aB (A K)) = hob (ask T σ (aB (A K)) (aC (A K)) 3).2 (aB (A K)) := hob_ask.symm
      rw [eho1] at rv1
      rw [thn_0 a01] at hI
      have hI : FM G h n T z A hg ver (cqL c0q (rdL (ask T σ (aB (A K)) (aC (A K)) 3).2 (aB (A K)) (aC (A K)))) (feL fe0 c0q (rdL (ask T σ (aB (A K)) (aC (A K)) 3).2 (aB (A K)) (aC (A K)))) tms ca wl wh ac ((ask T σ (aB (A K)) (aC (A K)) 3).1) sx (rdL (ask T σ (aB (A K)) (aC (A K)) 3).2 (aB (A K)) (aC (A K))) f_101 := hI
      rw [a01] at hI
      obtain ⟨s1_, es1_⟩ : ∃ zs_ : tS, zs_ = (ask T σ (aB (A K)) (aC (A K)) 3).2 := ⟨_, rfl⟩
      rw [← es1_] at hI au11 au21 au31 au41 au51 rv1
      have hI : FM G h n T z A hg ver (cqL c0q (rdL s1_ (aB (A K)) (aC (A K)))) (feL fe0 c0q (rdL s1_ (aB (A K)) (aC (A K)))) tms ca wl wh ac 0 sx (rdL s1_ (aB (A K)) (aC (A K))) f_101 := hI
      obtain ⟨I_103, J_103, hM, hR, hac_103, hth_103⟩ := hI
      have hg_103 := hR.hg40
      have n24_103 := hR.n24
      have tl_103 := len_b hR.ok.2.2.1
      have wl_103 := hR.wl192
      have hgI_103 : (nI hg).toInt = ((hg : Nat) : Int) := nI_toInt (by omega)
      have tmI_103 : (nI ((trS (rdL s1_ (aB (A K)) (aC (A K)))).length)).toInt = (((trS (rdL s1_ (aB (A K)) (aC (A K)))).length : Nat) : Int) := nI_toInt (by omega)
      have wmI_103 : (nI wl.length).toInt = ((wl.length : Nat) : Int) := nI_toInt (by omega)
      have acI_103 : (nI ac).toInt = ((ac : Nat) : Int) := nI_toInt (by omega)
      have thI_103 : (nI 0).toInt = ((0 : Nat) : Int) := nI_toInt (by omega)
      have nIn_103 : (nI n).toInt = ((n : Nat) : Int) := nI_toInt (by omega)
      refine lv_aload_n hx hb dX6_rowActs_52 rfl (lv_at hl 4 rfl) ?_
      have F_104 : f_101 (h 0) = some (.inr (6, [.int (nI n), .ref (h 1), .int (nI hg), .ref (h 3), .ref (h 4), .ref (h 5), .ref (h 6), .int (feL fe0 c0q (rdL s1_ (aB (A K)) (aC (A K)))), .ref (h 8), .ref (h 9), .ref (h 10), .ref (h 11), .ref (h 12), .ref (h 13), .ref (h 14), .ref (h 15), .int ca, .long (gfS (rdL s1_ (aB (A K)) (aC (A K)))), .int wh, .int (nI ((trS (rdL s1_ (aB (A K)) (aC (A K)))).length)), .ref (h 20), .ref (h 21), .int (nI wl.length), .ref (h 23), .ref (h 24), .int (nI ac), .ref (h 26), .ref (h 27), .int (nI 0), .int sx])) := hM.1
      refine m_get (ci := 6) (v := .ref (h 27)) (C := RX6) (T := TX6) (N := 30) hx hb hC hH hts in_X6_rowActs_X6 hown F_104 rfl 27 (by decide) (hts (.fieldLink RX6 71 "LazyStateModel" "values" "[J") (by decide +kernel)) rfl dX6_rowActs_53 ?_
      refine lv_iload hx hb dX6_rowActs_56 (lv_at hl 0 rfl) ?_
      have hg_105 : f_101 (h 27) = some (.inl (gk G 1, 4, .inr (.inl (J_103 27)))) := hM.2.2.1 27 (by decide) rfl
      refine m_lald hx hb hC hH hg_105 (vp_in_iff.mpr ⟨by omega, by omega⟩) dX6_rowActs_58 ?_
      refine lv_topl (fun y_106 ey_106 => ?_)
      have vy_106 : y_106 = vaS (rdL s1_ (aB (A K)) (aC (A K))) (aD (A K)) := by rw [ey_106, (show x_10.toNatClampNeg = (aD (A K)) from (by show x_10.toInt.toNat = (A K).2.2.2.2.1.toInt.toNat; omega))]; exact hR.vaI (show (A K).2.2.2.2.1.toInt.toNat < 4 from by omega)
      have vy_ : y_106 = vaS s1_ (aD (A K)) := vy_106
      have hI : FM G h n T z A hg ver (cqL c0q (rdL s1_ (aB (A K)) (aC (A K)))) (feL fe0 c0q (rdL s1_ (aB (A K)) (aC (A K)))) tms ca wl wh ac 0 sx (rdL s1_ (aB (A K)) (aC (A K))) f_101 := ⟨_, _, hM, hR, hac_103, hth_103⟩
      refine m_goi hH (va_runV (As := [.int r_100, .long y_106]) (rest := []) ⟨hx, hb, hml, hown, hts⟩ (c_X6_itemOf l G h n T z A hg ver c0q fe0 tms ca wl wh ac sx (rdL s1_ (aB (A K)) (aC (A K))) f_101 hI hn0 r_100 y_106 (hob s1_ (aB (A K))) (aC (A K)) au21 (by omega) au31 rv1) (cwV 2 hts gX6_rowActs_X6_itemOf rfl rfl rfl (by decide +kernel) ⟨Nat.le_of_ble_eq_true rfl, Nat.le_of_ble_eq_true rfl⟩) (m_preV (ci := 6) hC hH F_104 rfl) rfl rfl hl.1 rfl (lv_room (Nat.le_of_ble_eq_true rfl)) dX6_rowActs_59 ⟨Nat.le_of_ble_eq_true rfl, Nat.le_of_ble_eq_true rfl⟩) (fun r_107 rho_109 f_108 H locs hw hH => ?_)
      obtain ⟨hfr1, hI, hr_107⟩ := hw
      have hfr1 : frM h f_101 f_108 := hfr1
      have hfr := hfr.trans hfr1
      have hI : FM G h n T z A hg ver (cqL c0q (rdL s1_ (aB (A K)) (aC (A K)))) (feL fe0 c0q (rdL s1_ (aB (A K)) (aC (A K)))) tms ca wl wh ac (iRf (bdS (rdL s1_ (aB (A K)) (aC (A K))) (hob s1_ (aB (A K)))) (aC (A K)) y_106) sx (rdL s1_ (aB (A K)) (aC (A K))) f_108 := hI
      try dsimp only at hr_107
      obtain ⟨I_110, J_110, hM, hR, hac_110, hth_110⟩ := hI
      have hg_110 := hR.hg40
      have n24_110 := hR.n24
      have tl_110 := len_b hR.ok.2.2.1
      have wl_110 := hR.wl192
      have hgI_110 : (nI hg).toInt = ((hg : Nat) : Int) := nI_toInt (by omega)
      have tmI_110 : (nI ((trS (rdL s1_ (aB (A K)) (aC (A K)))).length)).toInt = (((trS (rdL s1_ (aB (A K)) (aC (A K)))).length : Nat) : Int) := nI_toInt (by omega)
      have wmI_110 : (nI wl.length).toInt = ((wl.length : Nat) : Int) := nI_toInt (by omega)
      have acI_110 : (nI ac).toInt = ((ac : Nat) : Int) := nI_toInt (by omega)
      have thI_110 : (nI (iRf (bdS (rdL s1_ (aB (A K)) (aC (A K))) (hob s1_ (aB (A K)))) (aC (A K)) y_106)).toInt = (((iRf (bdS (rdL s1_ (aB (A K)) (aC (A K))) (hob s1_ (aB (A K)))) (aC (A K)) y_106) : Nat) : Int) := nI_toInt (by omega)
      have nIn_110 : (nI n).toInt = ((n : Nat) : Int) := nI_toInt (by omega)
      refine lv_istore (lv' := [(7, .int r_107), (6, .int x_10), (5, .int x_8), (3, .long y_6), (2, .int x_4), (0, .ref (h 0)), (1, .int kk)]) hx hb dX6_rowActs_62 hl (by decide) rfl (fun ls hl => ?_)
      refine lv_aload_n hx hb dX6_rowActs_64 rfl (lv_at hl 5 rfl) ?_
      have F_111 : f_108 (h 0) = some (.inr (6, [.int (nI n), .ref (h 1), .int (nI hg), .ref (h 3), .ref (h 4), .ref (h 5), .ref (h 6), .int (feL fe0 c0q (rdL s1_ (aB (A K)) (aC (A K)))), .ref (h 8), .ref (h 9), .ref (h 10), .ref (h 11), .ref (h 12), .ref (h 13), .ref (h 14), .ref (h 15), .int ca, .long (gfS (rdL s1_ (aB (A K)) (aC (A K)))), .int wh, .int (nI ((trS (rdL s1_ (aB (A K)) (aC (A K)))).length)), .ref (h 20), .ref (h 21), .int (nI wl.length), .ref (h 23), .ref (h 24), .int (nI ac), .ref (h 26), .ref (h 27), .int (nI (iRf (bdS (rdL s1_ (aB (A K)) (aC (A K))) (hob s1_ (aB (A K)))) (aC (A K)) y_106)), .int sx])) := hM.1
      refine m_get (ci := 6) (v := .ref (h 27)) (C := RX6) (T := TX6) (N := 30) hx hb hC hH hts in_X6_rowActs_X6 hown F_111 rfl 27 (by decide) (hts (.fieldLink RX6 71 "LazyStateModel" "values" "[J") (by decide +kernel)) rfl dX6_rowActs_65 ?_
      refine lv_iload_n hx hb dX6_rowActs_68 rfl (lv_at hl 4 rfl) ?_
      refine lv_iload hx hb dX6_rowActs_69 (lv_at hl 0 rfl) ?_
      refine lv_if_ge (tgt := 83) hx hb dX6_rowActs_71 (by decide) (fun c_112 => ?_) (fun c_112 => ?_)
      · skip
        have ic_112 : (0 : Int) ≤ r_107.toInt := ic_le kI_0 rfl c_112
        have ir_ : (iRf (bdS (rdL s1_ (aB (A K)) (aC (A K))) (hob s1_ (aB (A K)))) (aC (A K)) y_106) = 0 := Decidable.byContradiction (fun z_ => by have := hr_107.2 z_; omega)
        have ri_ := hr_107.1 ir_
        have ib_ := iRf_0 ir_
        have i8_ := ((au51 (aC (A K)) (by omega)).2.2 au31).1
        have ib_ : 0 ≤ y_106.toInt ∧ y_106.toInt < ((bdS s1_ (hob s1_ (aB (A K)))).1 (aC (A K))).toInt := ib_
        have ck_ : ((y_106.toInt.toNat : Nat) : Int) = y_106.toInt := by omega
        have hI : FM G h n T z A hg ver (cqL c0q (rdL s1_ (aB (A K)) (aC (A K)))) (feL fe0 c0q (rdL s1_ (aB (A K)) (aC (A K)))) tms ca wl wh ac (iRf (bdS (rdL s1_ (aB (A K)) (aC (A K))) (hob s1_ (aB (A K)))) (aC (A K)) y_106) sx (rdL s1_ (aB (A K)) (aC (A K))) f_108 := ⟨_, _, hM, hR, hac_110, hth_110⟩
        rw [ir_] at hI
        have hI : FM G h n T z A hg ver (cqL c0q (rdL s1_ (aB (A K)) (aC (A K)))) (feL fe0 c0q (rdL s1_ (aB (A K)) (aC (A K)))) tms ca wl wh ac 0 sx (rdL s1_ (aB (A K)) (aC (A K))) f_108 := hI
        obtain ⟨I_113, J_113, hM, hR, hac_113, hth_113⟩ := hI
        have hg_113 := hR.hg40
        have n24_113 := hR.n24
        have tl_113 := len_b hR.ok.2.2.1
        have wl_113 := hR.wl192
        have hgI_113 : (nI hg).toInt = ((hg : Nat) : Int) := nI_toInt (by omega)
        have tmI_113 : (nI ((trS (rdL s1_ (aB (A K)) (aC (A K)))).length)).toInt = (((trS (rdL s1_ (aB (A K)) (aC (A K)))).length : Nat) : Int) := nI_toInt (by omega)
        have wmI_113 : (nI wl.length).toInt = ((wl.length : Nat) : Int) := nI_toInt (by omega)
        have acI_113 : (nI ac).toInt = ((ac : Nat) : Int) := nI_toInt (by omega)
        have thI_113 : (nI 0).toInt = ((0 : Nat) : Int) := nI_toInt (by omega)
        have nIn_113 : (nI n).toInt = ((n : Nat) : Int) := nI_toInt (by omega)
        refine lv_aload_n hx hb dX6_rowActs_83 rfl (lv_at hl 5 rfl) ?_
        have F_114 : f_108 (h 0) = some (.inr (6, [.int (nI n), .ref (h 1), .int (nI hg), .ref (h 3), .ref (h 4), .ref (h 5), .ref (h 6), .int (feL fe0 c0q (rdL s1_ (aB (A K)) (aC (A K)))), .ref (h 8), .ref (h 9), .ref (h 10), .ref (h 11), .ref (h 12), .ref (h 13), .ref (h 14), .ref (h 15), .int ca, .long (gfS (rdL s1_ (aB (A K)) (aC (A K)))), .int wh, .int (nI ((trS (rdL s1_ (aB (A K)) (aC (A K)))).length)), .ref (h 20), .ref (h 21), .int (nI wl.length), .ref (h 23), .ref (h 24), .int (nI ac), .ref (h 26), .ref (h 27), .int (nI 0), .int sx])) := hM.1
        refine m_get (ci := 6) (v := .ref (h 5)) (C := RX6) (T := TX6) (N := 30) hx hb hC hH hts in_X6_rowActs_X6 hown F_114 rfl 5 (by decide) (hts (.fieldLink RX6 21 "LazyStateModel" "items" "[I") (by decide +kernel)) rfl dX6_rowActs_84 ?_
        refine lv_iload hx hb dX6_rowActs_87 (lv_at hl 0 rfl) ?_
        have hg_115 : f_108 (h 5) = some (.inl (gk G 0, 64512, .inl (I_113 5))) := hM.2.1 5 (by decide) rfl
        refine m_iald hx hb hC hH hg_115 (vp_in_iff.mpr ⟨by omega, by omega⟩) dX6_rowActs_89 ?_
        refine lv_topi (fun x_116 ex_116 => ?_)
        have nn_117 : r_107.toNatClampNeg = 8 * (192 * 41 + 8 * (hob s1_ (aB (A K))) + (aC (A K))) + y_106.toInt.toNat := by have := ic_clN (rfl : r_107.toInt = _) (by omega); omega
        have it_ : x_116 = (bdS s1_ (hob s1_ (aB (A K)))).2 (plc (aC (A K)) y_106.toInt.toNat) := by rw [ex_116, nn_117]; exact hR.git au21 (by omega) au31 (by omega)
        refine lv_i2l hx hb dX6_rowActs_90 rfl ?_
        refine lv_topl (fun y_118 ey_118 => ?_)
        have iy_118 : y_118.toInt = x_116.toInt := lc_i2l ey_118 rfl
        have gy_118 := ic_rng x_116
        have hg_119 : f_108 (h 27) = some (.inl (gk G 1, 4, .inr (.inl (J_113 27)))) := hM.2.2.1 27 (by decide) rfl
        refine m_last hx hb hC hH hg_119 (vp_in_iff.mpr ⟨by omega, by omega⟩) dX6_rowActs_91 (fun H locs hH => ?_)
        obtain ⟨f_120, ef_120⟩ : ∃ zz_ : mF, zz_ = va_up f_108 (h 27) (some (.inl (gk G 1, 4, .inr (.inl (vp_updL (J_113 27) x_4.toNatClampNeg y_118))))) := ⟨_, rfl⟩
        rw [← ef_120] at hH
        have hM : MEM G h n (nI hg, (feL fe0 c0q (rdL s1_ (aB (A K)) (aC (A K)))), ca, (gfS (rdL s1_ (aB (A K)) (aC (A K)))), wh, nI ((trS (rdL s1_ (aB (A K)) (aC (A K)))).length), nI wl.length, nI ac, nI 0, sx) I_113 (va_up J_113 27 (vp_updL (J_113 27) x_4.toNatClampNeg y_118)) f_120 := hM.setJ 27 (by decide) rfl ef_120
        have hfr := hfr.up 27 (by decide) ef_120
        rw [(show x_4.toNatClampNeg = (aA (A K)) from (by show x_4.toInt.toNat = (A K).2.1.toInt.toNat; omega))] at hM
        have hR := hR.va (aA (A K)) y_118
        have fv_ : y_118 = ((bdS s1_ (hob s1_ (aB (A K)))).2 (plc (aC (A K)) y_106.toInt.toNat)).toInt64 := by rw [ey_118, it_]
        refine lv_goto (tgt := 271) hx hb dX6_rowActs_92 (by decide) ?_
        exact m_vret hx hb hr hlk hC hH (fun _ => (0, 0)) ⟨hfr, by rw [prf_8 eκ]; rw [show pItm T σ (aA (A K)) (aB (A K)) (aC (A K)) (aD (A K)) = (0, sVa (rdL s1_ (aB (A K)) (aC (A K))) (aA (A K)) y_118) from (thn_0 a01).trans (by rw [← es1_]; exact (thn_0 (by show iRf (bdS s1_ (hob s1_ (aB (A K)))) (aC (A K)) (vaS s1_ (aD (A K))) = 0; rw [← vy_]; exact ir_)).trans (by rw [fv_, vy_]; rfl))]; exact ⟨_, _, hM, hR, hac_113, hth_113⟩⟩ (Nat.le_of_ble_eq_true rfl) (Nat.le_of_ble_eq_true rfl) dX6_rowActs_271
      · skip
        have ic_112 : (0 : Int) > r_107.toInt := ic_nle kI_0 rfl c_112
        have ir_ : (iRf (bdS (rdL s1_ (aB (A K)) (aC (A K))) (hob s1_ (aB (A K)))) (aC (A K)) y_106) ≠ 0 := fun z_ => by have q1_ := hr_107.1 z_; have q2_ := iRf_0 z_; omega
        refine lv_aload_n hx hb dX6_rowActs_74 rfl (lv_at hl 5 rfl) ?_
        refine m_get (ci := 6) (v := .ref (h 27)) (C := RX6) (T := TX6) (N := 30) hx hb hC hH hts in_X6_rowActs_X6 hown F_111 rfl 27 (by decide) (hts (.fieldLink RX6 71 "LazyStateModel" "values" "[J") (by decide +kernel)) rfl dX6_rowActs_75 ?_
        refine lv_iload_n hx hb dX6_rowActs_78 rfl (lv_at hl 4 rfl) ?_
        have hg_121 : f_108 (h 27) = some (.inl (gk G 1, 4, .inr (.inl (J_110 27)))) := hM.2.2.1 27 (by decide) rfl
        refine m_lald hx hb hC hH hg_121 (vp_in_iff.mpr ⟨by omega, by omega⟩) dX6_rowActs_79 ?_
        refine lv_topl (fun y_122 ey_122 => ?_)
        have vy_122 : y_122 = vaS (rdL s1_ (aB (A K)) (aC (A K))) (aA (A K)) := by rw [ey_122, (show x_4.toNatClampNeg = (aA (A K)) from (by show x_4.toInt.toNat = (A K).2.1.toInt.toNat; omega))]; exact hR.vaI (show (A K).2.1.toInt.toNat < 4 from by omega)
        refine lv_goto (tgt := 91) hx hb dX6_rowActs_80 (by decide) ?_
        refine m_last hx hb hC hH hg_121 (vp_in_iff.mpr ⟨by omega, by omega⟩) dX6_rowActs_91 (fun H locs hH => ?_)
        obtain ⟨f_123, ef_123⟩ : ∃ zz_ : mF, zz_ = va_up f_108 (h 27) (some (.inl (gk G 1, 4, .inr (.inl (vp_updL (J_110 27) x_4.toNatClampNeg y_122))))) := ⟨_, rfl⟩
        rw [← ef_123] at hH
        have hM : MEM G h n (nI hg, (feL fe0 c0q (rdL s1_ (aB (A K)) (aC (A K)))), ca, (gfS (rdL s1_ (aB (A K)) (aC (A K)))), wh, nI ((trS (rdL s1_ (aB (A K)) (aC (A K)))).length), nI wl.length, nI ac, nI (iRf (bdS (rdL s1_ (aB (A K)) (aC (A K))) (hob s1_ (aB (A K)))) (aC (A K)) y_106), sx) I_110 (va_up J_110 27 (vp_updL (J_110 27) x_4.toNatClampNeg y_122)) f_123 := hM.setJ 27 (by decide) rfl ef_123
        have hfr := hfr.up 27 (by decide) ef_123
        rw [(show x_4.toNatClampNeg = (aA (A K)) from (by show x_4.toInt.toNat = (A K).2.1.toInt.toNat; omega)), vy_122] at hM
        have hR := hR.va (aA (A K)) (vaS (rdL s1_ (aB (A K)) (aC (A K))) (aA (A K)))
        rw [sVa_id] at hR
        refine lv_goto (tgt := 271) hx hb dX6_rowActs_92 (by decide) ?_
        exact m_vret hx hb hr hlk hC hH (fun _ => (0, 0)) ⟨hfr, by rw [prf_8 eκ]; rw [show pItm T σ (aA (A K)) (aB (A K)) (aC (A K)) (aD (A K)) = ((iRf (bdS (rdL s1_ (aB (A K)) (aC (A K))) (hob s1_ (aB (A K)))) (aC (A K)) y_106), rdL s1_ (aB (A K)) (aC (A K))) from (thn_0 a01).trans (by rw [← es1_]; exact (thn_1 (by show iRf (bdS s1_ (hob s1_ (aB (A K)))) (aC (A K)) (vaS s1_ (aD (A K))) ≠ 0; rw [← vy_]; exact ir_)).trans (by rw [vy_]; rfl))]; exact ⟨_, _, hM, hR, hac_110, hth_110⟩⟩ (Nat.le_of_ble_eq_true rfl) (Nat.le_of_ble_eq_true rfl) dX6_rowActs_271
    · skip
      have rv1 := hr_100.2 a01
      rw [thn_1 a01] at hI
      have hI : FM G h n T z A hg ver (cqL c0q ((ask T σ (aB (A K)) (aC (A K)) 3).2)) (feL fe0 c0q ((ask T σ (aB (A K)) (aC (A K)) 3).2)) tms ca wl wh ac ((ask T σ (aB (A K)) (aC (A K)) 3).1) sx ((ask T σ (aB (A K)) (aC (A K)) 3).2) f_101 := hI
      obtain ⟨I_124, J_124, hM, hR, hac_124, hth_124⟩ := hI
      have hg_124 := hR.hg40
      have n24_124 := hR.n24
      have tl_124 := len_b hR.ok.2.2.1
      have wl_124 := hR.wl192
      have hgI_124 : (nI hg).toInt = ((hg : Nat) : Int) := nI_toInt (by omega)
      have tmI_124 : (nI ((trS ((ask T σ (aB (A K)) (aC (A K)) 3).2)).length)).toInt = (((trS ((ask T σ (aB (A K)) (aC (A K)) 3).2)).length : Nat) : Int) := nI_toInt (by omega)
      have wmI_124 : (nI wl.length).toInt = ((wl.length : Nat) : Int) := nI_toInt (by omega)
      have acI_124 : (nI ac).toInt = ((ac : Nat) : Int) := nI_toInt (by omega)
      have thI_124 : (nI ((ask T σ (aB (A K)) (aC (A K)) 3).1)).toInt = (((ask T σ (aB (A K)) (aC (A K)) 3).1 : Nat) : Int) := nI_toInt (by omega)
      have nIn_124 : (nI n).toInt = ((n : Nat) : Int) := nI_toInt (by omega)
      refine lv_aload_n hx hb dX6_rowActs_52 rfl (lv_at hl 4 rfl) ?_
      have F_125 : f_101 (h 0) = some (.inr (6, [.int (nI n), .ref (h 1), .int (nI hg), .ref (h 3), .ref (h 4), .ref (h 5), .ref (h 6), .int (feL fe0 c0q ((ask T σ (aB (A K)) (aC (A K)) 3).2)), .ref (h 8), .ref (h 9), .ref (h 10), .ref (h 11), .ref (h 12), .ref (h 13), .ref (h 14), .ref (h 15), .int ca, .long (gfS ((ask T σ (aB (A K)) (aC (A K)) 3).2)), .int wh, .int (nI ((trS ((ask T σ (aB (A K)) (aC (A K)) 3).2)).length)), .ref (h 20), .ref (h 21), .int (nI wl.length), .ref (h 23), .ref (h 24), .int (nI ac), .ref (h 26), .ref (h 27), .int (nI ((ask T σ (aB (A K)) (aC (A K)) 3).1)), .int sx])) := hM.1
      refine m_get (ci := 6) (v := .ref (h 27)) (C := RX6) (T := TX6) (N := 30) hx hb hC hH hts in_X6_rowActs_X6 hown F_125 rfl 27 (by decide) (hts (.fieldLink RX6 71 "LazyStateModel" "values" "[J") (by decide +kernel)) rfl dX6_rowActs_53 ?_
      refine lv_iload hx hb dX6_rowActs_56 (lv_at hl 0 rfl) ?_
      have hg_126 : f_101 (h 27) = some (.inl (gk G 1, 4, .inr (.inl (J_124 27)))) := hM.2.2.1 27 (by decide) rfl
      refine m_lald hx hb hC hH hg_126 (vp_in_iff.mpr ⟨by omega, by omega⟩) dX6_rowActs_58 ?_
      refine lv_topl (fun y_127 ey_127 => ?_)
      have vy_127 : y_127 = vaS ((ask T σ (aB (A K)) (aC (A K)) 3).2) (aD (A K)) := by rw [ey_127, (show x_10.toNatClampNeg = (aD (A K)) from (by show x_10.toInt.toNat = (A K).2.2.2.2.1.toInt.toNat; omega))]; exact hR.vaI (show (A K).2.2.2.2.1.toInt.toNat < 4 from by omega)
      skip
      refine m_goi hH (va_runV (As := [.int r_100, .long y_127]) (rest := []) ⟨hx, hb, hml, hown, hts⟩ (c_X6_itemOf_n l G h n (nI hg, (feL fe0 c0q ((ask T σ (aB (A K)) (aC (A K)) 3).2)), ca, (gfS ((ask T σ (aB (A K)) (aC (A K)) 3).2)), wh, nI ((trS ((ask T σ (aB (A K)) (aC (A K)) 3).2)).length), nI wl.length, nI ac, nI ((ask T σ (aB (A K)) (aC (A K)) 3).1), sx) I_124 J_124 f_101 hM r_100 y_127 (by omega)) (cwV 2 hts gX6_rowActs_X6_itemOf rfl rfl rfl (by decide +kernel) ⟨Nat.le_of_ble_eq_true rfl, Nat.le_of_ble_eq_true rfl⟩) (m_preV (ci := 6) hC hH F_125 rfl) rfl rfl hl.1 rfl (lv_room (Nat.le_of_ble_eq_true rfl)) dX6_rowActs_59 ⟨Nat.le_of_ble_eq_true rfl, Nat.le_of_ble_eq_true rfl⟩) (fun r_128 rho_130 f_129 H locs hw hH => ?_)
      obtain ⟨hu, hr_128⟩ := hw
      have hu : f_129 = f_101 := hu
      rw [hu] at hH
      refine lv_istore (lv' := [(7, .int r_128), (6, .int x_10), (5, .int x_8), (3, .long y_6), (2, .int x_4), (0, .ref (h 0)), (1, .int kk)]) hx hb dX6_rowActs_62 hl (by decide) rfl (fun ls hl => ?_)
      refine lv_aload_n hx hb dX6_rowActs_64 rfl (lv_at hl 5 rfl) ?_
      refine m_get (ci := 6) (v := .ref (h 27)) (C := RX6) (T := TX6) (N := 30) hx hb hC hH hts in_X6_rowActs_X6 hown F_125 rfl 27 (by decide) (hts (.fieldLink RX6 71 "LazyStateModel" "values" "[J") (by decide +kernel)) rfl dX6_rowActs_65 ?_
      refine lv_iload_n hx hb dX6_rowActs_68 rfl (lv_at hl 4 rfl) ?_
      refine lv_iload hx hb dX6_rowActs_69 (lv_at hl 0 rfl) ?_
      refine lv_if_ge (tgt := 83) hx hb dX6_rowActs_71 (by decide) (fun c_131 => ?_) (fun c_131 => ?_)
      · skip
        have ic_131 : (0 : Int) ≤ r_128.toInt := ic_le kI_0 rfl c_131
        omega
      · skip
        have ic_131 : (0 : Int) > r_128.toInt := ic_nle kI_0 rfl c_131
        refine lv_aload_n hx hb dX6_rowActs_74 rfl (lv_at hl 5 rfl) ?_
        refine m_get (ci := 6) (v := .ref (h 27)) (C := RX6) (T := TX6) (N := 30) hx hb hC hH hts in_X6_rowActs_X6 hown F_125 rfl 27 (by decide) (hts (.fieldLink RX6 71 "LazyStateModel" "values" "[J") (by decide +kernel)) rfl dX6_rowActs_75 ?_
        refine lv_iload_n hx hb dX6_rowActs_78 rfl (lv_at hl 4 rfl) ?_
        refine m_lald hx hb hC hH hg_126 (vp_in_iff.mpr ⟨by omega, by omega⟩) dX6_rowActs_79 ?_
        refine lv_topl (fun y_132 ey_132 => ?_)
        have vy_132 : y_132 = vaS ((ask T σ (aB (A K)) (aC (A K)) 3).2) (aA (A K)) := by rw [ey_132, (show x_4.toNatClampNeg = (aA (A K)) from (by show x_4.toInt.toNat = (A K).2.1.toInt.toNat; omega))]; exact hR.vaI (show (A K).2.1.toInt.toNat < 4 from by omega)
        refine lv_goto (tgt := 91) hx hb dX6_rowActs_80 (by decide) ?_
        refine m_last hx hb hC hH hg_126 (vp_in_iff.mpr ⟨by omega, by omega⟩) dX6_rowActs_91 (fun H locs hH => ?_)
        obtain ⟨f_133, ef_133⟩ : ∃ zz_ : mF, zz_ = va_up f_101 (h 27) (some (.inl (gk G 1, 4, .inr (.inl (vp_updL (J_124 27) x_4.toNatClampNeg y_132))))) := ⟨_, rfl⟩
        rw [← ef_133] at hH
        have hM : MEM G h n (nI hg, (feL fe0 c0q ((ask T σ (aB (A K)) (aC (A K)) 3).2)), ca, (gfS ((ask T σ (aB (A K)) (aC (A K)) 3).2)), wh, nI ((trS ((ask T σ (aB (A K)) (aC (A K)) 3).2)).length), nI wl.length, nI ac, nI ((ask T σ (aB (A K)) (aC (A K)) 3).1), sx) I_124 (va_up J_124 27 (vp_updL (J_124 27) x_4.toNatClampNeg y_132)) f_133 := hM.setJ 27 (by decide) rfl ef_133
        have hfr := hfr.up 27 (by decide) ef_133
        rw [(show x_4.toNatClampNeg = (aA (A K)) from (by show x_4.toInt.toNat = (A K).2.1.toInt.toNat; omega)), vy_132] at hM
        have hR := hR.va (aA (A K)) (vaS ((ask T σ (aB (A K)) (aC (A K)) 3).2) (aA (A K)))
        rw [sVa_id] at hR
        refine lv_goto (tgt := 271) hx hb dX6_rowActs_92 (by decide) ?_
        exact m_vret hx hb hr hlk hC hH (fun _ => (0, 0)) ⟨hfr, by rw [prf_8 eκ]; rw [show pItm T σ (aA (A K)) (aB (A K)) (aC (A K)) (aD (A K)) = (ask T σ (aB (A K)) (aC (A K)) 3) from thn_1 a01]; exact ⟨_, _, hM, hR, hac_124, hth_124⟩⟩ (Nat.le_of_ble_eq_true rfl) (Nat.le_of_ble_eq_true rfl) dX6_rowActs_271
