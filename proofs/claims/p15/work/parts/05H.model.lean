set_option maxHeartbeats 4000000 in
set_option maxRecDepth 100000 in
theorem c_X6_fieldActs (l : Launch) (G : mG) (h : Nat → Nat) (n : Nat) (T z : Nat → Nat) (A : Nat → tA) (hg : Nat) (ver : Nat → Nat → tB) (c0q : Nat → Bool) (fe0 : Int32) (tms : Nat → Int32) (ca : Int32) (wl : List Nat) (wh : Int32) (ac : Nat) (sx : Int32) (σ : tS) (f : mF) (hI : FM G h n T z A hg ver (cqL c0q σ) (feL fe0 c0q σ) tms ca wl wh ac 0 sx σ f) (hn0 : 0 < n) (kk : Int32) (K : Nat) (hv : vld z K) (hk : kk.toInt = K) (hd : (A K).1.toInt = 4 ∨ (A K).1.toInt = 5 ∨ (A K).1.toInt = 6 ∨ (A K).1.toInt = 7 ∨ (A K).1.toInt = 12 ∨ (A K).1.toInt = 13) : Met l yX6_fieldActs wsX6_fieldActs ({ frames := 3, cells := 0, slots := 0, locals := 71 }) (va_Pc [.ref (h 0), .int kk] (mW G f)) (va_Qv (fun (u : mS) => frM h f u.2 ∧ FM G h n T z A hg ver (cqL c0q ((prf T (A K) σ).2)) (feL fe0 c0q ((prf T (A K) σ).2)) tms ca wl wh ac ((prf T (A K) σ).1) sx ((prf T (A K) σ).2) u.2) (fun (u : mS) t => mW G u.2 t) (mA G)) 0 0 (mA G) := by
  refine mMet [.ref (h 0), .int kk] (cc := cX6_fieldActs) (maxL := 7) (ret := none) (by decide) rfl (Nat.le_of_ble_eq_true rfl) ?_
  intro p e s m below meth c ls hx hb hr hml hts hown hlk hnm hC hH hl
  have hl : lv_has ls 7 [(0, .ref (h 0)), (1, .int kk)] := hl
  have hI0_ := hI
  have hfr : frM h f f := frM.rf
  obtain ⟨I_1, J_1, hM, hR, hac_1, hth_1⟩ := hI
  have hg_1 := hR.hg40
  have n24_1 := hR.n24
  have tl_1 := len_b hR.ok.2.2.1
  have wl_1 := hR.wl192
  have hgI_1 : (nI hg).toInt = ((hg : Nat) : Int) := nI_toInt (by omega)
  have tmI_1 : (nI ((trS σ).length)).toInt = (((trS σ).length : Nat) : Int) := nI_toInt (by omega)
  have wmI_1 : (nI wl.length).toInt = ((wl.length : Nat) : Int) := nI_toInt (by omega)
  have acI_1 : (nI ac).toInt = ((ac : Nat) : Int) := nI_toInt (by omega)
  have thI_1 : (nI 0).toInt = ((0 : Nat) : Int) := nI_toInt (by omega)
  have nIn_1 : (nI n).toInt = ((n : Nat) : Int) := nI_toInt (by omega)
  have hK192 := hv.1
  have kcl : kk.toNatClampNeg = K := by have := ic_clN hk (by omega); omega
  obtain ⟨κ, hκ, eκ, f0_, f1_, f2_, f3_, f4_⟩ := hR.okA hv
  have iκ : (A K).1.toInt = κ := ic_nI eκ (by omega)
  have ok0_ := hR.ok
  have n24_ := hR.n24
  have hT3_ := hR.T3
  refine lv_aload_n hx hb dX6_fieldActs_0 rfl (lv_at hl 0 rfl) ?_
  have F_2 : f (h 0) = some (.inr (6, [.int (nI n), .ref (h 1), .int (nI hg), .ref (h 3), .ref (h 4), .ref (h 5), .ref (h 6), .int (feL fe0 c0q σ), .ref (h 8), .ref (h 9), .ref (h 10), .ref (h 11), .ref (h 12), .ref (h 13), .ref (h 14), .ref (h 15), .int ca, .long (gfS σ), .int wh, .int (nI ((trS σ).length)), .ref (h 20), .ref (h 21), .int (nI wl.length), .ref (h 23), .ref (h 24), .int (nI ac), .ref (h 26), .ref (h 27), .int (nI 0), .int sx])) := hM.1
  refine m_get (ci := 6) (v := .ref (h 11)) (C := RX6) (T := TX6) (N := 30) hx hb hC hH hts in_X6_fieldActs_X6 hown F_2 rfl 11 (by decide) (hts (.fieldLink RX6 37 "LazyStateModel" "as" "[I") (by decide +kernel)) rfl dX6_fieldActs_1 ?_
  refine lv_iload_n hx hb dX6_fieldActs_4 rfl (lv_at hl 1 rfl) ?_
  have hg_3 : f (h 11) = some (.inl (gk G 0, 192, .inl (I_1 11))) := hM.2.1 11 (by decide) rfl
  refine m_iald hx hb hC hH hg_3 (vp_in_iff.mpr ⟨by omega, by omega⟩) dX6_fieldActs_5 ?_
  refine lv_topi (fun x_4 ex_4 => ?_)
  have qx_4 : x_4 = (A K).2.1 := by rw [ex_4, kcl]; exact (hR.ac hv).2.1
  have tx_4 : x_4.toInt = (A K).2.1.toInt := by rw [qx_4]
  refine lv_istore_n (lv' := [(2, .int x_4), (0, .ref (h 0)), (1, .int kk)]) hx hb dX6_fieldActs_6 rfl hl (by decide) rfl (fun ls hl => ?_)
  refine lv_aload_n hx hb dX6_fieldActs_7 rfl (lv_at hl 1 rfl) ?_
  refine m_get (ci := 6) (v := .ref (h 12)) (C := RX6) (T := TX6) (N := 30) hx hb hC hH hts in_X6_fieldActs_X6 hown F_2 rfl 12 (by decide) (hts (.fieldLink RX6 40 "LazyStateModel" "bs" "[J") (by decide +kernel)) rfl dX6_fieldActs_8 ?_
  refine lv_iload_n hx hb dX6_fieldActs_11 rfl (lv_at hl 2 rfl) ?_
  have hg_5 : f (h 12) = some (.inl (gk G 1, 192, .inr (.inl (J_1 12)))) := hM.2.2.1 12 (by decide) rfl
  refine m_lald hx hb hC hH hg_5 (vp_in_iff.mpr ⟨by omega, by omega⟩) dX6_fieldActs_12 ?_
  refine lv_topl (fun y_6 ey_6 => ?_)
  have qy_6 : y_6 = (A K).2.2.1 := by rw [ey_6, kcl]; exact (hR.ac hv).2.2.1
  have ty_6 : y_6.toInt = (A K).2.2.1.toInt := by rw [qy_6]
  refine lv_lstore_n (lv' := [(3, .long y_6), (2, .int x_4), (0, .ref (h 0)), (1, .int kk)]) hx hb dX6_fieldActs_13 rfl hl (by decide) rfl (fun ls hl => ?_)
  refine lv_aload_n hx hb dX6_fieldActs_14 rfl (lv_at hl 2 rfl) ?_
  refine m_get (ci := 6) (v := .ref (h 13)) (C := RX6) (T := TX6) (N := 30) hx hb hC hH hts in_X6_fieldActs_X6 hown F_2 rfl 13 (by decide) (hts (.fieldLink RX6 43 "LazyStateModel" "cs" "[I") (by decide +kernel)) rfl dX6_fieldActs_15 ?_
  refine lv_iload_n hx hb dX6_fieldActs_18 rfl (lv_at hl 3 rfl) ?_
  have hg_7 : f (h 13) = some (.inl (gk G 0, 192, .inl (I_1 13))) := hM.2.1 13 (by decide) rfl
  refine m_iald hx hb hC hH hg_7 (vp_in_iff.mpr ⟨by omega, by omega⟩) dX6_fieldActs_19 ?_
  refine lv_topi (fun x_8 ex_8 => ?_)
  have qx_8 : x_8 = (A K).2.2.2.1 := by rw [ex_8, kcl]; exact (hR.ac hv).2.2.2.1
  have tx_8 : x_8.toInt = (A K).2.2.2.1.toInt := by rw [qx_8]
  refine lv_istore (lv' := [(5, .int x_8), (3, .long y_6), (2, .int x_4), (0, .ref (h 0)), (1, .int kk)]) hx hb dX6_fieldActs_20 hl (by decide) rfl (fun ls hl => ?_)
  refine lv_aload_n hx hb dX6_fieldActs_22 rfl (lv_at hl 3 rfl) ?_
  refine m_get (ci := 6) (v := .ref (h 10)) (C := RX6) (T := TX6) (N := 30) hx hb hC hH hts in_X6_fieldActs_X6 hown F_2 rfl 10 (by decide) (hts (.fieldLink RX6 34 "LazyStateModel" "kinds" "[I") (by decide +kernel)) rfl dX6_fieldActs_23 ?_
  refine lv_iload_n hx hb dX6_fieldActs_26 rfl (lv_at hl 4 rfl) ?_
  have hg_9 : f (h 10) = some (.inl (gk G 0, 192, .inl (I_1 10))) := hM.2.1 10 (by decide) rfl
  refine m_iald hx hb hC hH hg_9 (vp_in_iff.mpr ⟨by omega, by omega⟩) dX6_fieldActs_27 ?_
  refine lv_topi (fun x_10 ex_10 => ?_)
  have qx_10 : x_10 = (A K).1 := by rw [ex_10, kcl]; exact (hR.ac hv).1
  have tx_10 : x_10.toInt = (A K).1.toInt := by rw [qx_10]
  have hk_11 : (x_10.toInt < 4 ∨ 12 < x_10.toInt) ∨ x_10.toInt = 4 ∨ x_10.toInt = 5 ∨ x_10.toInt = 6 ∨ x_10.toInt = 7 ∨ x_10.toInt = 8 ∨ x_10.toInt = 9 ∨ x_10.toInt = 10 ∨ x_10.toInt = 11 ∨ x_10.toInt = 12 := by omega
  rcases hk_11 with hk_11 | hk_11 | hk_11 | hk_11 | hk_11 | hk_11 | hk_11 | hk_11 | hk_11 | hk_11
  · skip
    have hv_ : κ = 13 := by omega
    subst hv_
    have g0_ := fit_get (m := 3) rfl (by decide) kI_3 f0_
    have nA_ : (aA (A K)) < 4 := (show (A K).2.1.toInt.toNat < 4 from (by omega))
    have g1_ := fit_get (m := 3) rfl (by decide) kI_3 f1_
    have nB_ : (aB (A K)) < 4 := (show (A K).2.2.1.toInt.toNat < 4 from (by omega))
    have g2_ := fit_get (m := 3) rfl (by decide) kI_3 f2_
    have nC_ : (aC (A K)) < 4 := (show (A K).2.2.2.1.toInt.toNat < 4 from (by omega))
    refine lv_tableOut (tgt := 285) hx hb dX6_fieldActs_28 hk_11 (by decide) ?_
    refine lv_aload_n hx hb dX6_fieldActs_285 rfl (lv_at hl 3 rfl) ?_
    refine m_get (ci := 6) (v := .ref (h 27)) (C := RX6) (T := TX6) (N := 30) hx hb hC hH hts in_X6_fieldActs_X6 hown F_2 rfl 27 (by decide) (hts (.fieldLink RX6 71 "LazyStateModel" "values" "[J") (by decide +kernel)) rfl dX6_fieldActs_286 ?_
    refine lv_iload_n hx hb dX6_fieldActs_289 rfl (lv_at hl 2 rfl) ?_
    refine lv_aload_n hx hb dX6_fieldActs_290 rfl (lv_at hl 3 rfl) ?_
    refine lv_aload_n hx hb dX6_fieldActs_291 rfl (lv_at hl 3 rfl) ?_
    refine m_get (ci := 6) (v := .ref (h 26)) (C := RX6) (T := TX6) (N := 30) hx hb hC hH hts in_X6_fieldActs_X6 hown F_2 rfl 26 (by decide) (hts (.fieldLink RX6 68 "LazyStateModel" "handles" "[I") (by decide +kernel)) rfl dX6_fieldActs_292 ?_
    refine lv_lload_n hx hb dX6_fieldActs_295 rfl (lv_at hl 1 rfl) ?_
    refine lv_l2i hx hb dX6_fieldActs_296 rfl ?_
    refine lv_topi (fun x_12 ex_12 => ?_)
    have ix_12 : x_12.toInt = y_6.toInt := ic_l2i ex_12 rfl (by omega) (by omega)
    have hg_13 : f (h 26) = some (.inl (gk G 0, 4, .inl (I_1 26))) := hM.2.1 26 (by decide) rfl
    refine m_iald hx hb hC hH hg_13 (vp_in_iff.mpr ⟨by omega, by omega⟩) dX6_fieldActs_297 ?_
    refine lv_topi (fun x_14 ex_14 => ?_)
    have vx_14 : x_14 = haS σ (aB (A K)) := by rw [ex_14, (show x_12.toNatClampNeg = (aB (A K)) from (by show x_12.toInt.toNat = (A K).2.2.1.toInt.toNat; omega))]; exact hR.haI hn0 (show (A K).2.2.1.toInt.toNat < 4 from by omega)
    have okx_14 := hR.ok.2.1 (aB (A K)) (show (A K).2.2.1.toInt.toNat < 4 from by omega)
    rw [← vx_14] at okx_14
    unfold okHa at okx_14
    refine lv_aload_n hx hb dX6_fieldActs_298 rfl (lv_at hl 3 rfl) ?_
    refine m_get (ci := 6) (v := .ref (h 26)) (C := RX6) (T := TX6) (N := 30) hx hb hC hH hts in_X6_fieldActs_X6 hown F_2 rfl 26 (by decide) (hts (.fieldLink RX6 68 "LazyStateModel" "handles" "[I") (by decide +kernel)) rfl dX6_fieldActs_299 ?_
    refine lv_iload hx hb dX6_fieldActs_302 (lv_at hl 0 rfl) ?_
    refine m_iald hx hb hC hH hg_13 (vp_in_iff.mpr ⟨by omega, by omega⟩) dX6_fieldActs_304 ?_
    refine lv_topi (fun x_15 ex_15 => ?_)
    have vx_15 : x_15 = haS σ (aC (A K)) := by rw [ex_15, (show x_8.toNatClampNeg = (aC (A K)) from (by show x_8.toInt.toNat = (A K).2.2.2.1.toInt.toNat; omega))]; exact hR.haI hn0 (show (A K).2.2.2.1.toInt.toNat < 4 from by omega)
    have okx_15 := hR.ok.2.1 (aC (A K)) (show (A K).2.2.2.1.toInt.toNat < 4 from by omega)
    rw [← vx_15] at okx_15
    unfold okHa at okx_15
    have hI : FM G h n T z A hg ver (cqL c0q σ) (feL fe0 c0q σ) tms ca wl wh ac 0 sx σ f := ⟨_, _, hM, hR, hac_1, hth_1⟩
    refine m_goi hH (va_runV (As := [.int x_14, .int x_15]) (rest := [.int x_4, .ref (h 27)]) ⟨hx, hb, hml, hown, hts⟩ (c_X6_like l G h n T z A hg ver c0q fe0 tms ca wl wh ac 0 sx σ f hI hn0 x_14 x_15 (by omega) (by omega)) (cwV 2 hts gX6_fieldActs_X6_like rfl rfl rfl (by decide +kernel) ⟨Nat.le_of_ble_eq_true rfl, Nat.le_of_ble_eq_true rfl⟩) (m_preV (ci := 6) hC hH F_2 rfl) rfl rfl hl.1 rfl (lv_room (Nat.le_of_ble_eq_true rfl)) dX6_fieldActs_305 ⟨Nat.le_of_ble_eq_true rfl, Nat.le_of_ble_eq_true rfl⟩) (fun r_16 rho_18 f_17 H locs hw hH => ?_)
    obtain ⟨hfr1, hI, hr_16⟩ := hw
    have hfr1 : frM h f f_17 := hfr1
    have hfr := hfr.trans hfr1
    have hI : FM G h n T z A hg ver (cqL c0q ((lik T σ x_14 x_15).2)) (feL fe0 c0q ((lik T σ x_14 x_15).2)) tms ca wl wh ac 0 sx ((lik T σ x_14 x_15).2) f_17 := hI
    try dsimp only at hr_16
    obtain ⟨I_19, J_19, hM, hR, hac_19, hth_19⟩ := hI
    have hg_19 := hR.hg40
    have n24_19 := hR.n24
    have tl_19 := len_b hR.ok.2.2.1
    have wl_19 := hR.wl192
    have hgI_19 : (nI hg).toInt = ((hg : Nat) : Int) := nI_toInt (by omega)
    have tmI_19 : (nI ((trS ((lik T σ x_14 x_15).2)).length)).toInt = (((trS ((lik T σ x_14 x_15).2)).length : Nat) : Int) := nI_toInt (by omega)
    have wmI_19 : (nI wl.length).toInt = ((wl.length : Nat) : Int) := nI_toInt (by omega)
    have acI_19 : (nI ac).toInt = ((ac : Nat) : Int) := nI_toInt (by omega)
    have thI_19 : (nI 0).toInt = ((0 : Nat) : Int) := nI_toInt (by omega)
    have nIn_19 : (nI n).toInt = ((n : Nat) : Int) := nI_toInt (by omega)
    refine lv_if_eq (tgt := 315) hx hb dX6_fieldActs_308 (by decide) (fun c_20 => ?_) (fun c_20 => ?_)
    · skip
      have ic_20 : (r_16.toInt : Int) = 0 := ic_eq rfl kI_0 c_20
      have lb_ : (lik T σ x_14 x_15).1 = false := (hr_16.resolve_left (fun z_ => by omega)).2
      have fv_ : ((0, sVa (lik T σ (haS σ (aB (A K))) (haS σ (aC (A K)))).2 (aA (A K)) (if (lik T σ (haS σ (aB (A K))) (haS σ (aC (A K)))).1 = true then 1 else 0)) : Nat × tS) = (0, sVa (lik T σ x_14 x_15).2 (aA (A K)) 0) := by rw [← vx_14, ← vx_15, lb_]; rfl
      refine lv_lconst (v := 0) hx hb dX6_fieldActs_315 (by decide) ?_
      have hg_21 : f_17 (h 27) = some (.inl (gk G 1, 4, .inr (.inl (J_19 27)))) := hM.2.2.1 27 (by decide) rfl
      refine m_last hx hb hC hH hg_21 (vp_in_iff.mpr ⟨by omega, by omega⟩) dX6_fieldActs_316 (fun H locs hH => ?_)
      obtain ⟨f_22, ef_22⟩ : ∃ zz_ : mF, zz_ = va_up f_17 (h 27) (some (.inl (gk G 1, 4, .inr (.inl (vp_updL (J_19 27) x_4.toNatClampNeg 0))))) := ⟨_, rfl⟩
      rw [← ef_22] at hH
      have hM : MEM G h n (nI hg, (feL fe0 c0q ((lik T σ x_14 x_15).2)), ca, (gfS ((lik T σ x_14 x_15).2)), wh, nI ((trS ((lik T σ x_14 x_15).2)).length), nI wl.length, nI ac, nI 0, sx) I_19 (va_up J_19 27 (vp_updL (J_19 27) x_4.toNatClampNeg 0)) f_22 := hM.setJ 27 (by decide) rfl ef_22
      have hfr := hfr.up 27 (by decide) ef_22
      rw [(show x_4.toNatClampNeg = (aA (A K)) from (by show x_4.toInt.toNat = (A K).2.1.toInt.toNat; omega))] at hM
      have hR := hR.va (aA (A K)) 0
      exact m_vret hx hb hr hlk hC hH (fun _ => (0, 0)) ⟨hfr, by rw [prf_13 eκ]; rw [fv_]; exact ⟨_, _, hM, hR, hac_19, hth_19⟩⟩ (Nat.le_of_ble_eq_true rfl) (Nat.le_of_ble_eq_true rfl) dX6_fieldActs_317
    · skip
      have ic_20 : (r_16.toInt : Int) ≠ 0 := ic_ne rfl kI_0 c_20
      have lb_ : (lik T σ x_14 x_15).1 = true := (hr_16.resolve_right (fun z_ => by omega)).2
      have fv_ : ((0, sVa (lik T σ (haS σ (aB (A K))) (haS σ (aC (A K)))).2 (aA (A K)) (if (lik T σ (haS σ (aB (A K))) (haS σ (aC (A K)))).1 = true then 1 else 0)) : Nat × tS) = (0, sVa (lik T σ x_14 x_15).2 (aA (A K)) 1) := by rw [← vx_14, ← vx_15, lb_]; rfl
      refine lv_lconst (v := 1) hx hb dX6_fieldActs_311 (by decide) ?_
      refine lv_goto (tgt := 316) hx hb dX6_fieldActs_312 (by decide) ?_
      have hg_23 : f_17 (h 27) = some (.inl (gk G 1, 4, .inr (.inl (J_19 27)))) := hM.2.2.1 27 (by decide) rfl
      refine m_last hx hb hC hH hg_23 (vp_in_iff.mpr ⟨by omega, by omega⟩) dX6_fieldActs_316 (fun H locs hH => ?_)
      obtain ⟨f_24, ef_24⟩ : ∃ zz_ : mF, zz_ = va_up f_17 (h 27) (some (.inl (gk G 1, 4, .inr (.inl (vp_updL (J_19 27) x_4.toNatClampNeg 1))))) := ⟨_, rfl⟩
      rw [← ef_24] at hH
      have hM : MEM G h n (nI hg, (feL fe0 c0q ((lik T σ x_14 x_15).2)), ca, (gfS ((lik T σ x_14 x_15).2)), wh, nI ((trS ((lik T σ x_14 x_15).2)).length), nI wl.length, nI ac, nI 0, sx) I_19 (va_up J_19 27 (vp_updL (J_19 27) x_4.toNatClampNeg 1)) f_24 := hM.setJ 27 (by decide) rfl ef_24
      have hfr := hfr.up 27 (by decide) ef_24
      rw [(show x_4.toNatClampNeg = (aA (A K)) from (by show x_4.toInt.toNat = (A K).2.1.toInt.toNat; omega))] at hM
      have hR := hR.va (aA (A K)) 1
      exact m_vret hx hb hr hlk hC hH (fun _ => (0, 0)) ⟨hfr, by rw [prf_13 eκ]; rw [fv_]; exact ⟨_, _, hM, hR, hac_19, hth_19⟩⟩ (Nat.le_of_ble_eq_true rfl) (Nat.le_of_ble_eq_true rfl) dX6_fieldActs_317
  · skip
    have hv_ : κ = 4 := by omega
    subst hv_
    have g0_ := fit_get (m := 3) rfl (by decide) kI_3 f0_
    have nA_ : (aA (A K)) < 4 := (show (A K).2.1.toInt.toNat < 4 from (by omega))
    have g1_ := fit_get (m := 3) rfl (by decide) kI_3 f1_
    have nB_ : (aB (A K)) < 4 := (show (A K).2.2.1.toInt.toNat < 4 from (by omega))
    have g2_ := fit_get (m := 7) rfl (by decide) kI_7 f2_
    have nC_ : (aC (A K)) < 8 := (show (A K).2.2.2.1.toInt.toNat < 8 from (by omega))
    have jk_11 : x_10.toInt = 4 := hk_11
    refine lv_tableIn (off := 52) (tgt := 80) hx hb dX6_fieldActs_28 (by rw [jk_11]; decide) (by rw [jk_11]; decide) (by rw [jk_11]; rfl) (by decide) ?_
    refine lv_aload_n hx hb dX6_fieldActs_80 rfl (lv_at hl 3 rfl) ?_
    refine lv_lload_n hx hb dX6_fieldActs_81 rfl (lv_at hl 1 rfl) ?_
    refine lv_l2i hx hb dX6_fieldActs_82 rfl ?_
    refine lv_topi (fun x_25 ex_25 => ?_)
    have ix_25 : x_25.toInt = y_6.toInt := ic_l2i ex_25 rfl (by omega) (by omega)
    refine lv_iload hx hb dX6_fieldActs_83 (lv_at hl 0 rfl) ?_
    refine lv_i2l hx hb dX6_fieldActs_85 rfl ?_
    refine lv_topl (fun y_26 ey_26 => ?_)
    have iy_26 : y_26.toInt = x_8.toInt := lc_i2l ey_26 rfl
    have gy_26 := ic_rng x_8
    refine lv_iconst (v := 0) hx hb dX6_fieldActs_86 (by decide) ?_
    have hI : FM G h n T z A hg ver (cqL c0q σ) (feL fe0 c0q σ) tms ca wl wh ac 0 sx σ f := ⟨_, _, hM, hR, hac_1, hth_1⟩
    refine m_goi hH (va_runV (As := [.int x_25, .long y_26, .int 0]) (rest := []) ⟨hx, hb, hml, hown, hts⟩ (c_X6_readLeaf l G h n T z A hg ver c0q fe0 tms ca wl wh ac sx σ f hI hn0 x_25 y_26 0 (by have := kI_0; omega) (by have := kI_0; omega) (by have := kI_0; omega)) (cwV 3 hts gX6_fieldActs_X6_readLeaf rfl rfl rfl (by decide +kernel) ⟨Nat.le_of_ble_eq_true rfl, Nat.le_of_ble_eq_true rfl⟩) (m_preV (ci := 6) hC hH F_2 rfl) rfl rfl hl.1 rfl (lv_room (Nat.le_of_ble_eq_true rfl)) dX6_fieldActs_87 ⟨Nat.le_of_ble_eq_true rfl, Nat.le_of_ble_eq_true rfl⟩) (fun r_27 rho_29 f_28 H locs hw hH => ?_)
    obtain ⟨hfr1, hI, hr_27⟩ := hw
    have hfr1 : frM h f f_28 := hfr1
    have hfr := hfr.trans hfr1
    have hI : FM G h n T z A hg ver (cqL c0q ((thn (ask T σ x_25.toNatClampNeg y_26.toInt.toNat ((0 : Int32).toNatClampNeg + 1)) (fun s1 => (0, rdL s1 x_25.toNatClampNeg y_26.toInt.toNat))).2)) (feL fe0 c0q ((thn (ask T σ x_25.toNatClampNeg y_26.toInt.toNat ((0 : Int32).toNatClampNeg + 1)) (fun s1 => (0, rdL s1 x_25.toNatClampNeg y_26.toInt.toNat))).2)) tms ca wl wh ac ((ask T σ x_25.toNatClampNeg y_26.toInt.toNat ((0 : Int32).toNatClampNeg + 1)).1) sx ((thn (ask T σ x_25.toNatClampNeg y_26.toInt.toNat ((0 : Int32).toNatClampNeg + 1)) (fun s1 => (0, rdL s1 x_25.toNatClampNeg y_26.toInt.toNat))).2) f_28 := hI
    try dsimp only at hr_27
    rw [(show x_25.toNatClampNeg = (aB (A K)) from (by show x_25.toInt.toNat = (A K).2.2.1.toInt.toNat; omega)), (show y_26.toInt.toNat = (aC (A K)) from (by show y_26.toInt.toNat = (A K).2.2.2.1.toInt.toNat; omega)), (show (0 : Int32).toNatClampNeg + 1 = 1 from rfl)] at hI hr_27
    by_cases a01 : (ask T σ (aB (A K)) (aC (A K)) 1).1 = 0
    · skip
      have rv1 := hr_27.1 a01
      obtain ⟨au11, au21, au31, au41, au51⟩ := ask_use hR.ok (by omega) a01
      have eho1 : hob σ (aB (A K)) = hob (ask T σ (aB (A K)) (aC (A K)) 1).2 (aB (A K)) := hob_ask.symm
      rw [eho1] at rv1
      rw [thn_0 a01] at hI
      have hI : FM G h n T z A hg ver (cqL c0q (rdL (ask T σ (aB (A K)) (aC (A K)) 1).2 (aB (A K)) (aC (A K)))) (feL fe0 c0q (rdL (ask T σ (aB (A K)) (aC (A K)) 1).2 (aB (A K)) (aC (A K)))) tms ca wl wh ac ((ask T σ (aB (A K)) (aC (A K)) 1).1) sx (rdL (ask T σ (aB (A K)) (aC (A K)) 1).2 (aB (A K)) (aC (A K))) f_28 := hI
      rw [a01] at hI
      obtain ⟨s1_, es1_⟩ : ∃ zs_ : tS, zs_ = (ask T σ (aB (A K)) (aC (A K)) 1).2 := ⟨_, rfl⟩
      rw [← es1_] at hI au11 au21 au31 au41 au51 rv1
      have hI : FM G h n T z A hg ver (cqL c0q (rdL s1_ (aB (A K)) (aC (A K)))) (feL fe0 c0q (rdL s1_ (aB (A K)) (aC (A K)))) tms ca wl wh ac 0 sx (rdL s1_ (aB (A K)) (aC (A K))) f_28 := hI
      obtain ⟨I_30, J_30, hM, hR, hac_30, hth_30⟩ := hI
      have hg_30 := hR.hg40
      have n24_30 := hR.n24
      have tl_30 := len_b hR.ok.2.2.1
      have wl_30 := hR.wl192
      have hgI_30 : (nI hg).toInt = ((hg : Nat) : Int) := nI_toInt (by omega)
      have tmI_30 : (nI ((trS (rdL s1_ (aB (A K)) (aC (A K)))).length)).toInt = (((trS (rdL s1_ (aB (A K)) (aC (A K)))).length : Nat) : Int) := nI_toInt (by omega)
      have wmI_30 : (nI wl.length).toInt = ((wl.length : Nat) : Int) := nI_toInt (by omega)
      have acI_30 : (nI ac).toInt = ((ac : Nat) : Int) := nI_toInt (by omega)
      have thI_30 : (nI 0).toInt = ((0 : Nat) : Int) := nI_toInt (by omega)
      have nIn_30 : (nI n).toInt = ((n : Nat) : Int) := nI_toInt (by omega)
      refine lv_istore (lv' := [(6, .int r_27), (5, .int x_8), (3, .long y_6), (2, .int x_4), (0, .ref (h 0)), (1, .int kk)]) hx hb dX6_fieldActs_90 hl (by decide) rfl (fun ls hl => ?_)
      refine lv_aload_n hx hb dX6_fieldActs_92 rfl (lv_at hl 4 rfl) ?_
      have F_31 : f_28 (h 0) = some (.inr (6, [.int (nI n), .ref (h 1), .int (nI hg), .ref (h 3), .ref (h 4), .ref (h 5), .ref (h 6), .int (feL fe0 c0q (rdL s1_ (aB (A K)) (aC (A K)))), .ref (h 8), .ref (h 9), .ref (h 10), .ref (h 11), .ref (h 12), .ref (h 13), .ref (h 14), .ref (h 15), .int ca, .long (gfS (rdL s1_ (aB (A K)) (aC (A K)))), .int wh, .int (nI ((trS (rdL s1_ (aB (A K)) (aC (A K)))).length)), .ref (h 20), .ref (h 21), .int (nI wl.length), .ref (h 23), .ref (h 24), .int (nI ac), .ref (h 26), .ref (h 27), .int (nI 0), .int sx])) := hM.1
      refine m_get (ci := 6) (v := .ref (h 27)) (C := RX6) (T := TX6) (N := 30) hx hb hC hH hts in_X6_fieldActs_X6 hown F_31 rfl 27 (by decide) (hts (.fieldLink RX6 71 "LazyStateModel" "values" "[J") (by decide +kernel)) rfl dX6_fieldActs_93 ?_
      refine lv_iload_n hx hb dX6_fieldActs_96 rfl (lv_at hl 3 rfl) ?_
      refine lv_iload hx hb dX6_fieldActs_97 (lv_at hl 0 rfl) ?_
      refine lv_if_ge (tgt := 111) hx hb dX6_fieldActs_99 (by decide) (fun c_32 => ?_) (fun c_32 => ?_)
      · skip
        have ic_32 : (0 : Int) ≤ r_27.toInt := ic_le kI_0 rfl c_32
        refine lv_aload_n hx hb dX6_fieldActs_111 rfl (lv_at hl 4 rfl) ?_
        refine m_get (ci := 6) (v := .ref (h 3)) (C := RX6) (T := TX6) (N := 30) hx hb hC hH hts in_X6_fieldActs_X6 hown F_31 rfl 3 (by decide) (hts (.fieldLink RX6 13 "LazyStateModel" "numbers" "[J") (by decide +kernel)) rfl dX6_fieldActs_112 ?_
        refine lv_iload hx hb dX6_fieldActs_115 (lv_at hl 0 rfl) ?_
        refine m_goi hH (va_runS (As := [.int r_27]) (rest := [.ref (h 3), .int x_4, .ref (h 27)]) ⟨hx, hb, hml, hown, hts⟩ (c_X6_at l G f_28 r_27 (by exact ⟨by omega, by omega⟩)) (va_cwS 1 hts gX6_fieldActs_X6_at rfl rfl rfl (by decide +kernel) ⟨Nat.le_of_ble_eq_true rfl, Nat.le_of_ble_eq_true rfl⟩) (m_preS hC hH) rfl rfl hl.1 rfl (lv_room (Nat.le_of_ble_eq_true rfl)) dX6_fieldActs_117 ⟨Nat.le_of_ble_eq_true rfl, Nat.le_of_ble_eq_true rfl⟩) (fun r_33 rho_35 f_34 H locs hw hH => ?_)
        obtain ⟨hu, hr_33⟩ := hw
        have hu : f_34 = f_28 := hu
        rw [hu] at hH
        have hg_36 : f_28 (h 3) = some (.inl (gk G 1, 8064, .inr (.inl (J_30 3)))) := hM.2.2.1 3 (by decide) rfl
        refine m_lald hx hb hC hH hg_36 (vp_in_iff.mpr ⟨by omega, by omega⟩) dX6_fieldActs_120 ?_
        refine lv_topl (fun y_37 ey_37 => ?_)
        have nn_38 : r_33.toNatClampNeg = 192 * 41 + 8 * (hob s1_ (aB (A K))) + (aC (A K)) := by have := ic_clN (rfl : r_33.toInt = _) (by omega); omega
        have nu_ : y_37 = (bdS s1_ (hob s1_ (aB (A K)))).1 (aC (A K)) := by rw [ey_37, nn_38]; exact hR.gnu au21 (by omega) (by rw [au31]; decide)
        have hg_39 : f_28 (h 27) = some (.inl (gk G 1, 4, .inr (.inl (J_30 27)))) := hM.2.2.1 27 (by decide) rfl
        refine m_last hx hb hC hH hg_39 (vp_in_iff.mpr ⟨by omega, by omega⟩) dX6_fieldActs_121 (fun H locs hH => ?_)
        obtain ⟨f_40, ef_40⟩ : ∃ zz_ : mF, zz_ = va_up f_28 (h 27) (some (.inl (gk G 1, 4, .inr (.inl (vp_updL (J_30 27) x_4.toNatClampNeg y_37))))) := ⟨_, rfl⟩
        rw [← ef_40] at hH
        have hM : MEM G h n (nI hg, (feL fe0 c0q (rdL s1_ (aB (A K)) (aC (A K)))), ca, (gfS (rdL s1_ (aB (A K)) (aC (A K)))), wh, nI ((trS (rdL s1_ (aB (A K)) (aC (A K)))).length), nI wl.length, nI ac, nI 0, sx) I_30 (va_up J_30 27 (vp_updL (J_30 27) x_4.toNatClampNeg y_37)) f_40 := hM.setJ 27 (by decide) rfl ef_40
        have hfr := hfr.up 27 (by decide) ef_40
        rw [(show x_4.toNatClampNeg = (aA (A K)) from (by show x_4.toInt.toNat = (A K).2.1.toInt.toNat; omega))] at hM
        have hR := hR.va (aA (A K)) y_37
        have fv_ := nu_
        refine lv_goto (tgt := 317) hx hb dX6_fieldActs_122 (by decide) ?_
        exact m_vret hx hb hr hlk hC hH (fun _ => (0, 0)) ⟨hfr, by rw [prf_4 eκ]; rw [show pGet T σ (aA (A K)) (aB (A K)) (aC (A K)) = (0, sVa (rdL s1_ (aB (A K)) (aC (A K))) (aA (A K)) y_37) from (thn_0 a01).trans (by rw [← es1_, fv_])]; exact ⟨_, _, hM, hR, hac_30, hth_30⟩⟩ (Nat.le_of_ble_eq_true rfl) (Nat.le_of_ble_eq_true rfl) dX6_fieldActs_317
      · skip
        have ic_32 : (0 : Int) > r_27.toInt := ic_nle kI_0 rfl c_32
        omega
    · skip
      have rv1 := hr_27.2 a01
      rw [thn_1 a01] at hI
      have hI : FM G h n T z A hg ver (cqL c0q ((ask T σ (aB (A K)) (aC (A K)) 1).2)) (feL fe0 c0q ((ask T σ (aB (A K)) (aC (A K)) 1).2)) tms ca wl wh ac ((ask T σ (aB (A K)) (aC (A K)) 1).1) sx ((ask T σ (aB (A K)) (aC (A K)) 1).2) f_28 := hI
      obtain ⟨I_41, J_41, hM, hR, hac_41, hth_41⟩ := hI
      have hg_41 := hR.hg40
      have n24_41 := hR.n24
      have tl_41 := len_b hR.ok.2.2.1
      have wl_41 := hR.wl192
      have hgI_41 : (nI hg).toInt = ((hg : Nat) : Int) := nI_toInt (by omega)
      have tmI_41 : (nI ((trS ((ask T σ (aB (A K)) (aC (A K)) 1).2)).length)).toInt = (((trS ((ask T σ (aB (A K)) (aC (A K)) 1).2)).length : Nat) : Int) := nI_toInt (by omega)
      have wmI_41 : (nI wl.length).toInt = ((wl.length : Nat) : Int) := nI_toInt (by omega)
      have acI_41 : (nI ac).toInt = ((ac : Nat) : Int) := nI_toInt (by omega)
      have thI_41 : (nI ((ask T σ (aB (A K)) (aC (A K)) 1).1)).toInt = (((ask T σ (aB (A K)) (aC (A K)) 1).1 : Nat) : Int) := nI_toInt (by omega)
      have nIn_41 : (nI n).toInt = ((n : Nat) : Int) := nI_toInt (by omega)
      refine lv_istore (lv' := [(6, .int r_27), (5, .int x_8), (3, .long y_6), (2, .int x_4), (0, .ref (h 0)), (1, .int kk)]) hx hb dX6_fieldActs_90 hl (by decide) rfl (fun ls hl => ?_)
      refine lv_aload_n hx hb dX6_fieldActs_92 rfl (lv_at hl 4 rfl) ?_
      have F_42 : f_28 (h 0) = some (.inr (6, [.int (nI n), .ref (h 1), .int (nI hg), .ref (h 3), .ref (h 4), .ref (h 5), .ref (h 6), .int (feL fe0 c0q ((ask T σ (aB (A K)) (aC (A K)) 1).2)), .ref (h 8), .ref (h 9), .ref (h 10), .ref (h 11), .ref (h 12), .ref (h 13), .ref (h 14), .ref (h 15), .int ca, .long (gfS ((ask T σ (aB (A K)) (aC (A K)) 1).2)), .int wh, .int (nI ((trS ((ask T σ (aB (A K)) (aC (A K)) 1).2)).length)), .ref (h 20), .ref (h 21), .int (nI wl.length), .ref (h 23), .ref (h 24), .int (nI ac), .ref (h 26), .ref (h 27), .int (nI ((ask T σ (aB (A K)) (aC (A K)) 1).1)), .int sx])) := hM.1
      refine m_get (ci := 6) (v := .ref (h 27)) (C := RX6) (T := TX6) (N := 30) hx hb hC hH hts in_X6_fieldActs_X6 hown F_42 rfl 27 (by decide) (hts (.fieldLink RX6 71 "LazyStateModel" "values" "[J") (by decide +kernel)) rfl dX6_fieldActs_93 ?_
      refine lv_iload_n hx hb dX6_fieldActs_96 rfl (lv_at hl 3 rfl) ?_
      refine lv_iload hx hb dX6_fieldActs_97 (lv_at hl 0 rfl) ?_
      refine lv_if_ge (tgt := 111) hx hb dX6_fieldActs_99 (by decide) (fun c_43 => ?_) (fun c_43 => ?_)
      · skip
        have ic_43 : (0 : Int) ≤ r_27.toInt := ic_le kI_0 rfl c_43
        omega
      · skip
        have ic_43 : (0 : Int) > r_27.toInt := ic_nle kI_0 rfl c_43
        refine lv_aload_n hx hb dX6_fieldActs_102 rfl (lv_at hl 4 rfl) ?_
        refine m_get (ci := 6) (v := .ref (h 27)) (C := RX6) (T := TX6) (N := 30) hx hb hC hH hts in_X6_fieldActs_X6 hown F_42 rfl 27 (by decide) (hts (.fieldLink RX6 71 "LazyStateModel" "values" "[J") (by decide +kernel)) rfl dX6_fieldActs_103 ?_
        refine lv_iload_n hx hb dX6_fieldActs_106 rfl (lv_at hl 3 rfl) ?_
        have hg_44 : f_28 (h 27) = some (.inl (gk G 1, 4, .inr (.inl (J_41 27)))) := hM.2.2.1 27 (by decide) rfl
        refine m_lald hx hb hC hH hg_44 (vp_in_iff.mpr ⟨by omega, by omega⟩) dX6_fieldActs_107 ?_
        refine lv_topl (fun y_45 ey_45 => ?_)
        have vy_45 : y_45 = vaS ((ask T σ (aB (A K)) (aC (A K)) 1).2) (aA (A K)) := by rw [ey_45, (show x_4.toNatClampNeg = (aA (A K)) from (by show x_4.toInt.toNat = (A K).2.1.toInt.toNat; omega))]; exact hR.vaI (show (A K).2.1.toInt.toNat < 4 from by omega)
        refine lv_goto (tgt := 121) hx hb dX6_fieldActs_108 (by decide) ?_
        refine m_last hx hb hC hH hg_44 (vp_in_iff.mpr ⟨by omega, by omega⟩) dX6_fieldActs_121 (fun H locs hH => ?_)
        obtain ⟨f_46, ef_46⟩ : ∃ zz_ : mF, zz_ = va_up f_28 (h 27) (some (.inl (gk G 1, 4, .inr (.inl (vp_updL (J_41 27) x_4.toNatClampNeg y_45))))) := ⟨_, rfl⟩
        rw [← ef_46] at hH
        have hM : MEM G h n (nI hg, (feL fe0 c0q ((ask T σ (aB (A K)) (aC (A K)) 1).2)), ca, (gfS ((ask T σ (aB (A K)) (aC (A K)) 1).2)), wh, nI ((trS ((ask T σ (aB (A K)) (aC (A K)) 1).2)).length), nI wl.length, nI ac, nI ((ask T σ (aB (A K)) (aC (A K)) 1).1), sx) I_41 (va_up J_41 27 (vp_updL (J_41 27) x_4.toNatClampNeg y_45)) f_46 := hM.setJ 27 (by decide) rfl ef_46
        have hfr := hfr.up 27 (by decide) ef_46
        rw [(show x_4.toNatClampNeg = (aA (A K)) from (by show x_4.toInt.toNat = (A K).2.1.toInt.toNat; omega)), vy_45] at hM
        have hR := hR.va (aA (A K)) (vaS ((ask T σ (aB (A K)) (aC (A K)) 1).2) (aA (A K)))
        rw [sVa_id] at hR
        refine lv_goto (tgt := 317) hx hb dX6_fieldActs_122 (by decide) ?_
        exact m_vret hx hb hr hlk hC hH (fun _ => (0, 0)) ⟨hfr, by rw [prf_4 eκ]; rw [show pGet T σ (aA (A K)) (aB (A K)) (aC (A K)) = (ask T σ (aB (A K)) (aC (A K)) 1) from thn_1 a01]; exact ⟨_, _, hM, hR, hac_41, hth_41⟩⟩ (Nat.le_of_ble_eq_true rfl) (Nat.le_of_ble_eq_true rfl) dX6_fieldActs_317
  · skip
    have hv_ : κ = 5 := by omega
    subst hv_
    have g0_ := fit_get (m := 3) rfl (by decide) kI_3 f0_
    have nA_ : (aA (A K)) < 4 := (show (A K).2.1.toInt.toNat < 4 from (by omega))
    have g1_ := fit_get (m := 7) rfl (by decide) kI_7 f1_
    have nB_ : (aB (A K)) < 8 := (show (A K).2.2.1.toInt.toNat < 8 from (by omega))
    have g2_ := fit_get (m := 3) rfl (by decide) kI_3 f2_
    have nC_ : (aC (A K)) < 4 := (show (A K).2.2.2.1.toInt.toNat < 4 from (by omega))
    have jk_11 : x_10.toInt = 5 := hk_11
    refine lv_tableIn (off := 97) (tgt := 125) hx hb dX6_fieldActs_28 (by rw [jk_11]; decide) (by rw [jk_11]; decide) (by rw [jk_11]; rfl) (by decide) ?_
    refine lv_aload_n hx hb dX6_fieldActs_125 rfl (lv_at hl 3 rfl) ?_
    refine lv_iload_n hx hb dX6_fieldActs_126 rfl (lv_at hl 2 rfl) ?_
    refine lv_lload_n hx hb dX6_fieldActs_127 rfl (lv_at hl 1 rfl) ?_
    refine lv_iconst (v := 0) hx hb dX6_fieldActs_128 (by decide) ?_
    have hI : FM G h n T z A hg ver (cqL c0q σ) (feL fe0 c0q σ) tms ca wl wh ac 0 sx σ f := ⟨_, _, hM, hR, hac_1, hth_1⟩
    refine m_goi hH (va_runV (As := [.int x_4, .long y_6, .int 0]) (rest := []) ⟨hx, hb, hml, hown, hts⟩ (c_X6_leafOf l G h n T z A hg ver c0q fe0 tms ca wl wh ac sx σ f hI hn0 x_4 y_6 0 (by have := kI_0; omega) (by have := kI_0; omega) (by have := kI_0; omega)) (cwV 3 hts gX6_fieldActs_X6_leafOf rfl rfl rfl (by decide +kernel) ⟨Nat.le_of_ble_eq_true rfl, Nat.le_of_ble_eq_true rfl⟩) (m_preV (ci := 6) hC hH F_2 rfl) rfl rfl hl.1 rfl (lv_room (Nat.le_of_ble_eq_true rfl)) dX6_fieldActs_129 ⟨Nat.le_of_ble_eq_true rfl, Nat.le_of_ble_eq_true rfl⟩) (fun r_47 rho_49 f_48 H locs hw hH => ?_)
    obtain ⟨hfr1, hI, hr_47⟩ := hw
    have hfr1 : frM h f f_48 := hfr1
    have hfr := hfr.trans hfr1
    have hI : FM G h n T z A hg ver (cqL c0q ((ask T σ x_4.toNatClampNeg y_6.toInt.toNat ((0 : Int32).toNatClampNeg + 1)).2)) (feL fe0 c0q ((ask T σ x_4.toNatClampNeg y_6.toInt.toNat ((0 : Int32).toNatClampNeg + 1)).2)) tms ca wl wh ac ((ask T σ x_4.toNatClampNeg y_6.toInt.toNat ((0 : Int32).toNatClampNeg + 1)).1) sx ((ask T σ x_4.toNatClampNeg y_6.toInt.toNat ((0 : Int32).toNatClampNeg + 1)).2) f_48 := hI
    try dsimp only at hr_47
    rw [(show x_4.toNatClampNeg = (aA (A K)) from (by show x_4.toInt.toNat = (A K).2.1.toInt.toNat; omega)), (show y_6.toInt.toNat = (aB (A K)) from (by show y_6.toInt.toNat = (A K).2.2.1.toInt.toNat; omega)), (show (0 : Int32).toNatClampNeg + 1 = 1 from rfl)] at hI hr_47
    by_cases a01 : (ask T σ (aA (A K)) (aB (A K)) 1).1 = 0
    · skip
      have rv1 := hr_47.1 a01
      obtain ⟨au11, au21, au31, au41, au51⟩ := ask_use hR.ok (by omega) a01
      have eho1 : hob σ (aA (A K)) = hob (ask T σ (aA (A K)) (aB (A K)) 1).2 (aA (A K)) := hob_ask.symm
      rw [eho1] at rv1
      have hI : FM G h n T z A hg ver (cqL c0q ((ask T σ (aA (A K)) (aB (A K)) 1).2)) (feL fe0 c0q ((ask T σ (aA (A K)) (aB (A K)) 1).2)) tms ca wl wh ac ((ask T σ (aA (A K)) (aB (A K)) 1).1) sx ((ask T σ (aA (A K)) (aB (A K)) 1).2) f_48 := hI
      rw [a01] at hI
      obtain ⟨s1_, es1_⟩ : ∃ zs_ : tS, zs_ = (ask T σ (aA (A K)) (aB (A K)) 1).2 := ⟨_, rfl⟩
      rw [← es1_] at hI au11 au21 au31 au41 au51 rv1
      have hI : FM G h n T z A hg ver (cqL c0q s1_) (feL fe0 c0q s1_) tms ca wl wh ac 0 sx s1_ f_48 := hI
      obtain ⟨I_50, J_50, hM, hR, hac_50, hth_50⟩ := hI
      have hg_50 := hR.hg40
      have n24_50 := hR.n24
      have tl_50 := len_b hR.ok.2.2.1
      have wl_50 := hR.wl192
      have hgI_50 : (nI hg).toInt = ((hg : Nat) : Int) := nI_toInt (by omega)
      have tmI_50 : (nI ((trS s1_).length)).toInt = (((trS s1_).length : Nat) : Int) := nI_toInt (by omega)
      have wmI_50 : (nI wl.length).toInt = ((wl.length : Nat) : Int) := nI_toInt (by omega)
      have acI_50 : (nI ac).toInt = ((ac : Nat) : Int) := nI_toInt (by omega)
      have thI_50 : (nI 0).toInt = ((0 : Nat) : Int) := nI_toInt (by omega)
      have nIn_50 : (nI n).toInt = ((n : Nat) : Int) := nI_toInt (by omega)
      refine lv_istore (lv' := [(6, .int r_47), (5, .int x_8), (3, .long y_6), (2, .int x_4), (0, .ref (h 0)), (1, .int kk)]) hx hb dX6_fieldActs_132 hl (by decide) rfl (fun ls hl => ?_)
      refine lv_iload hx hb dX6_fieldActs_134 (lv_at hl 0 rfl) ?_
      refine lv_if_lt (tgt := 317) hx hb dX6_fieldActs_136 (by decide) (fun c_51 => ?_) (fun c_51 => ?_)
      · skip
        have ic_51 : (r_47.toInt : Int) < 0 := ic_lt rfl kI_0 c_51
        omega
      · skip
        have ic_51 : (r_47.toInt : Int) ≥ 0 := ic_nlt rfl kI_0 c_51
        refine lv_aload_n hx hb dX6_fieldActs_139 rfl (lv_at hl 4 rfl) ?_
        have F_52 : f_48 (h 0) = some (.inr (6, [.int (nI n), .ref (h 1), .int (nI hg), .ref (h 3), .ref (h 4), .ref (h 5), .ref (h 6), .int (feL fe0 c0q s1_), .ref (h 8), .ref (h 9), .ref (h 10), .ref (h 11), .ref (h 12), .ref (h 13), .ref (h 14), .ref (h 15), .int ca, .long (gfS s1_), .int wh, .int (nI ((trS s1_).length)), .ref (h 20), .ref (h 21), .int (nI wl.length), .ref (h 23), .ref (h 24), .int (nI ac), .ref (h 26), .ref (h 27), .int (nI 0), .int sx])) := hM.1
        refine m_get (ci := 6) (v := .ref (h 3)) (C := RX6) (T := TX6) (N := 30) hx hb hC hH hts in_X6_fieldActs_X6 hown F_52 rfl 3 (by decide) (hts (.fieldLink RX6 13 "LazyStateModel" "numbers" "[J") (by decide +kernel)) rfl dX6_fieldActs_140 ?_
        refine lv_iload hx hb dX6_fieldActs_143 (lv_at hl 0 rfl) ?_
        refine m_goi hH (va_runS (As := [.int r_47]) (rest := [.ref (h 3)]) ⟨hx, hb, hml, hown, hts⟩ (c_X6_at l G f_48 r_47 (by exact ⟨by omega, by omega⟩)) (va_cwS 1 hts gX6_fieldActs_X6_at rfl rfl rfl (by decide +kernel) ⟨Nat.le_of_ble_eq_true rfl, Nat.le_of_ble_eq_true rfl⟩) (m_preS hC hH) rfl rfl hl.1 rfl (lv_room (Nat.le_of_ble_eq_true rfl)) dX6_fieldActs_145 ⟨Nat.le_of_ble_eq_true rfl, Nat.le_of_ble_eq_true rfl⟩) (fun r_53 rho_55 f_54 H locs hw hH => ?_)
        obtain ⟨hu, hr_53⟩ := hw
        have hu : f_54 = f_48 := hu
        rw [hu] at hH
        refine lv_aload_n hx hb dX6_fieldActs_148 rfl (lv_at hl 4 rfl) ?_
        refine m_get (ci := 6) (v := .ref (h 27)) (C := RX6) (T := TX6) (N := 30) hx hb hC hH hts in_X6_fieldActs_X6 hown F_52 rfl 27 (by decide) (hts (.fieldLink RX6 71 "LazyStateModel" "values" "[J") (by decide +kernel)) rfl dX6_fieldActs_149 ?_
        refine lv_iload hx hb dX6_fieldActs_152 (lv_at hl 1 rfl) ?_
        have hg_56 : f_48 (h 27) = some (.inl (gk G 1, 4, .inr (.inl (J_50 27)))) := hM.2.2.1 27 (by decide) rfl
        refine m_lald hx hb hC hH hg_56 (vp_in_iff.mpr ⟨by omega, by omega⟩) dX6_fieldActs_154 ?_
        refine lv_topl (fun y_57 ey_57 => ?_)
        have vy_57 : y_57 = vaS s1_ (aC (A K)) := by rw [ey_57, (show x_8.toNatClampNeg = (aC (A K)) from (by show x_8.toInt.toNat = (A K).2.2.2.1.toInt.toNat; omega))]; exact hR.vaI (show (A K).2.2.2.1.toInt.toNat < 4 from by omega)
        have hg_58 : f_48 (h 3) = some (.inl (gk G 1, 8064, .inr (.inl (J_50 3)))) := hM.2.2.1 3 (by decide) rfl
        refine m_last hx hb hC hH hg_58 (vp_in_iff.mpr ⟨by omega, by omega⟩) dX6_fieldActs_155 (fun H locs hH => ?_)
        obtain ⟨f_59, ef_59⟩ : ∃ zz_ : mF, zz_ = va_up f_48 (h 3) (some (.inl (gk G 1, 8064, .inr (.inl (vp_updL (J_50 3) r_53.toNatClampNeg y_57))))) := ⟨_, rfl⟩
        rw [← ef_59] at hH
        have hM : MEM G h n (nI hg, (feL fe0 c0q s1_), ca, (gfS s1_), wh, nI ((trS s1_).length), nI wl.length, nI ac, nI 0, sx) I_50 (va_up J_50 3 (vp_updL (J_50 3) r_53.toNatClampNeg y_57)) f_59 := hM.setJ 3 (by decide) rfl ef_59
        have hfr := hfr.up 3 (by decide) ef_59
        have nn_60 : r_53.toNatClampNeg = 192 * 41 + 8 * (hob s1_ (aA (A K))) + (aB (A K)) := by have := ic_clN (rfl : r_53.toInt = _) (by omega); omega
        rw [nn_60] at hM
        have fv_ : vaS σ (aC (A K)) = y_57 := by rw [vy_57, es1_, ask_va]
        have hR := hR.nu (o := (hob s1_ (aA (A K)))) (j := (aB (A K))) (v := y_57) au21 (by omega) (by rw [au31]; decide) (okBd_C au51 au41 (by rw [au31]; decide) (fun z_ => by rw [au31] at z_; cases z_))
        have hI : FM G h n T z A hg ver (cqL c0q (sBd s1_ (hob s1_ (aA (A K))) (setC (bdS s1_ (hob s1_ (aA (A K)))) (aB (A K)) y_57))) (feL fe0 c0q (sBd s1_ (hob s1_ (aA (A K))) (setC (bdS s1_ (hob s1_ (aA (A K)))) (aB (A K)) y_57))) tms ca wl wh ac 0 sx (sBd s1_ (hob s1_ (aA (A K))) (setC (bdS s1_ (hob s1_ (aA (A K)))) (aB (A K)) y_57)) f_59 := ⟨_, _, hM, hR, hac_50, hth_50⟩
        obtain ⟨I_61, J_61, hM, hR, hac_61, hth_61⟩ := hI
        have hg_61 := hR.hg40
        have n24_61 := hR.n24
        have tl_61 := len_b hR.ok.2.2.1
        have wl_61 := hR.wl192
        have hgI_61 : (nI hg).toInt = ((hg : Nat) : Int) := nI_toInt (by omega)
        have tmI_61 : (nI ((trS (sBd s1_ (hob s1_ (aA (A K))) (setC (bdS s1_ (hob s1_ (aA (A K)))) (aB (A K)) y_57))).length)).toInt = (((trS (sBd s1_ (hob s1_ (aA (A K))) (setC (bdS s1_ (hob s1_ (aA (A K)))) (aB (A K)) y_57))).length : Nat) : Int) := nI_toInt (by omega)
        have wmI_61 : (nI wl.length).toInt = ((wl.length : Nat) : Int) := nI_toInt (by omega)
        have acI_61 : (nI ac).toInt = ((ac : Nat) : Int) := nI_toInt (by omega)
        have thI_61 : (nI 0).toInt = ((0 : Nat) : Int) := nI_toInt (by omega)
        have nIn_61 : (nI n).toInt = ((n : Nat) : Int) := nI_toInt (by omega)
        refine lv_aload_n hx hb dX6_fieldActs_156 rfl (lv_at hl 4 rfl) ?_
        refine lv_iload hx hb dX6_fieldActs_157 (lv_at hl 0 rfl) ?_
        refine lv_iconst (v := 1) hx hb dX6_fieldActs_159 (by decide) ?_
        have F_62 : f_59 (h 0) = some (.inr (6, [.int (nI n), .ref (h 1), .int (nI hg), .ref (h 3), .ref (h 4), .ref (h 5), .ref (h 6), .int (feL fe0 c0q (sBd s1_ (hob s1_ (aA (A K))) (setC (bdS s1_ (hob s1_ (aA (A K)))) (aB (A K)) y_57))), .ref (h 8), .ref (h 9), .ref (h 10), .ref (h 11), .ref (h 12), .ref (h 13), .ref (h 14), .ref (h 15), .int ca, .long (gfS (sBd s1_ (hob s1_ (aA (A K))) (setC (bdS s1_ (hob s1_ (aA (A K)))) (aB (A K)) y_57))), .int wh, .int (nI ((trS (sBd s1_ (hob s1_ (aA (A K))) (setC (bdS s1_ (hob s1_ (aA (A K)))) (aB (A K)) y_57))).length)), .ref (h 20), .ref (h 21), .int (nI wl.length), .ref (h 23), .ref (h 24), .int (nI ac), .ref (h 26), .ref (h 27), .int (nI 0), .int sx])) := hM.1
        have hI : FM G h n T z A hg ver (cqL c0q (sBd s1_ (hob s1_ (aA (A K))) (setC (bdS s1_ (hob s1_ (aA (A K)))) (aB (A K)) y_57))) (feL fe0 c0q (sBd s1_ (hob s1_ (aA (A K))) (setC (bdS s1_ (hob s1_ (aA (A K)))) (aB (A K)) y_57))) tms ca wl wh ac 0 sx (sBd s1_ (hob s1_ (aA (A K))) (setC (bdS s1_ (hob s1_ (aA (A K)))) (aB (A K)) y_57)) f_59 := ⟨_, _, hM, hR, hac_61, hth_61⟩
        refine m_gov hH (va_runV (As := [.int r_47, .int 1]) (rest := []) ⟨hx, hb, hml, hown, hts⟩ (c_X6_touch l G h n T z A hg ver c0q fe0 tms ca wl wh ac 0 sx (sBd s1_ (hob s1_ (aA (A K))) (setC (bdS s1_ (hob s1_ (aA (A K)))) (aB (A K)) y_57)) f_59 hI hn0 r_47 1 (by have := kI_1; omega) (by have := kI_1; omega)) (cwV 2 hts gX6_fieldActs_X6_touch rfl rfl rfl (by decide +kernel) ⟨Nat.le_of_ble_eq_true rfl, Nat.le_of_ble_eq_true rfl⟩) (m_preV (ci := 6) hC hH F_62 rfl) rfl rfl hl.1 rfl (lv_room (Nat.le_of_ble_eq_true rfl)) dX6_fieldActs_160 ⟨Nat.le_of_ble_eq_true rfl, Nat.le_of_ble_eq_true rfl⟩) (fun rho_65 f_64 H locs hw hH => ?_)
        obtain ⟨hfr1, hI⟩ := hw
        have hfr1 : frM h f_59 f_64 := hfr1
        have hfr := hfr.trans hfr1
        have hI : FM G h n T z A hg ver (cqL c0q (sTc (sBd s1_ (hob s1_ (aA (A K))) (setC (bdS s1_ (hob s1_ (aA (A K)))) (aB (A K)) y_57)) (2 * r_47.toNatClampNeg + (1 : Int32).toNatClampNeg))) (feL fe0 c0q (sTc (sBd s1_ (hob s1_ (aA (A K))) (setC (bdS s1_ (hob s1_ (aA (A K)))) (aB (A K)) y_57)) (2 * r_47.toNatClampNeg + (1 : Int32).toNatClampNeg))) tms ca wl wh ac 0 sx (sTc (sBd s1_ (hob s1_ (aA (A K))) (setC (bdS s1_ (hob s1_ (aA (A K)))) (aB (A K)) y_57)) (2 * r_47.toNatClampNeg + (1 : Int32).toNatClampNeg)) f_64 := hI
        rw [show 2 * r_47.toNatClampNeg + (1 : Int32).toNatClampNeg = 2 * (8 * (hob s1_ (aA (A K))) + (aB (A K))) + 1 from by have := ic_clN (rfl : r_47.toInt = _) (by omega); show 2 * r_47.toNatClampNeg + 1 = _; omega] at hI
        have hI : FM G h n T z A hg ver (cqL c0q (sTc (sBd s1_ (hob s1_ (aA (A K))) (setC (bdS s1_ (hob s1_ (aA (A K)))) (aB (A K)) y_57)) (2 * (8 * (hob s1_ (aA (A K))) + (aB (A K))) + 1))) (feL fe0 c0q (sTc (sBd s1_ (hob s1_ (aA (A K))) (setC (bdS s1_ (hob s1_ (aA (A K)))) (aB (A K)) y_57)) (2 * (8 * (hob s1_ (aA (A K))) + (aB (A K))) + 1))) tms ca wl wh ac 0 sx (sTc (sBd s1_ (hob s1_ (aA (A K))) (setC (bdS s1_ (hob s1_ (aA (A K)))) (aB (A K)) y_57)) (2 * (8 * (hob s1_ (aA (A K))) + (aB (A K))) + 1)) f_64 := hI
        obtain ⟨I_66, J_66, hM, hR, hac_66, hth_66⟩ := hI
        have hg_66 := hR.hg40
        have n24_66 := hR.n24
        have tl_66 := len_b hR.ok.2.2.1
        have wl_66 := hR.wl192
        have hgI_66 : (nI hg).toInt = ((hg : Nat) : Int) := nI_toInt (by omega)
        have tmI_66 : (nI ((trS (sTc (sBd s1_ (hob s1_ (aA (A K))) (setC (bdS s1_ (hob s1_ (aA (A K)))) (aB (A K)) y_57)) (2 * (8 * (hob s1_ (aA (A K))) + (aB (A K))) + 1))).length)).toInt = (((trS (sTc (sBd s1_ (hob s1_ (aA (A K))) (setC (bdS s1_ (hob s1_ (aA (A K)))) (aB (A K)) y_57)) (2 * (8 * (hob s1_ (aA (A K))) + (aB (A K))) + 1))).length : Nat) : Int) := nI_toInt (by omega)
        have wmI_66 : (nI wl.length).toInt = ((wl.length : Nat) : Int) := nI_toInt (by omega)
        have acI_66 : (nI ac).toInt = ((ac : Nat) : Int) := nI_toInt (by omega)
        have thI_66 : (nI 0).toInt = ((0 : Nat) : Int) := nI_toInt (by omega)
        have nIn_66 : (nI n).toInt = ((n : Nat) : Int) := nI_toInt (by omega)
        refine lv_goto (tgt := 317) hx hb dX6_fieldActs_163 (by decide) ?_
        exact m_vret hx hb hr hlk hC hH (fun _ => (0, 0)) ⟨hfr, by rw [prf_5 eκ]; rw [show pPut T σ (aA (A K)) (aB (A K)) 1 (vaS σ (aC (A K))) = (0, (sTc (sBd s1_ (hob s1_ (aA (A K))) (setC (bdS s1_ (hob s1_ (aA (A K)))) (aB (A K)) y_57)) (2 * (8 * (hob s1_ (aA (A K))) + (aB (A K))) + 1))) from (thn_0 a01).trans (by rw [← es1_, fv_]; rfl)]; exact ⟨_, _, hM, hR, hac_66, hth_66⟩⟩ (Nat.le_of_ble_eq_true rfl) (Nat.le_of_ble_eq_true rfl) dX6_fieldActs_317
    · skip
      have rv1 := hr_47.2 a01
      have hI : FM G h n T z A hg ver (cqL c0q ((ask T σ (aA (A K)) (aB (A K)) 1).2)) (feL fe0 c0q ((ask T σ (aA (A K)) (aB (A K)) 1).2)) tms ca wl wh ac ((ask T σ (aA (A K)) (aB (A K)) 1).1) sx ((ask T σ (aA (A K)) (aB (A K)) 1).2) f_48 := hI
      obtain ⟨I_67, J_67, hM, hR, hac_67, hth_67⟩ := hI
      have hg_67 := hR.hg40
      have n24_67 := hR.n24
      have tl_67 := len_b hR.ok.2.2.1
      have wl_67 := hR.wl192
      have hgI_67 : (nI hg).toInt = ((hg : Nat) : Int) := nI_toInt (by omega)
      have tmI_67 : (nI ((trS ((ask T σ (aA (A K)) (aB (A K)) 1).2)).length)).toInt = (((trS ((ask T σ (aA (A K)) (aB (A K)) 1).2)).length : Nat) : Int) := nI_toInt (by omega)
      have wmI_67 : (nI wl.length).toInt = ((wl.length : Nat) : Int) := nI_toInt (by omega)
      have acI_67 : (nI ac).toInt = ((ac : Nat) : Int) := nI_toInt (by omega)
      have thI_67 : (nI ((ask T σ (aA (A K)) (aB (A K)) 1).1)).toInt = (((ask T σ (aA (A K)) (aB (A K)) 1).1 : Nat) : Int) := nI_toInt (by omega)
      have nIn_67 : (nI n).toInt = ((n : Nat) : Int) := nI_toInt (by omega)
      refine lv_istore (lv' := [(6, .int r_47), (5, .int x_8), (3, .long y_6), (2, .int x_4), (0, .ref (h 0)), (1, .int kk)]) hx hb dX6_fieldActs_132 hl (by decide) rfl (fun ls hl => ?_)
      refine lv_iload hx hb dX6_fieldActs_134 (lv_at hl 0 rfl) ?_
      refine lv_if_lt (tgt := 317) hx hb dX6_fieldActs_136 (by decide) (fun c_68 => ?_) (fun c_68 => ?_)
      · skip
        have ic_68 : (r_47.toInt : Int) < 0 := ic_lt rfl kI_0 c_68
        exact m_vret hx hb hr hlk hC hH (fun _ => (0, 0)) ⟨hfr, by rw [prf_5 eκ]; rw [show pPut T σ (aA (A K)) (aB (A K)) 1 (vaS σ (aC (A K))) = (ask T σ (aA (A K)) (aB (A K)) 1) from thn_1 a01]; exact ⟨_, _, hM, hR, hac_67, hth_67⟩⟩ (Nat.le_of_ble_eq_true rfl) (Nat.le_of_ble_eq_true rfl) dX6_fieldActs_317
      · skip
        have ic_68 : (r_47.toInt : Int) ≥ 0 := ic_nlt rfl kI_0 c_68
        omega
  · skip
    have hv_ : κ = 6 := by omega
    subst hv_
    have g0_ := fit_get (m := 3) rfl (by decide) kI_3 f0_
    have nA_ : (aA (A K)) < 4 := (show (A K).2.1.toInt.toNat < 4 from (by omega))
    have g1_ := fit_get (m := 3) rfl (by decide) kI_3 f1_
    have nB_ : (aB (A K)) < 4 := (show (A K).2.2.1.toInt.toNat < 4 from (by omega))
    have g2_ := fit_get (m := 7) rfl (by decide) kI_7 f2_
    have nC_ : (aC (A K)) < 8 := (show (A K).2.2.2.1.toInt.toNat < 8 from (by omega))
    have jk_11 : x_10.toInt = 6 := hk_11
    refine lv_tableIn (off := 138) (tgt := 166) hx hb dX6_fieldActs_28 (by rw [jk_11]; decide) (by rw [jk_11]; decide) (by rw [jk_11]; rfl) (by decide) ?_
    refine lv_aload_n hx hb dX6_fieldActs_166 rfl (lv_at hl 3 rfl) ?_
    refine lv_lload_n hx hb dX6_fieldActs_167 rfl (lv_at hl 1 rfl) ?_
    refine lv_l2i hx hb dX6_fieldActs_168 rfl ?_
    refine lv_topi (fun x_69 ex_69 => ?_)
    have ix_69 : x_69.toInt = y_6.toInt := ic_l2i ex_69 rfl (by omega) (by omega)
    refine lv_iload hx hb dX6_fieldActs_169 (lv_at hl 0 rfl) ?_
    refine lv_i2l hx hb dX6_fieldActs_171 rfl ?_
    refine lv_topl (fun y_70 ey_70 => ?_)
    have iy_70 : y_70.toInt = x_8.toInt := lc_i2l ey_70 rfl
    have gy_70 := ic_rng x_8
    refine lv_iconst (v := 1) hx hb dX6_fieldActs_172 (by decide) ?_
    have hI : FM G h n T z A hg ver (cqL c0q σ) (feL fe0 c0q σ) tms ca wl wh ac 0 sx σ f := ⟨_, _, hM, hR, hac_1, hth_1⟩
    refine m_goi hH (va_runV (As := [.int x_69, .long y_70, .int 1]) (rest := []) ⟨hx, hb, hml, hown, hts⟩ (c_X6_readLeaf l G h n T z A hg ver c0q fe0 tms ca wl wh ac sx σ f hI hn0 x_69 y_70 1 (by have := kI_1; omega) (by have := kI_1; omega) (by have := kI_1; omega)) (cwV 3 hts gX6_fieldActs_X6_readLeaf rfl rfl rfl (by decide +kernel) ⟨Nat.le_of_ble_eq_true rfl, Nat.le_of_ble_eq_true rfl⟩) (m_preV (ci := 6) hC hH F_2 rfl) rfl rfl hl.1 rfl (lv_room (Nat.le_of_ble_eq_true rfl)) dX6_fieldActs_173 ⟨Nat.le_of_ble_eq_true rfl, Nat.le_of_ble_eq_true rfl⟩) (fun r_71 rho_73 f_72 H locs hw hH => ?_)
    obtain ⟨hfr1, hI, hr_71⟩ := hw
    have hfr1 : frM h f f_72 := hfr1
    have hfr := hfr.trans hfr1
    have hI : FM G h n T z A hg ver (cqL c0q ((thn (ask T σ x_69.toNatClampNeg y_70.toInt.toNat ((1 : Int32).toNatClampNeg + 1)) (fun s1 => (0, rdL s1 x_69.toNatClampNeg y_70.toInt.toNat))).2)) (feL fe0 c0q ((thn (ask T σ x_69.toNatClampNeg y_70.toInt.toNat ((1 : Int32).toNatClampNeg + 1)) (fun s1 => (0, rdL s1 x_69.toNatClampNeg y_70.toInt.toNat))).2)) tms ca wl wh ac ((ask T σ x_69.toNatClampNeg y_70.toInt.toNat ((1 : Int32).toNatClampNeg + 1)).1) sx ((thn (ask T σ x_69.toNatClampNeg y_70.toInt.toNat ((1 : Int32).toNatClampNeg + 1)) (fun s1 => (0, rdL s1 x_69.toNatClampNeg y_70.toInt.toNat))).2) f_72 := hI
    try dsimp only at hr_71
    rw [(show x_69.toNatClampNeg = (aB (A K)) from (by show x_69.toInt.toNat = (A K).2.2.1.toInt.toNat; omega)), (show y_70.toInt.toNat = (aC (A K)) from (by show y_70.toInt.toNat = (A K).2.2.2.1.toInt.toNat; omega)), (show (1 : Int32).toNatClampNeg + 1 = 2 from rfl)] at hI hr_71
    by_cases a01 : (ask T σ (aB (A K)) (aC (A K)) 2).1 = 0
    · skip
      have rv1 := hr_71.1 a01
      obtain ⟨au11, au21, au31, au41, au51⟩ := ask_use hR.ok (by omega) a01
      have eho1 : hob σ (aB (A K)) = hob (ask T σ (aB (A K)) (aC (A K)) 2).2 (aB (A K)) := hob_ask.symm
      rw [eho1] at rv1
      rw [thn_0 a01] at hI
      have hI : FM G h n T z A hg ver (cqL c0q (rdL (ask T σ (aB (A K)) (aC (A K)) 2).2 (aB (A K)) (aC (A K)))) (feL fe0 c0q (rdL (ask T σ (aB (A K)) (aC (A K)) 2).2 (aB (A K)) (aC (A K)))) tms ca wl wh ac ((ask T σ (aB (A K)) (aC (A K)) 2).1) sx (rdL (ask T σ (aB (A K)) (aC (A K)) 2).2 (aB (A K)) (aC (A K))) f_72 := hI
      rw [a01] at hI
      obtain ⟨s1_, es1_⟩ : ∃ zs_ : tS, zs_ = (ask T σ (aB (A K)) (aC (A K)) 2).2 := ⟨_, rfl⟩
      rw [← es1_] at hI au11 au21 au31 au41 au51 rv1
      have hI : FM G h n T z A hg ver (cqL c0q (rdL s1_ (aB (A K)) (aC (A K)))) (feL fe0 c0q (rdL s1_ (aB (A K)) (aC (A K)))) tms ca wl wh ac 0 sx (rdL s1_ (aB (A K)) (aC (A K))) f_72 := hI
      obtain ⟨I_74, J_74, hM, hR, hac_74, hth_74⟩ := hI
      have hg_74 := hR.hg40
      have n24_74 := hR.n24
      have tl_74 := len_b hR.ok.2.2.1
      have wl_74 := hR.wl192
      have hgI_74 : (nI hg).toInt = ((hg : Nat) : Int) := nI_toInt (by omega)
      have tmI_74 : (nI ((trS (rdL s1_ (aB (A K)) (aC (A K)))).length)).toInt = (((trS (rdL s1_ (aB (A K)) (aC (A K)))).length : Nat) : Int) := nI_toInt (by omega)
      have wmI_74 : (nI wl.length).toInt = ((wl.length : Nat) : Int) := nI_toInt (by omega)
      have acI_74 : (nI ac).toInt = ((ac : Nat) : Int) := nI_toInt (by omega)
      have thI_74 : (nI 0).toInt = ((0 : Nat) : Int) := nI_toInt (by omega)
      have nIn_74 : (nI n).toInt = ((n : Nat) : Int) := nI_toInt (by omega)
      refine lv_istore (lv' := [(6, .int r_71), (5, .int x_8), (3, .long y_6), (2, .int x_4), (0, .ref (h 0)), (1, .int kk)]) hx hb dX6_fieldActs_176 hl (by decide) rfl (fun ls hl => ?_)
      refine lv_aload_n hx hb dX6_fieldActs_178 rfl (lv_at hl 4 rfl) ?_
      have F_75 : f_72 (h 0) = some (.inr (6, [.int (nI n), .ref (h 1), .int (nI hg), .ref (h 3), .ref (h 4), .ref (h 5), .ref (h 6), .int (feL fe0 c0q (rdL s1_ (aB (A K)) (aC (A K)))), .ref (h 8), .ref (h 9), .ref (h 10), .ref (h 11), .ref (h 12), .ref (h 13), .ref (h 14), .ref (h 15), .int ca, .long (gfS (rdL s1_ (aB (A K)) (aC (A K)))), .int wh, .int (nI ((trS (rdL s1_ (aB (A K)) (aC (A K)))).length)), .ref (h 20), .ref (h 21), .int (nI wl.length), .ref (h 23), .ref (h 24), .int (nI ac), .ref (h 26), .ref (h 27), .int (nI 0), .int sx])) := hM.1
      refine m_get (ci := 6) (v := .ref (h 26)) (C := RX6) (T := TX6) (N := 30) hx hb hC hH hts in_X6_fieldActs_X6 hown F_75 rfl 26 (by decide) (hts (.fieldLink RX6 68 "LazyStateModel" "handles" "[I") (by decide +kernel)) rfl dX6_fieldActs_179 ?_
      refine lv_iload_n hx hb dX6_fieldActs_182 rfl (lv_at hl 3 rfl) ?_
      refine lv_iload hx hb dX6_fieldActs_183 (lv_at hl 0 rfl) ?_
      refine lv_if_ge (tgt := 197) hx hb dX6_fieldActs_185 (by decide) (fun c_76 => ?_) (fun c_76 => ?_)
      · skip
        have ic_76 : (0 : Int) ≤ r_71.toInt := ic_le kI_0 rfl c_76
        refine lv_aload_n hx hb dX6_fieldActs_197 rfl (lv_at hl 4 rfl) ?_
        refine m_get (ci := 6) (v := .ref (h 3)) (C := RX6) (T := TX6) (N := 30) hx hb hC hH hts in_X6_fieldActs_X6 hown F_75 rfl 3 (by decide) (hts (.fieldLink RX6 13 "LazyStateModel" "numbers" "[J") (by decide +kernel)) rfl dX6_fieldActs_198 ?_
        refine lv_iload hx hb dX6_fieldActs_201 (lv_at hl 0 rfl) ?_
        refine m_goi hH (va_runS (As := [.int r_71]) (rest := [.ref (h 3), .int x_4, .ref (h 26)]) ⟨hx, hb, hml, hown, hts⟩ (c_X6_at l G f_72 r_71 (by exact ⟨by omega, by omega⟩)) (va_cwS 1 hts gX6_fieldActs_X6_at rfl rfl rfl (by decide +kernel) ⟨Nat.le_of_ble_eq_true rfl, Nat.le_of_ble_eq_true rfl⟩) (m_preS hC hH) rfl rfl hl.1 rfl (lv_room (Nat.le_of_ble_eq_true rfl)) dX6_fieldActs_203 ⟨Nat.le_of_ble_eq_true rfl, Nat.le_of_ble_eq_true rfl⟩) (fun r_77 rho_79 f_78 H locs hw hH => ?_)
        obtain ⟨hu, hr_77⟩ := hw
        have hu : f_78 = f_72 := hu
        rw [hu] at hH
        have hg_80 : f_72 (h 3) = some (.inl (gk G 1, 8064, .inr (.inl (J_74 3)))) := hM.2.2.1 3 (by decide) rfl
        refine m_lald hx hb hC hH hg_80 (vp_in_iff.mpr ⟨by omega, by omega⟩) dX6_fieldActs_206 ?_
        refine lv_topl (fun y_81 ey_81 => ?_)
        have nn_82 : r_77.toNatClampNeg = 192 * 41 + 8 * (hob s1_ (aB (A K))) + (aC (A K)) := by have := ic_clN (rfl : r_77.toInt = _) (by omega); omega
        have nu_ : y_81 = (bdS s1_ (hob s1_ (aB (A K)))).1 (aC (A K)) := by rw [ey_81, nn_82]; exact hR.gnu au21 (by omega) (by rw [au31]; decide)
        refine lv_l2i hx hb dX6_fieldActs_207 rfl ?_
        refine lv_topi (fun x_83 ex_83 => ?_)
        have fv_ : x_83 = ((bdS s1_ (hob s1_ (aB (A K)))).1 (aC (A K))).toInt32 := by rw [ex_83, nu_]
        have lk_ := (au51 (aC (A K)) (by omega)).2.1 au31
        rw [← nu_] at lk_
        have hok_ : okHa n x_83 := by unfold okHa; have q_ : x_83.toInt = y_81.toInt := ic_l2i ex_83 rfl (by omega) (by omega); omega
        have hg_84 : f_72 (h 26) = some (.inl (gk G 0, 4, .inl (I_74 26))) := hM.2.1 26 (by decide) rfl
        refine m_iast hx hb hC hH hg_84 (vp_in_iff.mpr ⟨by omega, by omega⟩) dX6_fieldActs_208 (fun H locs hH => ?_)
        obtain ⟨f_85, ef_85⟩ : ∃ zz_ : mF, zz_ = va_up f_72 (h 26) (some (.inl (gk G 0, 4, .inl (upd (I_74 26) x_4.toNatClampNeg x_83)))) := ⟨_, rfl⟩
        rw [← ef_85] at hH
        have hM : MEM G h n (nI hg, (feL fe0 c0q (rdL s1_ (aB (A K)) (aC (A K)))), ca, (gfS (rdL s1_ (aB (A K)) (aC (A K)))), wh, nI ((trS (rdL s1_ (aB (A K)) (aC (A K)))).length), nI wl.length, nI ac, nI 0, sx) (va_up I_74 26 (upd (I_74 26) x_4.toNatClampNeg x_83)) J_74 f_85 := hM.setI 26 (by decide) rfl ef_85
        have hfr := hfr.up 26 (by decide) ef_85
        rw [(show x_4.toNatClampNeg = (aA (A K)) from (by show x_4.toInt.toNat = (A K).2.1.toInt.toNat; omega))] at hM
        have hR := hR.ha hn0 (aA (A K)) (v := x_83) hok_
        refine lv_goto (tgt := 317) hx hb dX6_fieldActs_209 (by decide) ?_
        exact m_vret hx hb hr hlk hC hH (fun _ => (0, 0)) ⟨hfr, by rw [prf_6 eκ]; rw [show pFol T σ (aA (A K)) (aB (A K)) (aC (A K)) = (0, sHa (rdL s1_ (aB (A K)) (aC (A K))) (aA (A K)) x_83) from (thn_0 a01).trans (by rw [← es1_, fv_])]; exact ⟨_, _, hM, hR, hac_74, hth_74⟩⟩ (Nat.le_of_ble_eq_true rfl) (Nat.le_of_ble_eq_true rfl) dX6_fieldActs_317
      · skip
        have ic_76 : (0 : Int) > r_71.toInt := ic_nle kI_0 rfl c_76
        omega
    · skip
      have rv1 := hr_71.2 a01
      rw [thn_1 a01] at hI
      have hI : FM G h n T z A hg ver (cqL c0q ((ask T σ (aB (A K)) (aC (A K)) 2).2)) (feL fe0 c0q ((ask T σ (aB (A K)) (aC (A K)) 2).2)) tms ca wl wh ac ((ask T σ (aB (A K)) (aC (A K)) 2).1) sx ((ask T σ (aB (A K)) (aC (A K)) 2).2) f_72 := hI
      obtain ⟨I_86, J_86, hM, hR, hac_86, hth_86⟩ := hI
      have hg_86 := hR.hg40
      have n24_86 := hR.n24
      have tl_86 := len_b hR.ok.2.2.1
      have wl_86 := hR.wl192
      have hgI_86 : (nI hg).toInt = ((hg : Nat) : Int) := nI_toInt (by omega)
      have tmI_86 : (nI ((trS ((ask T σ (aB (A K)) (aC (A K)) 2).2)).length)).toInt = (((trS ((ask T σ (aB (A K)) (aC (A K)) 2).2)).length : Nat) : Int) := nI_toInt (by omega)
      have wmI_86 : (nI wl.length).toInt = ((wl.length : Nat) : Int) := nI_toInt (by omega)
      have acI_86 : (nI ac).toInt = ((ac : Nat) : Int) := nI_toInt (by omega)
      have thI_86 : (nI ((ask T σ (aB (A K)) (aC (A K)) 2).1)).toInt = (((ask T σ (aB (A K)) (aC (A K)) 2).1 : Nat) : Int) := nI_toInt (by omega)
      have nIn_86 : (nI n).toInt = ((n : Nat) : Int) := nI_toInt (by omega)
      refine lv_istore (lv' := [(6, .int r_71), (5, .int x_8), (3, .long y_6), (2, .int x_4), (0, .ref (h 0)), (1, .int kk)]) hx hb dX6_fieldActs_176 hl (by decide) rfl (fun ls hl => ?_)
      refine lv_aload_n hx hb dX6_fieldActs_178 rfl (lv_at hl 4 rfl) ?_
      have F_87 : f_72 (h 0) = some (.inr (6, [.int (nI n), .ref (h 1), .int (nI hg), .ref (h 3), .ref (h 4), .ref (h 5), .ref (h 6), .int (feL fe0 c0q ((ask T σ (aB (A K)) (aC (A K)) 2).2)), .ref (h 8), .ref (h 9), .ref (h 10), .ref (h 11), .ref (h 12), .ref (h 13), .ref (h 14), .ref (h 15), .int ca, .long (gfS ((ask T σ (aB (A K)) (aC (A K)) 2).2)), .int wh, .int (nI ((trS ((ask T σ (aB (A K)) (aC (A K)) 2).2)).length)), .ref (h 20), .ref (h 21), .int (nI wl.length), .ref (h 23), .ref (h 24), .int (nI ac), .ref (h 26), .ref (h 27), .int (nI ((ask T σ (aB (A K)) (aC (A K)) 2).1)), .int sx])) := hM.1
      refine m_get (ci := 6) (v := .ref (h 26)) (C := RX6) (T := TX6) (N := 30) hx hb hC hH hts in_X6_fieldActs_X6 hown F_87 rfl 26 (by decide) (hts (.fieldLink RX6 68 "LazyStateModel" "handles" "[I") (by decide +kernel)) rfl dX6_fieldActs_179 ?_
      refine lv_iload_n hx hb dX6_fieldActs_182 rfl (lv_at hl 3 rfl) ?_
      refine lv_iload hx hb dX6_fieldActs_183 (lv_at hl 0 rfl) ?_
      refine lv_if_ge (tgt := 197) hx hb dX6_fieldActs_185 (by decide) (fun c_88 => ?_) (fun c_88 => ?_)
      · skip
        have ic_88 : (0 : Int) ≤ r_71.toInt := ic_le kI_0 rfl c_88
        omega
      · skip
        have ic_88 : (0 : Int) > r_71.toInt := ic_nle kI_0 rfl c_88
        refine lv_aload_n hx hb dX6_fieldActs_188 rfl (lv_at hl 4 rfl) ?_
        refine m_get (ci := 6) (v := .ref (h 26)) (C := RX6) (T := TX6) (N := 30) hx hb hC hH hts in_X6_fieldActs_X6 hown F_87 rfl 26 (by decide) (hts (.fieldLink RX6 68 "LazyStateModel" "handles" "[I") (by decide +kernel)) rfl dX6_fieldActs_189 ?_
        refine lv_iload_n hx hb dX6_fieldActs_192 rfl (lv_at hl 3 rfl) ?_
        have hg_89 : f_72 (h 26) = some (.inl (gk G 0, 4, .inl (I_86 26))) := hM.2.1 26 (by decide) rfl
        refine m_iald hx hb hC hH hg_89 (vp_in_iff.mpr ⟨by omega, by omega⟩) dX6_fieldActs_193 ?_
        refine lv_topi (fun x_90 ex_90 => ?_)
        have vx_90 : x_90 = haS ((ask T σ (aB (A K)) (aC (A K)) 2).2) (aA (A K)) := by rw [ex_90, (show x_4.toNatClampNeg = (aA (A K)) from (by show x_4.toInt.toNat = (A K).2.1.toInt.toNat; omega))]; exact hR.haI hn0 (show (A K).2.1.toInt.toNat < 4 from by omega)
        refine lv_goto (tgt := 208) hx hb dX6_fieldActs_194 (by decide) ?_
        refine m_iast hx hb hC hH hg_89 (vp_in_iff.mpr ⟨by omega, by omega⟩) dX6_fieldActs_208 (fun H locs hH => ?_)
        obtain ⟨f_91, ef_91⟩ : ∃ zz_ : mF, zz_ = va_up f_72 (h 26) (some (.inl (gk G 0, 4, .inl (upd (I_86 26) x_4.toNatClampNeg x_90)))) := ⟨_, rfl⟩
        rw [← ef_91] at hH
        have hM : MEM G h n (nI hg, (feL fe0 c0q ((ask T σ (aB (A K)) (aC (A K)) 2).2)), ca, (gfS ((ask T σ (aB (A K)) (aC (A K)) 2).2)), wh, nI ((trS ((ask T σ (aB (A K)) (aC (A K)) 2).2)).length), nI wl.length, nI ac, nI ((ask T σ (aB (A K)) (aC (A K)) 2).1), sx) (va_up I_86 26 (upd (I_86 26) x_4.toNatClampNeg x_90)) J_86 f_91 := hM.setI 26 (by decide) rfl ef_91
        have hfr := hfr.up 26 (by decide) ef_91
        rw [(show x_4.toNatClampNeg = (aA (A K)) from (by show x_4.toInt.toNat = (A K).2.1.toInt.toNat; omega)), vx_90] at hM
        have hR := hR.ha hn0 (aA (A K)) (v := haS ((ask T σ (aB (A K)) (aC (A K)) 2).2) (aA (A K))) (hR.ok.2.1 _ (show (A K).2.1.toInt.toNat < 4 from by omega))
        rw [sHa_id] at hR
        refine lv_goto (tgt := 317) hx hb dX6_fieldActs_209 (by decide) ?_
        exact m_vret hx hb hr hlk hC hH (fun _ => (0, 0)) ⟨hfr, by rw [prf_6 eκ]; rw [show pFol T σ (aA (A K)) (aB (A K)) (aC (A K)) = (ask T σ (aB (A K)) (aC (A K)) 2) from thn_1 a01]; exact ⟨_, _, hM, hR, hac_86, hth_86⟩⟩ (Nat.le_of_ble_eq_true rfl) (Nat.le_of_ble_eq_true rfl) dX6_fieldActs_317
  · skip
    have hv_ : κ = 7 := by omega
    subst hv_
    have g0_ := fit_get (m := 3) rfl (by decide) kI_3 f0_
    have nA_ : (aA (A K)) < 4 := (show (A K).2.1.toInt.toNat < 4 from (by omega))
    have g1_ := fit_get (m := 7) rfl (by decide) kI_7 f1_
    have nB_ : (aB (A K)) < 8 := (show (A K).2.2.1.toInt.toNat < 8 from (by omega))
    have g2_ := fit_get (m := 3) rfl (by decide) kI_3 f2_
    have nC_ : (aC (A K)) < 4 := (show (A K).2.2.2.1.toInt.toNat < 4 from (by omega))
    have jk_11 : x_10.toInt = 7 := hk_11
    refine lv_tableIn (off := 184) (tgt := 212) hx hb dX6_fieldActs_28 (by rw [jk_11]; decide) (by rw [jk_11]; decide) (by rw [jk_11]; rfl) (by decide) ?_
    refine lv_aload_n hx hb dX6_fieldActs_212 rfl (lv_at hl 3 rfl) ?_
    refine lv_iload_n hx hb dX6_fieldActs_213 rfl (lv_at hl 2 rfl) ?_
    refine lv_lload_n hx hb dX6_fieldActs_214 rfl (lv_at hl 1 rfl) ?_
    refine lv_iconst (v := 1) hx hb dX6_fieldActs_215 (by decide) ?_
    have hI : FM G h n T z A hg ver (cqL c0q σ) (feL fe0 c0q σ) tms ca wl wh ac 0 sx σ f := ⟨_, _, hM, hR, hac_1, hth_1⟩
    refine m_goi hH (va_runV (As := [.int x_4, .long y_6, .int 1]) (rest := []) ⟨hx, hb, hml, hown, hts⟩ (c_X6_leafOf l G h n T z A hg ver c0q fe0 tms ca wl wh ac sx σ f hI hn0 x_4 y_6 1 (by have := kI_1; omega) (by have := kI_1; omega) (by have := kI_1; omega)) (cwV 3 hts gX6_fieldActs_X6_leafOf rfl rfl rfl (by decide +kernel) ⟨Nat.le_of_ble_eq_true rfl, Nat.le_of_ble_eq_true rfl⟩) (m_preV (ci := 6) hC hH F_2 rfl) rfl rfl hl.1 rfl (lv_room (Nat.le_of_ble_eq_true rfl)) dX6_fieldActs_216 ⟨Nat.le_of_ble_eq_true rfl, Nat.le_of_ble_eq_true rfl⟩) (fun r_92 rho_94 f_93 H locs hw hH => ?_)
    obtain ⟨hfr1, hI, hr_92⟩ := hw
    have hfr1 : frM h f f_93 := hfr1
    have hfr := hfr.trans hfr1
    have hI : FM G h n T z A hg ver (cqL c0q ((ask T σ x_4.toNatClampNeg y_6.toInt.toNat ((1 : Int32).toNatClampNeg + 1)).2)) (feL fe0 c0q ((ask T σ x_4.toNatClampNeg y_6.toInt.toNat ((1 : Int32).toNatClampNeg + 1)).2)) tms ca wl wh ac ((ask T σ x_4.toNatClampNeg y_6.toInt.toNat ((1 : Int32).toNatClampNeg + 1)).1) sx ((ask T σ x_4.toNatClampNeg y_6.toInt.toNat ((1 : Int32).toNatClampNeg + 1)).2) f_93 := hI
    try dsimp only at hr_92
    rw [(show x_4.toNatClampNeg = (aA (A K)) from (by show x_4.toInt.toNat = (A K).2.1.toInt.toNat; omega)), (show y_6.toInt.toNat = (aB (A K)) from (by show y_6.toInt.toNat = (A K).2.2.1.toInt.toNat; omega)), (show (1 : Int32).toNatClampNeg + 1 = 2 from rfl)] at hI hr_92
    by_cases a01 : (ask T σ (aA (A K)) (aB (A K)) 2).1 = 0
    · skip
      have rv1 := hr_92.1 a01
      obtain ⟨au11, au21, au31, au41, au51⟩ := ask_use hR.ok (by omega) a01
      have eho1 : hob σ (aA (A K)) = hob (ask T σ (aA (A K)) (aB (A K)) 2).2 (aA (A K)) := hob_ask.symm
      rw [eho1] at rv1
      have hI : FM G h n T z A hg ver (cqL c0q ((ask T σ (aA (A K)) (aB (A K)) 2).2)) (feL fe0 c0q ((ask T σ (aA (A K)) (aB (A K)) 2).2)) tms ca wl wh ac ((ask T σ (aA (A K)) (aB (A K)) 2).1) sx ((ask T σ (aA (A K)) (aB (A K)) 2).2) f_93 := hI
      rw [a01] at hI
      obtain ⟨s1_, es1_⟩ : ∃ zs_ : tS, zs_ = (ask T σ (aA (A K)) (aB (A K)) 2).2 := ⟨_, rfl⟩
      rw [← es1_] at hI au11 au21 au31 au41 au51 rv1
      have hI : FM G h n T z A hg ver (cqL c0q s1_) (feL fe0 c0q s1_) tms ca wl wh ac 0 sx s1_ f_93 := hI
      obtain ⟨I_95, J_95, hM, hR, hac_95, hth_95⟩ := hI
      have hg_95 := hR.hg40
      have n24_95 := hR.n24
      have tl_95 := len_b hR.ok.2.2.1
      have wl_95 := hR.wl192
      have hgI_95 : (nI hg).toInt = ((hg : Nat) : Int) := nI_toInt (by omega)
      have tmI_95 : (nI ((trS s1_).length)).toInt = (((trS s1_).length : Nat) : Int) := nI_toInt (by omega)
      have wmI_95 : (nI wl.length).toInt = ((wl.length : Nat) : Int) := nI_toInt (by omega)
      have acI_95 : (nI ac).toInt = ((ac : Nat) : Int) := nI_toInt (by omega)
      have thI_95 : (nI 0).toInt = ((0 : Nat) : Int) := nI_toInt (by omega)
      have nIn_95 : (nI n).toInt = ((n : Nat) : Int) := nI_toInt (by omega)
      refine lv_istore (lv' := [(6, .int r_92), (5, .int x_8), (3, .long y_6), (2, .int x_4), (0, .ref (h 0)), (1, .int kk)]) hx hb dX6_fieldActs_219 hl (by decide) rfl (fun ls hl => ?_)
      refine lv_iload hx hb dX6_fieldActs_221 (lv_at hl 0 rfl) ?_
      refine lv_if_lt (tgt := 317) hx hb dX6_fieldActs_223 (by decide) (fun c_96 => ?_) (fun c_96 => ?_)
      · skip
        have ic_96 : (r_92.toInt : Int) < 0 := ic_lt rfl kI_0 c_96
        omega
      · skip
        have ic_96 : (r_92.toInt : Int) ≥ 0 := ic_nlt rfl kI_0 c_96
        refine lv_aload_n hx hb dX6_fieldActs_226 rfl (lv_at hl 4 rfl) ?_
        have F_97 : f_93 (h 0) = some (.inr (6, [.int (nI n), .ref (h 1), .int (nI hg), .ref (h 3), .ref (h 4), .ref (h 5), .ref (h 6), .int (feL fe0 c0q s1_), .ref (h 8), .ref (h 9), .ref (h 10), .ref (h 11), .ref (h 12), .ref (h 13), .ref (h 14), .ref (h 15), .int ca, .long (gfS s1_), .int wh, .int (nI ((trS s1_).length)), .ref (h 20), .ref (h 21), .int (nI wl.length), .ref (h 23), .ref (h 24), .int (nI ac), .ref (h 26), .ref (h 27), .int (nI 0), .int sx])) := hM.1
        refine m_get (ci := 6) (v := .ref (h 3)) (C := RX6) (T := TX6) (N := 30) hx hb hC hH hts in_X6_fieldActs_X6 hown F_97 rfl 3 (by decide) (hts (.fieldLink RX6 13 "LazyStateModel" "numbers" "[J") (by decide +kernel)) rfl dX6_fieldActs_227 ?_
        refine lv_iload hx hb dX6_fieldActs_230 (lv_at hl 0 rfl) ?_
        refine m_goi hH (va_runS (As := [.int r_92]) (rest := [.ref (h 3)]) ⟨hx, hb, hml, hown, hts⟩ (c_X6_at l G f_93 r_92 (by exact ⟨by omega, by omega⟩)) (va_cwS 1 hts gX6_fieldActs_X6_at rfl rfl rfl (by decide +kernel) ⟨Nat.le_of_ble_eq_true rfl, Nat.le_of_ble_eq_true rfl⟩) (m_preS hC hH) rfl rfl hl.1 rfl (lv_room (Nat.le_of_ble_eq_true rfl)) dX6_fieldActs_232 ⟨Nat.le_of_ble_eq_true rfl, Nat.le_of_ble_eq_true rfl⟩) (fun r_98 rho_100 f_99 H locs hw hH => ?_)
        obtain ⟨hu, hr_98⟩ := hw
        have hu : f_99 = f_93 := hu
        rw [hu] at hH
        refine lv_aload_n hx hb dX6_fieldActs_235 rfl (lv_at hl 4 rfl) ?_
        refine m_get (ci := 6) (v := .ref (h 26)) (C := RX6) (T := TX6) (N := 30) hx hb hC hH hts in_X6_fieldActs_X6 hown F_97 rfl 26 (by decide) (hts (.fieldLink RX6 68 "LazyStateModel" "handles" "[I") (by decide +kernel)) rfl dX6_fieldActs_236 ?_
        refine lv_iload hx hb dX6_fieldActs_239 (lv_at hl 1 rfl) ?_
        have hg_101 : f_93 (h 26) = some (.inl (gk G 0, 4, .inl (I_95 26))) := hM.2.1 26 (by decide) rfl
        refine m_iald hx hb hC hH hg_101 (vp_in_iff.mpr ⟨by omega, by omega⟩) dX6_fieldActs_241 ?_
        refine lv_topi (fun x_102 ex_102 => ?_)
        have vx_102 : x_102 = haS s1_ (aC (A K)) := by rw [ex_102, (show x_8.toNatClampNeg = (aC (A K)) from (by show x_8.toInt.toNat = (A K).2.2.2.1.toInt.toNat; omega))]; exact hR.haI hn0 (show (A K).2.2.2.1.toInt.toNat < 4 from by omega)
        have okx_102 := hR.ok.2.1 (aC (A K)) (show (A K).2.2.2.1.toInt.toNat < 4 from by omega)
        rw [← vx_102] at okx_102
        unfold okHa at okx_102
        refine lv_i2l hx hb dX6_fieldActs_242 rfl ?_
        refine lv_topl (fun y_103 ey_103 => ?_)
        have iy_103 : y_103.toInt = x_102.toInt := lc_i2l ey_103 rfl
        have gy_103 := ic_rng x_102
        have hg_104 : f_93 (h 3) = some (.inl (gk G 1, 8064, .inr (.inl (J_95 3)))) := hM.2.2.1 3 (by decide) rfl
        refine m_last hx hb hC hH hg_104 (vp_in_iff.mpr ⟨by omega, by omega⟩) dX6_fieldActs_243 (fun H locs hH => ?_)
        obtain ⟨f_105, ef_105⟩ : ∃ zz_ : mF, zz_ = va_up f_93 (h 3) (some (.inl (gk G 1, 8064, .inr (.inl (vp_updL (J_95 3) r_98.toNatClampNeg y_103))))) := ⟨_, rfl⟩
        rw [← ef_105] at hH
        have hM : MEM G h n (nI hg, (feL fe0 c0q s1_), ca, (gfS s1_), wh, nI ((trS s1_).length), nI wl.length, nI ac, nI 0, sx) I_95 (va_up J_95 3 (vp_updL (J_95 3) r_98.toNatClampNeg y_103)) f_105 := hM.setJ 3 (by decide) rfl ef_105
        have hfr := hfr.up 3 (by decide) ef_105
        have nn_106 : r_98.toNatClampNeg = 192 * 41 + 8 * (hob s1_ (aA (A K))) + (aB (A K)) := by have := ic_clN (rfl : r_98.toInt = _) (by omega); omega
        rw [nn_106] at hM
        have fv_ : (haS σ (aC (A K))).toInt64 = y_103 := by rw [ey_103, vx_102, es1_, ask_ha]
        have hR := hR.nu (o := (hob s1_ (aA (A K)))) (j := (aB (A K))) (v := y_103) au21 (by omega) (by rw [au31]; decide) (okBd_C au51 au41 (by rw [au31]; decide) (fun _ => by have := iy_103; omega))
        have hI : FM G h n T z A hg ver (cqL c0q (sBd s1_ (hob s1_ (aA (A K))) (setC (bdS s1_ (hob s1_ (aA (A K)))) (aB (A K)) y_103))) (feL fe0 c0q (sBd s1_ (hob s1_ (aA (A K))) (setC (bdS s1_ (hob s1_ (aA (A K)))) (aB (A K)) y_103))) tms ca wl wh ac 0 sx (sBd s1_ (hob s1_ (aA (A K))) (setC (bdS s1_ (hob s1_ (aA (A K)))) (aB (A K)) y_103)) f_105 := ⟨_, _, hM, hR, hac_95, hth_95⟩
        obtain ⟨I_107, J_107, hM, hR, hac_107, hth_107⟩ := hI
        have hg_107 := hR.hg40
        have n24_107 := hR.n24
        have tl_107 := len_b hR.ok.2.2.1
        have wl_107 := hR.wl192
        have hgI_107 : (nI hg).toInt = ((hg : Nat) : Int) := nI_toInt (by omega)
        have tmI_107 : (nI ((trS (sBd s1_ (hob s1_ (aA (A K))) (setC (bdS s1_ (hob s1_ (aA (A K)))) (aB (A K)) y_103))).length)).toInt = (((trS (sBd s1_ (hob s1_ (aA (A K))) (setC (bdS s1_ (hob s1_ (aA (A K)))) (aB (A K)) y_103))).length : Nat) : Int) := nI_toInt (by omega)
        have wmI_107 : (nI wl.length).toInt = ((wl.length : Nat) : Int) := nI_toInt (by omega)
        have acI_107 : (nI ac).toInt = ((ac : Nat) : Int) := nI_toInt (by omega)
        have thI_107 : (nI 0).toInt = ((0 : Nat) : Int) := nI_toInt (by omega)
        have nIn_107 : (nI n).toInt = ((n : Nat) : Int) := nI_toInt (by omega)
        refine lv_aload_n hx hb dX6_fieldActs_244 rfl (lv_at hl 4 rfl) ?_
        refine lv_iload hx hb dX6_fieldActs_245 (lv_at hl 0 rfl) ?_
        refine lv_iconst (v := 1) hx hb dX6_fieldActs_247 (by decide) ?_
        have F_108 : f_105 (h 0) = some (.inr (6, [.int (nI n), .ref (h 1), .int (nI hg), .ref (h 3), .ref (h 4), .ref (h 5), .ref (h 6), .int (feL fe0 c0q (sBd s1_ (hob s1_ (aA (A K))) (setC (bdS s1_ (hob s1_ (aA (A K)))) (aB (A K)) y_103))), .ref (h 8), .ref (h 9), .ref (h 10), .ref (h 11), .ref (h 12), .ref (h 13), .ref (h 14), .ref (h 15), .int ca, .long (gfS (sBd s1_ (hob s1_ (aA (A K))) (setC (bdS s1_ (hob s1_ (aA (A K)))) (aB (A K)) y_103))), .int wh, .int (nI ((trS (sBd s1_ (hob s1_ (aA (A K))) (setC (bdS s1_ (hob s1_ (aA (A K)))) (aB (A K)) y_103))).length)), .ref (h 20), .ref (h 21), .int (nI wl.length), .ref (h 23), .ref (h 24), .int (nI ac), .ref (h 26), .ref (h 27), .int (nI 0), .int sx])) := hM.1
        have hI : FM G h n T z A hg ver (cqL c0q (sBd s1_ (hob s1_ (aA (A K))) (setC (bdS s1_ (hob s1_ (aA (A K)))) (aB (A K)) y_103))) (feL fe0 c0q (sBd s1_ (hob s1_ (aA (A K))) (setC (bdS s1_ (hob s1_ (aA (A K)))) (aB (A K)) y_103))) tms ca wl wh ac 0 sx (sBd s1_ (hob s1_ (aA (A K))) (setC (bdS s1_ (hob s1_ (aA (A K)))) (aB (A K)) y_103)) f_105 := ⟨_, _, hM, hR, hac_107, hth_107⟩
        refine m_gov hH (va_runV (As := [.int r_92, .int 1]) (rest := []) ⟨hx, hb, hml, hown, hts⟩ (c_X6_touch l G h n T z A hg ver c0q fe0 tms ca wl wh ac 0 sx (sBd s1_ (hob s1_ (aA (A K))) (setC (bdS s1_ (hob s1_ (aA (A K)))) (aB (A K)) y_103)) f_105 hI hn0 r_92 1 (by have := kI_1; omega) (by have := kI_1; omega)) (cwV 2 hts gX6_fieldActs_X6_touch rfl rfl rfl (by decide +kernel) ⟨Nat.le_of_ble_eq_true rfl, Nat.le_of_ble_eq_true rfl⟩) (m_preV (ci := 6) hC hH F_108 rfl) rfl rfl hl.1 rfl (lv_room (Nat.le_of_ble_eq_true rfl)) dX6_fieldActs_248 ⟨Nat.le_of_ble_eq_true rfl, Nat.le_of_ble_eq_true rfl⟩) (fun rho_111 f_110 H locs hw hH => ?_)
        obtain ⟨hfr1, hI⟩ := hw
        have hfr1 : frM h f_105 f_110 := hfr1
        have hfr := hfr.trans hfr1
        have hI : FM G h n T z A hg ver (cqL c0q (sTc (sBd s1_ (hob s1_ (aA (A K))) (setC (bdS s1_ (hob s1_ (aA (A K)))) (aB (A K)) y_103)) (2 * r_92.toNatClampNeg + (1 : Int32).toNatClampNeg))) (feL fe0 c0q (sTc (sBd s1_ (hob s1_ (aA (A K))) (setC (bdS s1_ (hob s1_ (aA (A K)))) (aB (A K)) y_103)) (2 * r_92.toNatClampNeg + (1 : Int32).toNatClampNeg))) tms ca wl wh ac 0 sx (sTc (sBd s1_ (hob s1_ (aA (A K))) (setC (bdS s1_ (hob s1_ (aA (A K)))) (aB (A K)) y_103)) (2 * r_92.toNatClampNeg + (1 : Int32).toNatClampNeg)) f_110 := hI
        rw [show 2 * r_92.toNatClampNeg + (1 : Int32).toNatClampNeg = 2 * (8 * (hob s1_ (aA (A K))) + (aB (A K))) + 1 from by have := ic_clN (rfl : r_92.toInt = _) (by omega); show 2 * r_92.toNatClampNeg + 1 = _; omega] at hI
        have hI : FM G h n T z A hg ver (cqL c0q (sTc (sBd s1_ (hob s1_ (aA (A K))) (setC (bdS s1_ (hob s1_ (aA (A K)))) (aB (A K)) y_103)) (2 * (8 * (hob s1_ (aA (A K))) + (aB (A K))) + 1))) (feL fe0 c0q (sTc (sBd s1_ (hob s1_ (aA (A K))) (setC (bdS s1_ (hob s1_ (aA (A K)))) (aB (A K)) y_103)) (2 * (8 * (hob s1_ (aA (A K))) + (aB (A K))) + 1))) tms ca wl wh ac 0 sx (sTc (sBd s1_ (hob s1_ (aA (A K))) (setC (bdS s1_ (hob s1_ (aA (A K)))) (aB (A K)) y_103)) (2 * (8 * (hob s1_ (aA (A K))) + (aB (A K))) + 1)) f_110 := hI
        obtain ⟨I_112, J_112, hM, hR, hac_112, hth_112⟩ := hI
        have hg_112 := hR.hg40
        have n24_112 := hR.n24
        have tl_112 := len_b hR.ok.2.2.1
        have wl_112 := hR.wl192
        have hgI_112 : (nI hg).toInt = ((hg : Nat) : Int) := nI_toInt (by omega)
        have tmI_112 : (nI ((trS (sTc (sBd s1_ (hob s1_ (aA (A K))) (setC (bdS s1_ (hob s1_ (aA (A K)))) (aB (A K)) y_103)) (2 * (8 * (hob s1_ (aA (A K))) + (aB (A K))) + 1))).length)).toInt = (((trS (sTc (sBd s1_ (hob s1_ (aA (A K))) (setC (bdS s1_ (hob s1_ (aA (A K)))) (aB (A K)) y_103)) (2 * (8 * (hob s1_ (aA (A K))) + (aB (A K))) + 1))).length : Nat) : Int) := nI_toInt (by omega)
        have wmI_112 : (nI wl.length).toInt = ((wl.length : Nat) : Int) := nI_toInt (by omega)
        have acI_112 : (nI ac).toInt = ((ac : Nat) : Int) := nI_toInt (by omega)
        have thI_112 : (nI 0).toInt = ((0 : Nat) : Int) := nI_toInt (by omega)
        have nIn_112 : (nI n).toInt = ((n : Nat) : Int) := nI_toInt (by omega)
        refine lv_goto (tgt := 317) hx hb dX6_fieldActs_251 (by decide) ?_
        exact m_vret hx hb hr hlk hC hH (fun _ => (0, 0)) ⟨hfr, by rw [prf_7 eκ]; rw [show pPut T σ (aA (A K)) (aB (A K)) 2 (haS σ (aC (A K))).toInt64 = (0, (sTc (sBd s1_ (hob s1_ (aA (A K))) (setC (bdS s1_ (hob s1_ (aA (A K)))) (aB (A K)) y_103)) (2 * (8 * (hob s1_ (aA (A K))) + (aB (A K))) + 1))) from (thn_0 a01).trans (by rw [← es1_, fv_]; rfl)]; exact ⟨_, _, hM, hR, hac_112, hth_112⟩⟩ (Nat.le_of_ble_eq_true rfl) (Nat.le_of_ble_eq_true rfl) dX6_fieldActs_317
    · skip
      have rv1 := hr_92.2 a01
      have hI : FM G h n T z A hg ver (cqL c0q ((ask T σ (aA (A K)) (aB (A K)) 2).2)) (feL fe0 c0q ((ask T σ (aA (A K)) (aB (A K)) 2).2)) tms ca wl wh ac ((ask T σ (aA (A K)) (aB (A K)) 2).1) sx ((ask T σ (aA (A K)) (aB (A K)) 2).2) f_93 := hI
      obtain ⟨I_113, J_113, hM, hR, hac_113, hth_113⟩ := hI
      have hg_113 := hR.hg40
      have n24_113 := hR.n24
      have tl_113 := len_b hR.ok.2.2.1
      have wl_113 := hR.wl192
      have hgI_113 : (nI hg).toInt = ((hg : Nat) : Int) := nI_toInt (by omega)
      have tmI_113 : (nI ((trS ((ask T σ (aA (A K)) (aB (A K)) 2).2)).length)).toInt = (((trS ((ask T σ (aA (A K)) (aB (A K)) 2).2)).length : Nat) : Int) := nI_toInt (by omega)
      have wmI_113 : (nI wl.length).toInt = ((wl.length : Nat) : Int) := nI_toInt (by omega)
      have acI_113 : (nI ac).toInt = ((ac : Nat) : Int) := nI_toInt (by omega)
      have thI_113 : (nI ((ask T σ (aA (A K)) (aB (A K)) 2).1)).toInt = (((ask T σ (aA (A K)) (aB (A K)) 2).1 : Nat) : Int) := nI_toInt (by omega)
      have nIn_113 : (nI n).toInt = ((n : Nat) : Int) := nI_toInt (by omega)
      refine lv_istore (lv' := [(6, .int r_92), (5, .int x_8), (3, .long y_6), (2, .int x_4), (0, .ref (h 0)), (1, .int kk)]) hx hb dX6_fieldActs_219 hl (by decide) rfl (fun ls hl => ?_)
      refine lv_iload hx hb dX6_fieldActs_221 (lv_at hl 0 rfl) ?_
      refine lv_if_lt (tgt := 317) hx hb dX6_fieldActs_223 (by decide) (fun c_114 => ?_) (fun c_114 => ?_)
      · skip
        have ic_114 : (r_92.toInt : Int) < 0 := ic_lt rfl kI_0 c_114
        exact m_vret hx hb hr hlk hC hH (fun _ => (0, 0)) ⟨hfr, by rw [prf_7 eκ]; rw [show pPut T σ (aA (A K)) (aB (A K)) 2 (haS σ (aC (A K))).toInt64 = (ask T σ (aA (A K)) (aB (A K)) 2) from thn_1 a01]; exact ⟨_, _, hM, hR, hac_113, hth_113⟩⟩ (Nat.le_of_ble_eq_true rfl) (Nat.le_of_ble_eq_true rfl) dX6_fieldActs_317
      · skip
        have ic_114 : (r_92.toInt : Int) ≥ 0 := ic_nlt rfl kI_0 c_114
        omega
  · skip
    omega
  · skip
    omega
  · skip
    omega
  · skip
    omega
  · skip
    have hv_ : κ = 12 := by omega
    subst hv_
    have g0_ := fit_get (m := 3) rfl (by decide) kI_3 f0_
    have nA_ : (aA (A K)) < 4 := (show (A K).2.1.toInt.toNat < 4 from (by omega))
    have g1_ := fit_get (m := 3) rfl (by decide) kI_3 f1_
    have nB_ : (aB (A K)) < 4 := (show (A K).2.2.1.toInt.toNat < 4 from (by omega))
    have g2_ := fit_get (m := 3) rfl (by decide) kI_3 f2_
    have nC_ : (aC (A K)) < 4 := (show (A K).2.2.2.1.toInt.toNat < 4 from (by omega))
    have jk_11 : x_10.toInt = 12 := hk_11
    refine lv_tableIn (off := 226) (tgt := 254) hx hb dX6_fieldActs_28 (by rw [jk_11]; decide) (by rw [jk_11]; decide) (by rw [jk_11]; rfl) (by decide) ?_
    refine lv_aload_n hx hb dX6_fieldActs_254 rfl (lv_at hl 3 rfl) ?_
    refine m_get (ci := 6) (v := .ref (h 27)) (C := RX6) (T := TX6) (N := 30) hx hb hC hH hts in_X6_fieldActs_X6 hown F_2 rfl 27 (by decide) (hts (.fieldLink RX6 71 "LazyStateModel" "values" "[J") (by decide +kernel)) rfl dX6_fieldActs_255 ?_
    refine lv_iload_n hx hb dX6_fieldActs_258 rfl (lv_at hl 2 rfl) ?_
    refine lv_aload_n hx hb dX6_fieldActs_259 rfl (lv_at hl 3 rfl) ?_
    refine m_get (ci := 6) (v := .ref (h 26)) (C := RX6) (T := TX6) (N := 30) hx hb hC hH hts in_X6_fieldActs_X6 hown F_2 rfl 26 (by decide) (hts (.fieldLink RX6 68 "LazyStateModel" "handles" "[I") (by decide +kernel)) rfl dX6_fieldActs_260 ?_
    refine lv_lload_n hx hb dX6_fieldActs_263 rfl (lv_at hl 1 rfl) ?_
    refine lv_l2i hx hb dX6_fieldActs_264 rfl ?_
    refine lv_topi (fun x_115 ex_115 => ?_)
    have ix_115 : x_115.toInt = y_6.toInt := ic_l2i ex_115 rfl (by omega) (by omega)
    have hg_116 : f (h 26) = some (.inl (gk G 0, 4, .inl (I_1 26))) := hM.2.1 26 (by decide) rfl
    refine m_iald hx hb hC hH hg_116 (vp_in_iff.mpr ⟨by omega, by omega⟩) dX6_fieldActs_265 ?_
    refine lv_topi (fun x_117 ex_117 => ?_)
    have vx_117 : x_117 = haS σ (aB (A K)) := by rw [ex_117, (show x_115.toNatClampNeg = (aB (A K)) from (by show x_115.toInt.toNat = (A K).2.2.1.toInt.toNat; omega))]; exact hR.haI hn0 (show (A K).2.2.1.toInt.toNat < 4 from by omega)
    have okx_117 := hR.ok.2.1 (aB (A K)) (show (A K).2.2.1.toInt.toNat < 4 from by omega)
    rw [← vx_117] at okx_117
    unfold okHa at okx_117
    refine lv_aload_n hx hb dX6_fieldActs_266 rfl (lv_at hl 3 rfl) ?_
    refine m_get (ci := 6) (v := .ref (h 26)) (C := RX6) (T := TX6) (N := 30) hx hb hC hH hts in_X6_fieldActs_X6 hown F_2 rfl 26 (by decide) (hts (.fieldLink RX6 68 "LazyStateModel" "handles" "[I") (by decide +kernel)) rfl dX6_fieldActs_267 ?_
    refine lv_iload hx hb dX6_fieldActs_270 (lv_at hl 0 rfl) ?_
    refine m_iald hx hb hC hH hg_116 (vp_in_iff.mpr ⟨by omega, by omega⟩) dX6_fieldActs_272 ?_
    refine lv_topi (fun x_118 ex_118 => ?_)
    have vx_118 : x_118 = haS σ (aC (A K)) := by rw [ex_118, (show x_8.toNatClampNeg = (aC (A K)) from (by show x_8.toInt.toNat = (A K).2.2.2.1.toInt.toNat; omega))]; exact hR.haI hn0 (show (A K).2.2.2.1.toInt.toNat < 4 from by omega)
    have okx_118 := hR.ok.2.1 (aC (A K)) (show (A K).2.2.2.1.toInt.toNat < 4 from by omega)
    rw [← vx_118] at okx_118
    unfold okHa at okx_118
    refine lv_icmp_ne (tgt := 280) hx hb dX6_fieldActs_273 (by decide) (fun c_119 => ?_) (fun c_119 => ?_)
    · skip
      have ic_119 : (x_117.toInt : Int) ≠ x_118.toInt := ic_ne rfl rfl c_119
      have fv_ : (if haS σ (aB (A K)) = haS σ (aC (A K)) then (1 : Int64) else 0) = 0 := by rw [← vx_117, ← vx_118]; exact if_neg (fun z_ => ic_119 (by rw [z_]))
      refine lv_lconst (v := 0) hx hb dX6_fieldActs_280 (by decide) ?_
      have hg_120 : f (h 27) = some (.inl (gk G 1, 4, .inr (.inl (J_1 27)))) := hM.2.2.1 27 (by decide) rfl
      refine m_last hx hb hC hH hg_120 (vp_in_iff.mpr ⟨by omega, by omega⟩) dX6_fieldActs_281 (fun H locs hH => ?_)
      obtain ⟨f_121, ef_121⟩ : ∃ zz_ : mF, zz_ = va_up f (h 27) (some (.inl (gk G 1, 4, .inr (.inl (vp_updL (J_1 27) x_4.toNatClampNeg 0))))) := ⟨_, rfl⟩
      rw [← ef_121] at hH
      have hM : MEM G h n (nI hg, (feL fe0 c0q σ), ca, (gfS σ), wh, nI ((trS σ).length), nI wl.length, nI ac, nI 0, sx) I_1 (va_up J_1 27 (vp_updL (J_1 27) x_4.toNatClampNeg 0)) f_121 := hM.setJ 27 (by decide) rfl ef_121
      have hfr := hfr.up 27 (by decide) ef_121
      rw [(show x_4.toNatClampNeg = (aA (A K)) from (by show x_4.toInt.toNat = (A K).2.1.toInt.toNat; omega))] at hM
      have hR := hR.va (aA (A K)) 0
      refine lv_goto (tgt := 317) hx hb dX6_fieldActs_282 (by decide) ?_
      exact m_vret hx hb hr hlk hC hH (fun _ => (0, 0)) ⟨hfr, by rw [prf_12 eκ]; rw [fv_]; exact ⟨_, _, hM, hR, hac_1, hth_1⟩⟩ (Nat.le_of_ble_eq_true rfl) (Nat.le_of_ble_eq_true rfl) dX6_fieldActs_317
    · skip
      have ic_119 : (x_117.toInt : Int) = x_118.toInt := ic_eq rfl rfl c_119
      have fv_ : (if haS σ (aB (A K)) = haS σ (aC (A K)) then (1 : Int64) else 0) = 1 := by rw [← vx_117, ← vx_118]; exact if_pos (Int32.toInt_inj.mp ic_119)
      refine lv_lconst (v := 1) hx hb dX6_fieldActs_276 (by decide) ?_
      refine lv_goto (tgt := 281) hx hb dX6_fieldActs_277 (by decide) ?_
      have hg_122 : f (h 27) = some (.inl (gk G 1, 4, .inr (.inl (J_1 27)))) := hM.2.2.1 27 (by decide) rfl
      refine m_last hx hb hC hH hg_122 (vp_in_iff.mpr ⟨by omega, by omega⟩) dX6_fieldActs_281 (fun H locs hH => ?_)
      obtain ⟨f_123, ef_123⟩ : ∃ zz_ : mF, zz_ = va_up f (h 27) (some (.inl (gk G 1, 4, .inr (.inl (vp_updL (J_1 27) x_4.toNatClampNeg 1))))) := ⟨_, rfl⟩
      rw [← ef_123] at hH
      have hM : MEM G h n (nI hg, (feL fe0 c0q σ), ca, (gfS σ), wh, nI ((trS σ).length), nI wl.length, nI ac, nI 0, sx) I_1 (va_up J_1 27 (vp_updL (J_1 27) x_4.toNatClampNeg 1)) f_123 := hM.setJ 27 (by decide) rfl ef_123
      have hfr := hfr.up 27 (by decide) ef_123
      rw [(show x_4.toNatClampNeg = (aA (A K)) from (by show x_4.toInt.toNat = (A K).2.1.toInt.toNat; omega))] at hM
      have hR := hR.va (aA (A K)) 1
      refine lv_goto (tgt := 317) hx hb dX6_fieldActs_282 (by decide) ?_
      exact m_vret hx hb hr hlk hC hH (fun _ => (0, 0)) ⟨hfr, by rw [prf_12 eκ]; rw [fv_]; exact ⟨_, _, hM, hR, hac_1, hth_1⟩⟩ (Nat.le_of_ble_eq_true rfl) (Nat.le_of_ble_eq_true rfl) dX6_fieldActs_317
