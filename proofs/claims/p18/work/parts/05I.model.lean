set_option maxHeartbeats 4000000 in
set_option maxRecDepth 100000 in
theorem c_X6_does (l : Launch) (G : mG) (h : Nat → Nat) (n : Nat) (T z : Nat → Nat) (A : Nat → tA) (hg : Nat) (ver : Nat → Nat → tB) (c0q : Nat → Bool) (fe0 : Int32) (tms : Nat → Int32) (ca : Int32) (wl : List Nat) (wh : Int32) (ac : Nat) (sx : Int32) (σ : tS) (f : mF) (hI : FM G h n T z A hg ver (cqL c0q σ) (feL fe0 c0q σ) tms ca wl wh ac 0 sx σ f) (hn0 : 0 < n) (kk : Int32) (K : Nat) (hv : vld z K) (hk : kk.toInt = K) (pp : Int32) (hpp : 0 ≤ pp.toInt ∧ pp.toInt < 32) : Met l yX6_does wsX6_does ({ frames := 5, cells := 0, slots := 0, locals := 132 }) (va_Pc [.ref (h 0), .int kk, .int pp] (mW G f)) (va_Qi (fun (r : Int32) (u : mS) => frM h f u.2 ∧ FM G h n T z A hg ver (cqL c0q ((prf T (A K) σ).2)) (feL fe0 c0q ((prf T (A K) σ).2)) tms ca wl wh ac ((prf T (A K) σ).1) sx ((prf T (A K) σ).2) u.2 ∧ 0 ≤ r.toInt ∧ r.toInt ≤ 32 ∧ ((prf T (A K) σ).1 = 0 → r.toInt = ((nxt (A K) pp.toNatClampNeg σ : Nat) : Int))) (fun (u : mS) t => mW G u.2 t) (mA G)) 0 0 (mA G) := by
  refine mMet [.ref (h 0), .int kk, .int pp] (cc := cX6_does) (maxL := 4) (ret := (some .int)) (by decide) rfl (Nat.le_of_ble_eq_true rfl) ?_
  intro p e s m below meth c ls hx hb hr hml hts hown hlk hnm hC hH hl
  have hl : lv_has ls 4 [(0, .ref (h 0)), (1, .int kk), (2, .int pp)] := hl
  have hI0_ := hI
  have hfr : frM h f f := frM.rf
  have cl_pp := ic_clN (rfl : pp.toInt = _) (by omega)
  obtain ⟨I_1, J_1, hM, hR, hac_1, hth_1⟩ := hI
  have hg_1 := hR.hg40
  have n24_1 := hR.n24
  have tl_1 := len_b hR.ok.2.2.1
  have wl_1 := hR.wl192
  have hgI_1 : (nI hg).toInt = ((hg : Nat) : Int) := nI_toInt (by omega)
  have tmI_1 : (nI ((trS σ).length)).toInt = (((trS σ).length : Nat) : Int) := nI_toInt (by omega)
  have wmI_1 : (nI wl.length).toInt = ((wl.length : Nat) : Int) := nI_toInt (by omega)
  have acI_1 : (nI ac).toInt = ((ac : Nat) : Int) := nI_toInt (by omega)
  have thI_1 : (nI 0).toInt = ((0 : Nat) : Int) := nI_toInt (by omega)
  have nIn_1 : (nI n).toInt = ((n : Nat) : Int) := nI_toInt (by omega)
  have hK192 := hv.1
  have kcl : kk.toNatClampNeg = K := by have := ic_clN hk (by omega); omega
  obtain ⟨κ, hκ, eκ, f0_, f1_, f2_, f3_, f4_⟩ := hR.okA hv
  have iκ : (A K).1.toInt = κ := ic_nI eκ (by omega)
  have ok0_ := hR.ok
  have n24_ := hR.n24
  have hT3_ := hR.T3
  refine lv_aload_n hx hb dX6_does_0 rfl (lv_at hl 0 rfl) ?_
  have F_2 : f (h 0) = some (.inr (6, [.int (nI n), .ref (h 1), .int (nI hg), .ref (h 3), .ref (h 4), .ref (h 5), .ref (h 6), .int (feL fe0 c0q σ), .ref (h 8), .ref (h 9), .ref (h 10), .ref (h 11), .ref (h 12), .ref (h 13), .ref (h 14), .ref (h 15), .int ca, .long (gfS σ), .int wh, .int (nI ((trS σ).length)), .ref (h 20), .ref (h 21), .int (nI wl.length), .ref (h 23), .ref (h 24), .int (nI ac), .ref (h 26), .ref (h 27), .int (nI 0), .int sx])) := hM.1
  refine m_get (ci := 6) (v := .ref (h 11)) (C := RX6) (T := TX6) (N := 30) hx hb hC hH hts in_X6_does_X6 hown F_2 rfl 11 (by decide) (hts (.fieldLink RX6 37 "LazyStateModel" "as" "[I") (by decide +kernel)) rfl dX6_does_1 ?_
  refine lv_iload_n hx hb dX6_does_4 rfl (lv_at hl 1 rfl) ?_
  have hg_3 : f (h 11) = some (.inl (gk G 0, 192, .inl (I_1 11))) := hM.2.1 11 (by decide) rfl
  refine m_iald hx hb hC hH hg_3 (vp_in_iff.mpr ⟨by omega, by omega⟩) dX6_does_5 ?_
  refine lv_topi (fun x_4 ex_4 => ?_)
  have qx_4 : x_4 = (A K).2.1 := by rw [ex_4, kcl]; exact (hR.ac hv).2.1
  have tx_4 : x_4.toInt = (A K).2.1.toInt := by rw [qx_4]
  refine lv_istore_n (lv' := [(3, .int x_4), (0, .ref (h 0)), (1, .int kk), (2, .int pp)]) hx hb dX6_does_6 rfl hl (by decide) rfl (fun ls hl => ?_)
  refine lv_aload_n hx hb dX6_does_7 rfl (lv_at hl 1 rfl) ?_
  refine m_get (ci := 6) (v := .ref (h 10)) (C := RX6) (T := TX6) (N := 30) hx hb hC hH hts in_X6_does_X6 hown F_2 rfl 10 (by decide) (hts (.fieldLink RX6 34 "LazyStateModel" "kinds" "[I") (by decide +kernel)) rfl dX6_does_8 ?_
  refine lv_iload_n hx hb dX6_does_11 rfl (lv_at hl 2 rfl) ?_
  have hg_5 : f (h 10) = some (.inl (gk G 0, 192, .inl (I_1 10))) := hM.2.1 10 (by decide) rfl
  refine m_iald hx hb hC hH hg_5 (vp_in_iff.mpr ⟨by omega, by omega⟩) dX6_does_12 ?_
  refine lv_topi (fun x_6 ex_6 => ?_)
  have qx_6 : x_6 = (A K).1 := by rw [ex_6, kcl]; exact (hR.ac hv).1
  have tx_6 : x_6.toInt = (A K).1.toInt := by rw [qx_6]
  have hk_7 : (x_6.toInt < 0 ∨ 17 < x_6.toInt) ∨ x_6.toInt = 0 ∨ x_6.toInt = 1 ∨ x_6.toInt = 2 ∨ x_6.toInt = 3 ∨ x_6.toInt = 4 ∨ x_6.toInt = 5 ∨ x_6.toInt = 6 ∨ x_6.toInt = 7 ∨ x_6.toInt = 8 ∨ x_6.toInt = 9 ∨ x_6.toInt = 10 ∨ x_6.toInt = 11 ∨ x_6.toInt = 12 ∨ x_6.toInt = 13 ∨ x_6.toInt = 14 ∨ x_6.toInt = 15 ∨ x_6.toInt = 16 ∨ x_6.toInt = 17 := by omega
  rcases hk_7 with hk_7 | hk_7 | hk_7 | hk_7 | hk_7 | hk_7 | hk_7 | hk_7 | hk_7 | hk_7 | hk_7 | hk_7 | hk_7 | hk_7 | hk_7 | hk_7 | hk_7 | hk_7 | hk_7
  · skip
    omega
  · skip
    have hv_ : κ = 0 := by omega
    subst hv_
    have g0_ := fit_get (m := 3) rfl (by decide) kI_3 f0_
    have nA_ : (aA (A K)) < 4 := (show (A K).2.1.toInt.toNat < 4 from (by omega))
    have jk_7 : x_6.toInt = 0 := hk_7
    refine lv_tableIn (off := 87) (tgt := 100) hx hb dX6_does_13 (by rw [jk_7]; decide) (by rw [jk_7]; decide) (by rw [jk_7]; rfl) (by decide) ?_
    refine lv_aload_n hx hb dX6_does_100 rfl (lv_at hl 1 rfl) ?_
    refine m_get (ci := 6) (v := .ref (h 27)) (C := RX6) (T := TX6) (N := 30) hx hb hC hH hts in_X6_does_X6 hown F_2 rfl 27 (by decide) (hts (.fieldLink RX6 71 "LazyStateModel" "values" "[J") (by decide +kernel)) rfl dX6_does_101 ?_
    refine lv_iload_n hx hb dX6_does_104 rfl (lv_at hl 0 rfl) ?_
    refine lv_aload_n hx hb dX6_does_105 rfl (lv_at hl 1 rfl) ?_
    refine m_get (ci := 6) (v := .ref (h 12)) (C := RX6) (T := TX6) (N := 30) hx hb hC hH hts in_X6_does_X6 hown F_2 rfl 12 (by decide) (hts (.fieldLink RX6 40 "LazyStateModel" "bs" "[J") (by decide +kernel)) rfl dX6_does_106 ?_
    refine lv_iload_n hx hb dX6_does_109 rfl (lv_at hl 2 rfl) ?_
    have hg_8 : f (h 12) = some (.inl (gk G 1, 192, .inr (.inl (J_1 12)))) := hM.2.2.1 12 (by decide) rfl
    refine m_lald hx hb hC hH hg_8 (vp_in_iff.mpr ⟨by omega, by omega⟩) dX6_does_110 ?_
    refine lv_topl (fun y_9 ey_9 => ?_)
    have qy_9 : y_9 = (A K).2.2.1 := by rw [ey_9, kcl]; exact (hR.ac hv).2.2.1
    have ty_9 : y_9.toInt = (A K).2.2.1.toInt := by rw [qy_9]
    have hg_10 : f (h 27) = some (.inl (gk G 1, 4, .inr (.inl (J_1 27)))) := hM.2.2.1 27 (by decide) rfl
    refine m_last hx hb hC hH hg_10 (vp_in_iff.mpr ⟨by omega, by omega⟩) dX6_does_111 (fun H locs hH => ?_)
    obtain ⟨f_11, ef_11⟩ : ∃ zz_ : mF, zz_ = va_up f (h 27) (some (.inl (gk G 1, 4, .inr (.inl (vp_updL (J_1 27) x_4.toNatClampNeg y_9))))) := ⟨_, rfl⟩
    rw [← ef_11] at hH
    have hM : MEM G h n (nI hg, (feL fe0 c0q σ), ca, (gfS σ), wh, nI ((trS σ).length), nI wl.length, nI ac, nI 0, sx) I_1 (va_up J_1 27 (vp_updL (J_1 27) x_4.toNatClampNeg y_9)) f_11 := hM.setJ 27 (by decide) rfl ef_11
    have hfr := hfr.up 27 (by decide) ef_11
    rw [(show x_4.toNatClampNeg = (aA (A K)) from (by show x_4.toInt.toNat = (A K).2.1.toInt.toNat; omega))] at hM
    have hR := hR.va (aA (A K)) y_9
    refine lv_iload_n hx hb dX6_does_112 rfl (lv_at hl 3 rfl) ?_
    refine lv_iconst (v := 1) hx hb dX6_does_113 (by decide) ?_
    refine lv_iadd hx hb dX6_does_114 ?_
    refine lv_topi (fun x_12 ex_12 => ?_)
    have ix_12 : x_12.toInt = pp.toInt + 1 := ic_add ex_12 rfl kI_1 (by omega) (by omega)
    exact m_iret (v := x_12) hx hb hr hlk hC hH (fun _ => (0, 0)) ⟨hfr, by rw [prf_0 eκ]; rw [← qy_9]; exact ⟨_, _, hM, hR, hac_1, hth_1⟩, by omega, by omega, fun z_ => (by rw [nxt_0 eκ]; omega)⟩ (Nat.le_of_ble_eq_true rfl) (Nat.le_of_ble_eq_true rfl) dX6_does_115
  · skip
    have hv_ : κ = 1 := by omega
    subst hv_
    have g0_ := fit_get (m := 3) rfl (by decide) kI_3 f0_
    have nA_ : (aA (A K)) < 4 := (show (A K).2.1.toInt.toNat < 4 from (by omega))
    have g1_ := fit_get (m := 3) rfl (by decide) kI_3 f1_
    have nB_ : (aB (A K)) < 4 := (show (A K).2.2.1.toInt.toNat < 4 from (by omega))
    have g2_ := fit_get (m := 3) rfl (by decide) kI_3 f2_
    have nC_ : (aC (A K)) < 4 := (show (A K).2.2.2.1.toInt.toNat < 4 from (by omega))
    have jk_7 : x_6.toInt = 1 := hk_7
    refine lv_tableIn (off := 103) (tgt := 116) hx hb dX6_does_13 (by rw [jk_7]; decide) (by rw [jk_7]; decide) (by rw [jk_7]; rfl) (by decide) ?_
    refine lv_aload_n hx hb dX6_does_116 rfl (lv_at hl 1 rfl) ?_
    refine m_get (ci := 6) (v := .ref (h 27)) (C := RX6) (T := TX6) (N := 30) hx hb hC hH hts in_X6_does_X6 hown F_2 rfl 27 (by decide) (hts (.fieldLink RX6 71 "LazyStateModel" "values" "[J") (by decide +kernel)) rfl dX6_does_117 ?_
    refine lv_iload_n hx hb dX6_does_120 rfl (lv_at hl 0 rfl) ?_
    refine lv_aload_n hx hb dX6_does_121 rfl (lv_at hl 1 rfl) ?_
    refine m_get (ci := 6) (v := .ref (h 27)) (C := RX6) (T := TX6) (N := 30) hx hb hC hH hts in_X6_does_X6 hown F_2 rfl 27 (by decide) (hts (.fieldLink RX6 71 "LazyStateModel" "values" "[J") (by decide +kernel)) rfl dX6_does_122 ?_
    refine lv_aload_n hx hb dX6_does_125 rfl (lv_at hl 1 rfl) ?_
    refine m_get (ci := 6) (v := .ref (h 12)) (C := RX6) (T := TX6) (N := 30) hx hb hC hH hts in_X6_does_X6 hown F_2 rfl 12 (by decide) (hts (.fieldLink RX6 40 "LazyStateModel" "bs" "[J") (by decide +kernel)) rfl dX6_does_126 ?_
    refine lv_iload_n hx hb dX6_does_129 rfl (lv_at hl 2 rfl) ?_
    have hg_13 : f (h 12) = some (.inl (gk G 1, 192, .inr (.inl (J_1 12)))) := hM.2.2.1 12 (by decide) rfl
    refine m_lald hx hb hC hH hg_13 (vp_in_iff.mpr ⟨by omega, by omega⟩) dX6_does_130 ?_
    refine lv_topl (fun y_14 ey_14 => ?_)
    have qy_14 : y_14 = (A K).2.2.1 := by rw [ey_14, kcl]; exact (hR.ac hv).2.2.1
    have ty_14 : y_14.toInt = (A K).2.2.1.toInt := by rw [qy_14]
    refine lv_l2i hx hb dX6_does_131 rfl ?_
    refine lv_topi (fun x_15 ex_15 => ?_)
    have ix_15 : x_15.toInt = y_14.toInt := ic_l2i ex_15 rfl (by omega) (by omega)
    have hg_16 : f (h 27) = some (.inl (gk G 1, 4, .inr (.inl (J_1 27)))) := hM.2.2.1 27 (by decide) rfl
    refine m_lald hx hb hC hH hg_16 (vp_in_iff.mpr ⟨by omega, by omega⟩) dX6_does_132 ?_
    refine lv_topl (fun y_17 ey_17 => ?_)
    have vy_17 : y_17 = vaS σ (aB (A K)) := by rw [ey_17, (show x_15.toNatClampNeg = (aB (A K)) from (by show x_15.toInt.toNat = (A K).2.2.1.toInt.toNat; omega))]; exact hR.vaI (show (A K).2.2.1.toInt.toNat < 4 from by omega)
    refine lv_aload_n hx hb dX6_does_133 rfl (lv_at hl 1 rfl) ?_
    refine m_get (ci := 6) (v := .ref (h 27)) (C := RX6) (T := TX6) (N := 30) hx hb hC hH hts in_X6_does_X6 hown F_2 rfl 27 (by decide) (hts (.fieldLink RX6 71 "LazyStateModel" "values" "[J") (by decide +kernel)) rfl dX6_does_134 ?_
    refine lv_aload_n hx hb dX6_does_137 rfl (lv_at hl 1 rfl) ?_
    refine m_get (ci := 6) (v := .ref (h 13)) (C := RX6) (T := TX6) (N := 30) hx hb hC hH hts in_X6_does_X6 hown F_2 rfl 13 (by decide) (hts (.fieldLink RX6 43 "LazyStateModel" "cs" "[I") (by decide +kernel)) rfl dX6_does_138 ?_
    refine lv_iload_n hx hb dX6_does_141 rfl (lv_at hl 2 rfl) ?_
    have hg_18 : f (h 13) = some (.inl (gk G 0, 192, .inl (I_1 13))) := hM.2.1 13 (by decide) rfl
    refine m_iald hx hb hC hH hg_18 (vp_in_iff.mpr ⟨by omega, by omega⟩) dX6_does_142 ?_
    refine lv_topi (fun x_19 ex_19 => ?_)
    have qx_19 : x_19 = (A K).2.2.2.1 := by rw [ex_19, kcl]; exact (hR.ac hv).2.2.2.1
    have tx_19 : x_19.toInt = (A K).2.2.2.1.toInt := by rw [qx_19]
    refine m_lald hx hb hC hH hg_16 (vp_in_iff.mpr ⟨by omega, by omega⟩) dX6_does_143 ?_
    refine lv_topl (fun y_20 ey_20 => ?_)
    have vy_20 : y_20 = vaS σ (aC (A K)) := by rw [ey_20, (show x_19.toNatClampNeg = (aC (A K)) from (by show x_19.toInt.toNat = (A K).2.2.2.1.toInt.toNat; omega))]; exact hR.vaI (show (A K).2.2.2.1.toInt.toNat < 4 from by omega)
    refine lv_ladd hx hb dX6_does_144 ?_
    refine lv_topl (fun y_21 ey_21 => ?_)
    refine m_last hx hb hC hH hg_16 (vp_in_iff.mpr ⟨by omega, by omega⟩) dX6_does_145 (fun H locs hH => ?_)
    obtain ⟨f_22, ef_22⟩ : ∃ zz_ : mF, zz_ = va_up f (h 27) (some (.inl (gk G 1, 4, .inr (.inl (vp_updL (J_1 27) x_4.toNatClampNeg y_21))))) := ⟨_, rfl⟩
    rw [← ef_22] at hH
    have hM : MEM G h n (nI hg, (feL fe0 c0q σ), ca, (gfS σ), wh, nI ((trS σ).length), nI wl.length, nI ac, nI 0, sx) I_1 (va_up J_1 27 (vp_updL (J_1 27) x_4.toNatClampNeg y_21)) f_22 := hM.setJ 27 (by decide) rfl ef_22
    have hfr := hfr.up 27 (by decide) ef_22
    rw [(show x_4.toNatClampNeg = (aA (A K)) from (by show x_4.toInt.toNat = (A K).2.1.toInt.toNat; omega))] at hM
    have hR := hR.va (aA (A K)) y_21
    have fv_ : vaS σ (aB (A K)) + vaS σ (aC (A K)) = y_21 := by rw [← vy_17, ← vy_20]; exact ey_21.symm
    refine lv_iload_n hx hb dX6_does_146 rfl (lv_at hl 3 rfl) ?_
    refine lv_iconst (v := 1) hx hb dX6_does_147 (by decide) ?_
    refine lv_iadd hx hb dX6_does_148 ?_
    refine lv_topi (fun x_23 ex_23 => ?_)
    have ix_23 : x_23.toInt = pp.toInt + 1 := ic_add ex_23 rfl kI_1 (by omega) (by omega)
    exact m_iret (v := x_23) hx hb hr hlk hC hH (fun _ => (0, 0)) ⟨hfr, by rw [prf_1 eκ]; rw [fv_]; exact ⟨_, _, hM, hR, hac_1, hth_1⟩, by omega, by omega, fun z_ => (by rw [nxt_1 eκ]; omega)⟩ (Nat.le_of_ble_eq_true rfl) (Nat.le_of_ble_eq_true rfl) dX6_does_149
  · skip
    have hv_ : κ = 2 := by omega
    subst hv_
    have g0_ := fit_get (m := 3) rfl (by decide) kI_3 f0_
    have nA_ : (aA (A K)) < 4 := (show (A K).2.1.toInt.toNat < 4 from (by omega))
    have g1_ := fit_get (m := 3) rfl (by decide) kI_3 f1_
    have nB_ : (aB (A K)) < 4 := (show (A K).2.2.1.toInt.toNat < 4 from (by omega))
    have g2_ := fit_get (m := 3) rfl (by decide) kI_3 f2_
    have nC_ : (aC (A K)) < 4 := (show (A K).2.2.2.1.toInt.toNat < 4 from (by omega))
    have jk_7 : x_6.toInt = 2 := hk_7
    refine lv_tableIn (off := 137) (tgt := 150) hx hb dX6_does_13 (by rw [jk_7]; decide) (by rw [jk_7]; decide) (by rw [jk_7]; rfl) (by decide) ?_
    refine lv_aload_n hx hb dX6_does_150 rfl (lv_at hl 1 rfl) ?_
    refine m_get (ci := 6) (v := .ref (h 27)) (C := RX6) (T := TX6) (N := 30) hx hb hC hH hts in_X6_does_X6 hown F_2 rfl 27 (by decide) (hts (.fieldLink RX6 71 "LazyStateModel" "values" "[J") (by decide +kernel)) rfl dX6_does_151 ?_
    refine lv_iload_n hx hb dX6_does_154 rfl (lv_at hl 0 rfl) ?_
    refine lv_aload_n hx hb dX6_does_155 rfl (lv_at hl 1 rfl) ?_
    refine m_get (ci := 6) (v := .ref (h 27)) (C := RX6) (T := TX6) (N := 30) hx hb hC hH hts in_X6_does_X6 hown F_2 rfl 27 (by decide) (hts (.fieldLink RX6 71 "LazyStateModel" "values" "[J") (by decide +kernel)) rfl dX6_does_156 ?_
    refine lv_aload_n hx hb dX6_does_159 rfl (lv_at hl 1 rfl) ?_
    refine m_get (ci := 6) (v := .ref (h 12)) (C := RX6) (T := TX6) (N := 30) hx hb hC hH hts in_X6_does_X6 hown F_2 rfl 12 (by decide) (hts (.fieldLink RX6 40 "LazyStateModel" "bs" "[J") (by decide +kernel)) rfl dX6_does_160 ?_
    refine lv_iload_n hx hb dX6_does_163 rfl (lv_at hl 2 rfl) ?_
    have hg_24 : f (h 12) = some (.inl (gk G 1, 192, .inr (.inl (J_1 12)))) := hM.2.2.1 12 (by decide) rfl
    refine m_lald hx hb hC hH hg_24 (vp_in_iff.mpr ⟨by omega, by omega⟩) dX6_does_164 ?_
    refine lv_topl (fun y_25 ey_25 => ?_)
    have qy_25 : y_25 = (A K).2.2.1 := by rw [ey_25, kcl]; exact (hR.ac hv).2.2.1
    have ty_25 : y_25.toInt = (A K).2.2.1.toInt := by rw [qy_25]
    refine lv_l2i hx hb dX6_does_165 rfl ?_
    refine lv_topi (fun x_26 ex_26 => ?_)
    have ix_26 : x_26.toInt = y_25.toInt := ic_l2i ex_26 rfl (by omega) (by omega)
    have hg_27 : f (h 27) = some (.inl (gk G 1, 4, .inr (.inl (J_1 27)))) := hM.2.2.1 27 (by decide) rfl
    refine m_lald hx hb hC hH hg_27 (vp_in_iff.mpr ⟨by omega, by omega⟩) dX6_does_166 ?_
    refine lv_topl (fun y_28 ey_28 => ?_)
    have vy_28 : y_28 = vaS σ (aB (A K)) := by rw [ey_28, (show x_26.toNatClampNeg = (aB (A K)) from (by show x_26.toInt.toNat = (A K).2.2.1.toInt.toNat; omega))]; exact hR.vaI (show (A K).2.2.1.toInt.toNat < 4 from by omega)
    refine lv_aload_n hx hb dX6_does_167 rfl (lv_at hl 1 rfl) ?_
    refine m_get (ci := 6) (v := .ref (h 27)) (C := RX6) (T := TX6) (N := 30) hx hb hC hH hts in_X6_does_X6 hown F_2 rfl 27 (by decide) (hts (.fieldLink RX6 71 "LazyStateModel" "values" "[J") (by decide +kernel)) rfl dX6_does_168 ?_
    refine lv_aload_n hx hb dX6_does_171 rfl (lv_at hl 1 rfl) ?_
    refine m_get (ci := 6) (v := .ref (h 13)) (C := RX6) (T := TX6) (N := 30) hx hb hC hH hts in_X6_does_X6 hown F_2 rfl 13 (by decide) (hts (.fieldLink RX6 43 "LazyStateModel" "cs" "[I") (by decide +kernel)) rfl dX6_does_172 ?_
    refine lv_iload_n hx hb dX6_does_175 rfl (lv_at hl 2 rfl) ?_
    have hg_29 : f (h 13) = some (.inl (gk G 0, 192, .inl (I_1 13))) := hM.2.1 13 (by decide) rfl
    refine m_iald hx hb hC hH hg_29 (vp_in_iff.mpr ⟨by omega, by omega⟩) dX6_does_176 ?_
    refine lv_topi (fun x_30 ex_30 => ?_)
    have qx_30 : x_30 = (A K).2.2.2.1 := by rw [ex_30, kcl]; exact (hR.ac hv).2.2.2.1
    have tx_30 : x_30.toInt = (A K).2.2.2.1.toInt := by rw [qx_30]
    refine m_lald hx hb hC hH hg_27 (vp_in_iff.mpr ⟨by omega, by omega⟩) dX6_does_177 ?_
    refine lv_topl (fun y_31 ey_31 => ?_)
    have vy_31 : y_31 = vaS σ (aC (A K)) := by rw [ey_31, (show x_30.toNatClampNeg = (aC (A K)) from (by show x_30.toInt.toNat = (A K).2.2.2.1.toInt.toNat; omega))]; exact hR.vaI (show (A K).2.2.2.1.toInt.toNat < 4 from by omega)
    refine lv_lsub hx hb dX6_does_178 ?_
    refine lv_topl (fun y_32 ey_32 => ?_)
    refine m_last hx hb hC hH hg_27 (vp_in_iff.mpr ⟨by omega, by omega⟩) dX6_does_179 (fun H locs hH => ?_)
    obtain ⟨f_33, ef_33⟩ : ∃ zz_ : mF, zz_ = va_up f (h 27) (some (.inl (gk G 1, 4, .inr (.inl (vp_updL (J_1 27) x_4.toNatClampNeg y_32))))) := ⟨_, rfl⟩
    rw [← ef_33] at hH
    have hM : MEM G h n (nI hg, (feL fe0 c0q σ), ca, (gfS σ), wh, nI ((trS σ).length), nI wl.length, nI ac, nI 0, sx) I_1 (va_up J_1 27 (vp_updL (J_1 27) x_4.toNatClampNeg y_32)) f_33 := hM.setJ 27 (by decide) rfl ef_33
    have hfr := hfr.up 27 (by decide) ef_33
    rw [(show x_4.toNatClampNeg = (aA (A K)) from (by show x_4.toInt.toNat = (A K).2.1.toInt.toNat; omega))] at hM
    have hR := hR.va (aA (A K)) y_32
    have fv_ : vaS σ (aB (A K)) - vaS σ (aC (A K)) = y_32 := by rw [← vy_28, ← vy_31]; exact ey_32.symm
    refine lv_iload_n hx hb dX6_does_180 rfl (lv_at hl 3 rfl) ?_
    refine lv_iconst (v := 1) hx hb dX6_does_181 (by decide) ?_
    refine lv_iadd hx hb dX6_does_182 ?_
    refine lv_topi (fun x_34 ex_34 => ?_)
    have ix_34 : x_34.toInt = pp.toInt + 1 := ic_add ex_34 rfl kI_1 (by omega) (by omega)
    exact m_iret (v := x_34) hx hb hr hlk hC hH (fun _ => (0, 0)) ⟨hfr, by rw [prf_2 eκ]; rw [fv_]; exact ⟨_, _, hM, hR, hac_1, hth_1⟩, by omega, by omega, fun z_ => (by rw [nxt_2 eκ]; omega)⟩ (Nat.le_of_ble_eq_true rfl) (Nat.le_of_ble_eq_true rfl) dX6_does_183
  · skip
    have hv_ : κ = 3 := by omega
    subst hv_
    have g0_ := fit_get (m := 3) rfl (by decide) kI_3 f0_
    have nA_ : (aA (A K)) < 4 := (show (A K).2.1.toInt.toNat < 4 from (by omega))
    have g1_ := fit_get (m := 3) rfl (by decide) kI_3 f1_
    have nB_ : (aB (A K)) < 4 := (show (A K).2.2.1.toInt.toNat < 4 from (by omega))
    have g2_ := fit_get (m := 3) rfl (by decide) kI_3 f2_
    have nC_ : (aC (A K)) < 4 := (show (A K).2.2.2.1.toInt.toNat < 4 from (by omega))
    have jk_7 : x_6.toInt = 3 := hk_7
    refine lv_tableIn (off := 171) (tgt := 184) hx hb dX6_does_13 (by rw [jk_7]; decide) (by rw [jk_7]; decide) (by rw [jk_7]; rfl) (by decide) ?_
    refine lv_aload_n hx hb dX6_does_184 rfl (lv_at hl 1 rfl) ?_
    refine lv_aload_n hx hb dX6_does_185 rfl (lv_at hl 1 rfl) ?_
    refine m_get (ci := 6) (v := .ref (h 27)) (C := RX6) (T := TX6) (N := 30) hx hb hC hH hts in_X6_does_X6 hown F_2 rfl 27 (by decide) (hts (.fieldLink RX6 71 "LazyStateModel" "values" "[J") (by decide +kernel)) rfl dX6_does_186 ?_
    refine lv_aload_n hx hb dX6_does_189 rfl (lv_at hl 1 rfl) ?_
    refine m_get (ci := 6) (v := .ref (h 13)) (C := RX6) (T := TX6) (N := 30) hx hb hC hH hts in_X6_does_X6 hown F_2 rfl 13 (by decide) (hts (.fieldLink RX6 43 "LazyStateModel" "cs" "[I") (by decide +kernel)) rfl dX6_does_190 ?_
    refine lv_iload_n hx hb dX6_does_193 rfl (lv_at hl 2 rfl) ?_
    have hg_35 : f (h 13) = some (.inl (gk G 0, 192, .inl (I_1 13))) := hM.2.1 13 (by decide) rfl
    refine m_iald hx hb hC hH hg_35 (vp_in_iff.mpr ⟨by omega, by omega⟩) dX6_does_194 ?_
    refine lv_topi (fun x_36 ex_36 => ?_)
    have qx_36 : x_36 = (A K).2.2.2.1 := by rw [ex_36, kcl]; exact (hR.ac hv).2.2.2.1
    have tx_36 : x_36.toInt = (A K).2.2.2.1.toInt := by rw [qx_36]
    have hg_37 : f (h 27) = some (.inl (gk G 1, 4, .inr (.inl (J_1 27)))) := hM.2.2.1 27 (by decide) rfl
    refine m_lald hx hb hC hH hg_37 (vp_in_iff.mpr ⟨by omega, by omega⟩) dX6_does_195 ?_
    refine lv_topl (fun y_38 ey_38 => ?_)
    have vy_38 : y_38 = vaS σ (aC (A K)) := by rw [ey_38, (show x_36.toNatClampNeg = (aC (A K)) from (by show x_36.toInt.toNat = (A K).2.2.2.1.toInt.toNat; omega))]; exact hR.vaI (show (A K).2.2.2.1.toInt.toNat < 4 from by omega)
    refine lv_lconst (v := 0) hx hb dX6_does_196 (by decide) ?_
    refine W.lcmp hx hb dX6_does_197 ?_
    refine lv_if_ne (tgt := 205) hx hb dX6_does_198 (by decide) (fun c_39 => ?_) (fun c_39 => ?_)
    · skip
      have ic_39 : (y_38.toInt : Int) ≠ 0 := lc_ne rfl kJ_0 (fun q_ => c_39 ((lg_cmp_eq _ _).mpr q_))
      have cz_ : vaS σ (aC (A K)) ≠ 0 := fun z_ => by rw [← vy_38] at z_; rw [z_] at ic_39; exact ic_39 rfl
      refine lv_iconst (v := 0) hx hb dX6_does_205 (by decide) ?_
      refine m_put (ci := 6) (v := .int 0) (C := RX6) (T := TX6) (N := 30) hx hb hC hH hts in_X6_does_X6 tyX6 tyX6_ok nmX6 hown F_2 rfl 28 (by decide) (hts (.fieldLink RX6 155 "LazyStateModel" "threw" "I") (by decide +kernel)) rfl rfl rfl (Nat.le_of_ble_eq_true rfl) dX6_does_206 (fun H locs hH => ?_)
      have hH : mH G s (va_up f (h 0) (some (.inr (6, [.int (nI n), .ref (h 1), .int (nI hg), .ref (h 3), .ref (h 4), .ref (h 5), .ref (h 6), .int (feL fe0 c0q σ), .ref (h 8), .ref (h 9), .ref (h 10), .ref (h 11), .ref (h 12), .ref (h 13), .ref (h 14), .ref (h 15), .int ca, .long (gfS σ), .int wh, .int (nI ((trS σ).length)), .ref (h 20), .ref (h 21), .int (nI wl.length), .ref (h 23), .ref (h 24), .int (nI ac), .ref (h 26), .ref (h 27), .int 0, .int sx])))) H locs := hH
      obtain ⟨f_40, ef_40⟩ : ∃ zz_ : mF, zz_ = va_up f (h 0) (some (.inr (6, [.int (nI n), .ref (h 1), .int (nI hg), .ref (h 3), .ref (h 4), .ref (h 5), .ref (h 6), .int (feL fe0 c0q σ), .ref (h 8), .ref (h 9), .ref (h 10), .ref (h 11), .ref (h 12), .ref (h 13), .ref (h 14), .ref (h 15), .int ca, .long (gfS σ), .int wh, .int (nI ((trS σ).length)), .ref (h 20), .ref (h 21), .int (nI wl.length), .ref (h 23), .ref (h 24), .int (nI ac), .ref (h 26), .ref (h 27), .int 0, .int sx]))) := ⟨_, rfl⟩
      rw [← ef_40] at hH
      have hM : MEM G h n (nI hg, (feL fe0 c0q σ), ca, (gfS σ), wh, nI ((trS σ).length), nI wl.length, nI ac, 0, sx) I_1 J_1 f_40 := hM.set0 ef_40
      have hfr := hfr.up 0 (by decide) ef_40
      have hI : FM G h n T z A hg ver (cqL c0q σ) (feL fe0 c0q σ) tms ca wl wh ac 0 sx σ f_40 := ⟨_, _, hM, hR, hac_1, by omega⟩
      obtain ⟨I_41, J_41, hM, hR, hac_41, hth_41⟩ := hI
      have hg_41 := hR.hg40
      have n24_41 := hR.n24
      have tl_41 := len_b hR.ok.2.2.1
      have wl_41 := hR.wl192
      have hgI_41 : (nI hg).toInt = ((hg : Nat) : Int) := nI_toInt (by omega)
      have tmI_41 : (nI ((trS σ).length)).toInt = (((trS σ).length : Nat) : Int) := nI_toInt (by omega)
      have wmI_41 : (nI wl.length).toInt = ((wl.length : Nat) : Int) := nI_toInt (by omega)
      have acI_41 : (nI ac).toInt = ((ac : Nat) : Int) := nI_toInt (by omega)
      have thI_41 : (nI 0).toInt = ((0 : Nat) : Int) := nI_toInt (by omega)
      have nIn_41 : (nI n).toInt = ((n : Nat) : Int) := nI_toInt (by omega)
      refine lv_aload_n hx hb dX6_does_209 rfl (lv_at hl 1 rfl) ?_
      have F_42 : f_40 (h 0) = some (.inr (6, [.int (nI n), .ref (h 1), .int (nI hg), .ref (h 3), .ref (h 4), .ref (h 5), .ref (h 6), .int (feL fe0 c0q σ), .ref (h 8), .ref (h 9), .ref (h 10), .ref (h 11), .ref (h 12), .ref (h 13), .ref (h 14), .ref (h 15), .int ca, .long (gfS σ), .int wh, .int (nI ((trS σ).length)), .ref (h 20), .ref (h 21), .int (nI wl.length), .ref (h 23), .ref (h 24), .int (nI ac), .ref (h 26), .ref (h 27), .int (nI 0), .int sx])) := hM.1
      refine m_get (ci := 6) (v := .ref (h 27)) (C := RX6) (T := TX6) (N := 30) hx hb hC hH hts in_X6_does_X6 hown F_42 rfl 27 (by decide) (hts (.fieldLink RX6 71 "LazyStateModel" "values" "[J") (by decide +kernel)) rfl dX6_does_210 ?_
      refine lv_iload_n hx hb dX6_does_213 rfl (lv_at hl 0 rfl) ?_
      refine lv_aload_n hx hb dX6_does_214 rfl (lv_at hl 1 rfl) ?_
      refine m_get (ci := 6) (v := .int (nI 0)) (C := RX6) (T := TX6) (N := 30) hx hb hC hH hts in_X6_does_X6 hown F_42 rfl 28 (by decide) (hts (.fieldLink RX6 155 "LazyStateModel" "threw" "I") (by decide +kernel)) rfl dX6_does_215 ?_
      refine lv_if_le (tgt := 230) hx hb dX6_does_218 (by decide) (fun c_43 => ?_) (fun c_43 => ?_)
      · skip
        have ic_43 : (((0 : Nat) : Int) : Int) ≤ 0 := ic_le thI_41 kI_0 c_43
        refine lv_aload_n hx hb dX6_does_230 rfl (lv_at hl 1 rfl) ?_
        refine m_get (ci := 6) (v := .ref (h 27)) (C := RX6) (T := TX6) (N := 30) hx hb hC hH hts in_X6_does_X6 hown F_42 rfl 27 (by decide) (hts (.fieldLink RX6 71 "LazyStateModel" "values" "[J") (by decide +kernel)) rfl dX6_does_231 ?_
        refine lv_aload_n hx hb dX6_does_234 rfl (lv_at hl 1 rfl) ?_
        refine m_get (ci := 6) (v := .ref (h 12)) (C := RX6) (T := TX6) (N := 30) hx hb hC hH hts in_X6_does_X6 hown F_42 rfl 12 (by decide) (hts (.fieldLink RX6 40 "LazyStateModel" "bs" "[J") (by decide +kernel)) rfl dX6_does_235 ?_
        refine lv_iload_n hx hb dX6_does_238 rfl (lv_at hl 2 rfl) ?_
        have hg_44 : f_40 (h 12) = some (.inl (gk G 1, 192, .inr (.inl (J_41 12)))) := hM.2.2.1 12 (by decide) rfl
        refine m_lald hx hb hC hH hg_44 (vp_in_iff.mpr ⟨by omega, by omega⟩) dX6_does_239 ?_
        refine lv_topl (fun y_45 ey_45 => ?_)
        have qy_45 : y_45 = (A K).2.2.1 := by rw [ey_45, kcl]; exact (hR.ac hv).2.2.1
        have ty_45 : y_45.toInt = (A K).2.2.1.toInt := by rw [qy_45]
        refine lv_l2i hx hb dX6_does_240 rfl ?_
        refine lv_topi (fun x_46 ex_46 => ?_)
        have ix_46 : x_46.toInt = y_45.toInt := ic_l2i ex_46 rfl (by omega) (by omega)
        have hg_47 : f_40 (h 27) = some (.inl (gk G 1, 4, .inr (.inl (J_41 27)))) := hM.2.2.1 27 (by decide) rfl
        refine m_lald hx hb hC hH hg_47 (vp_in_iff.mpr ⟨by omega, by omega⟩) dX6_does_241 ?_
        refine lv_topl (fun y_48 ey_48 => ?_)
        have vy_48 : y_48 = vaS σ (aB (A K)) := by rw [ey_48, (show x_46.toNatClampNeg = (aB (A K)) from (by show x_46.toInt.toNat = (A K).2.2.1.toInt.toNat; omega))]; exact hR.vaI (show (A K).2.2.1.toInt.toNat < 4 from by omega)
        refine lv_aload_n hx hb dX6_does_242 rfl (lv_at hl 1 rfl) ?_
        refine m_get (ci := 6) (v := .ref (h 27)) (C := RX6) (T := TX6) (N := 30) hx hb hC hH hts in_X6_does_X6 hown F_42 rfl 27 (by decide) (hts (.fieldLink RX6 71 "LazyStateModel" "values" "[J") (by decide +kernel)) rfl dX6_does_243 ?_
        refine lv_aload_n hx hb dX6_does_246 rfl (lv_at hl 1 rfl) ?_
        refine m_get (ci := 6) (v := .ref (h 13)) (C := RX6) (T := TX6) (N := 30) hx hb hC hH hts in_X6_does_X6 hown F_42 rfl 13 (by decide) (hts (.fieldLink RX6 43 "LazyStateModel" "cs" "[I") (by decide +kernel)) rfl dX6_does_247 ?_
        refine lv_iload_n hx hb dX6_does_250 rfl (lv_at hl 2 rfl) ?_
        have hg_49 : f_40 (h 13) = some (.inl (gk G 0, 192, .inl (I_41 13))) := hM.2.1 13 (by decide) rfl
        refine m_iald hx hb hC hH hg_49 (vp_in_iff.mpr ⟨by omega, by omega⟩) dX6_does_251 ?_
        refine lv_topi (fun x_50 ex_50 => ?_)
        have qx_50 : x_50 = (A K).2.2.2.1 := by rw [ex_50, kcl]; exact (hR.ac hv).2.2.2.1
        have tx_50 : x_50.toInt = (A K).2.2.2.1.toInt := by rw [qx_50]
        refine m_lald hx hb hC hH hg_47 (vp_in_iff.mpr ⟨by omega, by omega⟩) dX6_does_252 ?_
        refine lv_topl (fun y_51 ey_51 => ?_)
        have vy_51 : y_51 = vaS σ (aC (A K)) := by rw [ey_51, (show x_50.toNatClampNeg = (aC (A K)) from (by show x_50.toInt.toNat = (A K).2.2.2.1.toInt.toNat; omega))]; exact hR.vaI (show (A K).2.2.2.1.toInt.toNat < 4 from by omega)
        refine lv_ldiv hx hb dX6_does_253 (fun q_ => cz_ (vy_51.symm.trans q_)) ?_
        refine lv_topl (fun y_52 ey_52 => ?_)
        refine m_last hx hb hC hH hg_47 (vp_in_iff.mpr ⟨by omega, by omega⟩) dX6_does_254 (fun H locs hH => ?_)
        obtain ⟨f_53, ef_53⟩ : ∃ zz_ : mF, zz_ = va_up f_40 (h 27) (some (.inl (gk G 1, 4, .inr (.inl (vp_updL (J_41 27) x_4.toNatClampNeg y_52))))) := ⟨_, rfl⟩
        rw [← ef_53] at hH
        have hM : MEM G h n (nI hg, (feL fe0 c0q σ), ca, (gfS σ), wh, nI ((trS σ).length), nI wl.length, nI ac, nI 0, sx) I_41 (va_up J_41 27 (vp_updL (J_41 27) x_4.toNatClampNeg y_52)) f_53 := hM.setJ 27 (by decide) rfl ef_53
        have hfr := hfr.up 27 (by decide) ef_53
        rw [(show x_4.toNatClampNeg = (aA (A K)) from (by show x_4.toInt.toNat = (A K).2.1.toInt.toNat; omega))] at hM
        have hR := hR.va (aA (A K)) y_52
        have fv_ : vaS σ (aB (A K)) / vaS σ (aC (A K)) = y_52 := by rw [← vy_48, ← vy_51]; exact ey_52.symm
        refine lv_iload_n hx hb dX6_does_255 rfl (lv_at hl 3 rfl) ?_
        refine lv_iconst (v := 1) hx hb dX6_does_256 (by decide) ?_
        refine lv_iadd hx hb dX6_does_257 ?_
        refine lv_topi (fun x_54 ex_54 => ?_)
        have ix_54 : x_54.toInt = pp.toInt + 1 := ic_add ex_54 rfl kI_1 (by omega) (by omega)
        exact m_iret (v := x_54) hx hb hr hlk hC hH (fun _ => (0, 0)) ⟨hfr, by rw [prf_3 eκ]; rw [if_neg cz_, fv_]; exact ⟨_, _, hM, hR, hac_41, hth_41⟩, by omega, by omega, fun z_ => (by rw [nxt_3 eκ]; omega)⟩ (Nat.le_of_ble_eq_true rfl) (Nat.le_of_ble_eq_true rfl) dX6_does_258
      · skip
        have ic_43 : (((0 : Nat) : Int) : Int) > 0 := ic_nle thI_41 kI_0 c_43
        omega
    · skip
      have ic_39 : (y_38.toInt : Int) = 0 := lc_eq rfl kJ_0 ((lg_cmp_eq _ _).mp c_39)
      have cz_ : vaS σ (aC (A K)) = 0 := by rw [← vy_38]; exact Int64.toInt_inj.mp ic_39
      refine lv_iconst (v := 5) hx hb dX6_does_201 (by decide) ?_
      refine lv_goto (tgt := 206) hx hb dX6_does_202 (by decide) ?_
      refine m_put (ci := 6) (v := .int 5) (C := RX6) (T := TX6) (N := 30) hx hb hC hH hts in_X6_does_X6 tyX6 tyX6_ok nmX6 hown F_2 rfl 28 (by decide) (hts (.fieldLink RX6 155 "LazyStateModel" "threw" "I") (by decide +kernel)) rfl rfl rfl (Nat.le_of_ble_eq_true rfl) dX6_does_206 (fun H locs hH => ?_)
      have hH : mH G s (va_up f (h 0) (some (.inr (6, [.int (nI n), .ref (h 1), .int (nI hg), .ref (h 3), .ref (h 4), .ref (h 5), .ref (h 6), .int (feL fe0 c0q σ), .ref (h 8), .ref (h 9), .ref (h 10), .ref (h 11), .ref (h 12), .ref (h 13), .ref (h 14), .ref (h 15), .int ca, .long (gfS σ), .int wh, .int (nI ((trS σ).length)), .ref (h 20), .ref (h 21), .int (nI wl.length), .ref (h 23), .ref (h 24), .int (nI ac), .ref (h 26), .ref (h 27), .int 5, .int sx])))) H locs := hH
      obtain ⟨f_55, ef_55⟩ : ∃ zz_ : mF, zz_ = va_up f (h 0) (some (.inr (6, [.int (nI n), .ref (h 1), .int (nI hg), .ref (h 3), .ref (h 4), .ref (h 5), .ref (h 6), .int (feL fe0 c0q σ), .ref (h 8), .ref (h 9), .ref (h 10), .ref (h 11), .ref (h 12), .ref (h 13), .ref (h 14), .ref (h 15), .int ca, .long (gfS σ), .int wh, .int (nI ((trS σ).length)), .ref (h 20), .ref (h 21), .int (nI wl.length), .ref (h 23), .ref (h 24), .int (nI ac), .ref (h 26), .ref (h 27), .int 5, .int sx]))) := ⟨_, rfl⟩
      rw [← ef_55] at hH
      have hM : MEM G h n (nI hg, (feL fe0 c0q σ), ca, (gfS σ), wh, nI ((trS σ).length), nI wl.length, nI ac, 5, sx) I_1 J_1 f_55 := hM.set0 ef_55
      have hfr := hfr.up 0 (by decide) ef_55
      have hI : FM G h n T z A hg ver (cqL c0q σ) (feL fe0 c0q σ) tms ca wl wh ac 5 sx σ f_55 := ⟨_, _, hM, hR, hac_1, by omega⟩
      obtain ⟨I_56, J_56, hM, hR, hac_56, hth_56⟩ := hI
      have hg_56 := hR.hg40
      have n24_56 := hR.n24
      have tl_56 := len_b hR.ok.2.2.1
      have wl_56 := hR.wl192
      have hgI_56 : (nI hg).toInt = ((hg : Nat) : Int) := nI_toInt (by omega)
      have tmI_56 : (nI ((trS σ).length)).toInt = (((trS σ).length : Nat) : Int) := nI_toInt (by omega)
      have wmI_56 : (nI wl.length).toInt = ((wl.length : Nat) : Int) := nI_toInt (by omega)
      have acI_56 : (nI ac).toInt = ((ac : Nat) : Int) := nI_toInt (by omega)
      have thI_56 : (nI 5).toInt = ((5 : Nat) : Int) := nI_toInt (by omega)
      have nIn_56 : (nI n).toInt = ((n : Nat) : Int) := nI_toInt (by omega)
      refine lv_aload_n hx hb dX6_does_209 rfl (lv_at hl 1 rfl) ?_
      have F_57 : f_55 (h 0) = some (.inr (6, [.int (nI n), .ref (h 1), .int (nI hg), .ref (h 3), .ref (h 4), .ref (h 5), .ref (h 6), .int (feL fe0 c0q σ), .ref (h 8), .ref (h 9), .ref (h 10), .ref (h 11), .ref (h 12), .ref (h 13), .ref (h 14), .ref (h 15), .int ca, .long (gfS σ), .int wh, .int (nI ((trS σ).length)), .ref (h 20), .ref (h 21), .int (nI wl.length), .ref (h 23), .ref (h 24), .int (nI ac), .ref (h 26), .ref (h 27), .int (nI 5), .int sx])) := hM.1
      refine m_get (ci := 6) (v := .ref (h 27)) (C := RX6) (T := TX6) (N := 30) hx hb hC hH hts in_X6_does_X6 hown F_57 rfl 27 (by decide) (hts (.fieldLink RX6 71 "LazyStateModel" "values" "[J") (by decide +kernel)) rfl dX6_does_210 ?_
      refine lv_iload_n hx hb dX6_does_213 rfl (lv_at hl 0 rfl) ?_
      refine lv_aload_n hx hb dX6_does_214 rfl (lv_at hl 1 rfl) ?_
      refine m_get (ci := 6) (v := .int (nI 5)) (C := RX6) (T := TX6) (N := 30) hx hb hC hH hts in_X6_does_X6 hown F_57 rfl 28 (by decide) (hts (.fieldLink RX6 155 "LazyStateModel" "threw" "I") (by decide +kernel)) rfl dX6_does_215 ?_
      refine lv_if_le (tgt := 230) hx hb dX6_does_218 (by decide) (fun c_58 => ?_) (fun c_58 => ?_)
      · skip
        have ic_58 : (((5 : Nat) : Int) : Int) ≤ 0 := ic_le thI_56 kI_0 c_58
        omega
      · skip
        have ic_58 : (((5 : Nat) : Int) : Int) > 0 := ic_nle thI_56 kI_0 c_58
        refine lv_aload_n hx hb dX6_does_221 rfl (lv_at hl 1 rfl) ?_
        refine m_get (ci := 6) (v := .ref (h 27)) (C := RX6) (T := TX6) (N := 30) hx hb hC hH hts in_X6_does_X6 hown F_57 rfl 27 (by decide) (hts (.fieldLink RX6 71 "LazyStateModel" "values" "[J") (by decide +kernel)) rfl dX6_does_222 ?_
        refine lv_iload_n hx hb dX6_does_225 rfl (lv_at hl 0 rfl) ?_
        have hg_59 : f_55 (h 27) = some (.inl (gk G 1, 4, .inr (.inl (J_56 27)))) := hM.2.2.1 27 (by decide) rfl
        refine m_lald hx hb hC hH hg_59 (vp_in_iff.mpr ⟨by omega, by omega⟩) dX6_does_226 ?_
        refine lv_topl (fun y_60 ey_60 => ?_)
        have vy_60 : y_60 = vaS σ (aA (A K)) := by rw [ey_60, (show x_4.toNatClampNeg = (aA (A K)) from (by show x_4.toInt.toNat = (A K).2.1.toInt.toNat; omega))]; exact hR.vaI (show (A K).2.1.toInt.toNat < 4 from by omega)
        refine lv_goto (tgt := 254) hx hb dX6_does_227 (by decide) ?_
        refine m_last hx hb hC hH hg_59 (vp_in_iff.mpr ⟨by omega, by omega⟩) dX6_does_254 (fun H locs hH => ?_)
        obtain ⟨f_61, ef_61⟩ : ∃ zz_ : mF, zz_ = va_up f_55 (h 27) (some (.inl (gk G 1, 4, .inr (.inl (vp_updL (J_56 27) x_4.toNatClampNeg y_60))))) := ⟨_, rfl⟩
        rw [← ef_61] at hH
        have hM : MEM G h n (nI hg, (feL fe0 c0q σ), ca, (gfS σ), wh, nI ((trS σ).length), nI wl.length, nI ac, nI 5, sx) I_56 (va_up J_56 27 (vp_updL (J_56 27) x_4.toNatClampNeg y_60)) f_61 := hM.setJ 27 (by decide) rfl ef_61
        have hfr := hfr.up 27 (by decide) ef_61
        rw [(show x_4.toNatClampNeg = (aA (A K)) from (by show x_4.toInt.toNat = (A K).2.1.toInt.toNat; omega)), vy_60] at hM
        have hR := hR.va (aA (A K)) (vaS σ (aA (A K)))
        rw [sVa_id] at hR
        refine lv_iload_n hx hb dX6_does_255 rfl (lv_at hl 3 rfl) ?_
        refine lv_iconst (v := 1) hx hb dX6_does_256 (by decide) ?_
        refine lv_iadd hx hb dX6_does_257 ?_
        refine lv_topi (fun x_62 ex_62 => ?_)
        have ix_62 : x_62.toInt = pp.toInt + 1 := ic_add ex_62 rfl kI_1 (by omega) (by omega)
        exact m_iret (v := x_62) hx hb hr hlk hC hH (fun _ => (0, 0)) ⟨hfr, by rw [prf_3 eκ]; rw [if_pos cz_]; exact ⟨_, _, hM, hR, hac_56, hth_56⟩, by omega, by omega, fun z_ => (by rw [nxt_3 eκ]; omega)⟩ (Nat.le_of_ble_eq_true rfl) (Nat.le_of_ble_eq_true rfl) dX6_does_258
  · skip
    have hv_ : κ = 4 := by omega
    subst hv_
    have g0_ := fit_get (m := 3) rfl (by decide) kI_3 f0_
    have nA_ : (aA (A K)) < 4 := (show (A K).2.1.toInt.toNat < 4 from (by omega))
    have g1_ := fit_get (m := 3) rfl (by decide) kI_3 f1_
    have nB_ : (aB (A K)) < 4 := (show (A K).2.2.1.toInt.toNat < 4 from (by omega))
    have g2_ := fit_get (m := 7) rfl (by decide) kI_7 f2_
    have nC_ : (aC (A K)) < 8 := (show (A K).2.2.2.1.toInt.toNat < 8 from (by omega))
    have jk_7 : x_6.toInt = 4 := hk_7
    refine lv_tableIn (off := 309) (tgt := 322) hx hb dX6_does_13 (by rw [jk_7]; decide) (by rw [jk_7]; decide) (by rw [jk_7]; rfl) (by decide) ?_
    refine lv_aload_n hx hb dX6_does_322 rfl (lv_at hl 1 rfl) ?_
    refine lv_iload_n hx hb dX6_does_323 rfl (lv_at hl 2 rfl) ?_
    have hI : FM G h n T z A hg ver (cqL c0q σ) (feL fe0 c0q σ) tms ca wl wh ac 0 sx σ f := ⟨_, _, hM, hR, hac_1, hth_1⟩
    refine m_gov hH (va_runV (As := [.int kk]) (rest := []) ⟨hx, hb, hml, hown, hts⟩ (c_X6_fieldActs l G h n T z A hg ver c0q fe0 tms ca wl wh ac sx σ f hI hn0 kk K hv hk (by omega)) (cwV 1 hts gX6_does_X6_fieldActs rfl rfl rfl (by decide +kernel) ⟨Nat.le_of_ble_eq_true rfl, Nat.le_of_ble_eq_true rfl⟩) (m_preV (ci := 6) hC hH F_2 rfl) rfl rfl hl.1 rfl (lv_room (Nat.le_of_ble_eq_true rfl)) dX6_does_324 ⟨Nat.le_of_ble_eq_true rfl, Nat.le_of_ble_eq_true rfl⟩) (fun rho_65 f_64 H locs hw hH => ?_)
    obtain ⟨hfr1, hI⟩ := hw
    have hfr1 : frM h f f_64 := hfr1
    have hfr := hfr.trans hfr1
    have hI : FM G h n T z A hg ver (cqL c0q ((prf T (A K) σ).2)) (feL fe0 c0q ((prf T (A K) σ).2)) tms ca wl wh ac ((prf T (A K) σ).1) sx ((prf T (A K) σ).2) f_64 := hI
    obtain ⟨I_66, J_66, hM, hR, hac_66, hth_66⟩ := hI
    have hg_66 := hR.hg40
    have n24_66 := hR.n24
    have tl_66 := len_b hR.ok.2.2.1
    have wl_66 := hR.wl192
    have hgI_66 : (nI hg).toInt = ((hg : Nat) : Int) := nI_toInt (by omega)
    have tmI_66 : (nI ((trS ((prf T (A K) σ).2)).length)).toInt = (((trS ((prf T (A K) σ).2)).length : Nat) : Int) := nI_toInt (by omega)
    have wmI_66 : (nI wl.length).toInt = ((wl.length : Nat) : Int) := nI_toInt (by omega)
    have acI_66 : (nI ac).toInt = ((ac : Nat) : Int) := nI_toInt (by omega)
    have thI_66 : (nI ((prf T (A K) σ).1)).toInt = (((prf T (A K) σ).1 : Nat) : Int) := nI_toInt (by omega)
    have nIn_66 : (nI n).toInt = ((n : Nat) : Int) := nI_toInt (by omega)
    refine lv_iload_n hx hb dX6_does_327 rfl (lv_at hl 3 rfl) ?_
    refine lv_iconst (v := 1) hx hb dX6_does_328 (by decide) ?_
    refine lv_iadd hx hb dX6_does_329 ?_
    refine lv_topi (fun x_67 ex_67 => ?_)
    have ix_67 : x_67.toInt = pp.toInt + 1 := ic_add ex_67 rfl kI_1 (by omega) (by omega)
    exact m_iret (v := x_67) hx hb hr hlk hC hH (fun _ => (0, 0)) ⟨hfr, ⟨_, _, hM, hR, hac_66, hth_66⟩, by omega, by omega, fun _ => (by rw [nxt_4 eκ]; omega)⟩ (Nat.le_of_ble_eq_true rfl) (Nat.le_of_ble_eq_true rfl) dX6_does_330
  · skip
    have hv_ : κ = 5 := by omega
    subst hv_
    have g0_ := fit_get (m := 3) rfl (by decide) kI_3 f0_
    have nA_ : (aA (A K)) < 4 := (show (A K).2.1.toInt.toNat < 4 from (by omega))
    have g1_ := fit_get (m := 7) rfl (by decide) kI_7 f1_
    have nB_ : (aB (A K)) < 8 := (show (A K).2.2.1.toInt.toNat < 8 from (by omega))
    have g2_ := fit_get (m := 3) rfl (by decide) kI_3 f2_
    have nC_ : (aC (A K)) < 4 := (show (A K).2.2.2.1.toInt.toNat < 4 from (by omega))
    have jk_7 : x_6.toInt = 5 := hk_7
    refine lv_tableIn (off := 309) (tgt := 322) hx hb dX6_does_13 (by rw [jk_7]; decide) (by rw [jk_7]; decide) (by rw [jk_7]; rfl) (by decide) ?_
    refine lv_aload_n hx hb dX6_does_322 rfl (lv_at hl 1 rfl) ?_
    refine lv_iload_n hx hb dX6_does_323 rfl (lv_at hl 2 rfl) ?_
    have hI : FM G h n T z A hg ver (cqL c0q σ) (feL fe0 c0q σ) tms ca wl wh ac 0 sx σ f := ⟨_, _, hM, hR, hac_1, hth_1⟩
    refine m_gov hH (va_runV (As := [.int kk]) (rest := []) ⟨hx, hb, hml, hown, hts⟩ (c_X6_fieldActs l G h n T z A hg ver c0q fe0 tms ca wl wh ac sx σ f hI hn0 kk K hv hk (by omega)) (cwV 1 hts gX6_does_X6_fieldActs rfl rfl rfl (by decide +kernel) ⟨Nat.le_of_ble_eq_true rfl, Nat.le_of_ble_eq_true rfl⟩) (m_preV (ci := 6) hC hH F_2 rfl) rfl rfl hl.1 rfl (lv_room (Nat.le_of_ble_eq_true rfl)) dX6_does_324 ⟨Nat.le_of_ble_eq_true rfl, Nat.le_of_ble_eq_true rfl⟩) (fun rho_70 f_69 H locs hw hH => ?_)
    obtain ⟨hfr1, hI⟩ := hw
    have hfr1 : frM h f f_69 := hfr1
    have hfr := hfr.trans hfr1
    have hI : FM G h n T z A hg ver (cqL c0q ((prf T (A K) σ).2)) (feL fe0 c0q ((prf T (A K) σ).2)) tms ca wl wh ac ((prf T (A K) σ).1) sx ((prf T (A K) σ).2) f_69 := hI
    obtain ⟨I_71, J_71, hM, hR, hac_71, hth_71⟩ := hI
    have hg_71 := hR.hg40
    have n24_71 := hR.n24
    have tl_71 := len_b hR.ok.2.2.1
    have wl_71 := hR.wl192
    have hgI_71 : (nI hg).toInt = ((hg : Nat) : Int) := nI_toInt (by omega)
    have tmI_71 : (nI ((trS ((prf T (A K) σ).2)).length)).toInt = (((trS ((prf T (A K) σ).2)).length : Nat) : Int) := nI_toInt (by omega)
    have wmI_71 : (nI wl.length).toInt = ((wl.length : Nat) : Int) := nI_toInt (by omega)
    have acI_71 : (nI ac).toInt = ((ac : Nat) : Int) := nI_toInt (by omega)
    have thI_71 : (nI ((prf T (A K) σ).1)).toInt = (((prf T (A K) σ).1 : Nat) : Int) := nI_toInt (by omega)
    have nIn_71 : (nI n).toInt = ((n : Nat) : Int) := nI_toInt (by omega)
    refine lv_iload_n hx hb dX6_does_327 rfl (lv_at hl 3 rfl) ?_
    refine lv_iconst (v := 1) hx hb dX6_does_328 (by decide) ?_
    refine lv_iadd hx hb dX6_does_329 ?_
    refine lv_topi (fun x_72 ex_72 => ?_)
    have ix_72 : x_72.toInt = pp.toInt + 1 := ic_add ex_72 rfl kI_1 (by omega) (by omega)
    exact m_iret (v := x_72) hx hb hr hlk hC hH (fun _ => (0, 0)) ⟨hfr, ⟨_, _, hM, hR, hac_71, hth_71⟩, by omega, by omega, fun _ => (by rw [nxt_5 eκ]; omega)⟩ (Nat.le_of_ble_eq_true rfl) (Nat.le_of_ble_eq_true rfl) dX6_does_330
  · skip
    have hv_ : κ = 6 := by omega
    subst hv_
    have g0_ := fit_get (m := 3) rfl (by decide) kI_3 f0_
    have nA_ : (aA (A K)) < 4 := (show (A K).2.1.toInt.toNat < 4 from (by omega))
    have g1_ := fit_get (m := 3) rfl (by decide) kI_3 f1_
    have nB_ : (aB (A K)) < 4 := (show (A K).2.2.1.toInt.toNat < 4 from (by omega))
    have g2_ := fit_get (m := 7) rfl (by decide) kI_7 f2_
    have nC_ : (aC (A K)) < 8 := (show (A K).2.2.2.1.toInt.toNat < 8 from (by omega))
    have jk_7 : x_6.toInt = 6 := hk_7
    refine lv_tableIn (off := 309) (tgt := 322) hx hb dX6_does_13 (by rw [jk_7]; decide) (by rw [jk_7]; decide) (by rw [jk_7]; rfl) (by decide) ?_
    refine lv_aload_n hx hb dX6_does_322 rfl (lv_at hl 1 rfl) ?_
    refine lv_iload_n hx hb dX6_does_323 rfl (lv_at hl 2 rfl) ?_
    have hI : FM G h n T z A hg ver (cqL c0q σ) (feL fe0 c0q σ) tms ca wl wh ac 0 sx σ f := ⟨_, _, hM, hR, hac_1, hth_1⟩
    refine m_gov hH (va_runV (As := [.int kk]) (rest := []) ⟨hx, hb, hml, hown, hts⟩ (c_X6_fieldActs l G h n T z A hg ver c0q fe0 tms ca wl wh ac sx σ f hI hn0 kk K hv hk (by omega)) (cwV 1 hts gX6_does_X6_fieldActs rfl rfl rfl (by decide +kernel) ⟨Nat.le_of_ble_eq_true rfl, Nat.le_of_ble_eq_true rfl⟩) (m_preV (ci := 6) hC hH F_2 rfl) rfl rfl hl.1 rfl (lv_room (Nat.le_of_ble_eq_true rfl)) dX6_does_324 ⟨Nat.le_of_ble_eq_true rfl, Nat.le_of_ble_eq_true rfl⟩) (fun rho_75 f_74 H locs hw hH => ?_)
    obtain ⟨hfr1, hI⟩ := hw
    have hfr1 : frM h f f_74 := hfr1
    have hfr := hfr.trans hfr1
    have hI : FM G h n T z A hg ver (cqL c0q ((prf T (A K) σ).2)) (feL fe0 c0q ((prf T (A K) σ).2)) tms ca wl wh ac ((prf T (A K) σ).1) sx ((prf T (A K) σ).2) f_74 := hI
    obtain ⟨I_76, J_76, hM, hR, hac_76, hth_76⟩ := hI
    have hg_76 := hR.hg40
    have n24_76 := hR.n24
    have tl_76 := len_b hR.ok.2.2.1
    have wl_76 := hR.wl192
    have hgI_76 : (nI hg).toInt = ((hg : Nat) : Int) := nI_toInt (by omega)
    have tmI_76 : (nI ((trS ((prf T (A K) σ).2)).length)).toInt = (((trS ((prf T (A K) σ).2)).length : Nat) : Int) := nI_toInt (by omega)
    have wmI_76 : (nI wl.length).toInt = ((wl.length : Nat) : Int) := nI_toInt (by omega)
    have acI_76 : (nI ac).toInt = ((ac : Nat) : Int) := nI_toInt (by omega)
    have thI_76 : (nI ((prf T (A K) σ).1)).toInt = (((prf T (A K) σ).1 : Nat) : Int) := nI_toInt (by omega)
    have nIn_76 : (nI n).toInt = ((n : Nat) : Int) := nI_toInt (by omega)
    refine lv_iload_n hx hb dX6_does_327 rfl (lv_at hl 3 rfl) ?_
    refine lv_iconst (v := 1) hx hb dX6_does_328 (by decide) ?_
    refine lv_iadd hx hb dX6_does_329 ?_
    refine lv_topi (fun x_77 ex_77 => ?_)
    have ix_77 : x_77.toInt = pp.toInt + 1 := ic_add ex_77 rfl kI_1 (by omega) (by omega)
    exact m_iret (v := x_77) hx hb hr hlk hC hH (fun _ => (0, 0)) ⟨hfr, ⟨_, _, hM, hR, hac_76, hth_76⟩, by omega, by omega, fun _ => (by rw [nxt_6 eκ]; omega)⟩ (Nat.le_of_ble_eq_true rfl) (Nat.le_of_ble_eq_true rfl) dX6_does_330
  · skip
    have hv_ : κ = 7 := by omega
    subst hv_
    have g0_ := fit_get (m := 3) rfl (by decide) kI_3 f0_
    have nA_ : (aA (A K)) < 4 := (show (A K).2.1.toInt.toNat < 4 from (by omega))
    have g1_ := fit_get (m := 7) rfl (by decide) kI_7 f1_
    have nB_ : (aB (A K)) < 8 := (show (A K).2.2.1.toInt.toNat < 8 from (by omega))
    have g2_ := fit_get (m := 3) rfl (by decide) kI_3 f2_
    have nC_ : (aC (A K)) < 4 := (show (A K).2.2.2.1.toInt.toNat < 4 from (by omega))
    have jk_7 : x_6.toInt = 7 := hk_7
    refine lv_tableIn (off := 309) (tgt := 322) hx hb dX6_does_13 (by rw [jk_7]; decide) (by rw [jk_7]; decide) (by rw [jk_7]; rfl) (by decide) ?_
    refine lv_aload_n hx hb dX6_does_322 rfl (lv_at hl 1 rfl) ?_
    refine lv_iload_n hx hb dX6_does_323 rfl (lv_at hl 2 rfl) ?_
    have hI : FM G h n T z A hg ver (cqL c0q σ) (feL fe0 c0q σ) tms ca wl wh ac 0 sx σ f := ⟨_, _, hM, hR, hac_1, hth_1⟩
    refine m_gov hH (va_runV (As := [.int kk]) (rest := []) ⟨hx, hb, hml, hown, hts⟩ (c_X6_fieldActs l G h n T z A hg ver c0q fe0 tms ca wl wh ac sx σ f hI hn0 kk K hv hk (by omega)) (cwV 1 hts gX6_does_X6_fieldActs rfl rfl rfl (by decide +kernel) ⟨Nat.le_of_ble_eq_true rfl, Nat.le_of_ble_eq_true rfl⟩) (m_preV (ci := 6) hC hH F_2 rfl) rfl rfl hl.1 rfl (lv_room (Nat.le_of_ble_eq_true rfl)) dX6_does_324 ⟨Nat.le_of_ble_eq_true rfl, Nat.le_of_ble_eq_true rfl⟩) (fun rho_80 f_79 H locs hw hH => ?_)
    obtain ⟨hfr1, hI⟩ := hw
    have hfr1 : frM h f f_79 := hfr1
    have hfr := hfr.trans hfr1
    have hI : FM G h n T z A hg ver (cqL c0q ((prf T (A K) σ).2)) (feL fe0 c0q ((prf T (A K) σ).2)) tms ca wl wh ac ((prf T (A K) σ).1) sx ((prf T (A K) σ).2) f_79 := hI
    obtain ⟨I_81, J_81, hM, hR, hac_81, hth_81⟩ := hI
    have hg_81 := hR.hg40
    have n24_81 := hR.n24
    have tl_81 := len_b hR.ok.2.2.1
    have wl_81 := hR.wl192
    have hgI_81 : (nI hg).toInt = ((hg : Nat) : Int) := nI_toInt (by omega)
    have tmI_81 : (nI ((trS ((prf T (A K) σ).2)).length)).toInt = (((trS ((prf T (A K) σ).2)).length : Nat) : Int) := nI_toInt (by omega)
    have wmI_81 : (nI wl.length).toInt = ((wl.length : Nat) : Int) := nI_toInt (by omega)
    have acI_81 : (nI ac).toInt = ((ac : Nat) : Int) := nI_toInt (by omega)
    have thI_81 : (nI ((prf T (A K) σ).1)).toInt = (((prf T (A K) σ).1 : Nat) : Int) := nI_toInt (by omega)
    have nIn_81 : (nI n).toInt = ((n : Nat) : Int) := nI_toInt (by omega)
    refine lv_iload_n hx hb dX6_does_327 rfl (lv_at hl 3 rfl) ?_
    refine lv_iconst (v := 1) hx hb dX6_does_328 (by decide) ?_
    refine lv_iadd hx hb dX6_does_329 ?_
    refine lv_topi (fun x_82 ex_82 => ?_)
    have ix_82 : x_82.toInt = pp.toInt + 1 := ic_add ex_82 rfl kI_1 (by omega) (by omega)
    exact m_iret (v := x_82) hx hb hr hlk hC hH (fun _ => (0, 0)) ⟨hfr, ⟨_, _, hM, hR, hac_81, hth_81⟩, by omega, by omega, fun _ => (by rw [nxt_7 eκ]; omega)⟩ (Nat.le_of_ble_eq_true rfl) (Nat.le_of_ble_eq_true rfl) dX6_does_330
  · skip
    have hv_ : κ = 8 := by omega
    subst hv_
    have g0_ := fit_get (m := 3) rfl (by decide) kI_3 f0_
    have nA_ : (aA (A K)) < 4 := (show (A K).2.1.toInt.toNat < 4 from (by omega))
    have g1_ := fit_get (m := 3) rfl (by decide) kI_3 f1_
    have nB_ : (aB (A K)) < 4 := (show (A K).2.2.1.toInt.toNat < 4 from (by omega))
    have g2_ := fit_get (m := 7) rfl (by decide) kI_7 f2_
    have nC_ : (aC (A K)) < 8 := (show (A K).2.2.2.1.toInt.toNat < 8 from (by omega))
    have g3_ := fit_get (m := 3) rfl (by decide) kI_3 f3_
    have nD_ : (aD (A K)) < 4 := (show (A K).2.2.2.2.1.toInt.toNat < 4 from (by omega))
    have jk_7 : x_6.toInt = 8 := hk_7
    refine lv_tableIn (off := 300) (tgt := 313) hx hb dX6_does_13 (by rw [jk_7]; decide) (by rw [jk_7]; decide) (by rw [jk_7]; rfl) (by decide) ?_
    refine lv_aload_n hx hb dX6_does_313 rfl (lv_at hl 1 rfl) ?_
    refine lv_iload_n hx hb dX6_does_314 rfl (lv_at hl 2 rfl) ?_
    have hI : FM G h n T z A hg ver (cqL c0q σ) (feL fe0 c0q σ) tms ca wl wh ac 0 sx σ f := ⟨_, _, hM, hR, hac_1, hth_1⟩
    refine m_gov hH (va_runV (As := [.int kk]) (rest := []) ⟨hx, hb, hml, hown, hts⟩ (c_X6_rowActs l G h n T z A hg ver c0q fe0 tms ca wl wh ac sx σ f hI hn0 kk K hv hk (by omega)) (cwV 1 hts gX6_does_X6_rowActs rfl rfl rfl (by decide +kernel) ⟨Nat.le_of_ble_eq_true rfl, Nat.le_of_ble_eq_true rfl⟩) (m_preV (ci := 6) hC hH F_2 rfl) rfl rfl hl.1 rfl (lv_room (Nat.le_of_ble_eq_true rfl)) dX6_does_315 ⟨Nat.le_of_ble_eq_true rfl, Nat.le_of_ble_eq_true rfl⟩) (fun rho_85 f_84 H locs hw hH => ?_)
    obtain ⟨hfr1, hI⟩ := hw
    have hfr1 : frM h f f_84 := hfr1
    have hfr := hfr.trans hfr1
    have hI : FM G h n T z A hg ver (cqL c0q ((prf T (A K) σ).2)) (feL fe0 c0q ((prf T (A K) σ).2)) tms ca wl wh ac ((prf T (A K) σ).1) sx ((prf T (A K) σ).2) f_84 := hI
    obtain ⟨I_86, J_86, hM, hR, hac_86, hth_86⟩ := hI
    have hg_86 := hR.hg40
    have n24_86 := hR.n24
    have tl_86 := len_b hR.ok.2.2.1
    have wl_86 := hR.wl192
    have hgI_86 : (nI hg).toInt = ((hg : Nat) : Int) := nI_toInt (by omega)
    have tmI_86 : (nI ((trS ((prf T (A K) σ).2)).length)).toInt = (((trS ((prf T (A K) σ).2)).length : Nat) : Int) := nI_toInt (by omega)
    have wmI_86 : (nI wl.length).toInt = ((wl.length : Nat) : Int) := nI_toInt (by omega)
    have acI_86 : (nI ac).toInt = ((ac : Nat) : Int) := nI_toInt (by omega)
    have thI_86 : (nI ((prf T (A K) σ).1)).toInt = (((prf T (A K) σ).1 : Nat) : Int) := nI_toInt (by omega)
    have nIn_86 : (nI n).toInt = ((n : Nat) : Int) := nI_toInt (by omega)
    refine lv_iload_n hx hb dX6_does_318 rfl (lv_at hl 3 rfl) ?_
    refine lv_iconst (v := 1) hx hb dX6_does_319 (by decide) ?_
    refine lv_iadd hx hb dX6_does_320 ?_
    refine lv_topi (fun x_87 ex_87 => ?_)
    have ix_87 : x_87.toInt = pp.toInt + 1 := ic_add ex_87 rfl kI_1 (by omega) (by omega)
    exact m_iret (v := x_87) hx hb hr hlk hC hH (fun _ => (0, 0)) ⟨hfr, ⟨_, _, hM, hR, hac_86, hth_86⟩, by omega, by omega, fun _ => (by rw [nxt_8 eκ]; omega)⟩ (Nat.le_of_ble_eq_true rfl) (Nat.le_of_ble_eq_true rfl) dX6_does_321
  · skip
    have hv_ : κ = 9 := by omega
    subst hv_
    have g0_ := fit_get (m := 3) rfl (by decide) kI_3 f0_
    have nA_ : (aA (A K)) < 4 := (show (A K).2.1.toInt.toNat < 4 from (by omega))
    have g1_ := fit_get (m := 7) rfl (by decide) kI_7 f1_
    have nB_ : (aB (A K)) < 8 := (show (A K).2.2.1.toInt.toNat < 8 from (by omega))
    have g2_ := fit_get (m := 3) rfl (by decide) kI_3 f2_
    have nC_ : (aC (A K)) < 4 := (show (A K).2.2.2.1.toInt.toNat < 4 from (by omega))
    have g3_ := fit_get (m := 3) rfl (by decide) kI_3 f3_
    have nD_ : (aD (A K)) < 4 := (show (A K).2.2.2.2.1.toInt.toNat < 4 from (by omega))
    have jk_7 : x_6.toInt = 9 := hk_7
    refine lv_tableIn (off := 300) (tgt := 313) hx hb dX6_does_13 (by rw [jk_7]; decide) (by rw [jk_7]; decide) (by rw [jk_7]; rfl) (by decide) ?_
    refine lv_aload_n hx hb dX6_does_313 rfl (lv_at hl 1 rfl) ?_
    refine lv_iload_n hx hb dX6_does_314 rfl (lv_at hl 2 rfl) ?_
    have hI : FM G h n T z A hg ver (cqL c0q σ) (feL fe0 c0q σ) tms ca wl wh ac 0 sx σ f := ⟨_, _, hM, hR, hac_1, hth_1⟩
    refine m_gov hH (va_runV (As := [.int kk]) (rest := []) ⟨hx, hb, hml, hown, hts⟩ (c_X6_rowActs l G h n T z A hg ver c0q fe0 tms ca wl wh ac sx σ f hI hn0 kk K hv hk (by omega)) (cwV 1 hts gX6_does_X6_rowActs rfl rfl rfl (by decide +kernel) ⟨Nat.le_of_ble_eq_true rfl, Nat.le_of_ble_eq_true rfl⟩) (m_preV (ci := 6) hC hH F_2 rfl) rfl rfl hl.1 rfl (lv_room (Nat.le_of_ble_eq_true rfl)) dX6_does_315 ⟨Nat.le_of_ble_eq_true rfl, Nat.le_of_ble_eq_true rfl⟩) (fun rho_90 f_89 H locs hw hH => ?_)
    obtain ⟨hfr1, hI⟩ := hw
    have hfr1 : frM h f f_89 := hfr1
    have hfr := hfr.trans hfr1
    have hI : FM G h n T z A hg ver (cqL c0q ((prf T (A K) σ).2)) (feL fe0 c0q ((prf T (A K) σ).2)) tms ca wl wh ac ((prf T (A K) σ).1) sx ((prf T (A K) σ).2) f_89 := hI
    obtain ⟨I_91, J_91, hM, hR, hac_91, hth_91⟩ := hI
    have hg_91 := hR.hg40
    have n24_91 := hR.n24
    have tl_91 := len_b hR.ok.2.2.1
    have wl_91 := hR.wl192
    have hgI_91 : (nI hg).toInt = ((hg : Nat) : Int) := nI_toInt (by omega)
    have tmI_91 : (nI ((trS ((prf T (A K) σ).2)).length)).toInt = (((trS ((prf T (A K) σ).2)).length : Nat) : Int) := nI_toInt (by omega)
    have wmI_91 : (nI wl.length).toInt = ((wl.length : Nat) : Int) := nI_toInt (by omega)
    have acI_91 : (nI ac).toInt = ((ac : Nat) : Int) := nI_toInt (by omega)
    have thI_91 : (nI ((prf T (A K) σ).1)).toInt = (((prf T (A K) σ).1 : Nat) : Int) := nI_toInt (by omega)
    have nIn_91 : (nI n).toInt = ((n : Nat) : Int) := nI_toInt (by omega)
    refine lv_iload_n hx hb dX6_does_318 rfl (lv_at hl 3 rfl) ?_
    refine lv_iconst (v := 1) hx hb dX6_does_319 (by decide) ?_
    refine lv_iadd hx hb dX6_does_320 ?_
    refine lv_topi (fun x_92 ex_92 => ?_)
    have ix_92 : x_92.toInt = pp.toInt + 1 := ic_add ex_92 rfl kI_1 (by omega) (by omega)
    exact m_iret (v := x_92) hx hb hr hlk hC hH (fun _ => (0, 0)) ⟨hfr, ⟨_, _, hM, hR, hac_91, hth_91⟩, by omega, by omega, fun _ => (by rw [nxt_9 eκ]; omega)⟩ (Nat.le_of_ble_eq_true rfl) (Nat.le_of_ble_eq_true rfl) dX6_does_321
  · skip
    have hv_ : κ = 10 := by omega
    subst hv_
    have g0_ := fit_get (m := 3) rfl (by decide) kI_3 f0_
    have nA_ : (aA (A K)) < 4 := (show (A K).2.1.toInt.toNat < 4 from (by omega))
    have g1_ := fit_get (m := 7) rfl (by decide) kI_7 f1_
    have nB_ : (aB (A K)) < 8 := (show (A K).2.2.1.toInt.toNat < 8 from (by omega))
    have g2_ := fit_get (m := 3) rfl (by decide) kI_3 f2_
    have nC_ : (aC (A K)) < 4 := (show (A K).2.2.2.1.toInt.toNat < 4 from (by omega))
    have jk_7 : x_6.toInt = 10 := hk_7
    refine lv_tableIn (off := 300) (tgt := 313) hx hb dX6_does_13 (by rw [jk_7]; decide) (by rw [jk_7]; decide) (by rw [jk_7]; rfl) (by decide) ?_
    refine lv_aload_n hx hb dX6_does_313 rfl (lv_at hl 1 rfl) ?_
    refine lv_iload_n hx hb dX6_does_314 rfl (lv_at hl 2 rfl) ?_
    have hI : FM G h n T z A hg ver (cqL c0q σ) (feL fe0 c0q σ) tms ca wl wh ac 0 sx σ f := ⟨_, _, hM, hR, hac_1, hth_1⟩
    refine m_gov hH (va_runV (As := [.int kk]) (rest := []) ⟨hx, hb, hml, hown, hts⟩ (c_X6_rowActs l G h n T z A hg ver c0q fe0 tms ca wl wh ac sx σ f hI hn0 kk K hv hk (by omega)) (cwV 1 hts gX6_does_X6_rowActs rfl rfl rfl (by decide +kernel) ⟨Nat.le_of_ble_eq_true rfl, Nat.le_of_ble_eq_true rfl⟩) (m_preV (ci := 6) hC hH F_2 rfl) rfl rfl hl.1 rfl (lv_room (Nat.le_of_ble_eq_true rfl)) dX6_does_315 ⟨Nat.le_of_ble_eq_true rfl, Nat.le_of_ble_eq_true rfl⟩) (fun rho_95 f_94 H locs hw hH => ?_)
    obtain ⟨hfr1, hI⟩ := hw
    have hfr1 : frM h f f_94 := hfr1
    have hfr := hfr.trans hfr1
    have hI : FM G h n T z A hg ver (cqL c0q ((prf T (A K) σ).2)) (feL fe0 c0q ((prf T (A K) σ).2)) tms ca wl wh ac ((prf T (A K) σ).1) sx ((prf T (A K) σ).2) f_94 := hI
    obtain ⟨I_96, J_96, hM, hR, hac_96, hth_96⟩ := hI
    have hg_96 := hR.hg40
    have n24_96 := hR.n24
    have tl_96 := len_b hR.ok.2.2.1
    have wl_96 := hR.wl192
    have hgI_96 : (nI hg).toInt = ((hg : Nat) : Int) := nI_toInt (by omega)
    have tmI_96 : (nI ((trS ((prf T (A K) σ).2)).length)).toInt = (((trS ((prf T (A K) σ).2)).length : Nat) : Int) := nI_toInt (by omega)
    have wmI_96 : (nI wl.length).toInt = ((wl.length : Nat) : Int) := nI_toInt (by omega)
    have acI_96 : (nI ac).toInt = ((ac : Nat) : Int) := nI_toInt (by omega)
    have thI_96 : (nI ((prf T (A K) σ).1)).toInt = (((prf T (A K) σ).1 : Nat) : Int) := nI_toInt (by omega)
    have nIn_96 : (nI n).toInt = ((n : Nat) : Int) := nI_toInt (by omega)
    refine lv_iload_n hx hb dX6_does_318 rfl (lv_at hl 3 rfl) ?_
    refine lv_iconst (v := 1) hx hb dX6_does_319 (by decide) ?_
    refine lv_iadd hx hb dX6_does_320 ?_
    refine lv_topi (fun x_97 ex_97 => ?_)
    have ix_97 : x_97.toInt = pp.toInt + 1 := ic_add ex_97 rfl kI_1 (by omega) (by omega)
    exact m_iret (v := x_97) hx hb hr hlk hC hH (fun _ => (0, 0)) ⟨hfr, ⟨_, _, hM, hR, hac_96, hth_96⟩, by omega, by omega, fun _ => (by rw [nxt_10 eκ]; omega)⟩ (Nat.le_of_ble_eq_true rfl) (Nat.le_of_ble_eq_true rfl) dX6_does_321
  · skip
    have hv_ : κ = 11 := by omega
    subst hv_
    have g0_ := fit_get (m := 3) rfl (by decide) kI_3 f0_
    have nA_ : (aA (A K)) < 4 := (show (A K).2.1.toInt.toNat < 4 from (by omega))
    have g1_ := fit_get (m := 7) rfl (by decide) kI_7 f1_
    have nB_ : (aB (A K)) < 8 := (show (A K).2.2.1.toInt.toNat < 8 from (by omega))
    have g2_ := fit_get (m := 3) rfl (by decide) kI_3 f2_
    have nC_ : (aC (A K)) < 4 := (show (A K).2.2.2.1.toInt.toNat < 4 from (by omega))
    have g3_ := fit_get (m := 7) rfl (by decide) kI_7 f3_
    have nD_ : (aD (A K)) < 8 := (show (A K).2.2.2.2.1.toInt.toNat < 8 from (by omega))
    have g4_ := fit_get (m := 3) rfl (by decide) kI_3 f4_
    have nE_ : (aE (A K)) < 4 := (show (A K).2.2.2.2.2.toInt.toNat < 4 from (by omega))
    have jk_7 : x_6.toInt = 11 := hk_7
    refine lv_tableIn (off := 300) (tgt := 313) hx hb dX6_does_13 (by rw [jk_7]; decide) (by rw [jk_7]; decide) (by rw [jk_7]; rfl) (by decide) ?_
    refine lv_aload_n hx hb dX6_does_313 rfl (lv_at hl 1 rfl) ?_
    refine lv_iload_n hx hb dX6_does_314 rfl (lv_at hl 2 rfl) ?_
    have hI : FM G h n T z A hg ver (cqL c0q σ) (feL fe0 c0q σ) tms ca wl wh ac 0 sx σ f := ⟨_, _, hM, hR, hac_1, hth_1⟩
    refine m_gov hH (va_runV (As := [.int kk]) (rest := []) ⟨hx, hb, hml, hown, hts⟩ (c_X6_rowActs l G h n T z A hg ver c0q fe0 tms ca wl wh ac sx σ f hI hn0 kk K hv hk (by omega)) (cwV 1 hts gX6_does_X6_rowActs rfl rfl rfl (by decide +kernel) ⟨Nat.le_of_ble_eq_true rfl, Nat.le_of_ble_eq_true rfl⟩) (m_preV (ci := 6) hC hH F_2 rfl) rfl rfl hl.1 rfl (lv_room (Nat.le_of_ble_eq_true rfl)) dX6_does_315 ⟨Nat.le_of_ble_eq_true rfl, Nat.le_of_ble_eq_true rfl⟩) (fun rho_100 f_99 H locs hw hH => ?_)
    obtain ⟨hfr1, hI⟩ := hw
    have hfr1 : frM h f f_99 := hfr1
    have hfr := hfr.trans hfr1
    have hI : FM G h n T z A hg ver (cqL c0q ((prf T (A K) σ).2)) (feL fe0 c0q ((prf T (A K) σ).2)) tms ca wl wh ac ((prf T (A K) σ).1) sx ((prf T (A K) σ).2) f_99 := hI
    obtain ⟨I_101, J_101, hM, hR, hac_101, hth_101⟩ := hI
    have hg_101 := hR.hg40
    have n24_101 := hR.n24
    have tl_101 := len_b hR.ok.2.2.1
    have wl_101 := hR.wl192
    have hgI_101 : (nI hg).toInt = ((hg : Nat) : Int) := nI_toInt (by omega)
    have tmI_101 : (nI ((trS ((prf T (A K) σ).2)).length)).toInt = (((trS ((prf T (A K) σ).2)).length : Nat) : Int) := nI_toInt (by omega)
    have wmI_101 : (nI wl.length).toInt = ((wl.length : Nat) : Int) := nI_toInt (by omega)
    have acI_101 : (nI ac).toInt = ((ac : Nat) : Int) := nI_toInt (by omega)
    have thI_101 : (nI ((prf T (A K) σ).1)).toInt = (((prf T (A K) σ).1 : Nat) : Int) := nI_toInt (by omega)
    have nIn_101 : (nI n).toInt = ((n : Nat) : Int) := nI_toInt (by omega)
    refine lv_iload_n hx hb dX6_does_318 rfl (lv_at hl 3 rfl) ?_
    refine lv_iconst (v := 1) hx hb dX6_does_319 (by decide) ?_
    refine lv_iadd hx hb dX6_does_320 ?_
    refine lv_topi (fun x_102 ex_102 => ?_)
    have ix_102 : x_102.toInt = pp.toInt + 1 := ic_add ex_102 rfl kI_1 (by omega) (by omega)
    exact m_iret (v := x_102) hx hb hr hlk hC hH (fun _ => (0, 0)) ⟨hfr, ⟨_, _, hM, hR, hac_101, hth_101⟩, by omega, by omega, fun _ => (by rw [nxt_11 eκ]; omega)⟩ (Nat.le_of_ble_eq_true rfl) (Nat.le_of_ble_eq_true rfl) dX6_does_321
  · skip
    have hv_ : κ = 12 := by omega
    subst hv_
    have g0_ := fit_get (m := 3) rfl (by decide) kI_3 f0_
    have nA_ : (aA (A K)) < 4 := (show (A K).2.1.toInt.toNat < 4 from (by omega))
    have g1_ := fit_get (m := 3) rfl (by decide) kI_3 f1_
    have nB_ : (aB (A K)) < 4 := (show (A K).2.2.1.toInt.toNat < 4 from (by omega))
    have g2_ := fit_get (m := 3) rfl (by decide) kI_3 f2_
    have nC_ : (aC (A K)) < 4 := (show (A K).2.2.2.1.toInt.toNat < 4 from (by omega))
    have jk_7 : x_6.toInt = 12 := hk_7
    refine lv_tableIn (off := 309) (tgt := 322) hx hb dX6_does_13 (by rw [jk_7]; decide) (by rw [jk_7]; decide) (by rw [jk_7]; rfl) (by decide) ?_
    refine lv_aload_n hx hb dX6_does_322 rfl (lv_at hl 1 rfl) ?_
    refine lv_iload_n hx hb dX6_does_323 rfl (lv_at hl 2 rfl) ?_
    have hI : FM G h n T z A hg ver (cqL c0q σ) (feL fe0 c0q σ) tms ca wl wh ac 0 sx σ f := ⟨_, _, hM, hR, hac_1, hth_1⟩
    refine m_gov hH (va_runV (As := [.int kk]) (rest := []) ⟨hx, hb, hml, hown, hts⟩ (c_X6_fieldActs l G h n T z A hg ver c0q fe0 tms ca wl wh ac sx σ f hI hn0 kk K hv hk (by omega)) (cwV 1 hts gX6_does_X6_fieldActs rfl rfl rfl (by decide +kernel) ⟨Nat.le_of_ble_eq_true rfl, Nat.le_of_ble_eq_true rfl⟩) (m_preV (ci := 6) hC hH F_2 rfl) rfl rfl hl.1 rfl (lv_room (Nat.le_of_ble_eq_true rfl)) dX6_does_324 ⟨Nat.le_of_ble_eq_true rfl, Nat.le_of_ble_eq_true rfl⟩) (fun rho_105 f_104 H locs hw hH => ?_)
    obtain ⟨hfr1, hI⟩ := hw
    have hfr1 : frM h f f_104 := hfr1
    have hfr := hfr.trans hfr1
    have hI : FM G h n T z A hg ver (cqL c0q ((prf T (A K) σ).2)) (feL fe0 c0q ((prf T (A K) σ).2)) tms ca wl wh ac ((prf T (A K) σ).1) sx ((prf T (A K) σ).2) f_104 := hI
    obtain ⟨I_106, J_106, hM, hR, hac_106, hth_106⟩ := hI
    have hg_106 := hR.hg40
    have n24_106 := hR.n24
    have tl_106 := len_b hR.ok.2.2.1
    have wl_106 := hR.wl192
    have hgI_106 : (nI hg).toInt = ((hg : Nat) : Int) := nI_toInt (by omega)
    have tmI_106 : (nI ((trS ((prf T (A K) σ).2)).length)).toInt = (((trS ((prf T (A K) σ).2)).length : Nat) : Int) := nI_toInt (by omega)
    have wmI_106 : (nI wl.length).toInt = ((wl.length : Nat) : Int) := nI_toInt (by omega)
    have acI_106 : (nI ac).toInt = ((ac : Nat) : Int) := nI_toInt (by omega)
    have thI_106 : (nI ((prf T (A K) σ).1)).toInt = (((prf T (A K) σ).1 : Nat) : Int) := nI_toInt (by omega)
    have nIn_106 : (nI n).toInt = ((n : Nat) : Int) := nI_toInt (by omega)
    refine lv_iload_n hx hb dX6_does_327 rfl (lv_at hl 3 rfl) ?_
    refine lv_iconst (v := 1) hx hb dX6_does_328 (by decide) ?_
    refine lv_iadd hx hb dX6_does_329 ?_
    refine lv_topi (fun x_107 ex_107 => ?_)
    have ix_107 : x_107.toInt = pp.toInt + 1 := ic_add ex_107 rfl kI_1 (by omega) (by omega)
    exact m_iret (v := x_107) hx hb hr hlk hC hH (fun _ => (0, 0)) ⟨hfr, ⟨_, _, hM, hR, hac_106, hth_106⟩, by omega, by omega, fun _ => (by rw [nxt_12 eκ]; omega)⟩ (Nat.le_of_ble_eq_true rfl) (Nat.le_of_ble_eq_true rfl) dX6_does_330
  · skip
    have hv_ : κ = 13 := by omega
    subst hv_
    have g0_ := fit_get (m := 3) rfl (by decide) kI_3 f0_
    have nA_ : (aA (A K)) < 4 := (show (A K).2.1.toInt.toNat < 4 from (by omega))
    have g1_ := fit_get (m := 3) rfl (by decide) kI_3 f1_
    have nB_ : (aB (A K)) < 4 := (show (A K).2.2.1.toInt.toNat < 4 from (by omega))
    have g2_ := fit_get (m := 3) rfl (by decide) kI_3 f2_
    have nC_ : (aC (A K)) < 4 := (show (A K).2.2.2.1.toInt.toNat < 4 from (by omega))
    have jk_7 : x_6.toInt = 13 := hk_7
    refine lv_tableIn (off := 309) (tgt := 322) hx hb dX6_does_13 (by rw [jk_7]; decide) (by rw [jk_7]; decide) (by rw [jk_7]; rfl) (by decide) ?_
    refine lv_aload_n hx hb dX6_does_322 rfl (lv_at hl 1 rfl) ?_
    refine lv_iload_n hx hb dX6_does_323 rfl (lv_at hl 2 rfl) ?_
    have hI : FM G h n T z A hg ver (cqL c0q σ) (feL fe0 c0q σ) tms ca wl wh ac 0 sx σ f := ⟨_, _, hM, hR, hac_1, hth_1⟩
    refine m_gov hH (va_runV (As := [.int kk]) (rest := []) ⟨hx, hb, hml, hown, hts⟩ (c_X6_fieldActs l G h n T z A hg ver c0q fe0 tms ca wl wh ac sx σ f hI hn0 kk K hv hk (by omega)) (cwV 1 hts gX6_does_X6_fieldActs rfl rfl rfl (by decide +kernel) ⟨Nat.le_of_ble_eq_true rfl, Nat.le_of_ble_eq_true rfl⟩) (m_preV (ci := 6) hC hH F_2 rfl) rfl rfl hl.1 rfl (lv_room (Nat.le_of_ble_eq_true rfl)) dX6_does_324 ⟨Nat.le_of_ble_eq_true rfl, Nat.le_of_ble_eq_true rfl⟩) (fun rho_110 f_109 H locs hw hH => ?_)
    obtain ⟨hfr1, hI⟩ := hw
    have hfr1 : frM h f f_109 := hfr1
    have hfr := hfr.trans hfr1
    have hI : FM G h n T z A hg ver (cqL c0q ((prf T (A K) σ).2)) (feL fe0 c0q ((prf T (A K) σ).2)) tms ca wl wh ac ((prf T (A K) σ).1) sx ((prf T (A K) σ).2) f_109 := hI
    obtain ⟨I_111, J_111, hM, hR, hac_111, hth_111⟩ := hI
    have hg_111 := hR.hg40
    have n24_111 := hR.n24
    have tl_111 := len_b hR.ok.2.2.1
    have wl_111 := hR.wl192
    have hgI_111 : (nI hg).toInt = ((hg : Nat) : Int) := nI_toInt (by omega)
    have tmI_111 : (nI ((trS ((prf T (A K) σ).2)).length)).toInt = (((trS ((prf T (A K) σ).2)).length : Nat) : Int) := nI_toInt (by omega)
    have wmI_111 : (nI wl.length).toInt = ((wl.length : Nat) : Int) := nI_toInt (by omega)
    have acI_111 : (nI ac).toInt = ((ac : Nat) : Int) := nI_toInt (by omega)
    have thI_111 : (nI ((prf T (A K) σ).1)).toInt = (((prf T (A K) σ).1 : Nat) : Int) := nI_toInt (by omega)
    have nIn_111 : (nI n).toInt = ((n : Nat) : Int) := nI_toInt (by omega)
    refine lv_iload_n hx hb dX6_does_327 rfl (lv_at hl 3 rfl) ?_
    refine lv_iconst (v := 1) hx hb dX6_does_328 (by decide) ?_
    refine lv_iadd hx hb dX6_does_329 ?_
    refine lv_topi (fun x_112 ex_112 => ?_)
    have ix_112 : x_112.toInt = pp.toInt + 1 := ic_add ex_112 rfl kI_1 (by omega) (by omega)
    exact m_iret (v := x_112) hx hb hr hlk hC hH (fun _ => (0, 0)) ⟨hfr, ⟨_, _, hM, hR, hac_111, hth_111⟩, by omega, by omega, fun _ => (by rw [nxt_13 eκ]; omega)⟩ (Nat.le_of_ble_eq_true rfl) (Nat.le_of_ble_eq_true rfl) dX6_does_330
  · skip
    have hv_ : κ = 14 := by omega
    subst hv_
    have g1_ := fit_get (m := 32) rfl (by decide) kI_32 f1_
    have nB_ : (aB (A K)) < 33 := (show (A K).2.2.1.toInt.toNat < 33 from (by omega))
    have jk_7 : x_6.toInt = 14 := hk_7
    refine lv_tableIn (off := 246) (tgt := 259) hx hb dX6_does_13 (by rw [jk_7]; decide) (by rw [jk_7]; decide) (by rw [jk_7]; rfl) (by decide) ?_
    refine lv_aload_n hx hb dX6_does_259 rfl (lv_at hl 1 rfl) ?_
    refine m_get (ci := 6) (v := .ref (h 12)) (C := RX6) (T := TX6) (N := 30) hx hb hC hH hts in_X6_does_X6 hown F_2 rfl 12 (by decide) (hts (.fieldLink RX6 40 "LazyStateModel" "bs" "[J") (by decide +kernel)) rfl dX6_does_260 ?_
    refine lv_iload_n hx hb dX6_does_263 rfl (lv_at hl 2 rfl) ?_
    have hg_113 : f (h 12) = some (.inl (gk G 1, 192, .inr (.inl (J_1 12)))) := hM.2.2.1 12 (by decide) rfl
    refine m_lald hx hb hC hH hg_113 (vp_in_iff.mpr ⟨by omega, by omega⟩) dX6_does_264 ?_
    refine lv_topl (fun y_114 ey_114 => ?_)
    have qy_114 : y_114 = (A K).2.2.1 := by rw [ey_114, kcl]; exact (hR.ac hv).2.2.1
    have ty_114 : y_114.toInt = (A K).2.2.1.toInt := by rw [qy_114]
    refine lv_l2i hx hb dX6_does_265 rfl ?_
    refine lv_topi (fun x_115 ex_115 => ?_)
    have ix_115 : x_115.toInt = y_114.toInt := ic_l2i ex_115 rfl (by omega) (by omega)
    exact m_iret (v := x_115) hx hb hr hlk hC hH (fun _ => (0, 0)) ⟨hfr, by rw [prf_14 eκ]; exact ⟨_, _, hM, hR, hac_1, hth_1⟩, by omega, by omega, fun z_ => (by rw [nxt_14 eκ]; show _ = (((A K).2.2.1.toInt.toNat : Nat) : Int); omega)⟩ (Nat.le_of_ble_eq_true rfl) (Nat.le_of_ble_eq_true rfl) dX6_does_266
  · skip
    have hv_ : κ = 15 := by omega
    subst hv_
    have g0_ := fit_get (m := 3) rfl (by decide) kI_3 f0_
    have nA_ : (aA (A K)) < 4 := (show (A K).2.1.toInt.toNat < 4 from (by omega))
    have g1_ := fit_get (m := 32) rfl (by decide) kI_32 f1_
    have nB_ : (aB (A K)) < 33 := (show (A K).2.2.1.toInt.toNat < 33 from (by omega))
    have jk_7 : x_6.toInt = 15 := hk_7
    refine lv_tableIn (off := 254) (tgt := 267) hx hb dX6_does_13 (by rw [jk_7]; decide) (by rw [jk_7]; decide) (by rw [jk_7]; rfl) (by decide) ?_
    refine lv_aload_n hx hb dX6_does_267 rfl (lv_at hl 1 rfl) ?_
    refine m_get (ci := 6) (v := .ref (h 27)) (C := RX6) (T := TX6) (N := 30) hx hb hC hH hts in_X6_does_X6 hown F_2 rfl 27 (by decide) (hts (.fieldLink RX6 71 "LazyStateModel" "values" "[J") (by decide +kernel)) rfl dX6_does_268 ?_
    refine lv_iload_n hx hb dX6_does_271 rfl (lv_at hl 0 rfl) ?_
    have hg_116 : f (h 27) = some (.inl (gk G 1, 4, .inr (.inl (J_1 27)))) := hM.2.2.1 27 (by decide) rfl
    refine m_lald hx hb hC hH hg_116 (vp_in_iff.mpr ⟨by omega, by omega⟩) dX6_does_272 ?_
    refine lv_topl (fun y_117 ey_117 => ?_)
    have vy_117 : y_117 = vaS σ (aA (A K)) := by rw [ey_117, (show x_4.toNatClampNeg = (aA (A K)) from (by show x_4.toInt.toNat = (A K).2.1.toInt.toNat; omega))]; exact hR.vaI (show (A K).2.1.toInt.toNat < 4 from by omega)
    refine lv_lconst (v := 0) hx hb dX6_does_273 (by decide) ?_
    refine W.lcmp hx hb dX6_does_274 ?_
    refine lv_if_le (tgt := 288) hx hb dX6_does_275 (by decide) (fun c_118 => ?_) (fun c_118 => ?_)
    · skip
      have ic_118 : (y_117.toInt : Int) ≤ 0 := lc_le rfl kJ_0 ((lg_cmp_le _ _).mp c_118)
      refine lv_iload_n hx hb dX6_does_288 rfl (lv_at hl 3 rfl) ?_
      refine lv_iconst (v := 1) hx hb dX6_does_289 (by decide) ?_
      refine lv_iadd hx hb dX6_does_290 ?_
      refine lv_topi (fun x_119 ex_119 => ?_)
      have ix_119 : x_119.toInt = pp.toInt + 1 := ic_add ex_119 rfl kI_1 (by omega) (by omega)
      exact m_iret (v := x_119) hx hb hr hlk hC hH (fun _ => (0, 0)) ⟨hfr, by rw [prf_15 eκ]; exact ⟨_, _, hM, hR, hac_1, hth_1⟩, by omega, by omega, fun z_ => (by rw [nxt_15 eκ, if_neg (by rw [← vy_117]; omega)]; omega)⟩ (Nat.le_of_ble_eq_true rfl) (Nat.le_of_ble_eq_true rfl) dX6_does_291
    · skip
      have ic_118 : (y_117.toInt : Int) > 0 := lc_nle rfl kJ_0 (fun q_ => c_118 ((lg_cmp_le _ _).mpr q_))
      refine lv_aload_n hx hb dX6_does_278 rfl (lv_at hl 1 rfl) ?_
      refine m_get (ci := 6) (v := .ref (h 12)) (C := RX6) (T := TX6) (N := 30) hx hb hC hH hts in_X6_does_X6 hown F_2 rfl 12 (by decide) (hts (.fieldLink RX6 40 "LazyStateModel" "bs" "[J") (by decide +kernel)) rfl dX6_does_279 ?_
      refine lv_iload_n hx hb dX6_does_282 rfl (lv_at hl 2 rfl) ?_
      have hg_120 : f (h 12) = some (.inl (gk G 1, 192, .inr (.inl (J_1 12)))) := hM.2.2.1 12 (by decide) rfl
      refine m_lald hx hb hC hH hg_120 (vp_in_iff.mpr ⟨by omega, by omega⟩) dX6_does_283 ?_
      refine lv_topl (fun y_121 ey_121 => ?_)
      have qy_121 : y_121 = (A K).2.2.1 := by rw [ey_121, kcl]; exact (hR.ac hv).2.2.1
      have ty_121 : y_121.toInt = (A K).2.2.1.toInt := by rw [qy_121]
      refine lv_l2i hx hb dX6_does_284 rfl ?_
      refine lv_topi (fun x_122 ex_122 => ?_)
      have ix_122 : x_122.toInt = y_121.toInt := ic_l2i ex_122 rfl (by omega) (by omega)
      refine lv_goto (tgt := 291) hx hb dX6_does_285 (by decide) ?_
      exact m_iret (v := x_122) hx hb hr hlk hC hH (fun _ => (0, 0)) ⟨hfr, by rw [prf_15 eκ]; exact ⟨_, _, hM, hR, hac_1, hth_1⟩, by omega, by omega, fun z_ => (by rw [nxt_15 eκ, if_pos (by rw [← vy_117]; omega)]; show _ = (((A K).2.2.1.toInt.toNat : Nat) : Int); omega)⟩ (Nat.le_of_ble_eq_true rfl) (Nat.le_of_ble_eq_true rfl) dX6_does_291
  · skip
    have hv_ : κ = 16 := by omega
    subst hv_
    have g0_ := fit_get (m := 3) rfl (by decide) kI_3 f0_
    have nA_ : (aA (A K)) < 4 := (show (A K).2.1.toInt.toNat < 4 from (by omega))
    have jk_7 : x_6.toInt = 16 := hk_7
    refine lv_tableIn (off := 279) (tgt := 292) hx hb dX6_does_13 (by rw [jk_7]; decide) (by rw [jk_7]; decide) (by rw [jk_7]; rfl) (by decide) ?_
    refine lv_aload_n hx hb dX6_does_292 rfl (lv_at hl 1 rfl) ?_
    refine lv_aload_n hx hb dX6_does_293 rfl (lv_at hl 1 rfl) ?_
    refine m_get (ci := 6) (v := .ref (h 27)) (C := RX6) (T := TX6) (N := 30) hx hb hC hH hts in_X6_does_X6 hown F_2 rfl 27 (by decide) (hts (.fieldLink RX6 71 "LazyStateModel" "values" "[J") (by decide +kernel)) rfl dX6_does_294 ?_
    refine lv_iload_n hx hb dX6_does_297 rfl (lv_at hl 0 rfl) ?_
    have hg_123 : f (h 27) = some (.inl (gk G 1, 4, .inr (.inl (J_1 27)))) := hM.2.2.1 27 (by decide) rfl
    refine m_lald hx hb hC hH hg_123 (vp_in_iff.mpr ⟨by omega, by omega⟩) dX6_does_298 ?_
    refine lv_topl (fun y_124 ey_124 => ?_)
    have vy_124 : y_124 = vaS σ (aA (A K)) := by rw [ey_124, (show x_4.toNatClampNeg = (aA (A K)) from (by show x_4.toInt.toNat = (A K).2.1.toInt.toNat; omega))]; exact hR.vaI (show (A K).2.1.toInt.toNat < 4 from by omega)
    refine m_put (ci := 6) (v := .long y_124) (C := RX6) (T := TX6) (N := 30) hx hb hC hH hts in_X6_does_X6 tyX6 tyX6_ok nmX6 hown F_2 rfl 17 (by decide) (hts (.fieldLink RX6 186 "LazyStateModel" "gave" "J") (by decide +kernel)) rfl rfl rfl (Nat.le_of_ble_eq_true rfl) dX6_does_299 (fun H locs hH => ?_)
    have hH : mH G s (va_up f (h 0) (some (.inr (6, [.int (nI n), .ref (h 1), .int (nI hg), .ref (h 3), .ref (h 4), .ref (h 5), .ref (h 6), .int (feL fe0 c0q σ), .ref (h 8), .ref (h 9), .ref (h 10), .ref (h 11), .ref (h 12), .ref (h 13), .ref (h 14), .ref (h 15), .int ca, .long y_124, .int wh, .int (nI ((trS σ).length)), .ref (h 20), .ref (h 21), .int (nI wl.length), .ref (h 23), .ref (h 24), .int (nI ac), .ref (h 26), .ref (h 27), .int (nI 0), .int sx])))) H locs := hH
    obtain ⟨f_125, ef_125⟩ : ∃ zz_ : mF, zz_ = va_up f (h 0) (some (.inr (6, [.int (nI n), .ref (h 1), .int (nI hg), .ref (h 3), .ref (h 4), .ref (h 5), .ref (h 6), .int (feL fe0 c0q σ), .ref (h 8), .ref (h 9), .ref (h 10), .ref (h 11), .ref (h 12), .ref (h 13), .ref (h 14), .ref (h 15), .int ca, .long y_124, .int wh, .int (nI ((trS σ).length)), .ref (h 20), .ref (h 21), .int (nI wl.length), .ref (h 23), .ref (h 24), .int (nI ac), .ref (h 26), .ref (h 27), .int (nI 0), .int sx]))) := ⟨_, rfl⟩
    rw [← ef_125] at hH
    have hM : MEM G h n (nI hg, (feL fe0 c0q σ), ca, y_124, wh, nI ((trS σ).length), nI wl.length, nI ac, nI 0, sx) I_1 J_1 f_125 := hM.set0 ef_125
    have hfr := hfr.up 0 (by decide) ef_125
    have hR := hR.gf y_124
    have fv_ := vy_124
    have hI : FM G h n T z A hg ver (cqL c0q (sGf σ y_124)) (feL fe0 c0q (sGf σ y_124)) tms ca wl wh ac 0 sx (sGf σ y_124) f_125 := ⟨_, _, hM, hR, hac_1, hth_1⟩
    obtain ⟨I_126, J_126, hM, hR, hac_126, hth_126⟩ := hI
    have hg_126 := hR.hg40
    have n24_126 := hR.n24
    have tl_126 := len_b hR.ok.2.2.1
    have wl_126 := hR.wl192
    have hgI_126 : (nI hg).toInt = ((hg : Nat) : Int) := nI_toInt (by omega)
    have tmI_126 : (nI ((trS (sGf σ y_124)).length)).toInt = (((trS (sGf σ y_124)).length : Nat) : Int) := nI_toInt (by omega)
    have wmI_126 : (nI wl.length).toInt = ((wl.length : Nat) : Int) := nI_toInt (by omega)
    have acI_126 : (nI ac).toInt = ((ac : Nat) : Int) := nI_toInt (by omega)
    have thI_126 : (nI 0).toInt = ((0 : Nat) : Int) := nI_toInt (by omega)
    have nIn_126 : (nI n).toInt = ((n : Nat) : Int) := nI_toInt (by omega)
    refine lv_bipush (v := 32) hx hb dX6_does_302 (by decide) ?_
    exact m_iret (v := 32) hx hb hr hlk hC hH (fun _ => (0, 0)) ⟨hfr, by rw [prf_16 eκ]; rw [← fv_]; exact ⟨_, _, hM, hR, hac_126, hth_126⟩, by have := kI_32; omega, by have := kI_32; omega, fun z_ => (by rw [nxt_16 eκ]; have := kI_32; omega)⟩ (Nat.le_of_ble_eq_true rfl) (Nat.le_of_ble_eq_true rfl) dX6_does_304
  · skip
    have hv_ : κ = 17 := by omega
    subst hv_
    have jk_7 : x_6.toInt = 17 := hk_7
    refine lv_tableIn (off := 292) (tgt := 305) hx hb dX6_does_13 (by rw [jk_7]; decide) (by rw [jk_7]; decide) (by rw [jk_7]; rfl) (by decide) ?_
    refine lv_aload_n hx hb dX6_does_305 rfl (lv_at hl 1 rfl) ?_
    refine lv_bipush (v := 6) hx hb dX6_does_306 (by decide) ?_
    refine m_put (ci := 6) (v := .int 6) (C := RX6) (T := TX6) (N := 30) hx hb hC hH hts in_X6_does_X6 tyX6 tyX6_ok nmX6 hown F_2 rfl 28 (by decide) (hts (.fieldLink RX6 155 "LazyStateModel" "threw" "I") (by decide +kernel)) rfl rfl rfl (Nat.le_of_ble_eq_true rfl) dX6_does_308 (fun H locs hH => ?_)
    have hH : mH G s (va_up f (h 0) (some (.inr (6, [.int (nI n), .ref (h 1), .int (nI hg), .ref (h 3), .ref (h 4), .ref (h 5), .ref (h 6), .int (feL fe0 c0q σ), .ref (h 8), .ref (h 9), .ref (h 10), .ref (h 11), .ref (h 12), .ref (h 13), .ref (h 14), .ref (h 15), .int ca, .long (gfS σ), .int wh, .int (nI ((trS σ).length)), .ref (h 20), .ref (h 21), .int (nI wl.length), .ref (h 23), .ref (h 24), .int (nI ac), .ref (h 26), .ref (h 27), .int 6, .int sx])))) H locs := hH
    obtain ⟨f_127, ef_127⟩ : ∃ zz_ : mF, zz_ = va_up f (h 0) (some (.inr (6, [.int (nI n), .ref (h 1), .int (nI hg), .ref (h 3), .ref (h 4), .ref (h 5), .ref (h 6), .int (feL fe0 c0q σ), .ref (h 8), .ref (h 9), .ref (h 10), .ref (h 11), .ref (h 12), .ref (h 13), .ref (h 14), .ref (h 15), .int ca, .long (gfS σ), .int wh, .int (nI ((trS σ).length)), .ref (h 20), .ref (h 21), .int (nI wl.length), .ref (h 23), .ref (h 24), .int (nI ac), .ref (h 26), .ref (h 27), .int 6, .int sx]))) := ⟨_, rfl⟩
    rw [← ef_127] at hH
    have hM : MEM G h n (nI hg, (feL fe0 c0q σ), ca, (gfS σ), wh, nI ((trS σ).length), nI wl.length, nI ac, 6, sx) I_1 J_1 f_127 := hM.set0 ef_127
    have hfr := hfr.up 0 (by decide) ef_127
    have hI : FM G h n T z A hg ver (cqL c0q σ) (feL fe0 c0q σ) tms ca wl wh ac 6 sx σ f_127 := ⟨_, _, hM, hR, hac_1, by omega⟩
    obtain ⟨I_128, J_128, hM, hR, hac_128, hth_128⟩ := hI
    have hg_128 := hR.hg40
    have n24_128 := hR.n24
    have tl_128 := len_b hR.ok.2.2.1
    have wl_128 := hR.wl192
    have hgI_128 : (nI hg).toInt = ((hg : Nat) : Int) := nI_toInt (by omega)
    have tmI_128 : (nI ((trS σ).length)).toInt = (((trS σ).length : Nat) : Int) := nI_toInt (by omega)
    have wmI_128 : (nI wl.length).toInt = ((wl.length : Nat) : Int) := nI_toInt (by omega)
    have acI_128 : (nI ac).toInt = ((ac : Nat) : Int) := nI_toInt (by omega)
    have thI_128 : (nI 6).toInt = ((6 : Nat) : Int) := nI_toInt (by omega)
    have nIn_128 : (nI n).toInt = ((n : Nat) : Int) := nI_toInt (by omega)
    refine lv_iload_n hx hb dX6_does_311 rfl (lv_at hl 3 rfl) ?_
    exact m_iret (v := pp) hx hb hr hlk hC hH (fun _ => (0, 0)) ⟨hfr, by rw [prf_17 eκ]; exact ⟨_, _, hM, hR, hac_128, hth_128⟩, by omega, by omega, fun z_ => (by rw [prf_17 eκ] at z_; cases z_)⟩ (Nat.le_of_ble_eq_true rfl) (Nat.le_of_ble_eq_true rfl) dX6_does_312
