set_option maxHeartbeats 4000000 in
set_option maxRecDepth 100000 in
theorem c_X5_newVersion (l : Launch) (G : mG) (k : Nat → Nat) (rho : tR) (n : Nat) (T z : Nat → Nat) (st : Nat → Bool) (f : mF) (hI : IC G k rho n T z st f) (o : Int32) (q2 : Nat) (hq2 : rho q2 = (1, T o.toNatClampNeg)) (ho : 0 ≤ o.toInt ∧ o.toInt < n) : Met l yX5_newVersion wsX5_newVersion ({ frames := 2, cells := 3, slots := 29, locals := 81 }) (va_Pc [.ref (k 0), .int o, .ref q2] (mW G f)) (va_Qq (fun (r : Option Nat) (u : mS) => IC G k u.1 n T z st u.2 ∧ frC k rho f u.1 u.2 ∧ u.2 (k 0) = f (k 0) ∧ ∃ b, r = some b ∧ u.1 b = (1, T o.toNatClampNeg)) (fun (u : mS) t => mW G u.2 t) (mA G)) 3 29 (mA G) := by
  refine mMet [.ref (k 0), .int o, .ref q2] (cc := cX5_newVersion) (maxL := 4) (ret := (some (.object "LazyState$Body"))) (by decide) rfl (Nat.le_of_ble_eq_true rfl) ?_
  intro p e s m below meth c ls hx hb hr hml hts hown hlk hnm hC hH hl
  have hl : lv_has ls 4 [(0, .ref (k 0)), (1, .int o), (2, .ref q2)] := hl
  have hj := hI.2.2.2.2.1
  have hn24 := hI.2.2.2.2.2.2.1
  have hT3 := hI.2.2.2.2.2.2.2.1
  have hz32 := hI.2.2.2.2.2.2.2.2
  have nIn : (nI n).toInt = (n : Int) := nI_toInt (by omega)
  have hfr : frC k rho f rho f := frC.rf
  have hI00_ := hI
  have hk0 : f (k 0) = f (k 0) := rfl
  have hk1 : f (k 1) = f (k 1) := rfl
  obtain ⟨ca_1, ia_1, si_1, bf_1, F_1, hca_1, hia_1, hbf_1⟩ : okB rho (T o.toNatClampNeg) q2 (f q2) := hI.pool hq2
  have tI_1 : (nI (T o.toNatClampNeg)).toInt = ((T o.toNatClampNeg) : Int) := nI_toInt (by have := (hT3 o.toNatClampNeg); omega)
  have Fq2_ := F_1
  obtain ⟨hn_2, cc_2, fc_2, cb_2, wn_2, vs_2, F_2, b3_2, b4_2⟩ : okLS k n (f (k 0)) := hI.ls
  refine m_new (ci := 2) (fs := [.int 0, .null, .null, .int 0, .null]) hx hb hC hH hts in_X5_newVersion_X2 tyX2 tyX2_ok hown (hts (.classLink RX5 9 RX2) (by decide +kernel)) (hts (.instantiable RX2 5) (by decide +kernel)) (hts (.initialized RX2) (by decide +kernel)) rfl (by decide) (by show _ ≤ 3; omega) (by show _ ≤ 29; omega) dX5_newVersion_0 (fun q_3 H hlt_q_3 hge_q_3 hno_q_3 hH => ?_)
  obtain ⟨f_4, ef_4⟩ : ∃ zz_ : mF, zz_ = va_up f q_3 (some (.inr (2, [.int 0, .null, .null, .int 0, .null]))) := ⟨_, rfl⟩
  rw [← ef_4] at hH
  have f0_q_3 := hI.fresh hno_q_3
  have F_5 := upk F_1 ef_4 (Nat.ne_of_lt (hlt_q_3 _ _ F_1))
  have F_6 := upk F_2 ef_4 (Nat.ne_of_lt (hlt_q_3 _ _ F_2))
  have hI : IC G k rho n T z st f_4 := hI.setU f0_q_3.1 f0_q_3.2 ef_4
  have hnf_q_3 : f q_3 = none := frC_none hfr hno_q_3
  have hfr := hfr.fresh hnf_q_3 ef_4
  have hk0 := (upn ef_4 (Ne.symm (f0_q_3.2 0 (by decide)))).trans hk0
  have hk1 := (upn ef_4 (Ne.symm (f0_q_3.2 1 (by decide)))).trans hk1
  have F_q_3 : f_4 q_3 = some (.inr (2, [.int 0, .null, .null, .int 0, .null])) := by rw [ef_4]; exact va_up_self _ _ _
  refine lv_dup hx hb dX5_newVersion_3 rfl ?_
  refine lv_aload_n hx hb dX5_newVersion_4 rfl (lv_at hl 2 rfl) ?_
  refine m_get (ci := 2) (v := .int (nI (T o.toNatClampNeg))) (C := RX2) (T := TX2) (N := 5) hx hb hC hH hts in_X5_newVersion_X2 hown F_5 rfl 0 (by decide) (hts (.fieldLink RX5 202 "LazyState$Body" "type" "I") (by decide +kernel)) rfl dX5_newVersion_5 ?_
  have hI0_ := hI
  have h0ls_ := hI.ls
  refine m_gov hH (va_runI (As := [.int (nI (T o.toNatClampNeg))]) (rest := [.ref q_3]) ⟨hx, hb, hml, hown, hts⟩ (c_X2_init l G k rho n T z st f_4 hI q_3 (T o.toNatClampNeg) F_q_3 f0_q_3.1 f0_q_3.2 (hT3 _) (nI (T o.toNatClampNeg)) tI_1) (cwI 1 hts gX5_newVersion_X2_init rfl rfl rfl (hts (.initialized RX2) (by decide +kernel)) (hts (.methodLink RX5 49 yX2_init) (by decide +kernel)) (hts (.instanceMethod yX2_init) (by decide +kernel)) rfl (by decide +kernel) ⟨Nat.le_of_ble_eq_true rfl, Nat.le_of_ble_eq_true rfl⟩) (m_preS hC hH) rfl rfl hl.1 rfl (lv_room (Nat.le_of_ble_eq_true rfl)) dX5_newVersion_8 ⟨by show _ ≤ 3; omega, by show _ ≤ 29; omega⟩) (fun rho_9 f_8 H locs hw hH => ?_)
  obtain ⟨ca_, ia_, hu_, hI, hc_, hi_, hex, Fn_⟩ := hw
  have hu_ : rho_9 = va_up (va_up (va_up rho ca_ (2, (T o.toNatClampNeg))) ia_ (3, 0)) q_3 (1, (T o.toNatClampNeg)) := hu_
  have hI : IC G k rho_9 n T z st f_8 := hI
  have hex : ∀ (a : Nat) (e : va_E), a ≠ q_3 → f_4 a = some e → f_8 a = some e := hex
  have hfr : frC k rho f rho_9 f_8 := hu_ ▸ hfr.init hnf_q_3 hc_ hi_ hex
  have rq_ : rho_9 q_3 = (1, (T o.toNatClampNeg)) := by rw [hu_]; exact va_up_self _ _ _
  have rb_ : rho_9 q2 = (1, (T o.toNatClampNeg)) := (hfr _ _ Fq2_).2.1.trans hq2
  obtain ⟨_, _, _, _, _, _, L0_, -⟩ := h0ls_
  have hk0 := (ex_eq hex (Ne.symm (f0_q_3.2 0 (by decide))) L0_).trans hk0
  obtain ⟨_, L1_, -⟩ := hI0_.objs
  have hk1 := (ex_eq hex (Ne.symm (f0_q_3.2 1 (by decide))) L1_).trans hk1
  refine lv_astore_n (lv' := [(3, .ref q_3), (0, .ref (k 0)), (1, .int o), (2, .ref q2)]) hx hb dX5_newVersion_11 rfl hl (by decide) rfl (fun ls hl => ?_)
  refine lv_aload_n hx hb dX5_newVersion_12 rfl (lv_at hl 0 rfl) ?_
  refine lv_aload_n hx hb dX5_newVersion_13 rfl (lv_at hl 3 rfl) ?_
  obtain ⟨ca_13, ia_13, si_13, bf_13, F_13, hca_13, hia_13, hbf_13⟩ : okB rho_9 (T o.toNatClampNeg) q_3 (f_8 q_3) := hI.pool rq_
  have tI_13 : (nI (T o.toNatClampNeg)).toInt = ((T o.toNatClampNeg) : Int) := nI_toInt (by have := (hT3 o.toNatClampNeg); omega)
  refine m_gov hH (va_runV (As := [.ref q2]) (rest := []) ⟨hx, hb, hml, hown, hts⟩ (c_X2_copyFrom l G k rho_9 n T z st f_8 hI q_3 (T o.toNatClampNeg) rq_ (hT3 o.toNatClampNeg) q2 rb_) (cwV 1 hts gX5_newVersion_X2_copyFrom rfl rfl rfl (by decide +kernel) ⟨Nat.le_of_ble_eq_true rfl, Nat.le_of_ble_eq_true rfl⟩) (m_preV (ci := 2) hC hH F_13 rfl) rfl rfl hl.1 rfl (lv_room (Nat.le_of_ble_eq_true rfl)) dX5_newVersion_14 ⟨by show _ ≤ 3; omega, by show _ ≤ 29; omega⟩) (fun rho_12 f_11 H locs hw hH => ?_)
  obtain ⟨hu, hI, hfr1, hr_10⟩ := hw
  have hI : IC G k rho_9 n T z st f_11 := hI
  have hfr1 : frC k rho_9 f_8 rho_9 f_11 := hfr1
  have hfr := hfr.trans hfr1
  try dsimp only at hr_10
  have hk_r_10 : kpK k f_8 f_11 := hr_10
  have hk0 := (hk_r_10 0 (by decide)).trans hk0
  have hk1 := (hk_r_10 1 (by decide)).trans hk1
  refine lv_aload_n hx hb dX5_newVersion_17 rfl (lv_at hl 0 rfl) ?_
  refine lv_aload_n hx hb dX5_newVersion_18 rfl (lv_at hl 1 rfl) ?_
  obtain ⟨hn_14, cc_14, fc_14, cb_14, wn_14, vs_14, F_14, b3_14, b4_14⟩ : okLS k n (f_11 (k 0)) := hI.ls
  refine m_get (ci := 5) (v := .int hn_14) (C := RX5) (T := TX5) (N := 14) hx hb hC hH hts in_X5_newVersion_X5 hown F_14 rfl 2 (by decide) (hts (.fieldLink RX5 68 "LazyState" "heightNow" "I") (by decide +kernel)) rfl dX5_newVersion_19 ?_
  obtain ⟨ca_15, ia_15, si_15, bf_15, F_15, hca_15, hia_15, hbf_15⟩ : okB rho_9 (T o.toNatClampNeg) q_3 (f_11 q_3) := hI.pool rq_
  have tI_15 : (nI (T o.toNatClampNeg)).toInt = ((T o.toNatClampNeg) : Int) := nI_toInt (by have := (hT3 o.toNatClampNeg); omega)
  refine m_put (ci := 2) (v := .int hn_14) (C := RX2) (T := TX2) (N := 5) hx hb hC hH hts in_X5_newVersion_X2 tyX2 tyX2_ok nmX2 hown F_15 rfl 3 (by decide) (hts (.fieldLink RX5 209 "LazyState$Body" "since" "I") (by decide +kernel)) rfl rfl rfl (Nat.le_of_ble_eq_true rfl) dX5_newVersion_22 (fun H locs hH => ?_)
  have hH : mH G s (va_up f_11 q_3 (some (.inr (2, [.int (nI (T o.toNatClampNeg)), .ref ca_15, .ref ia_15, .int hn_14, va_rf bf_15])))) H locs := hH
  obtain ⟨f_16, ef_16⟩ : ∃ zz_ : mF, zz_ = va_up f_11 q_3 (some (.inr (2, [.int (nI (T o.toNatClampNeg)), .ref ca_15, .ref ia_15, .int hn_14, va_rf bf_15]))) := ⟨_, rfl⟩
  rw [← ef_16] at hH
  have F_17 := upk F_14 ef_16 (Ne.symm (hI.nk (j := 0) (by omega) (by rw [rq_]; simp)))
  have F_18 : f_16 q_3 = some (.inr (2, [.int (nI (T o.toNatClampNeg)), .ref ca_15, .ref ia_15, .int hn_14, va_rf bf_15])) := by rw [ef_16]; exact va_up_self _ _ _
  have hI : IC G k rho_9 n T z st f_16 := hI.setP rq_ (by simp) ef_16 (show okB _ _ _ _ from ⟨_, _, _, bf_15, rfl, hca_15, hia_15, hbf_15⟩)
  have hk0 := (upn ef_16 (Ne.symm (hI.nk (by decide) (by rw [rq_]; simp)))).trans hk0
  have hk1 := (upn ef_16 (Ne.symm (hI.nk (by decide) (by rw [rq_]; simp)))).trans hk1
  have hfr := hfr.upP (by rw [rq_]; simp) ef_16
  refine lv_aload_n hx hb dX5_newVersion_25 rfl (lv_at hl 0 rfl) ?_
  refine lv_aload_n hx hb dX5_newVersion_26 rfl (lv_at hl 1 rfl) ?_
  refine m_get (ci := 5) (v := .ref (k 1)) (C := RX5) (T := TX5) (N := 14) hx hb hC hH hts in_X5_newVersion_X5 hown F_17 rfl 0 (by decide) (hts (.fieldLink RX5 11 "LazyState" "objects" "[LLazyState$Body;") (by decide +kernel)) rfl dX5_newVersion_27 ?_
  refine lv_iload_n hx hb dX5_newVersion_30 rfl (lv_at hl 2 rfl) ?_
  obtain ⟨g_19, hg_19, hp_19⟩ : okQ G 3 24 (fun g => ∀ o, o < n → ∃ b, g o = some b ∧ rho_9 b = (1, T o)) (f_16 (k 1)) := hI.objs
  refine m_aald hx hb hC hH 3 rfl hg_19 (vp_in_iff.mpr ⟨by omega, by omega⟩) dX5_newVersion_31 ?_
  obtain ⟨o_20, h1o_20, h2o_20⟩ := hp_19 (o.toNatClampNeg) (ic_cl rfl (by omega) (by omega))
  rw [h1o_20]
  have olt_ : o_20 < q_3 := nv_lt hI00_ hk1 hg_19 h1o_20 (ic_cl (rfl : o.toInt = _) (by omega) (by omega)) (fun a_ e_ h_ => hlt_q_3 a_ e_ h_)
  refine m_put (ci := 2) (v := .ref o_20) (C := RX2) (T := TX2) (N := 5) hx hb hC hH hts in_X5_newVersion_X2 tyX2 tyX2_ok nmX2 hown F_18 rfl 4 (by decide) (hts (.fieldLink RX5 212 "LazyState$Body" "before" "LLazyState$Body;") (by decide +kernel)) rfl rfl rfl (Nat.le_of_ble_eq_true rfl) dX5_newVersion_32 (fun H locs hH => ?_)
  have hH : mH G s (va_up f_16 q_3 (some (.inr (2, [.int (nI (T o.toNatClampNeg)), .ref ca_15, .ref ia_15, .int hn_14, .ref o_20])))) H locs := hH
  obtain ⟨f_21, ef_21⟩ : ∃ zz_ : mF, zz_ = va_up f_16 q_3 (some (.inr (2, [.int (nI (T o.toNatClampNeg)), .ref ca_15, .ref ia_15, .int hn_14, .ref o_20]))) := ⟨_, rfl⟩
  rw [← ef_21] at hH
  have F_22 := upk F_17 ef_21 (Ne.symm (hI.nk (j := 0) (by omega) (by rw [rq_]; simp)))
  have F_23 : f_21 q_3 = some (.inr (2, [.int (nI (T o.toNatClampNeg)), .ref ca_15, .ref ia_15, .int hn_14, .ref o_20])) := by rw [ef_21]; exact va_up_self _ _ _
  have hI : IC G k rho_9 n T z st f_21 := hI.setP rq_ (by simp) ef_21 (show okB _ _ _ _ from ⟨_, _, _, some o_20, rfl, hca_15, hia_15, fun b_ hb_ => by cases hb_; exact ⟨h2o_20, olt_⟩⟩)
  have hk0 := (upn ef_21 (Ne.symm (hI.nk (by decide) (by rw [rq_]; simp)))).trans hk0
  have hk1 := (upn ef_21 (Ne.symm (hI.nk (by decide) (by rw [rq_]; simp)))).trans hk1
  have hfr := hfr.upP (by rw [rq_]; simp) ef_21
  refine lv_aload_n hx hb dX5_newVersion_35 rfl (lv_at hl 1 rfl) ?_
  refine m_get (ci := 5) (v := .ref (k 1)) (C := RX5) (T := TX5) (N := 14) hx hb hC hH hts in_X5_newVersion_X5 hown F_22 rfl 0 (by decide) (hts (.fieldLink RX5 11 "LazyState" "objects" "[LLazyState$Body;") (by decide +kernel)) rfl dX5_newVersion_36 ?_
  refine lv_iload_n hx hb dX5_newVersion_39 rfl (lv_at hl 2 rfl) ?_
  refine lv_aload_n hx hb dX5_newVersion_40 rfl (lv_at hl 0 rfl) ?_
  obtain ⟨g_24, hg_24, hp_24⟩ : okQ G 3 24 (fun g => ∀ o, o < n → ∃ b, g o = some b ∧ rho_9 b = (1, T o)) (f_21 (k 1)) := hI.objs
  refine m_aast (ci := 2) hx hb hC hH 3 rfl hg_24 F_23 rfl (vp_in_iff.mpr ⟨by omega, by omega⟩) dX5_newVersion_41 (fun H locs hH => ?_)
  obtain ⟨f_25, ef_25⟩ : ∃ zz_ : mF, zz_ = va_up f_21 (k 1) (some (.inl (gk G 3, 24, .inr (.inr (.inr (.inr (va_up g_24 o.toNatClampNeg (some q_3)))))))) := ⟨_, rfl⟩
  rw [← ef_25] at hH
  have F_26 := upk F_22 ef_25 (neC hj (i := 0) (j := 1) (by omega) (by omega) (by omega))
  have F_27 := upk F_23 ef_25 (hI.nk (j := 1) (by omega) (by rw [rq_]; simp))
  have hI : IC G k rho_9 n T z st f_25 := hI.set (j := 1) (by decide) ef_25 (fun i_ hi_ => by omega) (show okQ G 3 24 _ _ from ⟨_, rfl, objs_put hp_24 rq_⟩)
  have hk0 := (upn ef_25 (neC hj (i := 0) (j := 1) (by decide) (by decide) (by decide))).trans hk0
  have hfr := hfr.upK (j := 1) (by omega) ef_25
  refine lv_aload_n hx hb dX5_newVersion_42 rfl (lv_at hl 0 rfl) ?_
  exact m_aret (v := some q_3) hx hb hr hlk hC hH rho_9 ⟨hI, hfr, hk0, _, rfl, rq_⟩ (by omega) (by omega) dX5_newVersion_43
set_option maxHeartbeats 4000000 in
set_option maxRecDepth 100000 in
theorem c_X5_changeCell (l : Launch) (G : mG) (k : Nat → Nat) (rho : tR) (n : Nat) (T z : Nat → Nat) (st : Nat → Bool) (f : mF) (hI : IC G k rho n T z st f) (o j : Int32) (v : Int64) (ho : 0 ≤ o.toInt ∧ o.toInt < n) (hjj : 0 ≤ j.toInt ∧ j.toInt < 8) (hv : sortF (8 * T o.toNatClampNeg + j.toNatClampNeg) = 1 ∨ (sortF (8 * T o.toNatClampNeg + j.toNatClampNeg) = 2 ∧ (v.toInt = -3 ∨ (0 ≤ v.toInt ∧ v.toInt < n)))) : Met l yX5_changeCell wsX5_changeCell ({ frames := 3, cells := 3, slots := 29, locals := 104 }) (va_Pc [.ref (k 0), .int o, .int j, .long v] (mW G f)) (va_Qi (fun (r : Int32) (u : mS) => IC G k u.1 n T z st u.2 ∧ frC k rho f u.1 u.2) (fun (u : mS) t => mW G u.2 t) (mA G)) 3 29 (mA G) := by
  refine mMet [.ref (k 0), .int o, .int j, .long v] (cc := cX5_changeCell) (maxL := 5) (ret := (some .int)) (by decide) rfl (Nat.le_of_ble_eq_true rfl) ?_
  intro p e s m below meth c ls hx hb hr hml hts hown hlk hnm hC hH hl
  have hl : lv_has ls 5 [(0, .ref (k 0)), (1, .int o), (2, .int j), (3, .long v)] := hl
  have hj := hI.2.2.2.2.1
  have hn24 := hI.2.2.2.2.2.2.1
  have hT3 := hI.2.2.2.2.2.2.2.1
  have hz32 := hI.2.2.2.2.2.2.2.2
  have nIn : (nI n).toInt = (n : Int) := nI_toInt (by omega)
  have hfr : frC k rho f rho f := frC.rf
  refine lv_aload_n hx hb dX5_changeCell_0 rfl (lv_at hl 0 rfl) ?_
  obtain ⟨hn_1, cc_1, fc_1, cb_1, wn_1, vs_1, F_1, b3_1, b4_1⟩ : okLS k n (f (k 0)) := hI.ls
  refine m_get (ci := 5) (v := .ref (k 1)) (C := RX5) (T := TX5) (N := 14) hx hb hC hH hts in_X5_changeCell_X5 hown F_1 rfl 0 (by decide) (hts (.fieldLink RX5 11 "LazyState" "objects" "[LLazyState$Body;") (by decide +kernel)) rfl dX5_changeCell_1 ?_
  refine lv_iload_n hx hb dX5_changeCell_4 rfl (lv_at hl 1 rfl) ?_
  obtain ⟨g_2, hg_2, hp_2⟩ : okQ G 3 24 (fun g => ∀ o, o < n → ∃ b, g o = some b ∧ rho b = (1, T o)) (f (k 1)) := hI.objs
  refine m_aald hx hb hC hH 3 rfl hg_2 (vp_in_iff.mpr ⟨by omega, by omega⟩) dX5_changeCell_5 ?_
  obtain ⟨o_3, h1o_3, h2o_3⟩ := hp_2 (o.toNatClampNeg) (ic_cl rfl (by omega) (by omega))
  rw [h1o_3]
  obtain ⟨ca_4, ia_4, si_4, bf_4, F_4, hca_4, hia_4, hbf_4⟩ : okB rho (T (o.toNatClampNeg)) o_3 (f o_3) := hI.pool h2o_3
  have tI_4 : (nI (T (o.toNatClampNeg))).toInt = (T (o.toNatClampNeg) : Int) := nI_toInt (by have := hT3 (o.toNatClampNeg); omega)
  refine m_get (ci := 2) (v := .ref ca_4) (C := RX2) (T := TX2) (N := 5) hx hb hC hH hts in_X5_changeCell_X2 hown F_4 rfl 1 (by decide) (hts (.fieldLink RX5 179 "LazyState$Body" "cells" "[J") (by decide +kernel)) rfl dX5_changeCell_6 ?_
  refine lv_iload_n hx hb dX5_changeCell_9 rfl (lv_at hl 2 rfl) ?_
  obtain ⟨g_5, hg_5, hp_5⟩ : okJ G 8 (pCl n (T (o.toNatClampNeg))) (f ca_4) := hI.pool hca_4
  refine m_lald hx hb hC hH hg_5 (vp_in_iff.mpr ⟨by omega, by omega⟩) dX5_changeCell_10 ?_
  refine lv_topl (fun y_6 ey_6 => ?_)
  refine lv_lload_n hx hb dX5_changeCell_11 rfl (lv_at hl 3 rfl) ?_
  refine W.lcmp hx hb dX5_changeCell_12 ?_
  refine lv_if_ne (tgt := 21) hx hb dX5_changeCell_13 (by decide) (fun c_7 => ?_) (fun c_7 => ?_)
  · skip
    have ic_7 : (y_6.toInt : Int) ≠ v.toInt := lc_ne rfl rfl (fun q_ => c_7 ((lg_cmp_eq _ _).mpr q_))
    refine lv_aload_n hx hb dX5_changeCell_21 rfl (lv_at hl 0 rfl) ?_
    refine m_get (ci := 5) (v := .int hn_1) (C := RX5) (T := TX5) (N := 14) hx hb hC hH hts in_X5_changeCell_X5 hown F_1 rfl 2 (by decide) (hts (.fieldLink RX5 68 "LazyState" "heightNow" "I") (by decide +kernel)) rfl dX5_changeCell_22 ?_
    refine lv_bipush (v := 40) hx hb dX5_changeCell_25 (by decide) ?_
    refine lv_icmp_lt (tgt := 33) hx hb dX5_changeCell_27 (by decide) (fun c_8 => ?_) (fun c_8 => ?_)
    · skip
      have ic_8 : (hn_1.toInt : Int) < 40 := ic_lt rfl kI_40 c_8
      refine lv_aload_n hx hb dX5_changeCell_33 rfl (lv_at hl 0 rfl) ?_
      refine m_gov hH (va_runV (As := []) (rest := []) ⟨hx, hb, hml, hown, hts⟩ (c_X5_raiseHeight l G k rho n T z st f hI) (cwV 0 hts gX5_changeCell_X5_raiseHeight rfl rfl rfl (by decide +kernel) ⟨Nat.le_of_ble_eq_true rfl, Nat.le_of_ble_eq_true rfl⟩) (m_preV (ci := 5) hC hH F_1 rfl) rfl rfl hl.1 rfl (lv_room (Nat.le_of_ble_eq_true rfl)) dX5_changeCell_34 ⟨by show _ ≤ 3; omega, by show _ ≤ 29; omega⟩) (fun rho_11 f_10 H locs hw hH => ?_)
      obtain ⟨hu, hI, hfr1, hk11_⟩ := hw
      have hI : IC G k rho n T z st f_10 := hI
      have hfr1 : frC k rho f rho f_10 := hfr1
      have hfr := hfr.trans hfr1
      refine lv_aload_n hx hb dX5_changeCell_37 rfl (lv_at hl 0 rfl) ?_
      refine lv_iload_n hx hb dX5_changeCell_38 rfl (lv_at hl 1 rfl) ?_
      refine lv_aload_n hx hb dX5_changeCell_39 rfl (lv_at hl 0 rfl) ?_
      obtain ⟨hn_12, cc_12, fc_12, cb_12, wn_12, vs_12, F_12, b3_12, b4_12⟩ : okLS k n (f_10 (k 0)) := hI.ls
      refine m_get (ci := 5) (v := .ref (k 1)) (C := RX5) (T := TX5) (N := 14) hx hb hC hH hts in_X5_changeCell_X5 hown F_12 rfl 0 (by decide) (hts (.fieldLink RX5 11 "LazyState" "objects" "[LLazyState$Body;") (by decide +kernel)) rfl dX5_changeCell_40 ?_
      refine lv_iload_n hx hb dX5_changeCell_43 rfl (lv_at hl 1 rfl) ?_
      obtain ⟨g_13, hg_13, hp_13⟩ : okQ G 3 24 (fun g => ∀ o, o < n → ∃ b, g o = some b ∧ rho b = (1, T o)) (f_10 (k 1)) := hI.objs
      refine m_aald hx hb hC hH 3 rfl hg_13 (vp_in_iff.mpr ⟨by omega, by omega⟩) dX5_changeCell_44 ?_
      obtain ⟨o_14, h1o_14, h2o_14⟩ := hp_13 (o.toNatClampNeg) (ic_cl rfl (by omega) (by omega))
      rw [h1o_14]
      refine m_goq hH (va_runV (As := [.int o, .ref o_14]) (rest := []) ⟨hx, hb, hml, hown, hts⟩ (c_X5_newVersion l G k rho n T z st f_10 hI o o_14 h2o_14 (by omega)) (cwV 2 hts gX5_changeCell_X5_newVersion rfl rfl rfl (by decide +kernel) ⟨Nat.le_of_ble_eq_true rfl, Nat.le_of_ble_eq_true rfl⟩) (m_preV (ci := 5) hC hH F_12 rfl) rfl rfl hl.1 rfl (lv_room (Nat.le_of_ble_eq_true rfl)) dX5_changeCell_45 ⟨by show _ ≤ 3; omega, by show _ ≤ 29; omega⟩) (fun r_15 rho_17 f_16 H locs hw hH => ?_)
      obtain ⟨hI, hfr1, hk0_, nb45_, h1_, h2_45⟩ := hw
      have hI : IC G k rho_17 n T z st f_16 := hI
      have hfr1 : frC k rho f_10 rho_17 f_16 := hfr1
      have hfr := hfr.trans hfr1
      rw [h1_]
      have h2_45 : rho_17 nb45_ = (1, T o.toNatClampNeg) := h2_45
      obtain ⟨ca_18, ia_18, si_18, bf_18, F_18, hca_18, hia_18, hbf_18⟩ : okB rho_17 (T (o.toNatClampNeg)) nb45_ (f_16 nb45_) := hI.pool h2_45
      have tI_18 : (nI (T (o.toNatClampNeg))).toInt = (T (o.toNatClampNeg) : Int) := nI_toInt (by have := hT3 (o.toNatClampNeg); omega)
      refine m_get (ci := 2) (v := .ref ca_18) (C := RX2) (T := TX2) (N := 5) hx hb hC hH hts in_X5_changeCell_X2 hown F_18 rfl 1 (by decide) (hts (.fieldLink RX5 179 "LazyState$Body" "cells" "[J") (by decide +kernel)) rfl dX5_changeCell_48 ?_
      refine lv_iload_n hx hb dX5_changeCell_51 rfl (lv_at hl 2 rfl) ?_
      refine lv_lload_n hx hb dX5_changeCell_52 rfl (lv_at hl 3 rfl) ?_
      obtain ⟨g_19, hg_19, hp_19⟩ : okJ G 8 (pCl n (T (o.toNatClampNeg))) (f_16 ca_18) := hI.pool hca_18
      refine m_last hx hb hC hH hg_19 (vp_in_iff.mpr ⟨by omega, by omega⟩) dX5_changeCell_53 (fun H locs hH => ?_)
      obtain ⟨f_20, ef_20⟩ : ∃ zz_ : mF, zz_ = va_up f_16 ca_18 (some (.inl (gk G 1, 8, .inr (.inl (vp_updL g_19 j.toNatClampNeg v))))) := ⟨_, rfl⟩
      rw [← ef_20] at hH
      have F_21 := upk F_18 ef_20 (ne_rho h2_45 hca_18 (by simp))
      have hI : IC G k rho_17 n T z st f_20 := hI.setP hca_18 (by simp) ef_20 (show okJ G 8 (pCl n _) _ from ⟨_, rfl, pCl_put hp_19 (fun q => (hv.resolve_left (fun z_ => absurd (z_.symm.trans q) (by decide))).2) (fun q => hv.elim (fun z_ => absurd (z_.symm.trans q) (by decide)) (fun z_ => absurd (z_.1.symm.trans q) (by decide)))⟩)
      have hfr := hfr.upP (by rw [hca_18]; simp) ef_20
      refine lv_aload_n hx hb dX5_changeCell_54 rfl (lv_at hl 0 rfl) ?_
      obtain ⟨hn_22, cc_22, fc_22, cb_22, wn_22, vs_22, F_22, b3_22, b4_22⟩ : okLS k n (f_20 (k 0)) := hI.ls
      refine m_get (ci := 5) (v := .int hn_22) (C := RX5) (T := TX5) (N := 14) hx hb hC hH hts in_X5_changeCell_X5 hown F_22 rfl 2 (by decide) (hts (.fieldLink RX5 68 "LazyState" "heightNow" "I") (by decide +kernel)) rfl dX5_changeCell_55 ?_
      exact m_iret (v := hn_22) hx hb hr hlk hC hH rho_17 ⟨hI, hfr⟩ (by omega) (by omega) dX5_changeCell_58
    · skip
      have ic_8 : (hn_1.toInt : Int) ≥ 40 := ic_nlt rfl kI_40 c_8
      refine lv_bipush (v := (-2)) hx hb dX5_changeCell_30 (by decide) ?_
      exact m_iret (v := (-2)) hx hb hr hlk hC hH rho ⟨hI, hfr⟩ (by omega) (by omega) dX5_changeCell_32
  · skip
    have ic_7 : (y_6.toInt : Int) = v.toInt := lc_eq rfl rfl ((lg_cmp_eq _ _).mp c_7)
    refine lv_aload_n hx hb dX5_changeCell_16 rfl (lv_at hl 0 rfl) ?_
    refine m_get (ci := 5) (v := .int hn_1) (C := RX5) (T := TX5) (N := 14) hx hb hC hH hts in_X5_changeCell_X5 hown F_1 rfl 2 (by decide) (hts (.fieldLink RX5 68 "LazyState" "heightNow" "I") (by decide +kernel)) rfl dX5_changeCell_17 ?_
    exact m_iret (v := hn_1) hx hb hr hlk hC hH rho ⟨hI, hfr⟩ (by omega) (by omega) dX5_changeCell_20
set_option maxHeartbeats 4000000 in
set_option maxRecDepth 100000 in
theorem c_X5_number (l : Launch) (G : mG) (k : Nat → Nat) (rho : tR) (n : Nat) (T z : Nat → Nat) (st : Nat → Bool) (f : mF) (hI : IC G k rho n T z st f) (o j : Int32) (v : Int64) : Met l yX5_number wsX5_number ({ frames := 4, cells := 3, slots := 29, locals := 128 }) (va_Pc [.ref (k 0), .int o, .int j, .long v] (mW G f)) (va_Qi (fun (r : Int32) (u : mS) => IC G k u.1 n T z st u.2 ∧ frC k rho f u.1 u.2) (fun (u : mS) t => mW G u.2 t) (mA G)) 3 29 (mA G) := by
  refine mMet [.ref (k 0), .int o, .int j, .long v] (cc := cX5_number) (maxL := 5) (ret := (some .int)) (by decide) rfl (Nat.le_of_ble_eq_true rfl) ?_
  intro p e s m below meth c ls hx hb hr hml hts hown hlk hnm hC hH hl
  have hl : lv_has ls 5 [(0, .ref (k 0)), (1, .int o), (2, .int j), (3, .long v)] := hl
  have hj := hI.2.2.2.2.1
  have hn24 := hI.2.2.2.2.2.2.1
  have hT3 := hI.2.2.2.2.2.2.2.1
  have hz32 := hI.2.2.2.2.2.2.2.2
  have nIn : (nI n).toInt = (n : Int) := nI_toInt (by omega)
  have hfr : frC k rho f rho f := frC.rf
  refine lv_aload_n hx hb dX5_number_0 rfl (lv_at hl 0 rfl) ?_
  refine lv_iload_n hx hb dX5_number_1 rfl (lv_at hl 1 rfl) ?_
  refine lv_iload_n hx hb dX5_number_2 rfl (lv_at hl 2 rfl) ?_
  obtain ⟨hn_4, cc_4, fc_4, cb_4, wn_4, vs_4, F_4, b3_4, b4_4⟩ : okLS k n (f (k 0)) := hI.ls
  refine m_goi hH (va_runV (As := [.int o, .int j]) (rest := []) ⟨hx, hb, hml, hown, hts⟩ (c_X5_sortAt l G k rho n T z st f hI o j) (cwV 2 hts gX5_number_X5_sortAt rfl rfl rfl (by decide +kernel) ⟨Nat.le_of_ble_eq_true rfl, Nat.le_of_ble_eq_true rfl⟩) (m_preV (ci := 5) hC hH F_4 rfl) rfl rfl hl.1 rfl (lv_room (Nat.le_of_ble_eq_true rfl)) dX5_number_3 ⟨by show _ ≤ 3; omega, by show _ ≤ 29; omega⟩) (fun r_1 rho_3 f_2 H locs hw hH => ?_)
  obtain ⟨hu, hr_1⟩ := hw
  have hu : f_2 = f := hu
  rw [hu] at hH
  refine lv_iconst (v := 1) hx hb dX5_number_6 (by decide) ?_
  refine lv_icmp_ne (tgt := 20) hx hb dX5_number_7 (by decide) (fun c_5 => ?_) (fun c_5 => ?_)
  · skip
    have ic_5 : (r_1.toInt : Int) ≠ 1 := ic_ne rfl kI_1 c_5
    refine lv_iconst (v := (-1)) hx hb dX5_number_20 (by decide) ?_
    exact m_iret (v := (-1)) hx hb hr hlk hC hH rho ⟨hI, hfr⟩ (by omega) (by omega) dX5_number_21
  · skip
    have ic_5 : (r_1.toInt : Int) = 1 := ic_eq rfl kI_1 c_5
    obtain ⟨s1_, s2_, s3_, s4_, s5_⟩ := hr_1.resolve_right (fun q => by omega)
    have ss_ : sortF (8 * T o.toNatClampNeg + j.toNatClampNeg) = 1 := s5_.symm.trans (Int32.toInt_inj.mp (by have := kI_1; omega))
    refine lv_aload_n hx hb dX5_number_10 rfl (lv_at hl 0 rfl) ?_
    refine lv_iload_n hx hb dX5_number_11 rfl (lv_at hl 1 rfl) ?_
    refine lv_iload_n hx hb dX5_number_12 rfl (lv_at hl 2 rfl) ?_
    refine lv_lload_n hx hb dX5_number_13 rfl (lv_at hl 3 rfl) ?_
    refine m_goi hH (va_runV (As := [.int o, .int j, .long v]) (rest := []) ⟨hx, hb, hml, hown, hts⟩ (c_X5_changeCell l G k rho n T z st f hI o j v (by omega) (by omega) (Or.inl ss_)) (cwV 3 hts gX5_number_X5_changeCell rfl rfl rfl (by decide +kernel) ⟨Nat.le_of_ble_eq_true rfl, Nat.le_of_ble_eq_true rfl⟩) (m_preV (ci := 5) hC hH F_4 rfl) rfl rfl hl.1 rfl (lv_room (Nat.le_of_ble_eq_true rfl)) dX5_number_14 ⟨by show _ ≤ 3; omega, by show _ ≤ 29; omega⟩) (fun r_6 rho_8 f_7 H locs hw hH => ?_)
    obtain ⟨hI, hfr1⟩ := hw
    have hI : IC G k rho_8 n T z st f_7 := hI
    have hfr1 : frC k rho f rho_8 f_7 := hfr1
    have hfr := hfr.trans hfr1
    refine lv_goto (tgt := 21) hx hb dX5_number_17 (by decide) ?_
    exact m_iret (v := r_6) hx hb hr hlk hC hH rho_8 ⟨hI, hfr⟩ (by omega) (by omega) dX5_number_21
set_option maxHeartbeats 4000000 in
set_option maxRecDepth 100000 in
theorem c_X5_link (l : Launch) (G : mG) (k : Nat → Nat) (rho : tR) (n : Nat) (T z : Nat → Nat) (st : Nat → Bool) (f : mF) (hI : IC G k rho n T z st f) (o j q : Int32) : Met l yX5_link wsX5_link ({ frames := 4, cells := 3, slots := 29, locals := 128 }) (va_Pc [.ref (k 0), .int o, .int j, .int q] (mW G f)) (va_Qi (fun (r : Int32) (u : mS) => IC G k u.1 n T z st u.2 ∧ frC k rho f u.1 u.2) (fun (u : mS) t => mW G u.2 t) (mA G)) 3 29 (mA G) := by
  refine mMet [.ref (k 0), .int o, .int j, .int q] (cc := cX5_link) (maxL := 4) (ret := (some .int)) (by decide) rfl (Nat.le_of_ble_eq_true rfl) ?_
  intro p e s m below meth c ls hx hb hr hml hts hown hlk hnm hC hH hl
  have hl : lv_has ls 4 [(0, .ref (k 0)), (1, .int o), (2, .int j), (3, .int q)] := hl
  have hj := hI.2.2.2.2.1
  have hn24 := hI.2.2.2.2.2.2.1
  have hT3 := hI.2.2.2.2.2.2.2.1
  have hz32 := hI.2.2.2.2.2.2.2.2
  have nIn : (nI n).toInt = (n : Int) := nI_toInt (by omega)
  have hfr : frC k rho f rho f := frC.rf
  refine lv_aload_n hx hb dX5_link_0 rfl (lv_at hl 0 rfl) ?_
  refine lv_iload_n hx hb dX5_link_1 rfl (lv_at hl 1 rfl) ?_
  refine lv_iload_n hx hb dX5_link_2 rfl (lv_at hl 2 rfl) ?_
  obtain ⟨hn_4, cc_4, fc_4, cb_4, wn_4, vs_4, F_4, b3_4, b4_4⟩ : okLS k n (f (k 0)) := hI.ls
  refine m_goi hH (va_runV (As := [.int o, .int j]) (rest := []) ⟨hx, hb, hml, hown, hts⟩ (c_X5_sortAt l G k rho n T z st f hI o j) (cwV 2 hts gX5_link_X5_sortAt rfl rfl rfl (by decide +kernel) ⟨Nat.le_of_ble_eq_true rfl, Nat.le_of_ble_eq_true rfl⟩) (m_preV (ci := 5) hC hH F_4 rfl) rfl rfl hl.1 rfl (lv_room (Nat.le_of_ble_eq_true rfl)) dX5_link_3 ⟨by show _ ≤ 3; omega, by show _ ≤ 29; omega⟩) (fun r_1 rho_3 f_2 H locs hw hH => ?_)
  obtain ⟨hu, hr_1⟩ := hw
  have hu : f_2 = f := hu
  rw [hu] at hH
  refine lv_iconst (v := 2) hx hb dX5_link_6 (by decide) ?_
  refine lv_icmp_ne (tgt := 24) hx hb dX5_link_7 (by decide) (fun c_5 => ?_) (fun c_5 => ?_)
  · skip
    have ic_5 : (r_1.toInt : Int) ≠ 2 := ic_ne rfl kI_2 c_5
    refine lv_iconst (v := (-1)) hx hb dX5_link_24 (by decide) ?_
    exact m_iret (v := (-1)) hx hb hr hlk hC hH rho ⟨hI, hfr⟩ (by omega) (by omega) dX5_link_25
  · skip
    have ic_5 : (r_1.toInt : Int) = 2 := ic_eq rfl kI_2 c_5
    obtain ⟨s1_, s2_, s3_, s4_, s5_⟩ := hr_1.resolve_right (fun q => by omega)
    have ss_ : sortF (8 * T o.toNatClampNeg + j.toNatClampNeg) = 2 := s5_.symm.trans (Int32.toInt_inj.mp (by have := kI_2; omega))
    refine lv_iload_n hx hb dX5_link_10 rfl (lv_at hl 3 rfl) ?_
    refine lv_bipush (v := (-3)) hx hb dX5_link_11 (by decide) ?_
    refine lv_icmp_eq (tgt := 26) hx hb dX5_link_13 (by decide) (fun c_6 => ?_) (fun c_6 => ?_)
    · skip
      have ic_6 : (q.toInt : Int) = (-3) := ic_eq rfl kI_m3 c_6
      refine lv_aload_n hx hb dX5_link_26 rfl (lv_at hl 0 rfl) ?_
      refine lv_iload_n hx hb dX5_link_27 rfl (lv_at hl 1 rfl) ?_
      refine lv_iload_n hx hb dX5_link_28 rfl (lv_at hl 2 rfl) ?_
      refine lv_iload_n hx hb dX5_link_29 rfl (lv_at hl 3 rfl) ?_
      refine lv_i2l hx hb dX5_link_30 rfl ?_
      refine lv_topl (fun y_7 ey_7 => ?_)
      have iy_7 : y_7.toInt = q.toInt := lc_i2l ey_7 rfl
      have gy_7 := ic_rng q
      refine m_goi hH (va_runV (As := [.int o, .int j, .long y_7]) (rest := []) ⟨hx, hb, hml, hown, hts⟩ (c_X5_changeCell l G k rho n T z st f hI o j y_7 (by omega) (by omega) (Or.inr ⟨ss_, by omega⟩)) (cwV 3 hts gX5_link_X5_changeCell rfl rfl rfl (by decide +kernel) ⟨Nat.le_of_ble_eq_true rfl, Nat.le_of_ble_eq_true rfl⟩) (m_preV (ci := 5) hC hH F_4 rfl) rfl rfl hl.1 rfl (lv_room (Nat.le_of_ble_eq_true rfl)) dX5_link_31 ⟨by show _ ≤ 3; omega, by show _ ≤ 29; omega⟩) (fun r_8 rho_10 f_9 H locs hw hH => ?_)
      obtain ⟨hI, hfr1⟩ := hw
      have hI : IC G k rho_10 n T z st f_9 := hI
      have hfr1 : frC k rho f rho_10 f_9 := hfr1
      have hfr := hfr.trans hfr1
      exact m_iret (v := r_8) hx hb hr hlk hC hH rho_10 ⟨hI, hfr⟩ (by omega) (by omega) dX5_link_34
    · skip
      have ic_6 : (q.toInt : Int) ≠ (-3) := ic_ne rfl kI_m3 c_6
      refine lv_aload_n hx hb dX5_link_16 rfl (lv_at hl 0 rfl) ?_
      refine lv_iload_n hx hb dX5_link_17 rfl (lv_at hl 3 rfl) ?_
      refine m_goi hH (va_runV (As := [.int q]) (rest := []) ⟨hx, hb, hml, hown, hts⟩ (c_X5_isObject l G k rho n T z st f hI q) (cwV 1 hts gX5_link_X5_isObject rfl rfl rfl (by decide +kernel) ⟨Nat.le_of_ble_eq_true rfl, Nat.le_of_ble_eq_true rfl⟩) (m_preV (ci := 5) hC hH F_4 rfl) rfl rfl hl.1 rfl (lv_room (Nat.le_of_ble_eq_true rfl)) dX5_link_18 ⟨by show _ ≤ 3; omega, by show _ ≤ 29; omega⟩) (fun r_11 rho_13 f_12 H locs hw hH => ?_)
      obtain ⟨hu, hr_11⟩ := hw
      have hu : f_12 = f := hu
      rw [hu] at hH
      refine lv_if_ne (tgt := 26) hx hb dX5_link_21 (by decide) (fun c_14 => ?_) (fun c_14 => ?_)
      · skip
        have ic_14 : (r_11.toInt : Int) ≠ 0 := ic_ne rfl kI_0 c_14
        refine lv_aload_n hx hb dX5_link_26 rfl (lv_at hl 0 rfl) ?_
        refine lv_iload_n hx hb dX5_link_27 rfl (lv_at hl 1 rfl) ?_
        refine lv_iload_n hx hb dX5_link_28 rfl (lv_at hl 2 rfl) ?_
        refine lv_iload_n hx hb dX5_link_29 rfl (lv_at hl 3 rfl) ?_
        refine lv_i2l hx hb dX5_link_30 rfl ?_
        refine lv_topl (fun y_15 ey_15 => ?_)
        have iy_15 : y_15.toInt = q.toInt := lc_i2l ey_15 rfl
        have gy_15 := ic_rng q
        refine m_goi hH (va_runV (As := [.int o, .int j, .long y_15]) (rest := []) ⟨hx, hb, hml, hown, hts⟩ (c_X5_changeCell l G k rho n T z st f hI o j y_15 (by omega) (by omega) (Or.inr ⟨ss_, by omega⟩)) (cwV 3 hts gX5_link_X5_changeCell rfl rfl rfl (by decide +kernel) ⟨Nat.le_of_ble_eq_true rfl, Nat.le_of_ble_eq_true rfl⟩) (m_preV (ci := 5) hC hH F_4 rfl) rfl rfl hl.1 rfl (lv_room (Nat.le_of_ble_eq_true rfl)) dX5_link_31 ⟨by show _ ≤ 3; omega, by show _ ≤ 29; omega⟩) (fun r_16 rho_18 f_17 H locs hw hH => ?_)
        obtain ⟨hI, hfr1⟩ := hw
        have hI : IC G k rho_18 n T z st f_17 := hI
        have hfr1 : frC k rho f rho_18 f_17 := hfr1
        have hfr := hfr.trans hfr1
        exact m_iret (v := r_16) hx hb hr hlk hC hH rho_18 ⟨hI, hfr⟩ (by omega) (by omega) dX5_link_34
      · skip
        have ic_14 : (r_11.toInt : Int) = 0 := ic_eq rfl kI_0 c_14
        refine lv_iconst (v := (-1)) hx hb dX5_link_24 (by decide) ?_
        exact m_iret (v := (-1)) hx hb hr hlk hC hH rho ⟨hI, hfr⟩ (by omega) (by omega) dX5_link_25
set_option maxHeartbeats 4000000 in
set_option maxRecDepth 100000 in
theorem c_X5_row (l : Launch) (G : mG) (k : Nat → Nat) (rho : tR) (n : Nat) (T z : Nat → Nat) (st : Nat → Bool) (f : mF) (hI : IC G k rho n T z st f) (o j q : Int32) : Met l yX5_row wsX5_row ({ frames := 3, cells := 3, slots := 29, locals := 104 }) (va_Pc [.ref (k 0), .int o, .int j, .int q] (mW G f)) (va_Qi (fun (r : Int32) (u : mS) => IC G k u.1 n T z st u.2 ∧ frC k rho f u.1 u.2) (fun (u : mS) t => mW G u.2 t) (mA G)) 3 29 (mA G) := by
  refine mMet [.ref (k 0), .int o, .int j, .int q] (cc := cX5_row) (maxL := 4) (ret := (some .int)) (by decide) rfl (Nat.le_of_ble_eq_true rfl) ?_
  intro p e s m below meth c ls hx hb hr hml hts hown hlk hnm hC hH hl
  have hl : lv_has ls 4 [(0, .ref (k 0)), (1, .int o), (2, .int j), (3, .int q)] := hl
  have hj := hI.2.2.2.2.1
  have hn24 := hI.2.2.2.2.2.2.1
  have hT3 := hI.2.2.2.2.2.2.2.1
  have hz32 := hI.2.2.2.2.2.2.2.2
  have nIn : (nI n).toInt = (n : Int) := nI_toInt (by omega)
  have hfr : frC k rho f rho f := frC.rf
  refine lv_aload_n hx hb dX5_row_0 rfl (lv_at hl 0 rfl) ?_
  refine lv_iload_n hx hb dX5_row_1 rfl (lv_at hl 1 rfl) ?_
  refine lv_iload_n hx hb dX5_row_2 rfl (lv_at hl 2 rfl) ?_
  obtain ⟨hn_4, cc_4, fc_4, cb_4, wn_4, vs_4, F_4, b3_4, b4_4⟩ : okLS k n (f (k 0)) := hI.ls
  refine m_goi hH (va_runV (As := [.int o, .int j]) (rest := []) ⟨hx, hb, hml, hown, hts⟩ (c_X5_sortAt l G k rho n T z st f hI o j) (cwV 2 hts gX5_row_X5_sortAt rfl rfl rfl (by decide +kernel) ⟨Nat.le_of_ble_eq_true rfl, Nat.le_of_ble_eq_true rfl⟩) (m_preV (ci := 5) hC hH F_4 rfl) rfl rfl hl.1 rfl (lv_room (Nat.le_of_ble_eq_true rfl)) dX5_row_3 ⟨by show _ ≤ 3; omega, by show _ ≤ 29; omega⟩) (fun r_1 rho_3 f_2 H locs hw hH => ?_)
  obtain ⟨hu, hr_1⟩ := hw
  have hu : f_2 = f := hu
  rw [hu] at hH
  refine lv_iconst (v := 3) hx hb dX5_row_6 (by decide) ?_
  refine lv_icmp_ne (tgt := 26) hx hb dX5_row_7 (by decide) (fun c_5 => ?_) (fun c_5 => ?_)
  · skip
    have ic_5 : (r_1.toInt : Int) ≠ 3 := ic_ne rfl kI_3 c_5
    refine lv_iconst (v := (-1)) hx hb dX5_row_26 (by decide) ?_
    exact m_iret (v := (-1)) hx hb hr hlk hC hH rho ⟨hI, hfr⟩ (by omega) (by omega) dX5_row_27
  · skip
    have ic_5 : (r_1.toInt : Int) = 3 := ic_eq rfl kI_3 c_5
    obtain ⟨s1_, s2_, s3_, s4_, s5_⟩ := hr_1.resolve_right (fun q => by omega)
    have ss_ : sortF (8 * T o.toNatClampNeg + j.toNatClampNeg) = 3 := s5_.symm.trans (Int32.toInt_inj.mp (by have := kI_3; omega))
    refine lv_iload_n hx hb dX5_row_10 rfl (lv_at hl 3 rfl) ?_
    refine lv_bipush (v := (-3)) hx hb dX5_row_11 (by decide) ?_
    refine lv_icmp_eq (tgt := 28) hx hb dX5_row_13 (by decide) (fun c_6 => ?_) (fun c_6 => ?_)
    · skip
      have ic_6 : (q.toInt : Int) = (-3) := ic_eq rfl kI_m3 c_6
      refine lv_aload_n hx hb dX5_row_28 rfl (lv_at hl 0 rfl) ?_
      refine m_get (ci := 5) (v := .ref (k 1)) (C := RX5) (T := TX5) (N := 14) hx hb hC hH hts in_X5_row_X5 hown F_4 rfl 0 (by decide) (hts (.fieldLink RX5 11 "LazyState" "objects" "[LLazyState$Body;") (by decide +kernel)) rfl dX5_row_29 ?_
      refine lv_iload_n hx hb dX5_row_32 rfl (lv_at hl 1 rfl) ?_
      obtain ⟨g_7, hg_7, hp_7⟩ : okQ G 3 24 (fun g => ∀ o, o < n → ∃ b, g o = some b ∧ rho b = (1, T o)) (f (k 1)) := hI.objs
      refine m_aald hx hb hC hH 3 rfl hg_7 (vp_in_iff.mpr ⟨by omega, by omega⟩) dX5_row_33 ?_
      obtain ⟨o_8, h1o_8, h2o_8⟩ := hp_7 (o.toNatClampNeg) (ic_cl rfl (by omega) (by omega))
      rw [h1o_8]
      refine lv_iload_n hx hb dX5_row_34 rfl (lv_at hl 2 rfl) ?_
      refine lv_iload_n hx hb dX5_row_35 rfl (lv_at hl 3 rfl) ?_
      obtain ⟨ca_12, ia_12, si_12, bf_12, F_12, hca_12, hia_12, hbf_12⟩ : okB rho (T (o.toNatClampNeg)) o_8 (f o_8) := hI.pool h2o_8
      have tI_12 : (nI (T (o.toNatClampNeg))).toInt = (T (o.toNatClampNeg) : Int) := nI_toInt (by have := hT3 (o.toNatClampNeg); omega)
      refine m_goi hH (va_runV (As := [.int j, .int q]) (rest := []) ⟨hx, hb, hml, hown, hts⟩ (c_X2_hasBlankRow l G k rho n T z st f hI o_8 (T (o.toNatClampNeg)) h2o_8 (hT3 _) j q (by omega)) (cwV 2 hts gX5_row_X2_hasBlankRow rfl rfl rfl (by decide +kernel) ⟨Nat.le_of_ble_eq_true rfl, Nat.le_of_ble_eq_true rfl⟩) (m_preV (ci := 2) hC hH F_12 rfl) rfl rfl hl.1 rfl (lv_room (Nat.le_of_ble_eq_true rfl)) dX5_row_36 ⟨by show _ ≤ 3; omega, by show _ ≤ 29; omega⟩) (fun r_9 rho_11 f_10 H locs hw hH => ?_)
      obtain ⟨hu, hr_9⟩ := hw
      have hu : f_10 = f := hu
      rw [hu] at hH
      refine lv_if_eq (tgt := 47) hx hb dX5_row_39 (by decide) (fun c_13 => ?_) (fun c_13 => ?_)
      · skip
        have ic_13 : (r_9.toInt : Int) = 0 := ic_eq rfl kI_0 c_13
        refine lv_aload_n hx hb dX5_row_47 rfl (lv_at hl 0 rfl) ?_
        refine m_get (ci := 5) (v := .int hn_4) (C := RX5) (T := TX5) (N := 14) hx hb hC hH hts in_X5_row_X5 hown F_4 rfl 2 (by decide) (hts (.fieldLink RX5 68 "LazyState" "heightNow" "I") (by decide +kernel)) rfl dX5_row_48 ?_
        refine lv_bipush (v := 40) hx hb dX5_row_51 (by decide) ?_
        refine lv_icmp_lt (tgt := 59) hx hb dX5_row_53 (by decide) (fun c_14 => ?_) (fun c_14 => ?_)
        · skip
          have ic_14 : (hn_4.toInt : Int) < 40 := ic_lt rfl kI_40 c_14
          refine lv_aload_n hx hb dX5_row_59 rfl (lv_at hl 0 rfl) ?_
          refine m_gov hH (va_runV (As := []) (rest := []) ⟨hx, hb, hml, hown, hts⟩ (c_X5_raiseHeight l G k rho n T z st f hI) (cwV 0 hts gX5_row_X5_raiseHeight rfl rfl rfl (by decide +kernel) ⟨Nat.le_of_ble_eq_true rfl, Nat.le_of_ble_eq_true rfl⟩) (m_preV (ci := 5) hC hH F_4 rfl) rfl rfl hl.1 rfl (lv_room (Nat.le_of_ble_eq_true rfl)) dX5_row_60 ⟨by show _ ≤ 3; omega, by show _ ≤ 29; omega⟩) (fun rho_17 f_16 H locs hw hH => ?_)
          obtain ⟨hu, hI, hfr1, hk11_⟩ := hw
          have hI : IC G k rho n T z st f_16 := hI
          have hfr1 : frC k rho f rho f_16 := hfr1
          have hfr := hfr.trans hfr1
          refine lv_aload_n hx hb dX5_row_63 rfl (lv_at hl 0 rfl) ?_
          refine lv_iload_n hx hb dX5_row_64 rfl (lv_at hl 1 rfl) ?_
          refine lv_aload_n hx hb dX5_row_65 rfl (lv_at hl 0 rfl) ?_
          obtain ⟨hn_18, cc_18, fc_18, cb_18, wn_18, vs_18, F_18, b3_18, b4_18⟩ : okLS k n (f_16 (k 0)) := hI.ls
          refine m_get (ci := 5) (v := .ref (k 1)) (C := RX5) (T := TX5) (N := 14) hx hb hC hH hts in_X5_row_X5 hown F_18 rfl 0 (by decide) (hts (.fieldLink RX5 11 "LazyState" "objects" "[LLazyState$Body;") (by decide +kernel)) rfl dX5_row_66 ?_
          refine lv_iload_n hx hb dX5_row_69 rfl (lv_at hl 1 rfl) ?_
          obtain ⟨g_19, hg_19, hp_19⟩ : okQ G 3 24 (fun g => ∀ o, o < n → ∃ b, g o = some b ∧ rho b = (1, T o)) (f_16 (k 1)) := hI.objs
          refine m_aald hx hb hC hH 3 rfl hg_19 (vp_in_iff.mpr ⟨by omega, by omega⟩) dX5_row_70 ?_
          obtain ⟨o_20, h1o_20, h2o_20⟩ := hp_19 (o.toNatClampNeg) (ic_cl rfl (by omega) (by omega))
          rw [h1o_20]
          refine m_goq hH (va_runV (As := [.int o, .ref o_20]) (rest := []) ⟨hx, hb, hml, hown, hts⟩ (c_X5_newVersion l G k rho n T z st f_16 hI o o_20 h2o_20 (by omega)) (cwV 2 hts gX5_row_X5_newVersion rfl rfl rfl (by decide +kernel) ⟨Nat.le_of_ble_eq_true rfl, Nat.le_of_ble_eq_true rfl⟩) (m_preV (ci := 5) hC hH F_18 rfl) rfl rfl hl.1 rfl (lv_room (Nat.le_of_ble_eq_true rfl)) dX5_row_71 ⟨by show _ ≤ 3; omega, by show _ ≤ 29; omega⟩) (fun r_21 rho_23 f_22 H locs hw hH => ?_)
          obtain ⟨hI, hfr1, hk0_, nb71_, h1_, h2_71⟩ := hw
          have hI : IC G k rho_23 n T z st f_22 := hI
          have hfr1 : frC k rho f_16 rho_23 f_22 := hfr1
          have hfr := hfr.trans hfr1
          rw [h1_]
          have h2_71 : rho_23 nb71_ = (1, T o.toNatClampNeg) := h2_71
          refine lv_iload_n hx hb dX5_row_74 rfl (lv_at hl 2 rfl) ?_
          refine lv_iload_n hx hb dX5_row_75 rfl (lv_at hl 3 rfl) ?_
          obtain ⟨ca_27, ia_27, si_27, bf_27, F_27, hca_27, hia_27, hbf_27⟩ : okB rho_23 (T (o.toNatClampNeg)) nb71_ (f_22 nb71_) := hI.pool h2_71
          have tI_27 : (nI (T (o.toNatClampNeg))).toInt = (T (o.toNatClampNeg) : Int) := nI_toInt (by have := hT3 (o.toNatClampNeg); omega)
          refine m_gov hH (va_runV (As := [.int j, .int q]) (rest := []) ⟨hx, hb, hml, hown, hts⟩ (c_X2_renewRow l G k rho_23 n T z st f_22 hI nb71_ (T (o.toNatClampNeg)) h2_71 (hT3 _) j q (by omega) ss_ (by omega)) (cwV 2 hts gX5_row_X2_renewRow rfl rfl rfl (by decide +kernel) ⟨Nat.le_of_ble_eq_true rfl, Nat.le_of_ble_eq_true rfl⟩) (m_preV (ci := 2) hC hH F_27 rfl) rfl rfl hl.1 rfl (lv_room (Nat.le_of_ble_eq_true rfl)) dX5_row_76 ⟨by show _ ≤ 3; omega, by show _ ≤ 29; omega⟩) (fun rho_26 f_25 H locs hw hH => ?_)
          obtain ⟨hu, hI, hfr1, hr_24⟩ := hw
          have hI : IC G k rho_23 n T z st f_25 := hI
          have hfr1 : frC k rho_23 f_22 rho_23 f_25 := hfr1
          have hfr := hfr.trans hfr1
          try dsimp only at hr_24
          have hk_r_24 : kpK k f_22 f_25 := hr_24
          refine lv_aload_n hx hb dX5_row_79 rfl (lv_at hl 0 rfl) ?_
          obtain ⟨hn_28, cc_28, fc_28, cb_28, wn_28, vs_28, F_28, b3_28, b4_28⟩ : okLS k n (f_25 (k 0)) := hI.ls
          refine m_get (ci := 5) (v := .int hn_28) (C := RX5) (T := TX5) (N := 14) hx hb hC hH hts in_X5_row_X5 hown F_28 rfl 2 (by decide) (hts (.fieldLink RX5 68 "LazyState" "heightNow" "I") (by decide +kernel)) rfl dX5_row_80 ?_
          exact m_iret (v := hn_28) hx hb hr hlk hC hH rho_23 ⟨hI, hfr⟩ (by omega) (by omega) dX5_row_83
        · skip
          have ic_14 : (hn_4.toInt : Int) ≥ 40 := ic_nlt rfl kI_40 c_14
          refine lv_bipush (v := (-2)) hx hb dX5_row_56 (by decide) ?_
          exact m_iret (v := (-2)) hx hb hr hlk hC hH rho ⟨hI, hfr⟩ (by omega) (by omega) dX5_row_58
      · skip
        have ic_13 : (r_9.toInt : Int) ≠ 0 := ic_ne rfl kI_0 c_13
        refine lv_aload_n hx hb dX5_row_42 rfl (lv_at hl 0 rfl) ?_
        refine m_get (ci := 5) (v := .int hn_4) (C := RX5) (T := TX5) (N := 14) hx hb hC hH hts in_X5_row_X5 hown F_4 rfl 2 (by decide) (hts (.fieldLink RX5 68 "LazyState" "heightNow" "I") (by decide +kernel)) rfl dX5_row_43 ?_
        exact m_iret (v := hn_4) hx hb hr hlk hC hH rho ⟨hI, hfr⟩ (by omega) (by omega) dX5_row_46
    · skip
      have ic_6 : (q.toInt : Int) ≠ (-3) := ic_ne rfl kI_m3 c_6
      refine lv_iload_n hx hb dX5_row_16 rfl (lv_at hl 3 rfl) ?_
      refine lv_if_lt (tgt := 26) hx hb dX5_row_17 (by decide) (fun c_29 => ?_) (fun c_29 => ?_)
      · skip
        have ic_29 : (q.toInt : Int) < 0 := ic_lt rfl kI_0 c_29
        refine lv_iconst (v := (-1)) hx hb dX5_row_26 (by decide) ?_
        exact m_iret (v := (-1)) hx hb hr hlk hC hH rho ⟨hI, hfr⟩ (by omega) (by omega) dX5_row_27
      · skip
        have ic_29 : (q.toInt : Int) ≥ 0 := ic_nlt rfl kI_0 c_29
        refine lv_iload_n hx hb dX5_row_20 rfl (lv_at hl 3 rfl) ?_
        refine lv_bipush (v := 8) hx hb dX5_row_21 (by decide) ?_
        refine lv_icmp_le (tgt := 28) hx hb dX5_row_23 (by decide) (fun c_30 => ?_) (fun c_30 => ?_)
        · skip
          have ic_30 : (q.toInt : Int) ≤ 8 := ic_le rfl kI_8 c_30
          refine lv_aload_n hx hb dX5_row_28 rfl (lv_at hl 0 rfl) ?_
          refine m_get (ci := 5) (v := .ref (k 1)) (C := RX5) (T := TX5) (N := 14) hx hb hC hH hts in_X5_row_X5 hown F_4 rfl 0 (by decide) (hts (.fieldLink RX5 11 "LazyState" "objects" "[LLazyState$Body;") (by decide +kernel)) rfl dX5_row_29 ?_
          refine lv_iload_n hx hb dX5_row_32 rfl (lv_at hl 1 rfl) ?_
          obtain ⟨g_31, hg_31, hp_31⟩ : okQ G 3 24 (fun g => ∀ o, o < n → ∃ b, g o = some b ∧ rho b = (1, T o)) (f (k 1)) := hI.objs
          refine m_aald hx hb hC hH 3 rfl hg_31 (vp_in_iff.mpr ⟨by omega, by omega⟩) dX5_row_33 ?_
          obtain ⟨o_32, h1o_32, h2o_32⟩ := hp_31 (o.toNatClampNeg) (ic_cl rfl (by omega) (by omega))
          rw [h1o_32]
          refine lv_iload_n hx hb dX5_row_34 rfl (lv_at hl 2 rfl) ?_
          refine lv_iload_n hx hb dX5_row_35 rfl (lv_at hl 3 rfl) ?_
          obtain ⟨ca_36, ia_36, si_36, bf_36, F_36, hca_36, hia_36, hbf_36⟩ : okB rho (T (o.toNatClampNeg)) o_32 (f o_32) := hI.pool h2o_32
          have tI_36 : (nI (T (o.toNatClampNeg))).toInt = (T (o.toNatClampNeg) : Int) := nI_toInt (by have := hT3 (o.toNatClampNeg); omega)
          refine m_goi hH (va_runV (As := [.int j, .int q]) (rest := []) ⟨hx, hb, hml, hown, hts⟩ (c_X2_hasBlankRow l G k rho n T z st f hI o_32 (T (o.toNatClampNeg)) h2o_32 (hT3 _) j q (by omega)) (cwV 2 hts gX5_row_X2_hasBlankRow rfl rfl rfl (by decide +kernel) ⟨Nat.le_of_ble_eq_true rfl, Nat.le_of_ble_eq_true rfl⟩) (m_preV (ci := 2) hC hH F_36 rfl) rfl rfl hl.1 rfl (lv_room (Nat.le_of_ble_eq_true rfl)) dX5_row_36 ⟨by show _ ≤ 3; omega, by show _ ≤ 29; omega⟩) (fun r_33 rho_35 f_34 H locs hw hH => ?_)
          obtain ⟨hu, hr_33⟩ := hw
          have hu : f_34 = f := hu
          rw [hu] at hH
          refine lv_if_eq (tgt := 47) hx hb dX5_row_39 (by decide) (fun c_37 => ?_) (fun c_37 => ?_)
          · skip
            have ic_37 : (r_33.toInt : Int) = 0 := ic_eq rfl kI_0 c_37
            refine lv_aload_n hx hb dX5_row_47 rfl (lv_at hl 0 rfl) ?_
            refine m_get (ci := 5) (v := .int hn_4) (C := RX5) (T := TX5) (N := 14) hx hb hC hH hts in_X5_row_X5 hown F_4 rfl 2 (by decide) (hts (.fieldLink RX5 68 "LazyState" "heightNow" "I") (by decide +kernel)) rfl dX5_row_48 ?_
            refine lv_bipush (v := 40) hx hb dX5_row_51 (by decide) ?_
            refine lv_icmp_lt (tgt := 59) hx hb dX5_row_53 (by decide) (fun c_38 => ?_) (fun c_38 => ?_)
            · skip
              have ic_38 : (hn_4.toInt : Int) < 40 := ic_lt rfl kI_40 c_38
              refine lv_aload_n hx hb dX5_row_59 rfl (lv_at hl 0 rfl) ?_
              refine m_gov hH (va_runV (As := []) (rest := []) ⟨hx, hb, hml, hown, hts⟩ (c_X5_raiseHeight l G k rho n T z st f hI) (cwV 0 hts gX5_row_X5_raiseHeight rfl rfl rfl (by decide +kernel) ⟨Nat.le_of_ble_eq_true rfl, Nat.le_of_ble_eq_true rfl⟩) (m_preV (ci := 5) hC hH F_4 rfl) rfl rfl hl.1 rfl (lv_room (Nat.le_of_ble_eq_true rfl)) dX5_row_60 ⟨by show _ ≤ 3; omega, by show _ ≤ 29; omega⟩) (fun rho_41 f_40 H locs hw hH => ?_)
              obtain ⟨hu, hI, hfr1, hk11_⟩ := hw
              have hI : IC G k rho n T z st f_40 := hI
              have hfr1 : frC k rho f rho f_40 := hfr1
              have hfr := hfr.trans hfr1
              refine lv_aload_n hx hb dX5_row_63 rfl (lv_at hl 0 rfl) ?_
              refine lv_iload_n hx hb dX5_row_64 rfl (lv_at hl 1 rfl) ?_
              refine lv_aload_n hx hb dX5_row_65 rfl (lv_at hl 0 rfl) ?_
              obtain ⟨hn_42, cc_42, fc_42, cb_42, wn_42, vs_42, F_42, b3_42, b4_42⟩ : okLS k n (f_40 (k 0)) := hI.ls
              refine m_get (ci := 5) (v := .ref (k 1)) (C := RX5) (T := TX5) (N := 14) hx hb hC hH hts in_X5_row_X5 hown F_42 rfl 0 (by decide) (hts (.fieldLink RX5 11 "LazyState" "objects" "[LLazyState$Body;") (by decide +kernel)) rfl dX5_row_66 ?_
              refine lv_iload_n hx hb dX5_row_69 rfl (lv_at hl 1 rfl) ?_
              obtain ⟨g_43, hg_43, hp_43⟩ : okQ G 3 24 (fun g => ∀ o, o < n → ∃ b, g o = some b ∧ rho b = (1, T o)) (f_40 (k 1)) := hI.objs
              refine m_aald hx hb hC hH 3 rfl hg_43 (vp_in_iff.mpr ⟨by omega, by omega⟩) dX5_row_70 ?_
              obtain ⟨o_44, h1o_44, h2o_44⟩ := hp_43 (o.toNatClampNeg) (ic_cl rfl (by omega) (by omega))
              rw [h1o_44]
              refine m_goq hH (va_runV (As := [.int o, .ref o_44]) (rest := []) ⟨hx, hb, hml, hown, hts⟩ (c_X5_newVersion l G k rho n T z st f_40 hI o o_44 h2o_44 (by omega)) (cwV 2 hts gX5_row_X5_newVersion rfl rfl rfl (by decide +kernel) ⟨Nat.le_of_ble_eq_true rfl, Nat.le_of_ble_eq_true rfl⟩) (m_preV (ci := 5) hC hH F_42 rfl) rfl rfl hl.1 rfl (lv_room (Nat.le_of_ble_eq_true rfl)) dX5_row_71 ⟨by show _ ≤ 3; omega, by show _ ≤ 29; omega⟩) (fun r_45 rho_47 f_46 H locs hw hH => ?_)
              obtain ⟨hI, hfr1, hk0_, nb71_, h1_, h2_71⟩ := hw
              have hI : IC G k rho_47 n T z st f_46 := hI
              have hfr1 : frC k rho f_40 rho_47 f_46 := hfr1
              have hfr := hfr.trans hfr1
              rw [h1_]
              have h2_71 : rho_47 nb71_ = (1, T o.toNatClampNeg) := h2_71
              refine lv_iload_n hx hb dX5_row_74 rfl (lv_at hl 2 rfl) ?_
              refine lv_iload_n hx hb dX5_row_75 rfl (lv_at hl 3 rfl) ?_
              obtain ⟨ca_51, ia_51, si_51, bf_51, F_51, hca_51, hia_51, hbf_51⟩ : okB rho_47 (T (o.toNatClampNeg)) nb71_ (f_46 nb71_) := hI.pool h2_71
              have tI_51 : (nI (T (o.toNatClampNeg))).toInt = (T (o.toNatClampNeg) : Int) := nI_toInt (by have := hT3 (o.toNatClampNeg); omega)
              refine m_gov hH (va_runV (As := [.int j, .int q]) (rest := []) ⟨hx, hb, hml, hown, hts⟩ (c_X2_renewRow l G k rho_47 n T z st f_46 hI nb71_ (T (o.toNatClampNeg)) h2_71 (hT3 _) j q (by omega) ss_ (by omega)) (cwV 2 hts gX5_row_X2_renewRow rfl rfl rfl (by decide +kernel) ⟨Nat.le_of_ble_eq_true rfl, Nat.le_of_ble_eq_true rfl⟩) (m_preV (ci := 2) hC hH F_51 rfl) rfl rfl hl.1 rfl (lv_room (Nat.le_of_ble_eq_true rfl)) dX5_row_76 ⟨by show _ ≤ 3; omega, by show _ ≤ 29; omega⟩) (fun rho_50 f_49 H locs hw hH => ?_)
              obtain ⟨hu, hI, hfr1, hr_48⟩ := hw
              have hI : IC G k rho_47 n T z st f_49 := hI
              have hfr1 : frC k rho_47 f_46 rho_47 f_49 := hfr1
              have hfr := hfr.trans hfr1
              try dsimp only at hr_48
              have hk_r_48 : kpK k f_46 f_49 := hr_48
              refine lv_aload_n hx hb dX5_row_79 rfl (lv_at hl 0 rfl) ?_
              obtain ⟨hn_52, cc_52, fc_52, cb_52, wn_52, vs_52, F_52, b3_52, b4_52⟩ : okLS k n (f_49 (k 0)) := hI.ls
              refine m_get (ci := 5) (v := .int hn_52) (C := RX5) (T := TX5) (N := 14) hx hb hC hH hts in_X5_row_X5 hown F_52 rfl 2 (by decide) (hts (.fieldLink RX5 68 "LazyState" "heightNow" "I") (by decide +kernel)) rfl dX5_row_80 ?_
              exact m_iret (v := hn_52) hx hb hr hlk hC hH rho_47 ⟨hI, hfr⟩ (by omega) (by omega) dX5_row_83
            · skip
              have ic_38 : (hn_4.toInt : Int) ≥ 40 := ic_nlt rfl kI_40 c_38
              refine lv_bipush (v := (-2)) hx hb dX5_row_56 (by decide) ?_
              exact m_iret (v := (-2)) hx hb hr hlk hC hH rho ⟨hI, hfr⟩ (by omega) (by omega) dX5_row_58
          · skip
            have ic_37 : (r_33.toInt : Int) ≠ 0 := ic_ne rfl kI_0 c_37
            refine lv_aload_n hx hb dX5_row_42 rfl (lv_at hl 0 rfl) ?_
            refine m_get (ci := 5) (v := .int hn_4) (C := RX5) (T := TX5) (N := 14) hx hb hC hH hts in_X5_row_X5 hown F_4 rfl 2 (by decide) (hts (.fieldLink RX5 68 "LazyState" "heightNow" "I") (by decide +kernel)) rfl dX5_row_43 ?_
            exact m_iret (v := hn_4) hx hb hr hlk hC hH rho ⟨hI, hfr⟩ (by omega) (by omega) dX5_row_46
        · skip
          have ic_30 : (q.toInt : Int) > 8 := ic_nle rfl kI_8 c_30
          refine lv_iconst (v := (-1)) hx hb dX5_row_26 (by decide) ?_
          exact m_iret (v := (-1)) hx hb hr hlk hC hH rho ⟨hI, hfr⟩ (by omega) (by omega) dX5_row_27
set_option maxHeartbeats 4000000 in
set_option maxRecDepth 100000 in
theorem c_X5_noteWritten (l : Launch) (G : mG) (k : Nat → Nat) (rho : tR) (n : Nat) (T z : Nat → Nat) (st : Nat → Bool) (f : mF) (hI : IC G k rho n T z st f) (hst : st 0 = true ∧ 0 < n) (o wn0 : Int32) (ho : 0 ≤ o.toInt ∧ o.toInt < n) (hw11 : fldV f (k 0) 11 = .int wn0) (hwn : 0 ≤ wn0.toInt ∧ wn0.toInt ≤ 8 * o.toInt) : Met l yX5_noteWritten wsX5_noteWritten ({ frames := 3, cells := 0, slots := 0, locals := 66 }) (va_Pc [.ref (k 0), .int o] (mW G f)) (va_Qv (fun (u : mS) => u.1 = rho ∧ IC G k rho n T z st u.2 ∧ frC k rho f rho u.2 ∧ ∃ wn2 : Int32, fldV u.2 (k 0) 11 = .int wn2 ∧ 0 ≤ wn2.toInt ∧ wn2.toInt ≤ 8 * o.toInt + 8) (fun (u : mS) t => mW G u.2 t) (mA G)) 0 0 (mA G) := by
  refine mMet [.ref (k 0), .int o] (cc := cX5_noteWritten) (maxL := 4) (ret := none) (by decide) rfl (Nat.le_of_ble_eq_true rfl) ?_
  intro p e s m below meth c ls hx hb hr hml hts hown hlk hnm hC hH hl
  have hl : lv_has ls 4 [(0, .ref (k 0)), (1, .int o)] := hl
  have hj := hI.2.2.2.2.1
  have hn24 := hI.2.2.2.2.2.2.1
  have hT3 := hI.2.2.2.2.2.2.2.1
  have hz32 := hI.2.2.2.2.2.2.2.2
  have nIn : (nI n).toInt = (n : Int) := nI_toInt (by omega)
  have hfr : frC k rho f rho f := frC.rf
  have hn0_ := hst.2
  refine lv_iconst (v := 0) hx hb dX5_noteWritten_0 (by decide) ?_
  refine lv_istore_n (lv' := [(2, .int 0), (0, .ref (k 0)), (1, .int o)]) hx hb dX5_noteWritten_1 rfl hl (by decide) rfl (fun ls hl => ?_)
  have loop_2 : ∀ (fuel_ : Nat) (k2 : Int32) (fL : mF) (wnL : Int32) (h0_ : 0 ≤ k2.toInt) (h1_ : k2.toInt ≤ 8) (hI : IC G k rho n T z st fL) (hfr : frC k rho f rho fL) (hw11 : fldV fL (k 0) 11 = .int wnL) (hwb : 0 ≤ wnL.toInt ∧ wnL.toInt ≤ 8 * o.toInt + k2.toInt) (_ : ((8 : Int) - k2.toInt).toNat < fuel_) (H : Heap) (locs : List Loc) (ls : Array Slot) (_ : mH G s fL H locs) (_ : lv_has ls 4 [(0, .ref (k 0)), (1, .int o), (2, .int k2)]), W p l e ({ frames := 3, cells := 0, slots := 0, locals := 66 } : Room) s m ([.ref (k 0), .int o] : List Value).toArray below meth c H locs 0 0 (MQ below (va_Qv (fun (u : mS) => u.1 = rho ∧ IC G k rho n T z st u.2 ∧ frC k rho f rho u.2 ∧ ∃ wn2 : Int32, fldV u.2 (k 0) 11 = .int wn2 ∧ 0 ≤ wn2.toInt ∧ wn2.toInt ≤ 8 * o.toInt + 8) (fun (u : mS) t => mW G u.2 t) (mA G)) ([.ref (k 0), .int o] : List Value).toArray s 0 0 (mA G)) (F0 m 2 ls []) := by
    intro N_2
    induction N_2 with
    | zero => intro k2 fL wnL h0_ h1_ hI hfr hw11 hwb hN; omega
    | succ N_2 ih_2 =>
      intro k2 fL wnL h0_ h1_ hI hfr hw11 hwb hN_2 H locs ls hH hl
      refine lv_iload_n hx hb dX5_noteWritten_2 rfl (lv_at hl 2 rfl) ?_
      refine lv_bipush (v := 8) hx hb dX5_noteWritten_3 (by decide) ?_
      refine lv_icmp_ge (tgt := 72) hx hb dX5_noteWritten_5 (by decide) (fun c_1 => ?_) (fun c_1 => ?_)
      · skip
        have ic_1 : (8 : Int) ≤ k2.toInt := ic_le kI_8 rfl c_1
        exact m_vret hx hb hr hlk hC hH rho ⟨rfl, hI, hfr, _, hw11, by omega, by omega⟩ (Nat.le_of_ble_eq_true rfl) (Nat.le_of_ble_eq_true rfl) dX5_noteWritten_72
      · skip
        have ic_1 : (8 : Int) > k2.toInt := ic_nle kI_8 rfl c_1
        refine lv_aload_n hx hb dX5_noteWritten_8 rfl (lv_at hl 0 rfl) ?_
        obtain ⟨hn_2, cc_2, fc_2, cb_2, wn_2, vs_2, F_2, b3_2, b4_2⟩ : okLS k n (fL (k 0)) := hI.ls
        refine m_get (ci := 5) (v := .ref (k 1)) (C := RX5) (T := TX5) (N := 14) hx hb hC hH hts in_X5_noteWritten_X5 hown F_2 rfl 0 (by decide) (hts (.fieldLink RX5 11 "LazyState" "objects" "[LLazyState$Body;") (by decide +kernel)) rfl dX5_noteWritten_9 ?_
        refine lv_iload_n hx hb dX5_noteWritten_12 rfl (lv_at hl 1 rfl) ?_
        obtain ⟨g_3, hg_3, hp_3⟩ : okQ G 3 24 (fun g => ∀ o, o < n → ∃ b, g o = some b ∧ rho b = (1, T o)) (fL (k 1)) := hI.objs
        refine m_aald hx hb hC hH 3 rfl hg_3 (vp_in_iff.mpr ⟨by omega, by omega⟩) dX5_noteWritten_13 ?_
        obtain ⟨o_4, h1o_4, h2o_4⟩ := hp_3 (o.toNatClampNeg) (ic_cl rfl (by omega) (by omega))
        rw [h1o_4]
        refine lv_aload_n hx hb dX5_noteWritten_14 rfl (lv_at hl 0 rfl) ?_
        refine m_get (ci := 5) (v := .ref (k 5)) (C := RX5) (T := TX5) (N := 14) hx hb hC hH hts in_X5_noteWritten_X5 hown F_2 rfl 4 (by decide) (hts (.fieldLink RX5 24 "LazyState" "latest" "LLazyState$Run;") (by decide +kernel)) rfl dX5_noteWritten_15 ?_
        refine lv_iload_n hx hb dX5_noteWritten_18 rfl (lv_at hl 1 rfl) ?_
        obtain ⟨lb_8, dn_8, gf_8, th_8, ta_8, sr_8, nx_8, F_8, s1_8, s2_8⟩ : okRun k st 0 (fL (k (5 + 8 * 0))) := hI.run (i := 0) (c := 0) (by decide) (by decide)
        have s3_8 := s2_8 hst.1
        subst s3_8
        refine m_goq hH (va_runV (As := [.int o]) (rest := [.ref o_4]) ⟨hx, hb, hml, hown, hts⟩ (c_X3_bodyOf l G k rho n T z st fL hI 0 (by decide) hst o (by omega)) (cwV 1 hts gX5_noteWritten_X3_bodyOf rfl rfl rfl (by decide +kernel) ⟨Nat.le_of_ble_eq_true rfl, Nat.le_of_ble_eq_true rfl⟩) (m_preV (ci := 3) hC hH F_8 rfl) rfl rfl hl.1 rfl (lv_room (Nat.le_of_ble_eq_true rfl)) dX5_noteWritten_19 ⟨Nat.le_of_ble_eq_true rfl, Nat.le_of_ble_eq_true rfl⟩) (fun r_5 rho_7 f_6 H locs hw hH => ?_)
        obtain ⟨hu, hr_5⟩ := hw
        have hu : f_6 = fL := hu
        rw [hu] at hH
        obtain ⟨bb_r_5, h1_r_5, h2_r_5⟩ := hr_5
        rw [h1_r_5]
        refine lv_iload_n hx hb dX5_noteWritten_22 rfl (lv_at hl 2 rfl) ?_
        obtain ⟨ca_12, ia_12, si_12, bf_12, F_12, hca_12, hia_12, hbf_12⟩ : okB rho (T (o.toNatClampNeg)) o_4 (fL o_4) := hI.pool h2o_4
        have tI_12 : (nI (T (o.toNatClampNeg))).toInt = (T (o.toNatClampNeg) : Int) := nI_toInt (by have := hT3 (o.toNatClampNeg); omega)
        refine m_goi hH (va_runV (As := [.ref bb_r_5, .int k2]) (rest := []) ⟨hx, hb, hml, hown, hts⟩ (c_X2_hasSameField l G k rho n T z st fL hI o_4 (T (o.toNatClampNeg)) h2o_4 (hT3 _) bb_r_5 h2_r_5 k2 (by omega)) (cwV 2 hts gX5_noteWritten_X2_hasSameField rfl rfl rfl (by decide +kernel) ⟨Nat.le_of_ble_eq_true rfl, Nat.le_of_ble_eq_true rfl⟩) (m_preV (ci := 2) hC hH F_12 rfl) rfl rfl hl.1 rfl (lv_room (Nat.le_of_ble_eq_true rfl)) dX5_noteWritten_23 ⟨Nat.le_of_ble_eq_true rfl, Nat.le_of_ble_eq_true rfl⟩) (fun r_9 rho_11 f_10 H locs hw hH => ?_)
        obtain ⟨hu, hr_9⟩ := hw
        have hu : f_10 = fL := hu
        rw [hu] at hH
        refine lv_if_ne (tgt := 66) hx hb dX5_noteWritten_26 (by decide) (fun c_13 => ?_) (fun c_13 => ?_)
        · skip
          have ic_13 : (r_9.toInt : Int) ≠ 0 := ic_ne rfl kI_0 c_13
          obtain ⟨x_14, ex_14⟩ : ∃ y : Int32, y = k2 + 1 := ⟨_, rfl⟩
          have ix_14 : x_14.toInt = k2.toInt + 1 := ic_add ex_14 rfl kI_1 (by omega) (by omega)
          refine lv_iinc (v := x_14) (lv' := [(2, .int x_14), (0, .ref (k 0)), (1, .int o)]) hx hb dX5_noteWritten_66 hl (k := 2) rfl (by rw [ex_14]; rfl) (by decide) rfl (fun ls hl => ?_)
          refine lv_goto (tgt := 2) hx hb dX5_noteWritten_69 (by decide) ?_
          exact ih_2 x_14 fL wnL (by omega) (by omega) hI hfr hw11 (by omega) (by omega) _ _ _ hH (lv_sub hl [1, 2, 0] rfl)
        · skip
          have ic_13 : (r_9.toInt : Int) = 0 := ic_eq rfl kI_0 c_13
          refine lv_bipush (v := 8) hx hb dX5_noteWritten_29 (by decide) ?_
          refine lv_iload_n hx hb dX5_noteWritten_31 rfl (lv_at hl 1 rfl) ?_
          refine lv_imul hx hb dX5_noteWritten_32 ?_
          refine lv_topi (fun x_15 ex_15 => ?_)
          have ix_15 : x_15.toInt = 8 * o.toInt := ic_mul ex_15 kI_8 rfl (by omega) (by omega)
          refine lv_iload_n hx hb dX5_noteWritten_33 rfl (lv_at hl 2 rfl) ?_
          refine lv_iadd hx hb dX5_noteWritten_34 ?_
          refine lv_topi (fun x_16 ex_16 => ?_)
          have ix_16 : x_16.toInt = x_15.toInt + k2.toInt := ic_add ex_16 rfl rfl (by omega) (by omega)
          refine lv_istore_n (lv' := [(3, .int x_16), (0, .ref (k 0)), (1, .int o), (2, .int k2)]) hx hb dX5_noteWritten_35 rfl hl (by decide) rfl (fun ls hl => ?_)
          have we_16 : wn_2 = wnL := Value.int.inj ((fldV_eq F_2 11).symm.trans hw11)
          have wi_16 : wn_2.toInt = wnL.toInt := by rw [we_16]
          have hw11 : fldV fL (k 0) 11 = .int wn_2 := fldV_eq F_2 11
          refine lv_aload_n hx hb dX5_noteWritten_36 rfl (lv_at hl 1 rfl) ?_
          refine m_get (ci := 5) (v := .ref (k 3)) (C := RX5) (T := TX5) (N := 14) hx hb hC hH hts in_X5_noteWritten_X5 hown F_2 rfl 10 (by decide) (hts (.fieldLink RX5 34 "LazyState" "writtenLeaves" "[I") (by decide +kernel)) rfl dX5_noteWritten_37 ?_
          refine lv_aload_n hx hb dX5_noteWritten_40 rfl (lv_at hl 1 rfl) ?_
          refine m_get (ci := 5) (v := .int wn_2) (C := RX5) (T := TX5) (N := 14) hx hb hC hH hts in_X5_noteWritten_X5 hown F_2 rfl 11 (by decide) (hts (.fieldLink RX5 131 "LazyState" "writtenCount" "I") (by decide +kernel)) rfl dX5_noteWritten_41 ?_
          refine lv_iload_n hx hb dX5_noteWritten_44 rfl (lv_at hl 0 rfl) ?_
          obtain ⟨g_17, hg_17, hp_17⟩ : okI G 0 192 (fun _ => True) (fL (k 3)) := hI.plain (by decide) (by decide)
          refine m_iast hx hb hC hH hg_17 (vp_in_iff.mpr ⟨by omega, by omega⟩) dX5_noteWritten_45 (fun H locs hH => ?_)
          obtain ⟨f_18, ef_18⟩ : ∃ zz_ : mF, zz_ = va_up fL (k 3) (some (.inl (gk G 0, 192, .inl (upd g_17 wn_2.toNatClampNeg x_16)))) := ⟨_, rfl⟩
          rw [← ef_18] at hH
          have F_19 := upk F_2 ef_18 (neC hj (i := 0) (j := 3) (by omega) (by omega) (by omega))
          have F_20 := upk F_8 ef_18 (neC hj (i := (5 + 8 * 0 + 0)) (j := 3) (by omega) (by omega) (by omega))
          have F_21 := upk F_12 ef_18 (hI.nk (j := 3) (by omega) (by rw [h2o_4]; simp))
          have hI : IC G k rho n T z st f_18 := hI.set (j := 3) (by decide) ef_18 (fun i_ hi_ => by omega) (by rw [okC_S (by decide) (by decide)]; exact ⟨_, rfl, trivial⟩)
          have hfr := hfr.upK (j := 3) (by omega) ef_18
          have hw11 : fldV f_18 (k 0) 11 = .int wn_2 := (fldV_eq F_19 11).trans (by first | rfl | exact congrArg Value.int we_16)
          refine lv_aload_n hx hb dX5_noteWritten_46 rfl (lv_at hl 1 rfl) ?_
          refine lv_dup hx hb dX5_noteWritten_47 rfl ?_
          refine m_get (ci := 5) (v := .int wn_2) (C := RX5) (T := TX5) (N := 14) hx hb hC hH hts in_X5_noteWritten_X5 hown F_19 rfl 11 (by decide) (hts (.fieldLink RX5 131 "LazyState" "writtenCount" "I") (by decide +kernel)) rfl dX5_noteWritten_48 ?_
          refine lv_iconst (v := 1) hx hb dX5_noteWritten_51 (by decide) ?_
          refine lv_iadd hx hb dX5_noteWritten_52 ?_
          refine lv_topi (fun x_22 ex_22 => ?_)
          have ix_22 : x_22.toInt = wn_2.toInt + 1 := ic_add ex_22 rfl kI_1 (by omega) (by omega)
          refine m_put (ci := 5) (v := .int x_22) (C := RX5) (T := TX5) (N := 14) hx hb hC hH hts in_X5_noteWritten_X5 tyX5 tyX5_ok nmX5 hown F_19 rfl 11 (by decide) (hts (.fieldLink RX5 131 "LazyState" "writtenCount" "I") (by decide +kernel)) rfl rfl rfl (Nat.le_of_ble_eq_true rfl) dX5_noteWritten_53 (fun H locs hH => ?_)
          have hH : mH G s (va_up f_18 (k 0) (some (.inr (5, [.ref (k 1), .int (nI n), .int hn_2, .ref (k 2), .ref (k 5), .ref (k 13), .ref (k 21), .int cc_2, .int fc_2, .int cb_2, .ref (k 3), .int x_22, .ref (k 4), .int vs_2])))) H locs := hH
          obtain ⟨f_23, ef_23⟩ : ∃ zz_ : mF, zz_ = va_up f_18 (k 0) (some (.inr (5, [.ref (k 1), .int (nI n), .int hn_2, .ref (k 2), .ref (k 5), .ref (k 13), .ref (k 21), .int cc_2, .int fc_2, .int cb_2, .ref (k 3), .int x_22, .ref (k 4), .int vs_2]))) := ⟨_, rfl⟩
          rw [← ef_23] at hH
          have F_24 := upk F_20 ef_23 (neC hj (i := (5 + 8 * 0 + 0)) (j := 0) (by omega) (by omega) (by omega))
          have F_25 := upk F_21 ef_23 (hI.nk (j := 0) (by omega) (by rw [h2o_4]; simp))
          have F_26 : f_23 (k 0) = some (.inr (5, [.ref (k 1), .int (nI n), .int hn_2, .ref (k 2), .ref (k 5), .ref (k 13), .ref (k 21), .int cc_2, .int fc_2, .int cb_2, .ref (k 3), .int x_22, .ref (k 4), .int vs_2])) := by rw [ef_23]; exact va_up_self _ _ _
          have hI : IC G k rho n T z st f_23 := hI.set (j := 0) (by decide) ef_23 (fun i hi => by omega) (show okLS k n _ from ⟨_, _, _, _, _, _, rfl, by omega, by omega⟩)
          have hfr := hfr.upK (j := 0) (by omega) ef_23
          have hw11 : fldV f_23 (k 0) 11 = .int x_22 := (fldV_eq F_26 11).trans (by first | rfl | exact congrArg Value.int we_16)
          refine lv_aload_n hx hb dX5_noteWritten_56 rfl (lv_at hl 1 rfl) ?_
          refine m_get (ci := 5) (v := .ref (k 4)) (C := RX5) (T := TX5) (N := 14) hx hb hC hH hts in_X5_noteWritten_X5 hown F_26 rfl 12 (by decide) (hts (.fieldLink RX5 38 "LazyState" "writeCounts" "[I") (by decide +kernel)) rfl dX5_noteWritten_57 ?_
          refine lv_iload_n hx hb dX5_noteWritten_60 rfl (lv_at hl 0 rfl) ?_
          refine lv_dup2_11 hx hb dX5_noteWritten_61 rfl rfl ?_
          obtain ⟨g_27, hg_27, hp_27⟩ : okI G 0 192 (fun _ => True) (f_23 (k 4)) := hI.plain (by decide) (by decide)
          refine m_iald hx hb hC hH hg_27 (vp_in_iff.mpr ⟨by omega, by omega⟩) dX5_noteWritten_62 ?_
          refine lv_topi (fun x_28 ex_28 => ?_)
          refine lv_iconst (v := 1) hx hb dX5_noteWritten_63 (by decide) ?_
          refine lv_iadd hx hb dX5_noteWritten_64 ?_
          refine lv_topi (fun x_29 ex_29 => ?_)
          refine m_iast hx hb hC hH hg_27 (vp_in_iff.mpr ⟨by omega, by omega⟩) dX5_noteWritten_65 (fun H locs hH => ?_)
          obtain ⟨f_30, ef_30⟩ : ∃ zz_ : mF, zz_ = va_up f_23 (k 4) (some (.inl (gk G 0, 192, .inl (upd g_27 x_16.toNatClampNeg x_29)))) := ⟨_, rfl⟩
          rw [← ef_30] at hH
          have F_31 := upk F_24 ef_30 (neC hj (i := (5 + 8 * 0 + 0)) (j := 4) (by omega) (by omega) (by omega))
          have F_32 := upk F_25 ef_30 (hI.nk (j := 4) (by omega) (by rw [h2o_4]; simp))
          have F_33 := upk F_26 ef_30 (neC hj (i := 0) (j := 4) (by omega) (by omega) (by omega))
          have hI : IC G k rho n T z st f_30 := hI.set (j := 4) (by decide) ef_30 (fun i_ hi_ => by omega) (by rw [okC_S (by decide) (by decide)]; exact ⟨_, rfl, trivial⟩)
          have hfr := hfr.upK (j := 4) (by omega) ef_30
          have hw11 : fldV f_30 (k 0) 11 = .int x_22 := (fldV_eq F_33 11).trans (by first | rfl | exact congrArg Value.int we_16)
          obtain ⟨x_34, ex_34⟩ : ∃ y : Int32, y = k2 + 1 := ⟨_, rfl⟩
          have ix_34 : x_34.toInt = k2.toInt + 1 := ic_add ex_34 rfl kI_1 (by omega) (by omega)
          refine lv_iinc (v := x_34) (lv' := [(2, .int x_34), (3, .int x_16), (0, .ref (k 0)), (1, .int o)]) hx hb dX5_noteWritten_66 hl (k := 3) rfl (by rw [ex_34]; rfl) (by decide) rfl (fun ls hl => ?_)
          refine lv_goto (tgt := 2) hx hb dX5_noteWritten_69 (by decide) ?_
          exact ih_2 x_34 f_30 x_22 (by omega) (by omega) hI hfr hw11 (by omega) (by omega) _ _ _ hH (lv_sub hl [2, 3, 0] rfl)
  exact loop_2 (((8 : Int) - 0).toNat + 1) 0 f wn0 (by have := kI_0; omega) (by have := kI_0; omega) hI hfr hw11 (by have := kI_0; omega) (by have := kI_0; omega) _ _ _ hH (lv_sub hl [1, 2, 0] rfl)
set_option maxHeartbeats 4000000 in
set_option maxRecDepth 100000 in
theorem c_X5_keepChanges (l : Launch) (G : mG) (k : Nat → Nat) (rho : tR) (n : Nat) (T z : Nat → Nat) (st : Nat → Bool) (f : mF) (hI : IC G k rho n T z st f) (hst : st 0 = true ∧ 0 < n) (wn0 : Int32) (hw11 : fldV f (k 0) 11 = .int wn0) (hwn : wn0.toInt = 0) : Met l yX5_keepChanges wsX5_keepChanges ({ frames := 4, cells := 72, slots := 696, locals := 104 }) (va_Pc [.ref (k 0)] (mW G f)) (va_Qv (fun (u : mS) => IC G k u.1 n T z st u.2 ∧ frC k rho f u.1 u.2) (fun (u : mS) t => mW G u.2 t) (mA G)) 72 696 (mA G) := by
  refine mMet [.ref (k 0)] (cc := cX5_keepChanges) (maxL := 3) (ret := none) (by decide) rfl (Nat.le_of_ble_eq_true rfl) ?_
  intro p e s m below meth c ls hx hb hr hml hts hown hlk hnm hC hH hl
  have hl : lv_has ls 3 [(0, .ref (k 0))] := hl
  have hj := hI.2.2.2.2.1
  have hn24 := hI.2.2.2.2.2.2.1
  have hT3 := hI.2.2.2.2.2.2.2.1
  have hz32 := hI.2.2.2.2.2.2.2.2
  have nIn : (nI n).toInt = (n : Int) := nI_toInt (by omega)
  have hfr : frC k rho f rho f := frC.rf
  have hn0_ := hst.2
  refine lv_iconst (v := 0) hx hb dX5_keepChanges_0 (by decide) ?_
  refine lv_istore_n (lv' := [(1, .int 0), (0, .ref (k 0))]) hx hb dX5_keepChanges_1 rfl hl (by decide) rfl (fun ls hl => ?_)
  have loop_2 : ∀ (fuel_ : Nat) (o1 : Int32) (fL : mF) (wnL : Int32) (rhoL : tR) (cl_ sl_ : Nat) (h0_ : 0 ≤ o1.toInt) (h1_ : o1.toInt ≤ 24) (hI : IC G k rhoL n T z st fL) (hfr : frC k rho f rhoL fL) (hw11 : fldV fL (k 0) 11 = .int wnL) (hwb : 0 ≤ wnL.toInt ∧ wnL.toInt ≤ 8 * o1.toInt) (hcl : (cl_ : Int) ≤ 3 * o1.toInt) (hsl : (sl_ : Int) ≤ 29 * o1.toInt) (_ : ((24 : Int) - o1.toInt).toNat < fuel_) (H : Heap) (locs : List Loc) (ls : Array Slot) (_ : mH G s fL H locs) (_ : lv_has ls 3 [(0, .ref (k 0)), (1, .int o1)]), W p l e ({ frames := 4, cells := 72, slots := 696, locals := 104 } : Room) s m ([.ref (k 0)] : List Value).toArray below meth c H locs cl_ sl_ (MQ below (va_Qv (fun (u : mS) => IC G k u.1 n T z st u.2 ∧ frC k rho f u.1 u.2) (fun (u : mS) t => mW G u.2 t) (mA G)) ([.ref (k 0)] : List Value).toArray s 72 696 (mA G)) (F0 m 2 ls []) := by
    intro N_2
    induction N_2 with
    | zero => intro o1 fL wnL rhoL cl_ sl_ h0_ h1_ hI hfr hw11 hwb hcl hsl hN; omega
    | succ N_2 ih_2 =>
      intro o1 fL wnL rhoL cl_ sl_ h0_ h1_ hI hfr hw11 hwb hcl hsl hN_2 H locs ls hH hl
      refine lv_iload_n hx hb dX5_keepChanges_2 rfl (lv_at hl 1 rfl) ?_
      refine lv_aload_n hx hb dX5_keepChanges_3 rfl (lv_at hl 0 rfl) ?_
      obtain ⟨hn_1, cc_1, fc_1, cb_1, wn_1, vs_1, F_1, b3_1, b4_1⟩ : okLS k n (fL (k 0)) := hI.ls
      refine m_get (ci := 5) (v := .int (nI n)) (C := RX5) (T := TX5) (N := 14) hx hb hC hH hts in_X5_keepChanges_X5 hown F_1 rfl 1 (by decide) (hts (.fieldLink RX5 46 "LazyState" "objectCount" "I") (by decide +kernel)) rfl dX5_keepChanges_4 ?_
      refine lv_icmp_ge (tgt := 71) hx hb dX5_keepChanges_7 (by decide) (fun c_2 => ?_) (fun c_2 => ?_)
      · skip
        have ic_2 : ((n : Int) : Int) ≤ o1.toInt := ic_le nIn rfl c_2
        exact m_vret hx hb hr hlk hC hH rhoL ⟨hI, hfr⟩ (by omega) (by omega) dX5_keepChanges_71
      · skip
        have ic_2 : ((n : Int) : Int) > o1.toInt := ic_nle nIn rfl c_2
        have we_2 : wn_1 = wnL := Value.int.inj ((fldV_eq F_1 11).symm.trans hw11)
        have wi_2 : wn_1.toInt = wnL.toInt := by rw [we_2]
        refine lv_aload_n hx hb dX5_keepChanges_10 rfl (lv_at hl 0 rfl) ?_
        refine m_get (ci := 5) (v := .int wn_1) (C := RX5) (T := TX5) (N := 14) hx hb hC hH hts in_X5_keepChanges_X5 hown F_1 rfl 11 (by decide) (hts (.fieldLink RX5 131 "LazyState" "writtenCount" "I") (by decide +kernel)) rfl dX5_keepChanges_11 ?_
        refine lv_istore_n (lv' := [(2, .int wn_1), (0, .ref (k 0)), (1, .int o1)]) hx hb dX5_keepChanges_14 rfl hl (by decide) rfl (fun ls hl => ?_)
        refine lv_aload_n hx hb dX5_keepChanges_15 rfl (lv_at hl 1 rfl) ?_
        refine m_get (ci := 5) (v := .ref (k 5)) (C := RX5) (T := TX5) (N := 14) hx hb hC hH hts in_X5_keepChanges_X5 hown F_1 rfl 4 (by decide) (hts (.fieldLink RX5 24 "LazyState" "latest" "LLazyState$Run;") (by decide +kernel)) rfl dX5_keepChanges_16 ?_
        obtain ⟨lb_3, dn_3, gf_3, th_3, ta_3, sr_3, nx_3, F_3, s1_3, s2_3⟩ : okRun k st 0 (fL (k (5 + 8 * 0))) := hI.run (i := 0) (c := 0) (by decide) (by decide)
        have s3_3 := s2_3 hst.1
        subst s3_3
        refine m_get (ci := 3) (v := .int lb_3) (C := RX3) (T := TX3) (N := 11) hx hb hC hH hts in_X5_keepChanges_X3 hown F_3 rfl 1 (by decide) (hts (.fieldLink RX5 119 "LazyState$Run" "loadedBits" "I") (by decide +kernel)) rfl dX5_keepChanges_19 ?_
        refine lv_iload_n hx hb dX5_keepChanges_22 rfl (lv_at hl 2 rfl) ?_
        refine m_goi hH (va_runS (As := [.int lb_3, .int o1]) (rest := []) ⟨hx, hb, hml, hown, hts⟩ (c_X5_bitOf l G fL lb_3 o1) (va_cwS 2 hts gX5_keepChanges_X5_bitOf rfl rfl rfl (by decide +kernel) ⟨Nat.le_of_ble_eq_true rfl, Nat.le_of_ble_eq_true rfl⟩) (m_preS hC hH) rfl rfl hl.1 rfl (lv_room (Nat.le_of_ble_eq_true rfl)) dX5_keepChanges_23 ⟨by show _ ≤ 72; omega, by show _ ≤ 696; omega⟩) (fun r_4 rho_6 f_5 H locs hw hH => ?_)
        obtain ⟨hu, hr_4⟩ := hw
        have hu : f_5 = fL := hu
        rw [hu] at hH
        have br_4 : r_4.toInt = 0 ∨ r_4.toInt = 1 := by rw [hr_4]; exact ic_and1 _
        refine lv_iconst (v := 1) hx hb dX5_keepChanges_26 (by decide) ?_
        refine lv_icmp_ne (tgt := 35) hx hb dX5_keepChanges_27 (by decide) (fun c_7 => ?_) (fun c_7 => ?_)
        · skip
          have ic_7 : (r_4.toInt : Int) ≠ 1 := ic_ne rfl kI_1 c_7
          refine lv_aload_n hx hb dX5_keepChanges_35 rfl (lv_at hl 1 rfl) ?_
          refine m_get (ci := 5) (v := .int wn_1) (C := RX5) (T := TX5) (N := 14) hx hb hC hH hts in_X5_keepChanges_X5 hown F_1 rfl 11 (by decide) (hts (.fieldLink RX5 131 "LazyState" "writtenCount" "I") (by decide +kernel)) rfl dX5_keepChanges_36 ?_
          refine lv_iload_n hx hb dX5_keepChanges_39 rfl (lv_at hl 0 rfl) ?_
          refine lv_icmp_le (tgt := 65) hx hb dX5_keepChanges_40 (by decide) (fun c_8 => ?_) (fun c_8 => ?_)
          · skip
            have ic_8 : (wn_1.toInt : Int) ≤ wn_1.toInt := ic_le rfl rfl c_8
            obtain ⟨x_9, ex_9⟩ : ∃ y : Int32, y = o1 + 1 := ⟨_, rfl⟩
            have ix_9 : x_9.toInt = o1.toInt + 1 := ic_add ex_9 rfl kI_1 (by omega) (by omega)
            refine lv_iinc (v := x_9) (lv' := [(1, .int x_9), (2, .int wn_1), (0, .ref (k 0))]) hx hb dX5_keepChanges_65 hl (k := 2) rfl (by rw [ex_9]; rfl) (by decide) rfl (fun ls hl => ?_)
            refine lv_goto (tgt := 2) hx hb dX5_keepChanges_68 (by decide) ?_
            exact ih_2 x_9 fL wnL rhoL (cl_ + 0) (sl_ + 0) (by omega) (by omega) hI hfr hw11 (by omega) (by omega) (by omega) (by omega) _ _ _ hH (lv_sub hl [2, 0] rfl)
          · skip
            have ic_8 : (wn_1.toInt : Int) > wn_1.toInt := ic_nle rfl rfl c_8
            refine lv_iload_n hx hb dX5_keepChanges_43 rfl (lv_at hl 0 rfl) ?_
            refine lv_if_ne (tgt := 51) hx hb dX5_keepChanges_44 (by decide) (fun c_10 => ?_) (fun c_10 => ?_)
            · skip
              have ic_10 : (wn_1.toInt : Int) ≠ 0 := ic_ne rfl kI_0 c_10
              refine lv_aload_n hx hb dX5_keepChanges_51 rfl (lv_at hl 1 rfl) ?_
              refine lv_iload_n hx hb dX5_keepChanges_52 rfl (lv_at hl 2 rfl) ?_
              refine lv_aload_n hx hb dX5_keepChanges_53 rfl (lv_at hl 1 rfl) ?_
              refine m_get (ci := 5) (v := .ref (k 5)) (C := RX5) (T := TX5) (N := 14) hx hb hC hH hts in_X5_keepChanges_X5 hown F_1 rfl 4 (by decide) (hts (.fieldLink RX5 24 "LazyState" "latest" "LLazyState$Run;") (by decide +kernel)) rfl dX5_keepChanges_54 ?_
              refine lv_iload_n hx hb dX5_keepChanges_57 rfl (lv_at hl 2 rfl) ?_
              refine m_goq hH (va_runV (As := [.int o1]) (rest := [.int o1, .ref (k 0)]) ⟨hx, hb, hml, hown, hts⟩ (c_X3_bodyOf l G k rhoL n T z st fL hI 0 (by decide) hst o1 (by omega)) (cwV 1 hts gX5_keepChanges_X3_bodyOf rfl rfl rfl (by decide +kernel) ⟨Nat.le_of_ble_eq_true rfl, Nat.le_of_ble_eq_true rfl⟩) (m_preV (ci := 3) hC hH F_3 rfl) rfl rfl hl.1 rfl (lv_room (Nat.le_of_ble_eq_true rfl)) dX5_keepChanges_58 ⟨by show _ ≤ 72; omega, by show _ ≤ 696; omega⟩) (fun r_11 rho_13 f_12 H locs hw hH => ?_)
              obtain ⟨hu, hr_11⟩ := hw
              have hu : f_12 = fL := hu
              rw [hu] at hH
              obtain ⟨bb_r_11, h1_r_11, h2_r_11⟩ := hr_11
              rw [h1_r_11]
              refine m_goq hH (va_runV (As := [.int o1, .ref bb_r_11]) (rest := []) ⟨hx, hb, hml, hown, hts⟩ (c_X5_newVersion l G k rhoL n T z st fL hI o1 bb_r_11 h2_r_11 (by omega)) (cwV 2 hts gX5_keepChanges_X5_newVersion rfl rfl rfl (by decide +kernel) ⟨Nat.le_of_ble_eq_true rfl, Nat.le_of_ble_eq_true rfl⟩) (m_preV (ci := 5) hC hH F_1 rfl) rfl rfl hl.1 rfl (lv_room (Nat.le_of_ble_eq_true rfl)) dX5_keepChanges_61 ⟨by show _ ≤ 72; omega, by show _ ≤ 696; omega⟩) (fun r_14 rho_16 f_15 H locs hw hH => ?_)
              obtain ⟨hI, hfr1, hk0_, nb61_, h1_, h2_61⟩ := hw
              have hI : IC G k rho_16 n T z st f_15 := hI
              have hfr1 : frC k rhoL fL rho_16 f_15 := hfr1
              have hfr := hfr.trans hfr1
              rw [h1_]
              have h2_61 : rho_16 nb61_ = (1, T (o1.toNatClampNeg)) := h2_61
              have hk0_ : f_15 (k 0) = fL (k 0) := hk0_
              have hw11 : fldV f_15 (k 0) 11 = .int wnL := by unfold fldV; rw [hk0_]; exact hw11
              refine lv_pop hx hb dX5_keepChanges_64 rfl ?_
              obtain ⟨x_17, ex_17⟩ : ∃ y : Int32, y = o1 + 1 := ⟨_, rfl⟩
              have ix_17 : x_17.toInt = o1.toInt + 1 := ic_add ex_17 rfl kI_1 (by omega) (by omega)
              refine lv_iinc (v := x_17) (lv' := [(1, .int x_17), (2, .int wn_1), (0, .ref (k 0))]) hx hb dX5_keepChanges_65 hl (k := 2) rfl (by rw [ex_17]; rfl) (by decide) rfl (fun ls hl => ?_)
              refine lv_goto (tgt := 2) hx hb dX5_keepChanges_68 (by decide) ?_
              exact ih_2 x_17 f_15 wnL rho_16 (cl_ + 0 + 0 + 3) (sl_ + 0 + 0 + 29) (by omega) (by omega) hI hfr hw11 (by omega) (by omega) (by omega) (by omega) _ _ _ hH (lv_sub hl [2, 0] rfl)
            · skip
              have ic_10 : (wn_1.toInt : Int) = 0 := ic_eq rfl kI_0 c_10
              refine lv_aload_n hx hb dX5_keepChanges_47 rfl (lv_at hl 1 rfl) ?_
              refine m_gov hH (va_runV (As := []) (rest := []) ⟨hx, hb, hml, hown, hts⟩ (c_X5_raiseHeight l G k rhoL n T z st fL hI) (cwV 0 hts gX5_keepChanges_X5_raiseHeight rfl rfl rfl (by decide +kernel) ⟨Nat.le_of_ble_eq_true rfl, Nat.le_of_ble_eq_true rfl⟩) (m_preV (ci := 5) hC hH F_1 rfl) rfl rfl hl.1 rfl (lv_room (Nat.le_of_ble_eq_true rfl)) dX5_keepChanges_48 ⟨by show _ ≤ 72; omega, by show _ ≤ 696; omega⟩) (fun rho_20 f_19 H locs hw hH => ?_)
              obtain ⟨hu, hI, hfr1, hk11_⟩ := hw
              have hI : IC G k rhoL n T z st f_19 := hI
              have hfr1 : frC k rhoL fL rhoL f_19 := hfr1
              have hfr := hfr.trans hfr1
              have hw11 : fldV f_19 (k 0) 11 = .int wnL := hk11_.trans hw11
              refine lv_aload_n hx hb dX5_keepChanges_51 rfl (lv_at hl 1 rfl) ?_
              refine lv_iload_n hx hb dX5_keepChanges_52 rfl (lv_at hl 2 rfl) ?_
              refine lv_aload_n hx hb dX5_keepChanges_53 rfl (lv_at hl 1 rfl) ?_
              obtain ⟨hn_21, cc_21, fc_21, cb_21, wn_21, vs_21, F_21, b3_21, b4_21⟩ : okLS k n (f_19 (k 0)) := hI.ls
              refine m_get (ci := 5) (v := .ref (k 5)) (C := RX5) (T := TX5) (N := 14) hx hb hC hH hts in_X5_keepChanges_X5 hown F_21 rfl 4 (by decide) (hts (.fieldLink RX5 24 "LazyState" "latest" "LLazyState$Run;") (by decide +kernel)) rfl dX5_keepChanges_54 ?_
              refine lv_iload_n hx hb dX5_keepChanges_57 rfl (lv_at hl 2 rfl) ?_
              obtain ⟨lb_25, dn_25, gf_25, th_25, ta_25, sr_25, nx_25, F_25, s1_25, s2_25⟩ : okRun k st 0 (f_19 (k (5 + 8 * 0))) := hI.run (i := 0) (c := 0) (by decide) (by decide)
              have s3_25 := s2_25 hst.1
              subst s3_25
              refine m_goq hH (va_runV (As := [.int o1]) (rest := [.int o1, .ref (k 0)]) ⟨hx, hb, hml, hown, hts⟩ (c_X3_bodyOf l G k rhoL n T z st f_19 hI 0 (by decide) hst o1 (by omega)) (cwV 1 hts gX5_keepChanges_X3_bodyOf rfl rfl rfl (by decide +kernel) ⟨Nat.le_of_ble_eq_true rfl, Nat.le_of_ble_eq_true rfl⟩) (m_preV (ci := 3) hC hH F_25 rfl) rfl rfl hl.1 rfl (lv_room (Nat.le_of_ble_eq_true rfl)) dX5_keepChanges_58 ⟨by show _ ≤ 72; omega, by show _ ≤ 696; omega⟩) (fun r_22 rho_24 f_23 H locs hw hH => ?_)
              obtain ⟨hu, hr_22⟩ := hw
              have hu : f_23 = f_19 := hu
              rw [hu] at hH
              obtain ⟨bb_r_22, h1_r_22, h2_r_22⟩ := hr_22
              rw [h1_r_22]
              refine m_goq hH (va_runV (As := [.int o1, .ref bb_r_22]) (rest := []) ⟨hx, hb, hml, hown, hts⟩ (c_X5_newVersion l G k rhoL n T z st f_19 hI o1 bb_r_22 h2_r_22 (by omega)) (cwV 2 hts gX5_keepChanges_X5_newVersion rfl rfl rfl (by decide +kernel) ⟨Nat.le_of_ble_eq_true rfl, Nat.le_of_ble_eq_true rfl⟩) (m_preV (ci := 5) hC hH F_21 rfl) rfl rfl hl.1 rfl (lv_room (Nat.le_of_ble_eq_true rfl)) dX5_keepChanges_61 ⟨by show _ ≤ 72; omega, by show _ ≤ 696; omega⟩) (fun r_26 rho_28 f_27 H locs hw hH => ?_)
              obtain ⟨hI, hfr1, hk0_, nb61_, h1_, h2_61⟩ := hw
              have hI : IC G k rho_28 n T z st f_27 := hI
              have hfr1 : frC k rhoL f_19 rho_28 f_27 := hfr1
              have hfr := hfr.trans hfr1
              rw [h1_]
              have h2_61 : rho_28 nb61_ = (1, T (o1.toNatClampNeg)) := h2_61
              have hk0_ : f_27 (k 0) = f_19 (k 0) := hk0_
              have hw11 : fldV f_27 (k 0) 11 = .int wnL := by unfold fldV; rw [hk0_]; exact hw11
              refine lv_pop hx hb dX5_keepChanges_64 rfl ?_
              obtain ⟨x_29, ex_29⟩ : ∃ y : Int32, y = o1 + 1 := ⟨_, rfl⟩
              have ix_29 : x_29.toInt = o1.toInt + 1 := ic_add ex_29 rfl kI_1 (by omega) (by omega)
              refine lv_iinc (v := x_29) (lv' := [(1, .int x_29), (2, .int wn_1), (0, .ref (k 0))]) hx hb dX5_keepChanges_65 hl (k := 2) rfl (by rw [ex_29]; rfl) (by decide) rfl (fun ls hl => ?_)
              refine lv_goto (tgt := 2) hx hb dX5_keepChanges_68 (by decide) ?_
              exact ih_2 x_29 f_27 wnL rho_28 (cl_ + 0 + 0 + 0 + 3) (sl_ + 0 + 0 + 0 + 29) (by omega) (by omega) hI hfr hw11 (by omega) (by omega) (by omega) (by omega) _ _ _ hH (lv_sub hl [2, 0] rfl)
        · skip
          have ic_7 : (r_4.toInt : Int) = 1 := ic_eq rfl kI_1 c_7
          refine lv_aload_n hx hb dX5_keepChanges_30 rfl (lv_at hl 1 rfl) ?_
          refine lv_iload_n hx hb dX5_keepChanges_31 rfl (lv_at hl 2 rfl) ?_
          refine m_gov hH (va_runV (As := [.int o1]) (rest := []) ⟨hx, hb, hml, hown, hts⟩ (c_X5_noteWritten l G k rhoL n T z st fL hI hst o1 wnL (by omega) hw11 (by omega)) (cwV 1 hts gX5_keepChanges_X5_noteWritten rfl rfl rfl (by decide +kernel) ⟨Nat.le_of_ble_eq_true rfl, Nat.le_of_ble_eq_true rfl⟩) (m_preV (ci := 5) hC hH F_1 rfl) rfl rfl hl.1 rfl (lv_room (Nat.le_of_ble_eq_true rfl)) dX5_keepChanges_32 ⟨by show _ ≤ 72; omega, by show _ ≤ 696; omega⟩) (fun rho_32 f_31 H locs hw hH => ?_)
          obtain ⟨hu, hI, hfr1, wn2_, hw11, w1_, w2_⟩ := hw
          have hI : IC G k rhoL n T z st f_31 := hI
          have hfr1 : frC k rhoL fL rhoL f_31 := hfr1
          have hfr := hfr.trans hfr1
          have hw11 : fldV f_31 (k 0) 11 = .int wn2_ := hw11
          refine lv_aload_n hx hb dX5_keepChanges_35 rfl (lv_at hl 1 rfl) ?_
          obtain ⟨hn_33, cc_33, fc_33, cb_33, wn_33, vs_33, F_33, b3_33, b4_33⟩ : okLS k n (f_31 (k 0)) := hI.ls
          refine m_get (ci := 5) (v := .int wn_33) (C := RX5) (T := TX5) (N := 14) hx hb hC hH hts in_X5_keepChanges_X5 hown F_33 rfl 11 (by decide) (hts (.fieldLink RX5 131 "LazyState" "writtenCount" "I") (by decide +kernel)) rfl dX5_keepChanges_36 ?_
          refine lv_iload_n hx hb dX5_keepChanges_39 rfl (lv_at hl 0 rfl) ?_
          refine lv_icmp_le (tgt := 65) hx hb dX5_keepChanges_40 (by decide) (fun c_34 => ?_) (fun c_34 => ?_)
          · skip
            have ic_34 : (wn_33.toInt : Int) ≤ wn_1.toInt := ic_le rfl rfl c_34
            obtain ⟨x_35, ex_35⟩ : ∃ y : Int32, y = o1 + 1 := ⟨_, rfl⟩
            have ix_35 : x_35.toInt = o1.toInt + 1 := ic_add ex_35 rfl kI_1 (by omega) (by omega)
            refine lv_iinc (v := x_35) (lv' := [(1, .int x_35), (2, .int wn_1), (0, .ref (k 0))]) hx hb dX5_keepChanges_65 hl (k := 2) rfl (by rw [ex_35]; rfl) (by decide) rfl (fun ls hl => ?_)
            refine lv_goto (tgt := 2) hx hb dX5_keepChanges_68 (by decide) ?_
            exact ih_2 x_35 f_31 wn2_ rhoL (cl_ + 0 + 0) (sl_ + 0 + 0) (by omega) (by omega) hI hfr hw11 (by omega) (by omega) (by omega) (by omega) _ _ _ hH (lv_sub hl [2, 0] rfl)
          · skip
            have ic_34 : (wn_33.toInt : Int) > wn_1.toInt := ic_nle rfl rfl c_34
            refine lv_iload_n hx hb dX5_keepChanges_43 rfl (lv_at hl 0 rfl) ?_
            refine lv_if_ne (tgt := 51) hx hb dX5_keepChanges_44 (by decide) (fun c_36 => ?_) (fun c_36 => ?_)
            · skip
              have ic_36 : (wn_1.toInt : Int) ≠ 0 := ic_ne rfl kI_0 c_36
              refine lv_aload_n hx hb dX5_keepChanges_51 rfl (lv_at hl 1 rfl) ?_
              refine lv_iload_n hx hb dX5_keepChanges_52 rfl (lv_at hl 2 rfl) ?_
              refine lv_aload_n hx hb dX5_keepChanges_53 rfl (lv_at hl 1 rfl) ?_
              refine m_get (ci := 5) (v := .ref (k 5)) (C := RX5) (T := TX5) (N := 14) hx hb hC hH hts in_X5_keepChanges_X5 hown F_33 rfl 4 (by decide) (hts (.fieldLink RX5 24 "LazyState" "latest" "LLazyState$Run;") (by decide +kernel)) rfl dX5_keepChanges_54 ?_
              refine lv_iload_n hx hb dX5_keepChanges_57 rfl (lv_at hl 2 rfl) ?_
              obtain ⟨lb_40, dn_40, gf_40, th_40, ta_40, sr_40, nx_40, F_40, s1_40, s2_40⟩ : okRun k st 0 (f_31 (k (5 + 8 * 0))) := hI.run (i := 0) (c := 0) (by decide) (by decide)
              have s3_40 := s2_40 hst.1
              subst s3_40
              refine m_goq hH (va_runV (As := [.int o1]) (rest := [.int o1, .ref (k 0)]) ⟨hx, hb, hml, hown, hts⟩ (c_X3_bodyOf l G k rhoL n T z st f_31 hI 0 (by decide) hst o1 (by omega)) (cwV 1 hts gX5_keepChanges_X3_bodyOf rfl rfl rfl (by decide +kernel) ⟨Nat.le_of_ble_eq_true rfl, Nat.le_of_ble_eq_true rfl⟩) (m_preV (ci := 3) hC hH F_40 rfl) rfl rfl hl.1 rfl (lv_room (Nat.le_of_ble_eq_true rfl)) dX5_keepChanges_58 ⟨by show _ ≤ 72; omega, by show _ ≤ 696; omega⟩) (fun r_37 rho_39 f_38 H locs hw hH => ?_)
              obtain ⟨hu, hr_37⟩ := hw
              have hu : f_38 = f_31 := hu
              rw [hu] at hH
              obtain ⟨bb_r_37, h1_r_37, h2_r_37⟩ := hr_37
              rw [h1_r_37]
              refine m_goq hH (va_runV (As := [.int o1, .ref bb_r_37]) (rest := []) ⟨hx, hb, hml, hown, hts⟩ (c_X5_newVersion l G k rhoL n T z st f_31 hI o1 bb_r_37 h2_r_37 (by omega)) (cwV 2 hts gX5_keepChanges_X5_newVersion rfl rfl rfl (by decide +kernel) ⟨Nat.le_of_ble_eq_true rfl, Nat.le_of_ble_eq_true rfl⟩) (m_preV (ci := 5) hC hH F_33 rfl) rfl rfl hl.1 rfl (lv_room (Nat.le_of_ble_eq_true rfl)) dX5_keepChanges_61 ⟨by show _ ≤ 72; omega, by show _ ≤ 696; omega⟩) (fun r_41 rho_43 f_42 H locs hw hH => ?_)
              obtain ⟨hI, hfr1, hk0_, nb61_, h1_, h2_61⟩ := hw
              have hI : IC G k rho_43 n T z st f_42 := hI
              have hfr1 : frC k rhoL f_31 rho_43 f_42 := hfr1
              have hfr := hfr.trans hfr1
              rw [h1_]
              have h2_61 : rho_43 nb61_ = (1, T (o1.toNatClampNeg)) := h2_61
              have hk0_ : f_42 (k 0) = f_31 (k 0) := hk0_
              have hw11 : fldV f_42 (k 0) 11 = .int wn2_ := by unfold fldV; rw [hk0_]; exact hw11
              refine lv_pop hx hb dX5_keepChanges_64 rfl ?_
              obtain ⟨x_44, ex_44⟩ : ∃ y : Int32, y = o1 + 1 := ⟨_, rfl⟩
              have ix_44 : x_44.toInt = o1.toInt + 1 := ic_add ex_44 rfl kI_1 (by omega) (by omega)
              refine lv_iinc (v := x_44) (lv' := [(1, .int x_44), (2, .int wn_1), (0, .ref (k 0))]) hx hb dX5_keepChanges_65 hl (k := 2) rfl (by rw [ex_44]; rfl) (by decide) rfl (fun ls hl => ?_)
              refine lv_goto (tgt := 2) hx hb dX5_keepChanges_68 (by decide) ?_
              exact ih_2 x_44 f_42 wn2_ rho_43 (cl_ + 0 + 0 + 0 + 3) (sl_ + 0 + 0 + 0 + 29) (by omega) (by omega) hI hfr hw11 (by omega) (by omega) (by omega) (by omega) _ _ _ hH (lv_sub hl [2, 0] rfl)
            · skip
              have ic_36 : (wn_1.toInt : Int) = 0 := ic_eq rfl kI_0 c_36
              refine lv_aload_n hx hb dX5_keepChanges_47 rfl (lv_at hl 1 rfl) ?_
              refine m_gov hH (va_runV (As := []) (rest := []) ⟨hx, hb, hml, hown, hts⟩ (c_X5_raiseHeight l G k rhoL n T z st f_31 hI) (cwV 0 hts gX5_keepChanges_X5_raiseHeight rfl rfl rfl (by decide +kernel) ⟨Nat.le_of_ble_eq_true rfl, Nat.le_of_ble_eq_true rfl⟩) (m_preV (ci := 5) hC hH F_33 rfl) rfl rfl hl.1 rfl (lv_room (Nat.le_of_ble_eq_true rfl)) dX5_keepChanges_48 ⟨by show _ ≤ 72; omega, by show _ ≤ 696; omega⟩) (fun rho_47 f_46 H locs hw hH => ?_)
              obtain ⟨hu, hI, hfr1, hk11_⟩ := hw
              have hI : IC G k rhoL n T z st f_46 := hI
              have hfr1 : frC k rhoL f_31 rhoL f_46 := hfr1
              have hfr := hfr.trans hfr1
              have hw11 : fldV f_46 (k 0) 11 = .int wn2_ := hk11_.trans hw11
              refine lv_aload_n hx hb dX5_keepChanges_51 rfl (lv_at hl 1 rfl) ?_
              refine lv_iload_n hx hb dX5_keepChanges_52 rfl (lv_at hl 2 rfl) ?_
              refine lv_aload_n hx hb dX5_keepChanges_53 rfl (lv_at hl 1 rfl) ?_
              obtain ⟨hn_48, cc_48, fc_48, cb_48, wn_48, vs_48, F_48, b3_48, b4_48⟩ : okLS k n (f_46 (k 0)) := hI.ls
              refine m_get (ci := 5) (v := .ref (k 5)) (C := RX5) (T := TX5) (N := 14) hx hb hC hH hts in_X5_keepChanges_X5 hown F_48 rfl 4 (by decide) (hts (.fieldLink RX5 24 "LazyState" "latest" "LLazyState$Run;") (by decide +kernel)) rfl dX5_keepChanges_54 ?_
              refine lv_iload_n hx hb dX5_keepChanges_57 rfl (lv_at hl 2 rfl) ?_
              obtain ⟨lb_52, dn_52, gf_52, th_52, ta_52, sr_52, nx_52, F_52, s1_52, s2_52⟩ : okRun k st 0 (f_46 (k (5 + 8 * 0))) := hI.run (i := 0) (c := 0) (by decide) (by decide)
              have s3_52 := s2_52 hst.1
              subst s3_52
              refine m_goq hH (va_runV (As := [.int o1]) (rest := [.int o1, .ref (k 0)]) ⟨hx, hb, hml, hown, hts⟩ (c_X3_bodyOf l G k rhoL n T z st f_46 hI 0 (by decide) hst o1 (by omega)) (cwV 1 hts gX5_keepChanges_X3_bodyOf rfl rfl rfl (by decide +kernel) ⟨Nat.le_of_ble_eq_true rfl, Nat.le_of_ble_eq_true rfl⟩) (m_preV (ci := 3) hC hH F_52 rfl) rfl rfl hl.1 rfl (lv_room (Nat.le_of_ble_eq_true rfl)) dX5_keepChanges_58 ⟨by show _ ≤ 72; omega, by show _ ≤ 696; omega⟩) (fun r_49 rho_51 f_50 H locs hw hH => ?_)
              obtain ⟨hu, hr_49⟩ := hw
              have hu : f_50 = f_46 := hu
              rw [hu] at hH
              obtain ⟨bb_r_49, h1_r_49, h2_r_49⟩ := hr_49
              rw [h1_r_49]
              refine m_goq hH (va_runV (As := [.int o1, .ref bb_r_49]) (rest := []) ⟨hx, hb, hml, hown, hts⟩ (c_X5_newVersion l G k rhoL n T z st f_46 hI o1 bb_r_49 h2_r_49 (by omega)) (cwV 2 hts gX5_keepChanges_X5_newVersion rfl rfl rfl (by decide +kernel) ⟨Nat.le_of_ble_eq_true rfl, Nat.le_of_ble_eq_true rfl⟩) (m_preV (ci := 5) hC hH F_48 rfl) rfl rfl hl.1 rfl (lv_room (Nat.le_of_ble_eq_true rfl)) dX5_keepChanges_61 ⟨by show _ ≤ 72; omega, by show _ ≤ 696; omega⟩) (fun r_53 rho_55 f_54 H locs hw hH => ?_)
              obtain ⟨hI, hfr1, hk0_, nb61_, h1_, h2_61⟩ := hw
              have hI : IC G k rho_55 n T z st f_54 := hI
              have hfr1 : frC k rhoL f_46 rho_55 f_54 := hfr1
              have hfr := hfr.trans hfr1
              rw [h1_]
              have h2_61 : rho_55 nb61_ = (1, T (o1.toNatClampNeg)) := h2_61
              have hk0_ : f_54 (k 0) = f_46 (k 0) := hk0_
              have hw11 : fldV f_54 (k 0) 11 = .int wn2_ := by unfold fldV; rw [hk0_]; exact hw11
              refine lv_pop hx hb dX5_keepChanges_64 rfl ?_
              obtain ⟨x_56, ex_56⟩ : ∃ y : Int32, y = o1 + 1 := ⟨_, rfl⟩
              have ix_56 : x_56.toInt = o1.toInt + 1 := ic_add ex_56 rfl kI_1 (by omega) (by omega)
              refine lv_iinc (v := x_56) (lv' := [(1, .int x_56), (2, .int wn_1), (0, .ref (k 0))]) hx hb dX5_keepChanges_65 hl (k := 2) rfl (by rw [ex_56]; rfl) (by decide) rfl (fun ls hl => ?_)
              refine lv_goto (tgt := 2) hx hb dX5_keepChanges_68 (by decide) ?_
              exact ih_2 x_56 f_54 wn2_ rho_55 (cl_ + 0 + 0 + 0 + 0 + 3) (sl_ + 0 + 0 + 0 + 0 + 29) (by omega) (by omega) hI hfr hw11 (by omega) (by omega) (by omega) (by omega) _ _ _ hH (lv_sub hl [2, 0] rfl)
  exact loop_2 (((24 : Int) - 0).toNat + 1) 0 f wn0 rho 0 0 (by have := kI_0; omega) (by have := kI_0; omega) hI hfr hw11 (by have := kI_0; omega) (by have := kI_0; omega) (by have := kI_0; omega) (by have := kI_0; omega) _ _ _ hH (lv_sub hl [1, 0] rfl)
