set_option maxHeartbeats 4000000 in
set_option maxRecDepth 100000 in
theorem c_X5_call (l : Launch) (G : mG) (k : Nat → Nat) (rho : tR) (n : Nat) (T z : Nat → Nat) (st : Nat → Bool) (f : mF) (hI : IC G k rho n T z st f) (o b : Int32) (v : Int64) : Met l yX5_call wsX5_call ({ frames := 7, cells := 150, slots := 1450, locals := 204 }) (va_Pc [.ref (k 0), .int o, .int b, .long v] (mW G f)) (va_Qi (fun (r : Int32) (u : mS) => ∃ st2, IC G k u.1 n T z st2 u.2 ∧ frC k rho f u.1 u.2) (fun (u : mS) t => mW G u.2 t) (mA G)) 150 1450 (mA G) := by
  refine mMet [.ref (k 0), .int o, .int b, .long v] (cc := cX5_call) (maxL := 6) (ret := (some .int)) (by decide) rfl (Nat.le_of_ble_eq_true rfl) ?_
  intro p e s m below meth c ls hx hb hr hml hts hown hlk hnm hC hH hl
  have hl : lv_has ls 6 [(0, .ref (k 0)), (1, .int o), (2, .int b), (3, .long v)] := hl
  have hj := hI.2.2.2.2.1
  have hn24 := hI.2.2.2.2.2.2.1
  have hT3 := hI.2.2.2.2.2.2.2.1
  have hz32 := hI.2.2.2.2.2.2.2.2
  have nIn : (nI n).toInt = (n : Int) := nI_toInt (by omega)
  have hfr : frC k rho f rho f := frC.rf
  refine lv_aload_n hx hb dX5_call_0 rfl (lv_at hl 0 rfl) ?_
  refine lv_iload_n hx hb dX5_call_1 rfl (lv_at hl 1 rfl) ?_
  refine lv_iload_n hx hb dX5_call_2 rfl (lv_at hl 2 rfl) ?_
  obtain ⟨hn_4, cc_4, fc_4, cb_4, wn_4, vs_4, F_4, b3_4, b4_4⟩ : okLS k n (f (k 0)) := hI.ls
  refine m_goi hH (va_runV (As := [.int o, .int b]) (rest := []) ⟨hx, hb, hml, hown, hts⟩ (c_X5_callRefusal l G k rho n T z st f hI o b) (cwV 2 hts gX5_call_X5_callRefusal rfl rfl rfl (by decide +kernel) ⟨Nat.le_of_ble_eq_true rfl, Nat.le_of_ble_eq_true rfl⟩) (m_preV (ci := 5) hC hH F_4 rfl) rfl rfl hl.1 rfl (lv_room (Nat.le_of_ble_eq_true rfl)) dX5_call_3 ⟨by show _ ≤ 150; omega, by show _ ≤ 1450; omega⟩) (fun r_1 rho_3 f_2 H locs hw hH => ?_)
  obtain ⟨hu, hr_1⟩ := hw
  have hu : f_2 = f := hu
  rw [hu] at hH
  refine lv_istore (lv' := [(5, .int r_1), (0, .ref (k 0)), (1, .int o), (2, .int b), (3, .long v)]) hx hb dX5_call_6 hl (by decide) rfl (fun ls hl => ?_)
  refine lv_iload hx hb dX5_call_8 (lv_at hl 0 rfl) ?_
  refine lv_if_eq (tgt := 16) hx hb dX5_call_10 (by decide) (fun c_5 => ?_) (fun c_5 => ?_)
  · skip
    have ic_5 : (r_1.toInt : Int) = 0 := ic_eq rfl kI_0 c_5
    have cr_ := hr_1.resolve_left (fun q => by omega)
    have hb6 : b.toNatClampNeg < 6 := ic_cl (rfl : b.toInt = _) (by omega) (by omega)
    refine lv_aload_n hx hb dX5_call_16 rfl (lv_at hl 1 rfl) ?_
    refine m_get (ci := 5) (v := .ref (k 5)) (C := RX5) (T := TX5) (N := 14) hx hb hC hH hts in_X5_call_X5 hown F_4 rfl 4 (by decide) (hts (.fieldLink RX5 24 "LazyState" "latest" "LLazyState$Run;") (by decide +kernel)) rfl dX5_call_17 ?_
    refine lv_aload_n hx hb dX5_call_20 rfl (lv_at hl 1 rfl) ?_
    refine m_get (ci := 5) (v := .ref (k 1)) (C := RX5) (T := TX5) (N := 14) hx hb hC hH hts in_X5_call_X5 hown F_4 rfl 0 (by decide) (hts (.fieldLink RX5 11 "LazyState" "objects" "[LLazyState$Body;") (by decide +kernel)) rfl dX5_call_21 ?_
    refine lv_iload_n hx hb dX5_call_24 rfl (lv_at hl 2 rfl) ?_
    refine lv_lload_n hx hb dX5_call_25 rfl (lv_at hl 4 rfl) ?_
    obtain ⟨lb_9, dn_9, gf_9, th_9, ta_9, sr_9, nx_9, F_9, s1_9, s2_9⟩ : okRun k st 0 (f (k (5 + 8 * 0))) := hI.run (i := 0) (c := 0) (by decide) (by decide)
    refine m_gov hH (va_runV (As := [.ref (k 1), .int o, .long v]) (rest := []) ⟨hx, hb, hml, hown, hts⟩ (c_X3_start l G k rho n T z st f hI 0 (by decide) o v (by omega)) (cwV 3 hts gX5_call_X3_start rfl rfl rfl (by decide +kernel) ⟨Nat.le_of_ble_eq_true rfl, Nat.le_of_ble_eq_true rfl⟩) (m_preV (ci := 3) hC hH F_9 rfl) rfl rfl hl.1 rfl (lv_room (Nat.le_of_ble_eq_true rfl)) dX5_call_26 ⟨by show _ ≤ 150; omega, by show _ ≤ 1450; omega⟩) (fun rho_8 f_7 H locs hw hH => ?_)
    obtain ⟨hu, hI, hfr1⟩ := hw
    have hI : IC G k rho n T z (stUp st 0) f_7 := hI
    have hfr1 : frC k rho f rho f_7 := hfr1
    have hfr := hfr.trans hfr1
    have hs_10 : (stUp st 0) 0 = true ∧ 0 < n := ⟨stUp_s _ _, by omega⟩
    refine lv_aload_n hx hb dX5_call_29 rfl (lv_at hl 1 rfl) ?_
    obtain ⟨hn_11, cc_11, fc_11, cb_11, wn_11, vs_11, F_11, b3_11, b4_11⟩ : okLS k n (f_7 (k 0)) := hI.ls
    refine m_get (ci := 5) (v := .ref (k 5)) (C := RX5) (T := TX5) (N := 14) hx hb hC hH hts in_X5_call_X5 hown F_11 rfl 4 (by decide) (hts (.fieldLink RX5 24 "LazyState" "latest" "LLazyState$Run;") (by decide +kernel)) rfl dX5_call_30 ?_
    refine lv_aload_n hx hb dX5_call_33 rfl (lv_at hl 1 rfl) ?_
    refine m_get (ci := 5) (v := .ref (k 2)) (C := RX5) (T := TX5) (N := 14) hx hb hC hH hts in_X5_call_X5 hown F_11 rfl 3 (by decide) (hts (.fieldLink RX5 17 "LazyState" "behaviours" "[LLazyState$Behaviour;") (by decide +kernel)) rfl dX5_call_34 ?_
    refine lv_iload_n hx hb dX5_call_37 rfl (lv_at hl 3 rfl) ?_
    obtain ⟨g_12, hg_12, hp_12⟩ : okQ G 4 6 (fun g => ∀ b, b < 6 → g b = some (k (29 + 2 * b))) (f_7 (k 2)) := hI.behs
    refine m_aald hx hb hC hH 4 rfl hg_12 (vp_in_iff.mpr ⟨by omega, by omega⟩) dX5_call_38 ?_
    have q6_12 := hp_12 (b.toNatClampNeg) (ic_cl rfl (by omega) (by omega))
    rw [q6_12]
    obtain ⟨lb_16, dn_16, gf_16, th_16, ta_16, sr_16, nx_16, F_16, s1_16, s2_16⟩ : okRun k (stUp st 0) 0 (f_7 (k (5 + 8 * 0))) := hI.run (i := 0) (c := 0) (by decide) (by decide)
    have s3_16 := s2_16 hs_10.1
    subst s3_16
    refine m_gov hH (va_runV (As := [.ref (k (29 + 2 * (b.toNatClampNeg)))]) (rest := []) ⟨hx, hb, hml, hown, hts⟩ (c_X3_work l G k rho n T z (stUp st 0) f_7 hI 0 (by decide) hs_10 (b.toNatClampNeg) (ic_cl (rfl : b.toInt = _) (by omega) (by omega))) (cwV 1 hts gX5_call_X3_work rfl rfl rfl (by decide +kernel) ⟨Nat.le_of_ble_eq_true rfl, Nat.le_of_ble_eq_true rfl⟩) (m_preV (ci := 3) hC hH F_16 rfl) rfl rfl hl.1 rfl (lv_room (Nat.le_of_ble_eq_true rfl)) dX5_call_39 ⟨by show _ ≤ 150; omega, by show _ ≤ 1450; omega⟩) (fun rho_15 f_14 H locs hw hH => ?_)
    obtain ⟨hI, hfr1⟩ := hw
    have hI : IC G k rho_15 n T z (stUp st 0) f_14 := hI
    have hfr1 : frC k rho f_7 rho_15 f_14 := hfr1
    have hfr := hfr.trans hfr1
    refine lv_aload_n hx hb dX5_call_42 rfl (lv_at hl 1 rfl) ?_
    refine lv_dup hx hb dX5_call_43 rfl ?_
    obtain ⟨hn_17, cc_17, fc_17, cb_17, wn_17, vs_17, F_17, b3_17, b4_17⟩ : okLS k n (f_14 (k 0)) := hI.ls
    refine m_get (ci := 5) (v := .int cc_17) (C := RX5) (T := TX5) (N := 14) hx hb hC hH hts in_X5_call_X5 hown F_17 rfl 7 (by decide) (hts (.fieldLink RX5 113 "LazyState" "callCount" "I") (by decide +kernel)) rfl dX5_call_44 ?_
    refine lv_iconst (v := 1) hx hb dX5_call_47 (by decide) ?_
    refine lv_iadd hx hb dX5_call_48 ?_
    refine lv_topi (fun x_18 ex_18 => ?_)
    refine m_put (ci := 5) (v := .int x_18) (C := RX5) (T := TX5) (N := 14) hx hb hC hH hts in_X5_call_X5 tyX5 tyX5_ok nmX5 hown F_17 rfl 7 (by decide) (hts (.fieldLink RX5 113 "LazyState" "callCount" "I") (by decide +kernel)) rfl rfl rfl (Nat.le_of_ble_eq_true rfl) dX5_call_49 (fun H locs hH => ?_)
    have hH : mH G s (va_up f_14 (k 0) (some (.inr (5, [.ref (k 1), .int (nI n), .int hn_17, .ref (k 2), .ref (k 5), .ref (k 13), .ref (k 21), .int x_18, .int fc_17, .int cb_17, .ref (k 3), .int wn_17, .ref (k 4), .int vs_17])))) H locs := hH
    obtain ⟨f_19, ef_19⟩ : ∃ zz_ : mF, zz_ = va_up f_14 (k 0) (some (.inr (5, [.ref (k 1), .int (nI n), .int hn_17, .ref (k 2), .ref (k 5), .ref (k 13), .ref (k 21), .int x_18, .int fc_17, .int cb_17, .ref (k 3), .int wn_17, .ref (k 4), .int vs_17]))) := ⟨_, rfl⟩
    rw [← ef_19] at hH
    have F_20 : f_19 (k 0) = some (.inr (5, [.ref (k 1), .int (nI n), .int hn_17, .ref (k 2), .ref (k 5), .ref (k 13), .ref (k 21), .int x_18, .int fc_17, .int cb_17, .ref (k 3), .int wn_17, .ref (k 4), .int vs_17])) := by rw [ef_19]; exact va_up_self _ _ _
    have hI : IC G k rho_15 n T z (stUp st 0) f_19 := hI.set (j := 0) (by decide) ef_19 (fun i hi => by omega) (show okLS k n _ from ⟨_, _, _, _, _, _, rfl, by omega, by omega⟩)
    have hfr := hfr.upK (j := 0) (by omega) ef_19
    refine lv_aload_n hx hb dX5_call_52 rfl (lv_at hl 1 rfl) ?_
    refine lv_dup hx hb dX5_call_53 rfl ?_
    refine m_get (ci := 5) (v := .int fc_17) (C := RX5) (T := TX5) (N := 14) hx hb hC hH hts in_X5_call_X5 hown F_20 rfl 8 (by decide) (hts (.fieldLink RX5 116 "LazyState" "fetchCount" "I") (by decide +kernel)) rfl dX5_call_54 ?_
    refine lv_aload_n hx hb dX5_call_57 rfl (lv_at hl 1 rfl) ?_
    refine m_get (ci := 5) (v := .ref (k 5)) (C := RX5) (T := TX5) (N := 14) hx hb hC hH hts in_X5_call_X5 hown F_20 rfl 4 (by decide) (hts (.fieldLink RX5 24 "LazyState" "latest" "LLazyState$Run;") (by decide +kernel)) rfl dX5_call_58 ?_
    obtain ⟨lb_21, dn_21, gf_21, th_21, ta_21, sr_21, nx_21, F_21, s1_21, s2_21⟩ : okRun k (stUp st 0) 0 (f_19 (k (5 + 8 * 0))) := hI.run (i := 0) (c := 0) (by decide) (by decide)
    have s3_21 := s2_21 hs_10.1
    subst s3_21
    refine m_get (ci := 3) (v := .int lb_21) (C := RX3) (T := TX3) (N := 11) hx hb hC hH hts in_X5_call_X3 hown F_21 rfl 1 (by decide) (hts (.fieldLink RX5 119 "LazyState$Run" "loadedBits" "I") (by decide +kernel)) rfl dX5_call_61 ?_
    refine lv_aload_n hx hb dX5_call_64 rfl (lv_at hl 1 rfl) ?_
    refine m_get (ci := 5) (v := .int cb_17) (C := RX5) (T := TX5) (N := 14) hx hb hC hH hts in_X5_call_X5 hown F_20 rfl 9 (by decide) (hts (.fieldLink RX5 122 "LazyState" "cachedBits" "I") (by decide +kernel)) rfl dX5_call_65 ?_
    refine lv_iconst (v := (-1)) hx hb dX5_call_68 (by decide) ?_
    refine lv_ixor hx hb dX5_call_69 ?_
    refine lv_topi (fun x_22 ex_22 => ?_)
    refine lv_iand hx hb dX5_call_70 ?_
    refine lv_topi (fun x_23 ex_23 => ?_)
    refine m_goi hH (va_runS (As := [.int x_23]) (rest := [.int fc_17, .ref (k 0)]) ⟨hx, hb, hml, hown, hts⟩ (c_J6_bitCount_0f7a4 l G f_19 x_23) (va_cwS 1 hts gX5_call_J6_bitCount_0f7a4 rfl rfl rfl (by decide +kernel) ⟨Nat.le_of_ble_eq_true rfl, Nat.le_of_ble_eq_true rfl⟩) (m_preS hC hH) rfl rfl hl.1 rfl (lv_room (Nat.le_of_ble_eq_true rfl)) dX5_call_71 ⟨by show _ ≤ 150; omega, by show _ ≤ 1450; omega⟩) (fun r_24 rho_26 f_25 H locs hw hH => ?_)
    have hu : f_25 = f_19 := hw
    rw [hu] at hH
    refine lv_iadd hx hb dX5_call_74 ?_
    refine lv_topi (fun x_27 ex_27 => ?_)
    refine m_put (ci := 5) (v := .int x_27) (C := RX5) (T := TX5) (N := 14) hx hb hC hH hts in_X5_call_X5 tyX5 tyX5_ok nmX5 hown F_20 rfl 8 (by decide) (hts (.fieldLink RX5 116 "LazyState" "fetchCount" "I") (by decide +kernel)) rfl rfl rfl (Nat.le_of_ble_eq_true rfl) dX5_call_75 (fun H locs hH => ?_)
    have hH : mH G s (va_up f_19 (k 0) (some (.inr (5, [.ref (k 1), .int (nI n), .int hn_17, .ref (k 2), .ref (k 5), .ref (k 13), .ref (k 21), .int x_18, .int x_27, .int cb_17, .ref (k 3), .int wn_17, .ref (k 4), .int vs_17])))) H locs := hH
    obtain ⟨f_28, ef_28⟩ : ∃ zz_ : mF, zz_ = va_up f_19 (k 0) (some (.inr (5, [.ref (k 1), .int (nI n), .int hn_17, .ref (k 2), .ref (k 5), .ref (k 13), .ref (k 21), .int x_18, .int x_27, .int cb_17, .ref (k 3), .int wn_17, .ref (k 4), .int vs_17]))) := ⟨_, rfl⟩
    rw [← ef_28] at hH
    have F_29 := upk F_21 ef_28 (neC hj (i := (5 + 8 * 0 + 0)) (j := 0) (by omega) (by omega) (by omega))
    have F_30 : f_28 (k 0) = some (.inr (5, [.ref (k 1), .int (nI n), .int hn_17, .ref (k 2), .ref (k 5), .ref (k 13), .ref (k 21), .int x_18, .int x_27, .int cb_17, .ref (k 3), .int wn_17, .ref (k 4), .int vs_17])) := by rw [ef_28]; exact va_up_self _ _ _
    have hI : IC G k rho_15 n T z (stUp st 0) f_28 := hI.set (j := 0) (by decide) ef_28 (fun i hi => by omega) (show okLS k n _ from ⟨_, _, _, _, _, _, rfl, by omega, by omega⟩)
    have hfr := hfr.upK (j := 0) (by omega) ef_28
    refine lv_aload_n hx hb dX5_call_78 rfl (lv_at hl 1 rfl) ?_
    refine lv_dup hx hb dX5_call_79 rfl ?_
    refine m_get (ci := 5) (v := .int cb_17) (C := RX5) (T := TX5) (N := 14) hx hb hC hH hts in_X5_call_X5 hown F_30 rfl 9 (by decide) (hts (.fieldLink RX5 122 "LazyState" "cachedBits" "I") (by decide +kernel)) rfl dX5_call_80 ?_
    refine lv_aload_n hx hb dX5_call_83 rfl (lv_at hl 1 rfl) ?_
    refine m_get (ci := 5) (v := .ref (k 5)) (C := RX5) (T := TX5) (N := 14) hx hb hC hH hts in_X5_call_X5 hown F_30 rfl 4 (by decide) (hts (.fieldLink RX5 24 "LazyState" "latest" "LLazyState$Run;") (by decide +kernel)) rfl dX5_call_84 ?_
    refine m_get (ci := 3) (v := .int lb_21) (C := RX3) (T := TX3) (N := 11) hx hb hC hH hts in_X5_call_X3 hown F_29 rfl 1 (by decide) (hts (.fieldLink RX5 119 "LazyState$Run" "loadedBits" "I") (by decide +kernel)) rfl dX5_call_87 ?_
    refine lv_ior hx hb dX5_call_90 ?_
    refine lv_topi (fun x_31 ex_31 => ?_)
    refine m_put (ci := 5) (v := .int x_31) (C := RX5) (T := TX5) (N := 14) hx hb hC hH hts in_X5_call_X5 tyX5 tyX5_ok nmX5 hown F_30 rfl 9 (by decide) (hts (.fieldLink RX5 122 "LazyState" "cachedBits" "I") (by decide +kernel)) rfl rfl rfl (Nat.le_of_ble_eq_true rfl) dX5_call_91 (fun H locs hH => ?_)
    have hH : mH G s (va_up f_28 (k 0) (some (.inr (5, [.ref (k 1), .int (nI n), .int hn_17, .ref (k 2), .ref (k 5), .ref (k 13), .ref (k 21), .int x_18, .int x_27, .int x_31, .ref (k 3), .int wn_17, .ref (k 4), .int vs_17])))) H locs := hH
    obtain ⟨f_32, ef_32⟩ : ∃ zz_ : mF, zz_ = va_up f_28 (k 0) (some (.inr (5, [.ref (k 1), .int (nI n), .int hn_17, .ref (k 2), .ref (k 5), .ref (k 13), .ref (k 21), .int x_18, .int x_27, .int x_31, .ref (k 3), .int wn_17, .ref (k 4), .int vs_17]))) := ⟨_, rfl⟩
    rw [← ef_32] at hH
    have F_33 := upk F_29 ef_32 (neC hj (i := (5 + 8 * 0 + 0)) (j := 0) (by omega) (by omega) (by omega))
    have F_34 : f_32 (k 0) = some (.inr (5, [.ref (k 1), .int (nI n), .int hn_17, .ref (k 2), .ref (k 5), .ref (k 13), .ref (k 21), .int x_18, .int x_27, .int x_31, .ref (k 3), .int wn_17, .ref (k 4), .int vs_17])) := by rw [ef_32]; exact va_up_self _ _ _
    have hI : IC G k rho_15 n T z (stUp st 0) f_32 := hI.set (j := 0) (by decide) ef_32 (fun i hi => by omega) (show okLS k n _ from ⟨_, _, _, _, _, _, rfl, by omega, by omega⟩)
    have hfr := hfr.upK (j := 0) (by omega) ef_32
    refine lv_aload_n hx hb dX5_call_94 rfl (lv_at hl 1 rfl) ?_
    refine lv_iconst (v := 0) hx hb dX5_call_95 (by decide) ?_
    refine m_put (ci := 5) (v := .int 0) (C := RX5) (T := TX5) (N := 14) hx hb hC hH hts in_X5_call_X5 tyX5 tyX5_ok nmX5 hown F_34 rfl 11 (by decide) (hts (.fieldLink RX5 131 "LazyState" "writtenCount" "I") (by decide +kernel)) rfl rfl rfl (Nat.le_of_ble_eq_true rfl) dX5_call_96 (fun H locs hH => ?_)
    have hH : mH G s (va_up f_32 (k 0) (some (.inr (5, [.ref (k 1), .int (nI n), .int hn_17, .ref (k 2), .ref (k 5), .ref (k 13), .ref (k 21), .int x_18, .int x_27, .int x_31, .ref (k 3), .int 0, .ref (k 4), .int vs_17])))) H locs := hH
    obtain ⟨f_35, ef_35⟩ : ∃ zz_ : mF, zz_ = va_up f_32 (k 0) (some (.inr (5, [.ref (k 1), .int (nI n), .int hn_17, .ref (k 2), .ref (k 5), .ref (k 13), .ref (k 21), .int x_18, .int x_27, .int x_31, .ref (k 3), .int 0, .ref (k 4), .int vs_17]))) := ⟨_, rfl⟩
    rw [← ef_35] at hH
    have F_36 := upk F_33 ef_35 (neC hj (i := (5 + 8 * 0 + 0)) (j := 0) (by omega) (by omega) (by omega))
    have F_37 : f_35 (k 0) = some (.inr (5, [.ref (k 1), .int (nI n), .int hn_17, .ref (k 2), .ref (k 5), .ref (k 13), .ref (k 21), .int x_18, .int x_27, .int x_31, .ref (k 3), .int 0, .ref (k 4), .int vs_17])) := by rw [ef_35]; exact va_up_self _ _ _
    have hI : IC G k rho_15 n T z (stUp st 0) f_35 := hI.set (j := 0) (by decide) ef_35 (fun i hi => by omega) (show okLS k n _ from ⟨_, _, _, _, _, _, rfl, by have := kI_0; omega, by have := kI_0; omega⟩)
    have hfr := hfr.upK (j := 0) (by omega) ef_35
    refine lv_aload_n hx hb dX5_call_99 rfl (lv_at hl 1 rfl) ?_
    refine m_get (ci := 5) (v := .ref (k 5)) (C := RX5) (T := TX5) (N := 14) hx hb hC hH hts in_X5_call_X5 hown F_37 rfl 4 (by decide) (hts (.fieldLink RX5 24 "LazyState" "latest" "LLazyState$Run;") (by decide +kernel)) rfl dX5_call_100 ?_
    refine m_get (ci := 3) (v := .int th_21) (C := RX3) (T := TX3) (N := 11) hx hb hC hH hts in_X5_call_X3 hown F_36 rfl 4 (by decide) (hts (.fieldLink RX5 134 "LazyState$Run" "thrown" "I") (by decide +kernel)) rfl dX5_call_103 ?_
    refine lv_if_ne (tgt := 113) hx hb dX5_call_106 (by decide) (fun c_38 => ?_) (fun c_38 => ?_)
    · skip
      have ic_38 : (th_21.toInt : Int) ≠ 0 := ic_ne rfl kI_0 c_38
      refine lv_aload_n hx hb dX5_call_113 rfl (lv_at hl 1 rfl) ?_
      refine m_get (ci := 5) (v := .ref (k 5)) (C := RX5) (T := TX5) (N := 14) hx hb hC hH hts in_X5_call_X5 hown F_37 rfl 4 (by decide) (hts (.fieldLink RX5 24 "LazyState" "latest" "LLazyState$Run;") (by decide +kernel)) rfl dX5_call_114 ?_
      refine m_get (ci := 3) (v := .int th_21) (C := RX3) (T := TX3) (N := 11) hx hb hC hH hts in_X5_call_X3 hown F_36 rfl 4 (by decide) (hts (.fieldLink RX5 134 "LazyState$Run" "thrown" "I") (by decide +kernel)) rfl dX5_call_117 ?_
      exact m_iret (v := th_21) hx hb hr hlk hC hH rho_15 ⟨_, hI, hfr⟩ (by omega) (by omega) dX5_call_120
    · skip
      have ic_38 : (th_21.toInt : Int) = 0 := ic_eq rfl kI_0 c_38
      refine lv_aload_n hx hb dX5_call_109 rfl (lv_at hl 1 rfl) ?_
      refine m_gov hH (va_runV (As := []) (rest := []) ⟨hx, hb, hml, hown, hts⟩ (c_X5_keepChanges l G k rho_15 n T z (stUp st 0) f_35 hI hs_10 0 (fldV_eq F_37 11) kI_0) (cwV 0 hts gX5_call_X5_keepChanges rfl rfl rfl (by decide +kernel) ⟨Nat.le_of_ble_eq_true rfl, Nat.le_of_ble_eq_true rfl⟩) (m_preV (ci := 5) hC hH F_37 rfl) rfl rfl hl.1 rfl (lv_room (Nat.le_of_ble_eq_true rfl)) dX5_call_110 ⟨by show _ ≤ 150; omega, by show _ ≤ 1450; omega⟩) (fun rho_41 f_40 H locs hw hH => ?_)
      obtain ⟨hI, hfr1⟩ := hw
      have hI : IC G k rho_41 n T z (stUp st 0) f_40 := hI
      have hfr1 : frC k rho_15 f_35 rho_41 f_40 := hfr1
      have hfr := hfr.trans hfr1
      refine lv_aload_n hx hb dX5_call_113 rfl (lv_at hl 1 rfl) ?_
      obtain ⟨hn_42, cc_42, fc_42, cb_42, wn_42, vs_42, F_42, b3_42, b4_42⟩ : okLS k n (f_40 (k 0)) := hI.ls
      refine m_get (ci := 5) (v := .ref (k 5)) (C := RX5) (T := TX5) (N := 14) hx hb hC hH hts in_X5_call_X5 hown F_42 rfl 4 (by decide) (hts (.fieldLink RX5 24 "LazyState" "latest" "LLazyState$Run;") (by decide +kernel)) rfl dX5_call_114 ?_
      obtain ⟨lb_43, dn_43, gf_43, th_43, ta_43, sr_43, nx_43, F_43, s1_43, s2_43⟩ : okRun k (stUp st 0) 0 (f_40 (k (5 + 8 * 0))) := hI.run (i := 0) (c := 0) (by decide) (by decide)
      have s3_43 := s2_43 hs_10.1
      subst s3_43
      refine m_get (ci := 3) (v := .int th_43) (C := RX3) (T := TX3) (N := 11) hx hb hC hH hts in_X5_call_X3 hown F_43 rfl 4 (by decide) (hts (.fieldLink RX5 134 "LazyState$Run" "thrown" "I") (by decide +kernel)) rfl dX5_call_117 ?_
      exact m_iret (v := th_43) hx hb hr hlk hC hH rho_41 ⟨_, hI, hfr⟩ (by omega) (by omega) dX5_call_120
  · skip
    have ic_5 : (r_1.toInt : Int) ≠ 0 := ic_ne rfl kI_0 c_5
    refine lv_iload hx hb dX5_call_13 (lv_at hl 0 rfl) ?_
    exact m_iret (v := r_1) hx hb hr hlk hC hH rho ⟨_, hI, hfr⟩ (by omega) (by omega) dX5_call_15
set_option maxHeartbeats 4000000 in
set_option maxRecDepth 100000 in
theorem c_X5_all (l : Launch) (G : mG) (k : Nat → Nat) (rho : tR) (n : Nat) (T z : Nat → Nat) (st : Nat → Bool) (f : mF) (hI : IC G k rho n T z st f) (o b : Int32) (v : Int64) : Met l yX5_all wsX5_all ({ frames := 7, cells := 228, slots := 2204, locals := 204 }) (va_Pc [.ref (k 0), .int o, .int b, .long v] (mW G f)) (va_Qi (fun (r : Int32) (u : mS) => ∃ st2, IC G k u.1 n T z st2 u.2 ∧ frC k rho f u.1 u.2) (fun (u : mS) t => mW G u.2 t) (mA G)) 228 2204 (mA G) := by
  refine mMet [.ref (k 0), .int o, .int b, .long v] (cc := cX5_all) (maxL := 6) (ret := (some .int)) (by decide) rfl (Nat.le_of_ble_eq_true rfl) ?_
  intro p e s m below meth c ls hx hb hr hml hts hown hlk hnm hC hH hl
  have hl : lv_has ls 6 [(0, .ref (k 0)), (1, .int o), (2, .int b), (3, .long v)] := hl
  have hj := hI.2.2.2.2.1
  have hn24 := hI.2.2.2.2.2.2.1
  have hT3 := hI.2.2.2.2.2.2.2.1
  have hz32 := hI.2.2.2.2.2.2.2.2
  have nIn : (nI n).toInt = (n : Int) := nI_toInt (by omega)
  have hfr : frC k rho f rho f := frC.rf
  refine lv_aload_n hx hb dX5_all_0 rfl (lv_at hl 0 rfl) ?_
  refine lv_iload_n hx hb dX5_all_1 rfl (lv_at hl 1 rfl) ?_
  refine lv_iload_n hx hb dX5_all_2 rfl (lv_at hl 2 rfl) ?_
  obtain ⟨hn_4, cc_4, fc_4, cb_4, wn_4, vs_4, F_4, b3_4, b4_4⟩ : okLS k n (f (k 0)) := hI.ls
  refine m_goi hH (va_runV (As := [.int o, .int b]) (rest := []) ⟨hx, hb, hml, hown, hts⟩ (c_X5_callRefusal l G k rho n T z st f hI o b) (cwV 2 hts gX5_all_X5_callRefusal rfl rfl rfl (by decide +kernel) ⟨Nat.le_of_ble_eq_true rfl, Nat.le_of_ble_eq_true rfl⟩) (m_preV (ci := 5) hC hH F_4 rfl) rfl rfl hl.1 rfl (lv_room (Nat.le_of_ble_eq_true rfl)) dX5_all_3 ⟨by show _ ≤ 228; omega, by show _ ≤ 2204; omega⟩) (fun r_1 rho_3 f_2 H locs hw hH => ?_)
  obtain ⟨hu, hr_1⟩ := hw
  have hu : f_2 = f := hu
  rw [hu] at hH
  refine lv_istore (lv' := [(5, .int r_1), (0, .ref (k 0)), (1, .int o), (2, .int b), (3, .long v)]) hx hb dX5_all_6 hl (by decide) rfl (fun ls hl => ?_)
  refine lv_iload hx hb dX5_all_8 (lv_at hl 0 rfl) ?_
  refine lv_if_eq (tgt := 16) hx hb dX5_all_10 (by decide) (fun c_5 => ?_) (fun c_5 => ?_)
  · skip
    have ic_5 : (r_1.toInt : Int) = 0 := ic_eq rfl kI_0 c_5
    have cr_ := hr_1.resolve_left (fun q => by omega)
    have hb6 : b.toNatClampNeg < 6 := ic_cl (rfl : b.toInt = _) (by omega) (by omega)
    refine lv_aload_n hx hb dX5_all_16 rfl (lv_at hl 1 rfl) ?_
    refine m_get (ci := 5) (v := .ref (k 13)) (C := RX5) (T := TX5) (N := 14) hx hb hC hH hts in_X5_all_X5 hown F_4 rfl 5 (by decide) (hts (.fieldLink RX5 28 "LazyState" "lazy" "LLazyState$Run;") (by decide +kernel)) rfl dX5_all_17 ?_
    refine lv_aload_n hx hb dX5_all_20 rfl (lv_at hl 1 rfl) ?_
    refine m_get (ci := 5) (v := .ref (k 1)) (C := RX5) (T := TX5) (N := 14) hx hb hC hH hts in_X5_all_X5 hown F_4 rfl 0 (by decide) (hts (.fieldLink RX5 11 "LazyState" "objects" "[LLazyState$Body;") (by decide +kernel)) rfl dX5_all_21 ?_
    refine lv_iload_n hx hb dX5_all_24 rfl (lv_at hl 2 rfl) ?_
    refine lv_lload_n hx hb dX5_all_25 rfl (lv_at hl 4 rfl) ?_
    obtain ⟨lb_9, dn_9, gf_9, th_9, ta_9, sr_9, nx_9, F_9, s1_9, s2_9⟩ : okRun k st 1 (f (k (5 + 8 * 1))) := hI.run (i := 1) (c := 0) (by decide) (by decide)
    refine m_gov hH (va_runV (As := [.ref (k 1), .int o, .long v]) (rest := []) ⟨hx, hb, hml, hown, hts⟩ (c_X3_start l G k rho n T z st f hI 1 (by decide) o v (by omega)) (cwV 3 hts gX5_all_X3_start rfl rfl rfl (by decide +kernel) ⟨Nat.le_of_ble_eq_true rfl, Nat.le_of_ble_eq_true rfl⟩) (m_preV (ci := 3) hC hH F_9 rfl) rfl rfl hl.1 rfl (lv_room (Nat.le_of_ble_eq_true rfl)) dX5_all_26 ⟨by show _ ≤ 228; omega, by show _ ≤ 2204; omega⟩) (fun rho_8 f_7 H locs hw hH => ?_)
    obtain ⟨hu, hI, hfr1⟩ := hw
    have hI : IC G k rho n T z (stUp st 1) f_7 := hI
    have hfr1 : frC k rho f rho f_7 := hfr1
    have hfr := hfr.trans hfr1
    have hs_10 : (stUp st 1) 1 = true ∧ 0 < n := ⟨stUp_s _ _, by omega⟩
    refine lv_aload_n hx hb dX5_all_29 rfl (lv_at hl 1 rfl) ?_
    obtain ⟨hn_11, cc_11, fc_11, cb_11, wn_11, vs_11, F_11, b3_11, b4_11⟩ : okLS k n (f_7 (k 0)) := hI.ls
    refine m_get (ci := 5) (v := .ref (k 13)) (C := RX5) (T := TX5) (N := 14) hx hb hC hH hts in_X5_all_X5 hown F_11 rfl 5 (by decide) (hts (.fieldLink RX5 28 "LazyState" "lazy" "LLazyState$Run;") (by decide +kernel)) rfl dX5_all_30 ?_
    refine lv_aload_n hx hb dX5_all_33 rfl (lv_at hl 1 rfl) ?_
    refine m_get (ci := 5) (v := .ref (k 2)) (C := RX5) (T := TX5) (N := 14) hx hb hC hH hts in_X5_all_X5 hown F_11 rfl 3 (by decide) (hts (.fieldLink RX5 17 "LazyState" "behaviours" "[LLazyState$Behaviour;") (by decide +kernel)) rfl dX5_all_34 ?_
    refine lv_iload_n hx hb dX5_all_37 rfl (lv_at hl 3 rfl) ?_
    obtain ⟨g_12, hg_12, hp_12⟩ : okQ G 4 6 (fun g => ∀ b, b < 6 → g b = some (k (29 + 2 * b))) (f_7 (k 2)) := hI.behs
    refine m_aald hx hb hC hH 4 rfl hg_12 (vp_in_iff.mpr ⟨by omega, by omega⟩) dX5_all_38 ?_
    have q6_12 := hp_12 (b.toNatClampNeg) (ic_cl rfl (by omega) (by omega))
    rw [q6_12]
    obtain ⟨lb_16, dn_16, gf_16, th_16, ta_16, sr_16, nx_16, F_16, s1_16, s2_16⟩ : okRun k (stUp st 1) 1 (f_7 (k (5 + 8 * 1))) := hI.run (i := 1) (c := 0) (by decide) (by decide)
    have s3_16 := s2_16 hs_10.1
    subst s3_16
    refine m_gov hH (va_runV (As := [.ref (k (29 + 2 * (b.toNatClampNeg)))]) (rest := []) ⟨hx, hb, hml, hown, hts⟩ (c_X3_work l G k rho n T z (stUp st 1) f_7 hI 1 (by decide) hs_10 (b.toNatClampNeg) (ic_cl (rfl : b.toInt = _) (by omega) (by omega))) (cwV 1 hts gX5_all_X3_work rfl rfl rfl (by decide +kernel) ⟨Nat.le_of_ble_eq_true rfl, Nat.le_of_ble_eq_true rfl⟩) (m_preV (ci := 3) hC hH F_16 rfl) rfl rfl hl.1 rfl (lv_room (Nat.le_of_ble_eq_true rfl)) dX5_all_39 ⟨by show _ ≤ 228; omega, by show _ ≤ 2204; omega⟩) (fun rho_15 f_14 H locs hw hH => ?_)
    obtain ⟨hI, hfr1⟩ := hw
    have hI : IC G k rho_15 n T z (stUp st 1) f_14 := hI
    have hfr1 : frC k rho f_7 rho_15 f_14 := hfr1
    have hfr := hfr.trans hfr1
    refine lv_aload_n hx hb dX5_all_42 rfl (lv_at hl 1 rfl) ?_
    obtain ⟨hn_17, cc_17, fc_17, cb_17, wn_17, vs_17, F_17, b3_17, b4_17⟩ : okLS k n (f_14 (k 0)) := hI.ls
    refine m_get (ci := 5) (v := .ref (k 21)) (C := RX5) (T := TX5) (N := 14) hx hb hC hH hts in_X5_all_X5 hown F_17 rfl 6 (by decide) (hts (.fieldLink RX5 31 "LazyState" "eager" "LLazyState$Run;") (by decide +kernel)) rfl dX5_all_43 ?_
    refine lv_aload_n hx hb dX5_all_46 rfl (lv_at hl 1 rfl) ?_
    refine m_get (ci := 5) (v := .ref (k 1)) (C := RX5) (T := TX5) (N := 14) hx hb hC hH hts in_X5_all_X5 hown F_17 rfl 0 (by decide) (hts (.fieldLink RX5 11 "LazyState" "objects" "[LLazyState$Body;") (by decide +kernel)) rfl dX5_all_47 ?_
    refine lv_iload_n hx hb dX5_all_50 rfl (lv_at hl 2 rfl) ?_
    refine lv_lload_n hx hb dX5_all_51 rfl (lv_at hl 4 rfl) ?_
    obtain ⟨lb_21, dn_21, gf_21, th_21, ta_21, sr_21, nx_21, F_21, s1_21, s2_21⟩ : okRun k (stUp st 1) 2 (f_14 (k (5 + 8 * 2))) := hI.run (i := 2) (c := 0) (by decide) (by decide)
    refine m_gov hH (va_runV (As := [.ref (k 1), .int o, .long v]) (rest := []) ⟨hx, hb, hml, hown, hts⟩ (c_X3_start l G k rho_15 n T z (stUp st 1) f_14 hI 2 (by decide) o v (by omega)) (cwV 3 hts gX5_all_X3_start rfl rfl rfl (by decide +kernel) ⟨Nat.le_of_ble_eq_true rfl, Nat.le_of_ble_eq_true rfl⟩) (m_preV (ci := 3) hC hH F_21 rfl) rfl rfl hl.1 rfl (lv_room (Nat.le_of_ble_eq_true rfl)) dX5_all_52 ⟨by show _ ≤ 228; omega, by show _ ≤ 2204; omega⟩) (fun rho_20 f_19 H locs hw hH => ?_)
    obtain ⟨hu, hI, hfr1⟩ := hw
    have hI : IC G k rho_15 n T z (stUp (stUp st 1) 2) f_19 := hI
    have hfr1 : frC k rho_15 f_14 rho_15 f_19 := hfr1
    have hfr := hfr.trans hfr1
    have hs_22 : (stUp (stUp st 1) 2) 1 = true ∧ 0 < n := ⟨stUp_k hs_10.1, by omega⟩
    have hs_23 : (stUp (stUp st 1) 2) 2 = true ∧ 0 < n := ⟨stUp_s _ _, by omega⟩
    refine lv_aload_n hx hb dX5_all_55 rfl (lv_at hl 1 rfl) ?_
    obtain ⟨hn_24, cc_24, fc_24, cb_24, wn_24, vs_24, F_24, b3_24, b4_24⟩ : okLS k n (f_19 (k 0)) := hI.ls
    refine m_get (ci := 5) (v := .ref (k 21)) (C := RX5) (T := TX5) (N := 14) hx hb hC hH hts in_X5_all_X5 hown F_24 rfl 6 (by decide) (hts (.fieldLink RX5 31 "LazyState" "eager" "LLazyState$Run;") (by decide +kernel)) rfl dX5_all_56 ?_
    refine lv_aload_n hx hb dX5_all_59 rfl (lv_at hl 1 rfl) ?_
    refine m_get (ci := 5) (v := .int (nI n)) (C := RX5) (T := TX5) (N := 14) hx hb hC hH hts in_X5_all_X5 hown F_24 rfl 1 (by decide) (hts (.fieldLink RX5 46 "LazyState" "objectCount" "I") (by decide +kernel)) rfl dX5_all_60 ?_
    obtain ⟨lb_28, dn_28, gf_28, th_28, ta_28, sr_28, nx_28, F_28, s1_28, s2_28⟩ : okRun k (stUp (stUp st 1) 2) 2 (f_19 (k (5 + 8 * 2))) := hI.run (i := 2) (c := 0) (by decide) (by decide)
    have s3_28 := s2_28 hs_23.1
    subst s3_28
    refine m_gov hH (va_runV (As := [.int (nI n)]) (rest := []) ⟨hx, hb, hml, hown, hts⟩ (c_X3_loadAhead l G k rho_15 n T z (stUp (stUp st 1) 2) f_19 hI 2 (by decide) hs_23 (nI n) (by rw [nIn]; omega)) (cwV 1 hts gX5_all_X3_loadAhead rfl rfl rfl (by decide +kernel) ⟨Nat.le_of_ble_eq_true rfl, Nat.le_of_ble_eq_true rfl⟩) (m_preV (ci := 3) hC hH F_28 rfl) rfl rfl hl.1 rfl (lv_room (Nat.le_of_ble_eq_true rfl)) dX5_all_63 ⟨by show _ ≤ 228; omega, by show _ ≤ 2204; omega⟩) (fun rho_27 f_26 H locs hw hH => ?_)
    obtain ⟨hI, hfr1⟩ := hw
    have hI : IC G k rho_27 n T z (stUp (stUp st 1) 2) f_26 := hI
    have hfr1 : frC k rho_15 f_19 rho_27 f_26 := hfr1
    have hfr := hfr.trans hfr1
    refine lv_aload_n hx hb dX5_all_66 rfl (lv_at hl 1 rfl) ?_
    obtain ⟨hn_29, cc_29, fc_29, cb_29, wn_29, vs_29, F_29, b3_29, b4_29⟩ : okLS k n (f_26 (k 0)) := hI.ls
    refine m_get (ci := 5) (v := .ref (k 21)) (C := RX5) (T := TX5) (N := 14) hx hb hC hH hts in_X5_all_X5 hown F_29 rfl 6 (by decide) (hts (.fieldLink RX5 31 "LazyState" "eager" "LLazyState$Run;") (by decide +kernel)) rfl dX5_all_67 ?_
    refine lv_aload_n hx hb dX5_all_70 rfl (lv_at hl 1 rfl) ?_
    refine m_get (ci := 5) (v := .ref (k 2)) (C := RX5) (T := TX5) (N := 14) hx hb hC hH hts in_X5_all_X5 hown F_29 rfl 3 (by decide) (hts (.fieldLink RX5 17 "LazyState" "behaviours" "[LLazyState$Behaviour;") (by decide +kernel)) rfl dX5_all_71 ?_
    refine lv_iload_n hx hb dX5_all_74 rfl (lv_at hl 3 rfl) ?_
    obtain ⟨g_30, hg_30, hp_30⟩ : okQ G 4 6 (fun g => ∀ b, b < 6 → g b = some (k (29 + 2 * b))) (f_26 (k 2)) := hI.behs
    refine m_aald hx hb hC hH 4 rfl hg_30 (vp_in_iff.mpr ⟨by omega, by omega⟩) dX5_all_75 ?_
    have q6_30 := hp_30 (b.toNatClampNeg) (ic_cl rfl (by omega) (by omega))
    rw [q6_30]
    obtain ⟨lb_34, dn_34, gf_34, th_34, ta_34, sr_34, nx_34, F_34, s1_34, s2_34⟩ : okRun k (stUp (stUp st 1) 2) 2 (f_26 (k (5 + 8 * 2))) := hI.run (i := 2) (c := 0) (by decide) (by decide)
    have s3_34 := s2_34 hs_23.1
    subst s3_34
    refine m_gov hH (va_runV (As := [.ref (k (29 + 2 * (b.toNatClampNeg)))]) (rest := []) ⟨hx, hb, hml, hown, hts⟩ (c_X3_work l G k rho_27 n T z (stUp (stUp st 1) 2) f_26 hI 2 (by decide) hs_23 (b.toNatClampNeg) (ic_cl (rfl : b.toInt = _) (by omega) (by omega))) (cwV 1 hts gX5_all_X3_work rfl rfl rfl (by decide +kernel) ⟨Nat.le_of_ble_eq_true rfl, Nat.le_of_ble_eq_true rfl⟩) (m_preV (ci := 3) hC hH F_34 rfl) rfl rfl hl.1 rfl (lv_room (Nat.le_of_ble_eq_true rfl)) dX5_all_76 ⟨by show _ ≤ 228; omega, by show _ ≤ 2204; omega⟩) (fun rho_33 f_32 H locs hw hH => ?_)
    obtain ⟨hI, hfr1⟩ := hw
    have hI : IC G k rho_33 n T z (stUp (stUp st 1) 2) f_32 := hI
    have hfr1 : frC k rho_27 f_26 rho_33 f_32 := hfr1
    have hfr := hfr.trans hfr1
    refine lv_aload_n hx hb dX5_all_79 rfl (lv_at hl 1 rfl) ?_
    obtain ⟨hn_35, cc_35, fc_35, cb_35, wn_35, vs_35, F_35, b3_35, b4_35⟩ : okLS k n (f_32 (k 0)) := hI.ls
    refine m_get (ci := 5) (v := .ref (k 13)) (C := RX5) (T := TX5) (N := 14) hx hb hC hH hts in_X5_all_X5 hown F_35 rfl 5 (by decide) (hts (.fieldLink RX5 28 "LazyState" "lazy" "LLazyState$Run;") (by decide +kernel)) rfl dX5_all_80 ?_
    refine lv_aload_n hx hb dX5_all_83 rfl (lv_at hl 1 rfl) ?_
    refine m_get (ci := 5) (v := .ref (k 21)) (C := RX5) (T := TX5) (N := 14) hx hb hC hH hts in_X5_all_X5 hown F_35 rfl 6 (by decide) (hts (.fieldLink RX5 31 "LazyState" "eager" "LLazyState$Run;") (by decide +kernel)) rfl dX5_all_84 ?_
    obtain ⟨lb_39, dn_39, gf_39, th_39, ta_39, sr_39, nx_39, F_39, s1_39, s2_39⟩ : okRun k (stUp (stUp st 1) 2) 1 (f_32 (k (5 + 8 * 1))) := hI.run (i := 1) (c := 0) (by decide) (by decide)
    have s3_39 := s2_39 hs_22.1
    subst s3_39
    refine m_goi hH (va_runV (As := [.ref (k 21)]) (rest := []) ⟨hx, hb, hml, hown, hts⟩ (c_X3_endsLike l G k rho_33 n T z (stUp (stUp st 1) 2) f_32 hI 1 2 (by decide) (by decide) hs_22 hs_23) (cwV 1 hts gX5_all_X3_endsLike rfl rfl rfl (by decide +kernel) ⟨Nat.le_of_ble_eq_true rfl, Nat.le_of_ble_eq_true rfl⟩) (m_preV (ci := 3) hC hH F_39 rfl) rfl rfl hl.1 rfl (lv_room (Nat.le_of_ble_eq_true rfl)) dX5_all_87 ⟨by show _ ≤ 228; omega, by show _ ≤ 2204; omega⟩) (fun r_36 rho_38 f_37 H locs hw hH => ?_)
    obtain ⟨hu, hr_36⟩ := hw
    have hu : f_37 = f_32 := hu
    rw [hu] at hH
    refine lv_if_eq (tgt := 115) hx hb dX5_all_90 (by decide) (fun c_40 => ?_) (fun c_40 => ?_)
    · skip
      have ic_40 : (r_36.toInt : Int) = 0 := ic_eq rfl kI_0 c_40
      refine lv_iconst (v := 0) hx hb dX5_all_115 (by decide) ?_
      exact m_iret (v := 0) hx hb hr hlk hC hH rho_33 ⟨_, hI, hfr⟩ (by omega) (by omega) dX5_all_116
    · skip
      have ic_40 : (r_36.toInt : Int) ≠ 0 := ic_ne rfl kI_0 c_40
      refine lv_aload_n hx hb dX5_all_93 rfl (lv_at hl 1 rfl) ?_
      refine m_get (ci := 5) (v := .ref (k 13)) (C := RX5) (T := TX5) (N := 14) hx hb hC hH hts in_X5_all_X5 hown F_35 rfl 5 (by decide) (hts (.fieldLink RX5 28 "LazyState" "lazy" "LLazyState$Run;") (by decide +kernel)) rfl dX5_all_94 ?_
      refine lv_aload_n hx hb dX5_all_97 rfl (lv_at hl 1 rfl) ?_
      refine m_get (ci := 5) (v := .ref (k 21)) (C := RX5) (T := TX5) (N := 14) hx hb hC hH hts in_X5_all_X5 hown F_35 rfl 6 (by decide) (hts (.fieldLink RX5 31 "LazyState" "eager" "LLazyState$Run;") (by decide +kernel)) rfl dX5_all_98 ?_
      refine lv_aload_n hx hb dX5_all_101 rfl (lv_at hl 1 rfl) ?_
      refine m_get (ci := 5) (v := .int (nI n)) (C := RX5) (T := TX5) (N := 14) hx hb hC hH hts in_X5_all_X5 hown F_35 rfl 1 (by decide) (hts (.fieldLink RX5 46 "LazyState" "objectCount" "I") (by decide +kernel)) rfl dX5_all_102 ?_
      refine m_goi hH (va_runV (As := [.ref (k 21), .int (nI n)]) (rest := []) ⟨hx, hb, hml, hown, hts⟩ (c_X3_changesLike l G k rho_33 n T z (stUp (stUp st 1) 2) f_32 hI 1 2 (by decide) (by decide) hs_22 hs_23 (nI n) (by rw [nIn]; omega)) (cwV 2 hts gX5_all_X3_changesLike rfl rfl rfl (by decide +kernel) ⟨Nat.le_of_ble_eq_true rfl, Nat.le_of_ble_eq_true rfl⟩) (m_preV (ci := 3) hC hH F_39 rfl) rfl rfl hl.1 rfl (lv_room (Nat.le_of_ble_eq_true rfl)) dX5_all_105 ⟨by show _ ≤ 228; omega, by show _ ≤ 2204; omega⟩) (fun r_41 rho_43 f_42 H locs hw hH => ?_)
      obtain ⟨hu, hr_41⟩ := hw
      have hu : f_42 = f_32 := hu
      rw [hu] at hH
      refine lv_if_eq (tgt := 115) hx hb dX5_all_108 (by decide) (fun c_44 => ?_) (fun c_44 => ?_)
      · skip
        have ic_44 : (r_41.toInt : Int) = 0 := ic_eq rfl kI_0 c_44
        refine lv_iconst (v := 0) hx hb dX5_all_115 (by decide) ?_
        exact m_iret (v := 0) hx hb hr hlk hC hH rho_33 ⟨_, hI, hfr⟩ (by omega) (by omega) dX5_all_116
      · skip
        have ic_44 : (r_41.toInt : Int) ≠ 0 := ic_ne rfl kI_0 c_44
        refine lv_iconst (v := 1) hx hb dX5_all_111 (by decide) ?_
        refine lv_goto (tgt := 116) hx hb dX5_all_112 (by decide) ?_
        exact m_iret (v := 1) hx hb hr hlk hC hH rho_33 ⟨_, hI, hfr⟩ (by omega) (by omega) dX5_all_116
  · skip
    have ic_5 : (r_1.toInt : Int) ≠ 0 := ic_ne rfl kI_0 c_5
    refine lv_iload hx hb dX5_all_13 (lv_at hl 0 rfl) ?_
    exact m_iret (v := r_1) hx hb hr hlk hC hH rho ⟨_, hI, hfr⟩ (by omega) (by omega) dX5_all_15
set_option maxHeartbeats 4000000 in
set_option maxRecDepth 100000 in
theorem c_X5_clear (l : Launch) (G : mG) (k : Nat → Nat) (rho : tR) (n : Nat) (T z : Nat → Nat) (st : Nat → Bool) (f : mF) (hI : IC G k rho n T z st f) (b : Int32) : Met l yX5_clear wsX5_clear ({ frames := 1, cells := 0, slots := 0, locals := 21 }) (va_Pc [.ref (k 0), .int b] (mW G f)) (va_Qi (fun (r : Int32) (u : mS) => frC k rho f rho u.2 ∧ u.1 = rho ∧ (((b.toInt < 0 ∨ 6 ≤ b.toInt) ∧ r.toInt = -1 ∧ IC G k rho n T z st u.2) ∨ (0 ≤ b.toInt ∧ b.toInt < 6 ∧ r.toInt = z b.toNatClampNeg ∧ IC G k rho n T (fun q => if q = b.toNatClampNeg then 0 else z q) st u.2))) (fun (u : mS) t => mW G u.2 t) (mA G)) 0 0 (mA G) := by
  refine mMet [.ref (k 0), .int b] (cc := cX5_clear) (maxL := 2) (ret := (some .int)) (by decide) rfl (Nat.le_of_ble_eq_true rfl) ?_
  intro p e s m below meth c ls hx hb hr hml hts hown hlk hnm hC hH hl
  have hl : lv_has ls 2 [(0, .ref (k 0)), (1, .int b)] := hl
  have hj := hI.2.2.2.2.1
  have hn24 := hI.2.2.2.2.2.2.1
  have hT3 := hI.2.2.2.2.2.2.2.1
  have hz32 := hI.2.2.2.2.2.2.2.2
  have nIn : (nI n).toInt = (n : Int) := nI_toInt (by omega)
  have hfr : frC k rho f rho f := frC.rf
  refine lv_iload_n hx hb dX5_clear_0 rfl (lv_at hl 1 rfl) ?_
  refine m_goi hH (va_runS (As := [.int b]) (rest := []) ⟨hx, hb, hml, hown, hts⟩ (c_X5_isBehaviour l G f b) (va_cwS 1 hts gX5_clear_X5_isBehaviour rfl rfl rfl (by decide +kernel) ⟨Nat.le_of_ble_eq_true rfl, Nat.le_of_ble_eq_true rfl⟩) (m_preS hC hH) rfl rfl hl.1 rfl (lv_room (Nat.le_of_ble_eq_true rfl)) dX5_clear_1 ⟨Nat.le_of_ble_eq_true rfl, Nat.le_of_ble_eq_true rfl⟩) (fun r_1 rho_3 f_2 H locs hw hH => ?_)
  obtain ⟨hu, hr_1⟩ := hw
  have hu : f_2 = f := hu
  rw [hu] at hH
  refine lv_if_eq (tgt := 19) hx hb dX5_clear_4 (by decide) (fun c_4 => ?_) (fun c_4 => ?_)
  · skip
    have ic_4 : (r_1.toInt : Int) = 0 := ic_eq rfl kI_0 c_4
    refine lv_iconst (v := (-1)) hx hb dX5_clear_19 (by decide) ?_
    exact m_iret (v := (-1)) hx hb hr hlk hC hH rho ⟨hfr, rfl, Or.inl ⟨by omega, kI_m1, hI⟩⟩ (Nat.le_of_ble_eq_true rfl) (Nat.le_of_ble_eq_true rfl) dX5_clear_20
  · skip
    have ic_4 : (r_1.toInt : Int) ≠ 0 := ic_ne rfl kI_0 c_4
    refine lv_aload_n hx hb dX5_clear_7 rfl (lv_at hl 0 rfl) ?_
    obtain ⟨hn_5, cc_5, fc_5, cb_5, wn_5, vs_5, F_5, b3_5, b4_5⟩ : okLS k n (f (k 0)) := hI.ls
    refine m_get (ci := 5) (v := .ref (k 2)) (C := RX5) (T := TX5) (N := 14) hx hb hC hH hts in_X5_clear_X5 hown F_5 rfl 3 (by decide) (hts (.fieldLink RX5 17 "LazyState" "behaviours" "[LLazyState$Behaviour;") (by decide +kernel)) rfl dX5_clear_8 ?_
    refine lv_iload_n hx hb dX5_clear_11 rfl (lv_at hl 1 rfl) ?_
    obtain ⟨g_6, hg_6, hp_6⟩ : okQ G 4 6 (fun g => ∀ b, b < 6 → g b = some (k (29 + 2 * b))) (f (k 2)) := hI.behs
    refine m_aald hx hb hC hH 4 rfl hg_6 (vp_in_iff.mpr ⟨by omega, by omega⟩) dX5_clear_12 ?_
    have q6_6 := hp_6 (b.toNatClampNeg) (ic_cl rfl (by omega) (by omega))
    rw [q6_6]
    have F_10 : f (k (29 + 2 * (b.toNatClampNeg))) = some (.inr (1, [.ref (k (29 + 2 * (b.toNatClampNeg) + 1)), .int (nI (z (b.toNatClampNeg)))])) := hI.beh (ic_cl (rfl : b.toInt = _) (by omega) (by omega))
    have zb_10 := hz32 (b.toNatClampNeg)
    have zI_10 : (nI (z (b.toNatClampNeg))).toInt = (z (b.toNatClampNeg) : Int) := nI_toInt (by omega)
    refine m_goi hH (va_runV (As := []) (rest := []) ⟨hx, hb, hml, hown, hts⟩ (c_X1_empty l G k rho n T z st f hI (b.toNatClampNeg) (ic_cl (rfl : b.toInt = _) (by omega) (by omega))) (cwV 0 hts gX5_clear_X1_empty rfl rfl rfl (by decide +kernel) ⟨Nat.le_of_ble_eq_true rfl, Nat.le_of_ble_eq_true rfl⟩) (m_preV (ci := 1) hC hH F_10 rfl) rfl rfl hl.1 rfl (lv_room (Nat.le_of_ble_eq_true rfl)) dX5_clear_13 ⟨Nat.le_of_ble_eq_true rfl, Nat.le_of_ble_eq_true rfl⟩) (fun r_7 rho_9 f_8 H locs hw hH => ?_)
    obtain ⟨hu, hfr1, hr_7, hI⟩ := hw
    have hfr1 : frC k rho f rho f_8 := hfr1
    have hfr := hfr.trans hfr1
    try dsimp only at hr_7
    have hI : IC G k rho n T (fun q => if q = (b.toNatClampNeg) then 0 else z q) st f_8 := hI
    refine lv_goto (tgt := 20) hx hb dX5_clear_16 (by decide) ?_
    exact m_iret (v := r_7) hx hb hr hlk hC hH rho ⟨hfr, rfl, Or.inr ⟨by omega, by omega, by omega, hI⟩⟩ (Nat.le_of_ble_eq_true rfl) (Nat.le_of_ble_eq_true rfl) dX5_clear_20
set_option maxHeartbeats 4000000 in
set_option maxRecDepth 100000 in
theorem c_X5_act (l : Launch) (G : mG) (k : Nat → Nat) (rho : tR) (n : Nat) (T z : Nat → Nat) (st : Nat → Bool) (f : mF) (hI : IC G k rho n T z st f) (b kd a : Int32) (bb : Int64) (c_ d_ e_ : Int32) : Met l yX5_act wsX5_act ({ frames := 2, cells := 1, slots := 6, locals := 44 }) (va_Pc [.ref (k 0), .int b, .int kd, .int a, .long bb, .int c_, .int d_, .int e_] (mW G f)) (va_Qi (fun (r : Int32) (u : mS) => frC k rho f u.1 u.2 ∧ ((¬ (0 ≤ b.toInt ∧ b.toInt < 6 ∧ okA (kd, a, bb, c_, d_, e_)) ∧ r.toInt = -1 ∧ IC G k u.1 n T z st u.2) ∨ (((0 ≤ b.toInt ∧ b.toInt < 6 ∧ okA (kd, a, bb, c_, d_, e_)) ∧ z b.toNatClampNeg = 32 ∧ r.toInt = -2 ∧ IC G k u.1 n T z st u.2) ∨ ((0 ≤ b.toInt ∧ b.toInt < 6 ∧ okA (kd, a, bb, c_, d_, e_)) ∧ z b.toNatClampNeg < 32 ∧ r.toInt = z b.toNatClampNeg ∧ IC G k u.1 n T (fun q => if q = b.toNatClampNeg then z q + 1 else z q) st u.2)))) (fun (u : mS) t => mW G u.2 t) (mA G)) 1 6 (mA G) := by
  refine mMet [.ref (k 0), .int b, .int kd, .int a, .long bb, .int c_, .int d_, .int e_] (cc := cX5_act) (maxL := 10) (ret := (some .int)) (by decide) rfl (Nat.le_of_ble_eq_true rfl) ?_
  intro p e s m below meth c ls hx hb hr hml hts hown hlk hnm hC hH hl
  have hl : lv_has ls 10 [(0, .ref (k 0)), (1, .int b), (2, .int kd), (3, .int a), (4, .long bb), (6, .int c_), (7, .int d_), (8, .int e_)] := hl
  have hj := hI.2.2.2.2.1
  have hn24 := hI.2.2.2.2.2.2.1
  have hT3 := hI.2.2.2.2.2.2.2.1
  have hz32 := hI.2.2.2.2.2.2.2.2
  have nIn : (nI n).toInt = (n : Int) := nI_toInt (by omega)
  have hfr : frC k rho f rho f := frC.rf
  refine lv_iload_n hx hb dX5_act_0 rfl (lv_at hl 1 rfl) ?_
  refine m_goi hH (va_runS (As := [.int b]) (rest := []) ⟨hx, hb, hml, hown, hts⟩ (c_X5_isBehaviour l G f b) (va_cwS 1 hts gX5_act_X5_isBehaviour rfl rfl rfl (by decide +kernel) ⟨Nat.le_of_ble_eq_true rfl, Nat.le_of_ble_eq_true rfl⟩) (m_preS hC hH) rfl rfl hl.1 rfl (lv_room (Nat.le_of_ble_eq_true rfl)) dX5_act_1 ⟨by show _ ≤ 1; omega, by show _ ≤ 6; omega⟩) (fun r_1 rho_3 f_2 H locs hw hH => ?_)
  obtain ⟨hu, hr_1⟩ := hw
  have hu : f_2 = f := hu
  rw [hu] at hH
  refine lv_if_eq (tgt := 17) hx hb dX5_act_4 (by decide) (fun c_4 => ?_) (fun c_4 => ?_)
  · skip
    have ic_4 : (r_1.toInt : Int) = 0 := ic_eq rfl kI_0 c_4
    refine lv_iconst (v := (-1)) hx hb dX5_act_17 (by decide) ?_
    exact m_iret (v := (-1)) hx hb hr hlk hC hH rho ⟨hfr, Or.inl ⟨fun q_ => by have := okA_rng6 q_.2.2; omega, kI_m1, hI⟩⟩ (by omega) (by omega) dX5_act_18
  · skip
    have ic_4 : (r_1.toInt : Int) ≠ 0 := ic_ne rfl kI_0 c_4
    refine lv_iload_n hx hb dX5_act_7 rfl (lv_at hl 2 rfl) ?_
    refine lv_if_lt (tgt := 17) hx hb dX5_act_8 (by decide) (fun c_5 => ?_) (fun c_5 => ?_)
    · skip
      have ic_5 : (kd.toInt : Int) < 0 := ic_lt rfl kI_0 c_5
      refine lv_iconst (v := (-1)) hx hb dX5_act_17 (by decide) ?_
      exact m_iret (v := (-1)) hx hb hr hlk hC hH rho ⟨hfr, Or.inl ⟨fun q_ => by have := okA_rng6 q_.2.2; omega, kI_m1, hI⟩⟩ (by omega) (by omega) dX5_act_18
    · skip
      have ic_5 : (kd.toInt : Int) ≥ 0 := ic_nlt rfl kI_0 c_5
      refine lv_iload_n hx hb dX5_act_11 rfl (lv_at hl 2 rfl) ?_
      refine lv_bipush (v := 18) hx hb dX5_act_12 (by decide) ?_
      refine lv_icmp_lt (tgt := 19) hx hb dX5_act_14 (by decide) (fun c_6 => ?_) (fun c_6 => ?_)
      · skip
        have ic_6 : (kd.toInt : Int) < 18 := ic_lt rfl kI_18 c_6
        refine m_new (ci := 0) (fs := [.int 0, .int 0, .long 0, .int 0, .int 0, .int 0]) hx hb hC hH hts in_X5_act_X0 tyX0 tyX0_ok hown (hts (.classLink RX5 85 RX0) (by decide +kernel)) (hts (.instantiable RX0 6) (by decide +kernel)) (hts (.initialized RX0) (by decide +kernel)) rfl (by decide) (by show _ ≤ 1; omega) (by show _ ≤ 6; omega) dX5_act_19 (fun q_7 H hlt_q_7 hge_q_7 hno_q_7 hH => ?_)
        obtain ⟨f_8, ef_8⟩ : ∃ zz_ : mF, zz_ = va_up f q_7 (some (.inr (0, [.int 0, .int 0, .long 0, .int 0, .int 0, .int 0]))) := ⟨_, rfl⟩
        rw [← ef_8] at hH
        have f0_q_7 := hI.fresh hno_q_7
        have hI : IC G k rho n T z st f_8 := hI.setU f0_q_7.1 f0_q_7.2 ef_8
        have hnf_q_7 : f q_7 = none := frC_none hfr hno_q_7
        have hfr := hfr.fresh hnf_q_7 ef_8
        have F_q_7 : f_8 q_7 = some (.inr (0, [.int 0, .int 0, .long 0, .int 0, .int 0, .int 0])) := by rw [ef_8]; exact va_up_self _ _ _
        refine lv_dup hx hb dX5_act_22 rfl ?_
        refine lv_iload_n hx hb dX5_act_23 rfl (lv_at hl 2 rfl) ?_
        refine lv_iload_n hx hb dX5_act_24 rfl (lv_at hl 3 rfl) ?_
        refine lv_lload hx hb dX5_act_25 (lv_at hl 4 rfl) ?_
        refine lv_iload hx hb dX5_act_27 (lv_at hl 5 rfl) ?_
        refine lv_iload hx hb dX5_act_29 (lv_at hl 6 rfl) ?_
        refine lv_iload hx hb dX5_act_31 (lv_at hl 7 rfl) ?_
        refine m_gov hH (va_runI (As := [.int kd, .int a, .long bb, .int c_, .int d_, .int e_]) (rest := [.ref q_7]) ⟨hx, hb, hml, hown, hts⟩ (c_X0_init l G f_8 q_7 F_q_7 kd a bb c_ d_ e_) (cwI 6 hts gX5_act_X0_init rfl rfl rfl (hts (.initialized RX0) (by decide +kernel)) (hts (.methodLink RX5 87 yX0_init) (by decide +kernel)) (hts (.instanceMethod yX0_init) (by decide +kernel)) rfl (by decide +kernel) ⟨Nat.le_of_ble_eq_true rfl, Nat.le_of_ble_eq_true rfl⟩) (m_preS hC hH) rfl rfl hl.1 rfl (lv_room (Nat.le_of_ble_eq_true rfl)) dX5_act_33 ⟨by show _ ≤ 1; omega, by show _ ≤ 6; omega⟩) (fun rho_11 f_10 H locs hw hH => ?_)
        have ef_10 : f_10 = va_up f_8 q_7 _ := hw
        have hI : IC G k rho n T z st f_10 := hI.setU f0_q_7.1 f0_q_7.2 ef_10
        have hfr := hfr.fresh hnf_q_7 ef_10
        have FA_ : f_10 q_7 = some (.inr (0, [.int kd, .int a, .long bb, .int c_, .int d_, .int e_])) := by rw [ef_10]; exact va_up_self _ _ _
        refine lv_astore (lv' := [(9, .ref q_7), (0, .ref (k 0)), (1, .int b), (2, .int kd), (3, .int a), (4, .long bb), (6, .int c_), (7, .int d_), (8, .int e_)]) hx hb dX5_act_36 hl (by decide) rfl (fun ls hl => ?_)
        refine lv_aload hx hb dX5_act_38 (lv_at hl 0 rfl) ?_
        refine m_goi hH (va_runV (As := []) (rest := []) ⟨hx, hb, hml, hown, hts⟩ (c_X0_isAsTold l G f_10 q_7 kd a bb c_ d_ e_ FA_ kd.toNatClampNeg (ic_cl (rfl : kd.toInt = _) (by omega) (by omega)) (ic_clN (rfl : kd.toInt = _) (by omega)).symm) (cwV 0 hts gX5_act_X0_isAsTold rfl rfl rfl (by decide +kernel) ⟨Nat.le_of_ble_eq_true rfl, Nat.le_of_ble_eq_true rfl⟩) (m_preV (ci := 0) hC hH FA_ rfl) rfl rfl hl.1 rfl (lv_room (Nat.le_of_ble_eq_true rfl)) dX5_act_40 ⟨by show _ ≤ 1; omega, by show _ ≤ 6; omega⟩) (fun r_12 rho_14 f_13 H locs hw hH => ?_)
        obtain ⟨hu, hr_12⟩ := hw
        have hu : f_13 = f_10 := hu
        rw [hu] at hH
        refine lv_if_eq (tgt := 60) hx hb dX5_act_43 (by decide) (fun c_15 => ?_) (fun c_15 => ?_)
        · skip
          have ic_15 : (r_12.toInt : Int) = 0 := ic_eq rfl kI_0 c_15
          refine lv_iconst (v := (-1)) hx hb dX5_act_60 (by decide) ?_
          exact m_iret (v := (-1)) hx hb hr hlk hC hH rho ⟨hfr, Or.inl ⟨fun q_ => (hr_12.resolve_left (fun z_ => by omega)).2 q_.2.2, kI_m1, hI⟩⟩ (by omega) (by omega) dX5_act_61
        · skip
          have ic_15 : (r_12.toInt : Int) ≠ 0 := ic_ne rfl kI_0 c_15
          have hok_ : okA (kd, a, bb, c_, d_, e_) := (hr_12.resolve_right (fun q => by omega)).2
          have hI : IC G k (va_up rho q_7 (4, 0)) n T z st f_10 := hI.name f0_q_7.1 f0_q_7.2 (show okAc _ from ⟨_, _, _, _, _, _, FA_, hok_⟩)
          have hfr : frC k rho f (va_up rho q_7 (4, 0)) f_10 := hfr.name hnf_q_7
          have hra_ : (va_up rho q_7 (4, 0)) q_7 = (4, 0) := va_up_self _ _ _
          have hrx_ : True := trivial
          generalize va_up rho q_7 (4, 0) = rho2_ at hI hfr hra_
          refine lv_aload_n hx hb dX5_act_46 rfl (lv_at hl 1 rfl) ?_
          obtain ⟨hn_16, cc_16, fc_16, cb_16, wn_16, vs_16, F_16, b3_16, b4_16⟩ : okLS k n (f_10 (k 0)) := hI.ls
          refine m_get (ci := 5) (v := .ref (k 2)) (C := RX5) (T := TX5) (N := 14) hx hb hC hH hts in_X5_act_X5 hown F_16 rfl 3 (by decide) (hts (.fieldLink RX5 17 "LazyState" "behaviours" "[LLazyState$Behaviour;") (by decide +kernel)) rfl dX5_act_47 ?_
          refine lv_iload_n hx hb dX5_act_50 rfl (lv_at hl 2 rfl) ?_
          obtain ⟨g_17, hg_17, hp_17⟩ : okQ G 4 6 (fun g => ∀ b, b < 6 → g b = some (k (29 + 2 * b))) (f_10 (k 2)) := hI.behs
          refine m_aald hx hb hC hH 4 rfl hg_17 (vp_in_iff.mpr ⟨by omega, by omega⟩) dX5_act_51 ?_
          have q6_17 := hp_17 (b.toNatClampNeg) (ic_cl rfl (by omega) (by omega))
          rw [q6_17]
          refine lv_aload hx hb dX5_act_52 (lv_at hl 0 rfl) ?_
          have F_21 : f_10 (k (29 + 2 * (b.toNatClampNeg))) = some (.inr (1, [.ref (k (29 + 2 * (b.toNatClampNeg) + 1)), .int (nI (z (b.toNatClampNeg)))])) := hI.beh (ic_cl (rfl : b.toInt = _) (by omega) (by omega))
          have zb_21 := hz32 (b.toNatClampNeg)
          have zI_21 : (nI (z (b.toNatClampNeg))).toInt = (z (b.toNatClampNeg) : Int) := nI_toInt (by omega)
          refine m_goi hH (va_runV (As := [.ref q_7]) (rest := []) ⟨hx, hb, hml, hown, hts⟩ (c_X1_append l G k rho2_ n T z st f_10 hI (b.toNatClampNeg) (ic_cl (rfl : b.toInt = _) (by omega) (by omega)) q_7 hra_) (cwV 1 hts gX5_act_X1_append rfl rfl rfl (by decide +kernel) ⟨Nat.le_of_ble_eq_true rfl, Nat.le_of_ble_eq_true rfl⟩) (m_preV (ci := 1) hC hH F_21 rfl) rfl rfl hl.1 rfl (lv_room (Nat.le_of_ble_eq_true rfl)) dX5_act_54 ⟨by show _ ≤ 1; omega, by show _ ≤ 6; omega⟩) (fun r_18 rho_20 f_19 H locs hw hH => ?_)
          obtain ⟨hu, hfr1, hr_18⟩ := hw
          have hfr1 : frC k rho2_ f_10 rho2_ f_19 := hfr1
          have hfr := hfr.trans hfr1
          try dsimp only at hr_18
          refine lv_goto (tgt := 61) hx hb dX5_act_57 (by decide) ?_
          exact m_iret (v := r_18) hx hb hr hlk hC hH rho2_ ⟨hfr, Or.inr (hr_18.elim (fun q_ => Or.inl ⟨⟨by omega, by omega, hok_⟩, q_.1, q_.2.1, q_.2.2⟩) (fun q_ => Or.inr ⟨⟨by omega, by omega, hok_⟩, q_.1, q_.2.1, q_.2.2⟩))⟩ (by omega) (by omega) dX5_act_61
      · skip
        have ic_6 : (kd.toInt : Int) ≥ 18 := ic_nlt rfl kI_18 c_6
        refine lv_iconst (v := (-1)) hx hb dX5_act_17 (by decide) ?_
        exact m_iret (v := (-1)) hx hb hr hlk hC hH rho ⟨hfr, Or.inl ⟨fun q_ => by have := okA_rng6 q_.2.2; omega, kI_m1, hI⟩⟩ (by omega) (by omega) dX5_act_18
