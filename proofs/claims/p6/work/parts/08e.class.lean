set_option maxHeartbeats 4000000 in
set_option maxRecDepth 100000 in
theorem c_X3_ask (l : Launch) (G : mG) (k : Nat → Nat) (rho : tR) (n : Nat) (T z : Nat → Nat) (st : Nat → Bool) (f : mF) (hI : IC G k rho n T z st f) (i : Nat) (hi : i < 3) (hst : st i = true ∧ 0 < n) (hd ff sr : Int32) (hh4 : 0 ≤ hd.toInt ∧ hd.toInt < 4) : Met l yX3_ask wsX3_ask ({ frames := 3, cells := 3 * ndh k i f hd.toNatClampNeg, slots := 29 * ndh k i f hd.toNatClampNeg, locals := 102 }) (va_Pc [.ref (k (5 + 8 * i)), .int hd, .int ff, .int sr] (mW G f)) (va_Qi (fun (r : Int32) (u : mS) => IC G k u.1 n T z st u.2 ∧ frC k rho f u.1 u.2 ∧ aspP k i hd.toNatClampNeg f u.2 ∧ (r.toInt ≠ 0 ∨ ∃ o, askd k i n hd.toNatClampNeg u.2 o ∧ 0 ≤ ff.toInt ∧ ff.toInt < 8 ∧ sortF (8 * T o + ff.toNatClampNeg) = sr)) (fun (u : mS) t => mW G u.2 t) (mA G)) (3 * ndh k i f hd.toNatClampNeg) (29 * ndh k i f hd.toNatClampNeg) (mA G) := by
  refine mMet [.ref (k (5 + 8 * i)), .int hd, .int ff, .int sr] (cc := cX3_ask) (maxL := 6) (ret := (some .int)) (by decide) rfl (Nat.le_of_ble_eq_true rfl) ?_
  intro p e s m below meth c ls hx hb hr hml hts hown hlk hnm hC hH hl
  have hl : lv_has ls 6 [(0, .ref (k (5 + 8 * i))), (1, .int hd), (2, .int ff), (3, .int sr)] := hl
  have hj := hI.2.2.2.2.1
  have hn24 := hI.2.2.2.2.2.2.1
  have hT3 := hI.2.2.2.2.2.2.2.1
  have hz32 := hI.2.2.2.2.2.2.2.2
  have nIn : (nI n).toInt = (n : Int) := nI_toInt (by omega)
  have hfr : frC k rho f rho f := frC.rf
  have hn0_ := hst.2
  refine lv_aload_n hx hb dX3_ask_0 rfl (lv_at hl 0 rfl) ?_
  obtain ⟨lb_1, dn_1, gf_1, th_1, ta_1, sr_1, nx_1, F_1, s1_1, s2_1⟩ : okRun k st i (f (k (5 + 8 * i))) := hI.run (i := i) (c := 0) hi (by decide)
  have s3_1 := s2_1 hst.1
  subst s3_1
  refine m_get (ci := 3) (v := .ref (k (5 + 8 * i + 6))) (C := RX3) (T := TX3) (N := 11) hx hb hC hH hts in_X3_ask_X3 hown F_1 rfl 8 (by decide) (hts (.fieldLink RX3 28 "LazyState$Run" "handles" "[I") (by decide +kernel)) rfl dX3_ask_1 ?_
  refine lv_iload_n hx hb dX3_ask_4 rfl (lv_at hl 1 rfl) ?_
  obtain ⟨g_2, hg_2, hp_2⟩ : okI G 0 4 (pHa n) (f (k (5 + 8 * i + 6))) := hI.run (i := i) (c := 6) hi (by decide)
  refine m_iald hx hb hC hH hg_2 (vp_in_iff.mpr ⟨by omega, by omega⟩) dX3_ask_5 ?_
  refine lv_topi (fun x_3 ex_3 => ?_)
  have qx_3 := hp_2 (hd.toNatClampNeg) (ic_cl rfl (by omega) (by omega))
  rw [← ex_3] at qx_3
  have hx_ : haF k i f hd.toNatClampNeg = x_3 := by rw [haF_eq hg_2]; exact ex_3.symm
  refine lv_istore (lv' := [(4, .int x_3), (0, .ref (k (5 + 8 * i))), (1, .int hd), (2, .int ff), (3, .int sr)]) hx hb dX3_ask_6 hl (by decide) rfl (fun ls hl => ?_)
  refine lv_iload hx hb dX3_ask_8 (lv_at hl 0 rfl) ?_
  refine lv_bipush (v := (-3)) hx hb dX3_ask_10 (by decide) ?_
  refine lv_icmp_ne (tgt := 17) hx hb dX3_ask_12 (by decide) (fun c_4 => ?_) (fun c_4 => ?_)
  · skip
    have ic_4 : (x_3.toInt : Int) ≠ (-3) := ic_ne rfl kI_m3 c_4
    have nz1_ := ndh_pos hx_ c_4
    refine lv_aload_n hx hb dX3_ask_17 rfl (lv_at hl 1 rfl) ?_
    refine lv_iload hx hb dX3_ask_18 (lv_at hl 0 rfl) ?_
    refine m_gov hH (va_runV (As := [.int x_3]) (rest := []) ⟨hx, hb, hml, hown, hts⟩ (c_X3_load l G k rho n T z st f hI i hi hst x_3 (by omega)) (cwV 1 hts gX3_ask_X3_load rfl rfl rfl (by decide +kernel) ⟨Nat.le_of_ble_eq_true rfl, Nat.le_of_ble_eq_true rfl⟩) (m_preV (ci := 3) hC hH F_1 rfl) rfl rfl hl.1 rfl (lv_room (Nat.le_of_ble_eq_true rfl)) dX3_ask_20 ⟨by show _ ≤ 3 * ndh k i f hd.toNatClampNeg; omega, by show _ ≤ 29 * ndh k i f hd.toNatClampNeg; omega⟩) (fun rho_7 f_6 H locs hw hH => ?_)
    obtain ⟨hI, hfr1, hld_⟩ := hw
    have hI : IC G k rho_7 n T z st f_6 := hI
    have hfr1 : frC k rho f rho_7 f_6 := hfr1
    have hfr := hfr.trans hfr1
    have hld_ : ldP k i x_3.toNatClampNeg f f_6 := hld_
    refine lv_aload_n hx hb dX3_ask_23 rfl (lv_at hl 1 rfl) ?_
    obtain ⟨lb_8, dn_8, gf_8, th_8, ta_8, sr_8, nx_8, F_8, s1_8, s2_8⟩ : okRun k st i (f_6 (k (5 + 8 * i))) := hI.run (i := i) (c := 0) hi (by decide)
    have s3_8 := s2_8 hst.1
    subst s3_8
    refine m_get (ci := 3) (v := .ref (k (5 + 8 * i + 5))) (C := RX3) (T := TX3) (N := 11) hx hb hC hH hts in_X3_ask_X3 hown F_8 rfl 7 (by decide) (hts (.fieldLink RX3 24 "LazyState$Run" "copies" "[LLazyState$Body;") (by decide +kernel)) rfl dX3_ask_24 ?_
    refine lv_iload hx hb dX3_ask_27 (lv_at hl 0 rfl) ?_
    obtain ⟨g_9, hg_9, hp_9⟩ : okQ G 3 24 (pCp rho_7 n T) (f_6 (k (5 + 8 * i + 5))) := hI.run (i := i) (c := 5) hi (by decide)
    refine m_aald hx hb hC hH 3 rfl hg_9 (vp_in_iff.mpr ⟨by omega, by omega⟩) dX3_ask_29 ?_
    have nn_ : g_9 (x_3.toNatClampNeg) ≠ none := by rw [← cpF_eq hg_9]; exact hld_.1
    obtain ⟨_, cb_, c1_, c2_⟩ := (hp_9 (x_3.toNatClampNeg) (ic_cl rfl (by omega) (by omega))).resolve_left nn_
    rw [c1_]
    refine lv_iload_n hx hb dX3_ask_30 rfl (lv_at hl 3 rfl) ?_
    obtain ⟨ca_13, ia_13, si_13, bf_13, F_13, hca_13, hia_13, hbf_13⟩ : okB rho_7 (T (x_3.toNatClampNeg)) cb_ (f_6 cb_) := hI.pool c2_
    have tI_13 : (nI (T (x_3.toNatClampNeg))).toInt = (T (x_3.toNatClampNeg) : Int) := nI_toInt (by have := hT3 (x_3.toNatClampNeg); omega)
    refine m_goi hH (va_runV (As := [.int ff]) (rest := []) ⟨hx, hb, hml, hown, hts⟩ (c_X2_sortOf l G k rho_7 n T z st f_6 hI cb_ (T (x_3.toNatClampNeg)) c2_ (hT3 _) ff) (cwV 1 hts gX3_ask_X2_sortOf rfl rfl rfl (by decide +kernel) ⟨Nat.le_of_ble_eq_true rfl, Nat.le_of_ble_eq_true rfl⟩) (m_preV (ci := 2) hC hH F_13 rfl) rfl rfl hl.1 rfl (lv_room (Nat.le_of_ble_eq_true rfl)) dX3_ask_31 ⟨by show _ ≤ 3 * ndh k i f hd.toNatClampNeg; omega, by show _ ≤ 29 * ndh k i f hd.toNatClampNeg; omega⟩) (fun r_10 rho_12 f_11 H locs hw hH => ?_)
    obtain ⟨hu, hr_10⟩ := hw
    have hu : f_11 = f_6 := hu
    rw [hu] at hH
    refine lv_istore (lv' := [(5, .int r_10), (4, .int x_3), (0, .ref (k (5 + 8 * i))), (1, .int hd), (2, .int ff), (3, .int sr)]) hx hb dX3_ask_34 hl (by decide) rfl (fun ls hl => ?_)
    refine lv_iload hx hb dX3_ask_36 (lv_at hl 0 rfl) ?_
    refine lv_if_ne (tgt := 43) hx hb dX3_ask_38 (by decide) (fun c_14 => ?_) (fun c_14 => ?_)
    · skip
      have ic_14 : (r_10.toInt : Int) ≠ 0 := ic_ne rfl kI_0 c_14
      refine lv_iload hx hb dX3_ask_43 (lv_at hl 0 rfl) ?_
      refine lv_iload_n hx hb dX3_ask_45 rfl (lv_at hl 5 rfl) ?_
      refine lv_icmp_ne (tgt := 53) hx hb dX3_ask_46 (by decide) (fun c_15 => ?_) (fun c_15 => ?_)
      · skip
        have ic_15 : (r_10.toInt : Int) ≠ sr.toInt := ic_ne rfl rfl c_15
        refine lv_iconst (v := 2) hx hb dX3_ask_53 (by decide) ?_
        exact m_iret (v := 2) hx hb hr hlk hC hH rho_7 ⟨hI, hfr, ⟨by rw [nz1_]; exact hld_.2.1, fun q_ hq_ hn_ => hld_.2.2.1 q_ (fun z_ => hn_ (by rw [hx_, z_]; exact ic_inj (ic_clN rfl (by omega)).symm (by have := ic_clN (rfl : x_3.toInt = _) (by omega); omega))), hld_.2.2.2.1, hld_.2.2.2.2⟩, Or.inl (by have := kI_2; omega)⟩ (by omega) (by omega) dX3_ask_54
      · skip
        have ic_15 : (r_10.toInt : Int) = sr.toInt := ic_eq rfl rfl c_15
        refine lv_iconst (v := 0) hx hb dX3_ask_49 (by decide) ?_
        refine lv_goto (tgt := 54) hx hb dX3_ask_50 (by decide) ?_
        exact m_iret (v := 0) hx hb hr hlk hC hH rho_7 ⟨hI, hfr, ⟨by rw [nz1_]; exact hld_.2.1, fun q_ hq_ hn_ => hld_.2.2.1 q_ (fun z_ => hn_ (by rw [hx_, z_]; exact ic_inj (ic_clN rfl (by omega)).symm (by have := ic_clN (rfl : x_3.toInt = _) (by omega); omega))), hld_.2.2.2.1, hld_.2.2.2.2⟩, Or.inr ⟨x_3.toNatClampNeg, ⟨by have := ic_clN (rfl : x_3.toInt = _) (by omega); omega, by rw [haF_c hld_.2.2.2.1, hx_]; exact ic_inj (ic_clN rfl (by omega)).symm (by have := ic_clN (rfl : x_3.toInt = _) (by omega); omega), hld_.1⟩, (hr_10.resolve_right (fun q => by omega)).1, (hr_10.resolve_right (fun q => by omega)).2.1, (hr_10.resolve_right (fun q => by omega)).2.2.symm.trans (Int32.toInt_inj.mp (by omega))⟩⟩ (by omega) (by omega) dX3_ask_54
    · skip
      have ic_14 : (r_10.toInt : Int) = 0 := ic_eq rfl kI_0 c_14
      refine lv_iconst (v := 3) hx hb dX3_ask_41 (by decide) ?_
      exact m_iret (v := 3) hx hb hr hlk hC hH rho_7 ⟨hI, hfr, ⟨by rw [nz1_]; exact hld_.2.1, fun q_ hq_ hn_ => hld_.2.2.1 q_ (fun z_ => hn_ (by rw [hx_, z_]; exact ic_inj (ic_clN rfl (by omega)).symm (by have := ic_clN (rfl : x_3.toInt = _) (by omega); omega))), hld_.2.2.2.1, hld_.2.2.2.2⟩, Or.inl (by have := kI_3; omega)⟩ (by omega) (by omega) dX3_ask_42
  · skip
    have ic_4 : (x_3.toInt : Int) = (-3) := ic_eq rfl kI_m3 c_4
    have ng_ : haF k i f hd.toNatClampNeg = -3 := hx_.trans c_4
    refine lv_iconst (v := 1) hx hb dX3_ask_15 (by decide) ?_
    exact m_iret (v := 1) hx hb hr hlk hC hH rho ⟨hI, hfr, ⟨by rw [ndh_neg ng_]; rfl, fun _ _ _ => rfl, rfl, rfl⟩, Or.inl (by have := kI_1; omega)⟩ (by omega) (by omega) dX3_ask_16
set_option maxHeartbeats 4000000 in
set_option maxRecDepth 100000 in
theorem c_X3_get (l : Launch) (G : mG) (k : Nat → Nat) (rho : tR) (n : Nat) (T z : Nat → Nat) (st : Nat → Bool) (f : mF) (hI : IC G k rho n T z st f) (i : Nat) (hi : i < 3) (hst : st i = true ∧ 0 < n) (x hd ff : Int32) (hx4 : 0 ≤ x.toInt ∧ x.toInt < 4) (hh4 : 0 ≤ hd.toInt ∧ hd.toInt < 4) : Met l yX3_get wsX3_get ({ frames := 4, cells := 3 * ndh k i f hd.toNatClampNeg, slots := 29 * ndh k i f hd.toNatClampNeg, locals := 127 }) (va_Pc [.ref (k (5 + 8 * i)), .int x, .int hd, .int ff] (mW G f)) (va_Qi (fun (r : Int32) (u : mS) => IC G k u.1 n T z st u.2 ∧ frC k rho f u.1 u.2 ∧ nul (cpF k i u.2) 24 + ndh k i f hd.toNatClampNeg = nul (cpF k i f) 24) (fun (u : mS) t => mW G u.2 t) (mA G)) (3 * ndh k i f hd.toNatClampNeg) (29 * ndh k i f hd.toNatClampNeg) (mA G) := by
  refine mMet [.ref (k (5 + 8 * i)), .int x, .int hd, .int ff] (cc := cX3_get) (maxL := 5) (ret := (some .int)) (by decide) rfl (Nat.le_of_ble_eq_true rfl) ?_
  intro p e s m below meth c ls hx hb hr hml hts hown hlk hnm hC hH hl
  have hl : lv_has ls 5 [(0, .ref (k (5 + 8 * i))), (1, .int x), (2, .int hd), (3, .int ff)] := hl
  have hj := hI.2.2.2.2.1
  have hn24 := hI.2.2.2.2.2.2.1
  have hT3 := hI.2.2.2.2.2.2.2.1
  have hz32 := hI.2.2.2.2.2.2.2.2
  have nIn : (nI n).toInt = (n : Int) := nI_toInt (by omega)
  have hfr : frC k rho f rho f := frC.rf
  have hn0_ := hst.2
  refine lv_aload_n hx hb dX3_get_0 rfl (lv_at hl 0 rfl) ?_
  refine lv_iload_n hx hb dX3_get_1 rfl (lv_at hl 2 rfl) ?_
  refine lv_iload_n hx hb dX3_get_2 rfl (lv_at hl 3 rfl) ?_
  refine lv_iconst (v := 1) hx hb dX3_get_3 (by decide) ?_
  obtain ⟨lb_4, dn_4, gf_4, th_4, ta_4, sr_4, nx_4, F_4, s1_4, s2_4⟩ : okRun k st i (f (k (5 + 8 * i))) := hI.run (i := i) (c := 0) hi (by decide)
  have s3_4 := s2_4 hst.1
  subst s3_4
  refine m_goi hH (va_runV (As := [.int hd, .int ff, .int 1]) (rest := []) ⟨hx, hb, hml, hown, hts⟩ (c_X3_ask l G k rho n T z st f hI i hi hst hd ff 1 (by omega)) (cwV 3 hts gX3_get_X3_ask rfl rfl rfl (by decide +kernel) ⟨Nat.le_of_ble_eq_true rfl, Nat.le_of_ble_eq_true rfl⟩) (m_preV (ci := 3) hC hH F_4 rfl) rfl rfl hl.1 rfl (lv_room (Nat.le_of_ble_eq_true rfl)) dX3_get_4 ⟨by show _ ≤ 3 * ndh k i f hd.toNatClampNeg; omega, by show _ ≤ 29 * ndh k i f hd.toNatClampNeg; omega⟩) (fun r_1 rho_3 f_2 H locs hw hH => ?_)
  obtain ⟨hI, hfr1, hasp4_, hr_1⟩ := hw
  have hI : IC G k rho_3 n T z st f_2 := hI
  have hfr1 : frC k rho f rho_3 f_2 := hfr1
  have hfr := hfr.trans hfr1
  have hasp4_ : aspP k i hd.toNatClampNeg f f_2 := hasp4_
  try dsimp only at hr_1
  have hpt : nul (cpF k i f_2) 24 + ndh k i f hd.toNatClampNeg = nul (cpF k i f) 24 := hasp4_.1
  refine lv_istore (lv' := [(4, .int r_1), (0, .ref (k (5 + 8 * i))), (1, .int x), (2, .int hd), (3, .int ff)]) hx hb dX3_get_7 hl (by decide) rfl (fun ls hl => ?_)
  refine lv_iload hx hb dX3_get_9 (lv_at hl 0 rfl) ?_
  refine lv_if_eq (tgt := 19) hx hb dX3_get_11 (by decide) (fun c_5 => ?_) (fun c_5 => ?_)
  · skip
    have ic_5 : (r_1.toInt : Int) = 0 := ic_eq rfl kI_0 c_5
    obtain ⟨o4_, hask4_, a1_, a2_, hs4_⟩ := hr_1.resolve_left (fun q => by omega)
    refine lv_aload_n hx hb dX3_get_19 rfl (lv_at hl 1 rfl) ?_
    refine lv_iload_n hx hb dX3_get_20 rfl (lv_at hl 2 rfl) ?_
    refine lv_aload_n hx hb dX3_get_21 rfl (lv_at hl 1 rfl) ?_
    refine lv_iload_n hx hb dX3_get_22 rfl (lv_at hl 3 rfl) ?_
    refine lv_iload_n hx hb dX3_get_23 rfl (lv_at hl 4 rfl) ?_
    obtain ⟨lb_9, dn_9, gf_9, th_9, ta_9, sr_9, nx_9, F_9, s1_9, s2_9⟩ : okRun k st i (f_2 (k (5 + 8 * i))) := hI.run (i := i) (c := 0) hi (by decide)
    have s3_9 := s2_9 hst.1
    subst s3_9
    refine m_goq hH (va_runV (As := [.int hd, .int ff]) (rest := [.int x, .ref (k (5 + 8 * i))]) ⟨hx, hb, hml, hown, hts⟩ (c_X3_read l G k rho_3 n T z st f_2 hI i hi hst hd ff (by omega) (by omega) o4_ hask4_) (cwV 2 hts gX3_get_X3_read rfl rfl rfl (by decide +kernel) ⟨Nat.le_of_ble_eq_true rfl, Nat.le_of_ble_eq_true rfl⟩) (m_preV (ci := 3) hC hH F_9 rfl) rfl rfl hl.1 rfl (lv_room (Nat.le_of_ble_eq_true rfl)) dX3_get_24 ⟨by show _ ≤ 3 * ndh k i f hd.toNatClampNeg; omega, by show _ ≤ 29 * ndh k i f hd.toNatClampNeg; omega⟩) (fun r_6 rho_8 f_7 H locs hw hH => ?_)
    obtain ⟨hu, hI, hfr1, hkt, b24_, h1_, h2_24, h3_24⟩ := hw
    have hI : IC G k rho_3 n T z st f_7 := hI
    have hfr1 : frC k rho_3 f_2 rho_3 f_7 := hfr1
    have hfr := hfr.trans hfr1
    have hkt : kpT k i f_2 f_7 := hkt
    have h2_24 : rho_3 b24_ = (1, T o4_) := h2_24
    rw [h1_]
    have hpt : nul (cpF k i f_7) 24 + ndh k i f hd.toNatClampNeg = nul (cpF k i f) 24 := by rw [cpF_c (hkt 5 (by decide) (by decide))]; exact hpt
    obtain ⟨ca_10, ia_10, si_10, bf_10, F_10, hca_10, hia_10, hbf_10⟩ : okB rho_3 (T o4_) b24_ (f_7 b24_) := hI.pool h2_24
    have tI_10 : (nI (T o4_)).toInt = (T o4_ : Int) := nI_toInt (by have := hT3 o4_; omega)
    refine m_get (ci := 2) (v := .ref ca_10) (C := RX2) (T := TX2) (N := 5) hx hb hC hH hts in_X3_get_X2 hown F_10 rfl 1 (by decide) (hts (.fieldLink RX3 184 "LazyState$Body" "cells" "[J") (by decide +kernel)) rfl dX3_get_27 ?_
    refine lv_iload_n hx hb dX3_get_30 rfl (lv_at hl 4 rfl) ?_
    obtain ⟨g_11, hg_11, hp_11⟩ : okJ G 8 (pCl n (T o4_)) (f_7 ca_10) := hI.pool hca_10
    refine m_lald hx hb hC hH hg_11 (vp_in_iff.mpr ⟨by omega, by omega⟩) dX3_get_31 ?_
    refine lv_topl (fun y_12 ey_12 => ?_)
    obtain ⟨lb_16, dn_16, gf_16, th_16, ta_16, sr_16, nx_16, F_16, s1_16, s2_16⟩ : okRun k st i (f_7 (k (5 + 8 * i))) := hI.run (i := i) (c := 0) hi (by decide)
    have s3_16 := s2_16 hst.1
    subst s3_16
    refine m_goi hH (va_runV (As := [.int x, .long y_12]) (rest := []) ⟨hx, hb, hml, hown, hts⟩ (c_X3_setValue l G k rho_3 n T z st f_7 hI i hi hst x y_12 (by omega)) (cwV 2 hts gX3_get_X3_setValue rfl rfl rfl (by decide +kernel) ⟨Nat.le_of_ble_eq_true rfl, Nat.le_of_ble_eq_true rfl⟩) (m_preV (ci := 3) hC hH F_16 rfl) rfl rfl hl.1 rfl (lv_room (Nat.le_of_ble_eq_true rfl)) dX3_get_32 ⟨by show _ ≤ 3 * ndh k i f hd.toNatClampNeg; omega, by show _ ≤ 29 * ndh k i f hd.toNatClampNeg; omega⟩) (fun r_13 rho_15 f_14 H locs hw hH => ?_)
    obtain ⟨hu, hI, hfr1, hkc1, hr_13⟩ := hw
    have hI : IC G k rho_3 n T z st f_14 := hI
    have hfr1 : frC k rho_3 f_7 rho_3 f_14 := hfr1
    have hfr := hfr.trans hfr1
    try dsimp only at hr_13
    have hpt : nul (cpF k i f_14) 24 + ndh k i f hd.toNatClampNeg = nul (cpF k i f) 24 := by rw [cpF_c hkc1]; exact hpt
    exact m_iret (v := r_13) hx hb hr hlk hC hH rho_3 ⟨hI, hfr, hpt⟩ (by omega) (by omega) dX3_get_35
  · skip
    have ic_5 : (r_1.toInt : Int) ≠ 0 := ic_ne rfl kI_0 c_5
    refine lv_iload hx hb dX3_get_14 (lv_at hl 0 rfl) ?_
    refine lv_goto (tgt := 35) hx hb dX3_get_16 (by decide) ?_
    exact m_iret (v := r_1) hx hb hr hlk hC hH rho_3 ⟨hI, hfr, hpt⟩ (by omega) (by omega) dX3_get_35
set_option maxHeartbeats 4000000 in
set_option maxRecDepth 100000 in
theorem c_X3_follow (l : Launch) (G : mG) (k : Nat → Nat) (rho : tR) (n : Nat) (T z : Nat → Nat) (st : Nat → Bool) (f : mF) (hI : IC G k rho n T z st f) (i : Nat) (hi : i < 3) (hst : st i = true ∧ 0 < n) (x hd ff : Int32) (hx4 : 0 ≤ x.toInt ∧ x.toInt < 4) (hh4 : 0 ≤ hd.toInt ∧ hd.toInt < 4) : Met l yX3_follow wsX3_follow ({ frames := 4, cells := 3 * ndh k i f hd.toNatClampNeg, slots := 29 * ndh k i f hd.toNatClampNeg, locals := 127 }) (va_Pc [.ref (k (5 + 8 * i)), .int x, .int hd, .int ff] (mW G f)) (va_Qi (fun (r : Int32) (u : mS) => IC G k u.1 n T z st u.2 ∧ frC k rho f u.1 u.2 ∧ nul (cpF k i u.2) 24 + ndh k i f hd.toNatClampNeg = nul (cpF k i f) 24) (fun (u : mS) t => mW G u.2 t) (mA G)) (3 * ndh k i f hd.toNatClampNeg) (29 * ndh k i f hd.toNatClampNeg) (mA G) := by
  refine mMet [.ref (k (5 + 8 * i)), .int x, .int hd, .int ff] (cc := cX3_follow) (maxL := 5) (ret := (some .int)) (by decide) rfl (Nat.le_of_ble_eq_true rfl) ?_
  intro p e s m below meth c ls hx hb hr hml hts hown hlk hnm hC hH hl
  have hl : lv_has ls 5 [(0, .ref (k (5 + 8 * i))), (1, .int x), (2, .int hd), (3, .int ff)] := hl
  have hj := hI.2.2.2.2.1
  have hn24 := hI.2.2.2.2.2.2.1
  have hT3 := hI.2.2.2.2.2.2.2.1
  have hz32 := hI.2.2.2.2.2.2.2.2
  have nIn : (nI n).toInt = (n : Int) := nI_toInt (by omega)
  have hfr : frC k rho f rho f := frC.rf
  have hn0_ := hst.2
  refine lv_aload_n hx hb dX3_follow_0 rfl (lv_at hl 0 rfl) ?_
  refine lv_iload_n hx hb dX3_follow_1 rfl (lv_at hl 2 rfl) ?_
  refine lv_iload_n hx hb dX3_follow_2 rfl (lv_at hl 3 rfl) ?_
  refine lv_iconst (v := 2) hx hb dX3_follow_3 (by decide) ?_
  obtain ⟨lb_4, dn_4, gf_4, th_4, ta_4, sr_4, nx_4, F_4, s1_4, s2_4⟩ : okRun k st i (f (k (5 + 8 * i))) := hI.run (i := i) (c := 0) hi (by decide)
  have s3_4 := s2_4 hst.1
  subst s3_4
  refine m_goi hH (va_runV (As := [.int hd, .int ff, .int 2]) (rest := []) ⟨hx, hb, hml, hown, hts⟩ (c_X3_ask l G k rho n T z st f hI i hi hst hd ff 2 (by omega)) (cwV 3 hts gX3_follow_X3_ask rfl rfl rfl (by decide +kernel) ⟨Nat.le_of_ble_eq_true rfl, Nat.le_of_ble_eq_true rfl⟩) (m_preV (ci := 3) hC hH F_4 rfl) rfl rfl hl.1 rfl (lv_room (Nat.le_of_ble_eq_true rfl)) dX3_follow_4 ⟨by show _ ≤ 3 * ndh k i f hd.toNatClampNeg; omega, by show _ ≤ 29 * ndh k i f hd.toNatClampNeg; omega⟩) (fun r_1 rho_3 f_2 H locs hw hH => ?_)
  obtain ⟨hI, hfr1, hasp4_, hr_1⟩ := hw
  have hI : IC G k rho_3 n T z st f_2 := hI
  have hfr1 : frC k rho f rho_3 f_2 := hfr1
  have hfr := hfr.trans hfr1
  have hasp4_ : aspP k i hd.toNatClampNeg f f_2 := hasp4_
  try dsimp only at hr_1
  have hpt : nul (cpF k i f_2) 24 + ndh k i f hd.toNatClampNeg = nul (cpF k i f) 24 := hasp4_.1
  refine lv_istore (lv' := [(4, .int r_1), (0, .ref (k (5 + 8 * i))), (1, .int x), (2, .int hd), (3, .int ff)]) hx hb dX3_follow_7 hl (by decide) rfl (fun ls hl => ?_)
  refine lv_iload hx hb dX3_follow_9 (lv_at hl 0 rfl) ?_
  refine lv_if_ne (tgt := 32) hx hb dX3_follow_11 (by decide) (fun c_5 => ?_) (fun c_5 => ?_)
  · skip
    have ic_5 : (r_1.toInt : Int) ≠ 0 := ic_ne rfl kI_0 c_5
    refine lv_iload hx hb dX3_follow_32 (lv_at hl 0 rfl) ?_
    exact m_iret (v := r_1) hx hb hr hlk hC hH rho_3 ⟨hI, hfr, hpt⟩ (by omega) (by omega) dX3_follow_34
  · skip
    have ic_5 : (r_1.toInt : Int) = 0 := ic_eq rfl kI_0 c_5
    obtain ⟨o4_, hask4_, a1_, a2_, hs4_⟩ := hr_1.resolve_left (fun q => by omega)
    refine lv_aload_n hx hb dX3_follow_14 rfl (lv_at hl 1 rfl) ?_
    obtain ⟨lb_6, dn_6, gf_6, th_6, ta_6, sr_6, nx_6, F_6, s1_6, s2_6⟩ : okRun k st i (f_2 (k (5 + 8 * i))) := hI.run (i := i) (c := 0) hi (by decide)
    have s3_6 := s2_6 hst.1
    subst s3_6
    refine m_get (ci := 3) (v := .ref (k (5 + 8 * i + 6))) (C := RX3) (T := TX3) (N := 11) hx hb hC hH hts in_X3_follow_X3 hown F_6 rfl 8 (by decide) (hts (.fieldLink RX3 28 "LazyState$Run" "handles" "[I") (by decide +kernel)) rfl dX3_follow_15 ?_
    refine lv_iload_n hx hb dX3_follow_18 rfl (lv_at hl 2 rfl) ?_
    refine lv_aload_n hx hb dX3_follow_19 rfl (lv_at hl 1 rfl) ?_
    refine lv_iload_n hx hb dX3_follow_20 rfl (lv_at hl 3 rfl) ?_
    refine lv_iload_n hx hb dX3_follow_21 rfl (lv_at hl 4 rfl) ?_
    refine m_goq hH (va_runV (As := [.int hd, .int ff]) (rest := [.int x, .ref (k (5 + 8 * i + 6))]) ⟨hx, hb, hml, hown, hts⟩ (c_X3_read l G k rho_3 n T z st f_2 hI i hi hst hd ff (by omega) (by omega) o4_ hask4_) (cwV 2 hts gX3_follow_X3_read rfl rfl rfl (by decide +kernel) ⟨Nat.le_of_ble_eq_true rfl, Nat.le_of_ble_eq_true rfl⟩) (m_preV (ci := 3) hC hH F_6 rfl) rfl rfl hl.1 rfl (lv_room (Nat.le_of_ble_eq_true rfl)) dX3_follow_22 ⟨by show _ ≤ 3 * ndh k i f hd.toNatClampNeg; omega, by show _ ≤ 29 * ndh k i f hd.toNatClampNeg; omega⟩) (fun r_7 rho_9 f_8 H locs hw hH => ?_)
    obtain ⟨hu, hI, hfr1, hkt, b22_, h1_, h2_22, h3_22⟩ := hw
    have hI : IC G k rho_3 n T z st f_8 := hI
    have hfr1 : frC k rho_3 f_2 rho_3 f_8 := hfr1
    have hfr := hfr.trans hfr1
    have hkt : kpT k i f_2 f_8 := hkt
    have h2_22 : rho_3 b22_ = (1, T o4_) := h2_22
    rw [h1_]
    have hpt : nul (cpF k i f_8) 24 + ndh k i f hd.toNatClampNeg = nul (cpF k i f) 24 := by rw [cpF_c (hkt 5 (by decide) (by decide))]; exact hpt
    obtain ⟨ca_10, ia_10, si_10, bf_10, F_10, hca_10, hia_10, hbf_10⟩ : okB rho_3 (T o4_) b22_ (f_8 b22_) := hI.pool h2_22
    have tI_10 : (nI (T o4_)).toInt = (T o4_ : Int) := nI_toInt (by have := hT3 o4_; omega)
    refine m_get (ci := 2) (v := .ref ca_10) (C := RX2) (T := TX2) (N := 5) hx hb hC hH hts in_X3_follow_X2 hown F_10 rfl 1 (by decide) (hts (.fieldLink RX3 184 "LazyState$Body" "cells" "[J") (by decide +kernel)) rfl dX3_follow_25 ?_
    refine lv_iload_n hx hb dX3_follow_28 rfl (lv_at hl 4 rfl) ?_
    obtain ⟨g_11, hg_11, hp_11⟩ : okJ G 8 (pCl n (T o4_)) (f_8 ca_10) := hI.pool hca_10
    refine m_lald hx hb hC hH hg_11 (vp_in_iff.mpr ⟨by omega, by omega⟩) dX3_follow_29 ?_
    refine lv_topl (fun y_12 ey_12 => ?_)
    have cy_12 := hp_11 (ff.toNatClampNeg) (ic_cl rfl (by omega) (by omega))
    rw [← ey_12] at cy_12
    have cl_ := cy_12.1 hs4_
    refine lv_l2i hx hb dX3_follow_30 rfl ?_
    refine lv_topi (fun x_13 ex_13 => ?_)
    have ix_13 : x_13.toInt = y_12.toInt := ic_l2i ex_13 rfl (by omega) (by omega)
    obtain ⟨g_14, hg_14, hp_14⟩ : okI G 0 4 (pHa n) (f_8 (k (5 + 8 * i + 6))) := hI.run (i := i) (c := 6) hi (by decide)
    refine m_iast hx hb hC hH hg_14 (vp_in_iff.mpr ⟨by omega, by omega⟩) dX3_follow_31 (fun H locs hH => ?_)
    obtain ⟨f_15, ef_15⟩ : ∃ zz_ : mF, zz_ = va_up f_8 (k (5 + 8 * i + 6)) (some (.inl (gk G 0, 4, .inl (upd g_14 x.toNatClampNeg x_13)))) := ⟨_, rfl⟩
    rw [← ef_15] at hH
    have hpt : nul (cpF k i f_15) 24 + ndh k i f hd.toNatClampNeg = nul (cpF k i f) 24 := by rw [cpF_c (upn ef_15 (neC hj (i := (5 + 8 * i + 5)) (j := (5 + 8 * i + 6)) (by omega) (by omega) (by omega)))]; exact hpt
    have F_16 := upk F_10 ef_15 (hI.nk (j := (5 + 8 * i + 6)) (by omega) (by rw [h2_22]; simp))
    have hI : IC G k rho_3 n T z st f_15 := hI.set (j := (5 + 8 * i + 6)) (by omega) ef_15 (fun i_ hi_ => by omega) (by rw [okC_R hi (by decide)]; exact ⟨_, rfl, upd_all (P := fun x : Int32 => x.toInt = -3 ∨ (0 ≤ x.toInt ∧ (x.toInt < n ∨ (n = 0 ∧ x.toInt = 0)))) hp_14 (by omega)⟩)
    have hfr := hfr.upK (j := (5 + 8 * i + 6)) (by omega) ef_15
    refine lv_iload hx hb dX3_follow_32 (lv_at hl 0 rfl) ?_
    exact m_iret (v := r_1) hx hb hr hlk hC hH rho_3 ⟨hI, hfr, hpt⟩ (by omega) (by omega) dX3_follow_34
set_option maxHeartbeats 4000000 in
set_option maxRecDepth 100000 in
theorem c_X3_put (l : Launch) (G : mG) (k : Nat → Nat) (rho : tR) (n : Nat) (T z : Nat → Nat) (st : Nat → Bool) (f : mF) (hI : IC G k rho n T z st f) (i : Nat) (hi : i < 3) (hst : st i = true ∧ 0 < n) (hd ff sr : Int32) (v : Int64) (hh4 : 0 ≤ hd.toInt ∧ hd.toInt < 4) (hv : sr = 1 ∨ (sr = 2 ∧ (v.toInt = -3 ∨ (0 ≤ v.toInt ∧ v.toInt < n)))) : Met l yX3_put wsX3_put ({ frames := 4, cells := 3 * ndh k i f hd.toNatClampNeg, slots := 29 * ndh k i f hd.toNatClampNeg, locals := 127 }) (va_Pc [.ref (k (5 + 8 * i)), .int hd, .int ff, .int sr, .long v] (mW G f)) (va_Qi (fun (r : Int32) (u : mS) => IC G k u.1 n T z st u.2 ∧ frC k rho f u.1 u.2 ∧ nul (cpF k i u.2) 24 + ndh k i f hd.toNatClampNeg = nul (cpF k i f) 24) (fun (u : mS) t => mW G u.2 t) (mA G)) (3 * ndh k i f hd.toNatClampNeg) (29 * ndh k i f hd.toNatClampNeg) (mA G) := by
  refine mMet [.ref (k (5 + 8 * i)), .int hd, .int ff, .int sr, .long v] (cc := cX3_put) (maxL := 7) (ret := (some .int)) (by decide) rfl (Nat.le_of_ble_eq_true rfl) ?_
  intro p e s m below meth c ls hx hb hr hml hts hown hlk hnm hC hH hl
  have hl : lv_has ls 7 [(0, .ref (k (5 + 8 * i))), (1, .int hd), (2, .int ff), (3, .int sr), (4, .long v)] := hl
  have hj := hI.2.2.2.2.1
  have hn24 := hI.2.2.2.2.2.2.1
  have hT3 := hI.2.2.2.2.2.2.2.1
  have hz32 := hI.2.2.2.2.2.2.2.2
  have nIn : (nI n).toInt = (n : Int) := nI_toInt (by omega)
  have hfr : frC k rho f rho f := frC.rf
  have hn0_ := hst.2
  refine lv_aload_n hx hb dX3_put_0 rfl (lv_at hl 0 rfl) ?_
  refine lv_iload_n hx hb dX3_put_1 rfl (lv_at hl 1 rfl) ?_
  refine lv_iload_n hx hb dX3_put_2 rfl (lv_at hl 2 rfl) ?_
  refine lv_iload_n hx hb dX3_put_3 rfl (lv_at hl 3 rfl) ?_
  obtain ⟨lb_4, dn_4, gf_4, th_4, ta_4, sr_4, nx_4, F_4, s1_4, s2_4⟩ : okRun k st i (f (k (5 + 8 * i))) := hI.run (i := i) (c := 0) hi (by decide)
  have s3_4 := s2_4 hst.1
  subst s3_4
  refine m_goi hH (va_runV (As := [.int hd, .int ff, .int sr]) (rest := []) ⟨hx, hb, hml, hown, hts⟩ (c_X3_ask l G k rho n T z st f hI i hi hst hd ff sr (by omega)) (cwV 3 hts gX3_put_X3_ask rfl rfl rfl (by decide +kernel) ⟨Nat.le_of_ble_eq_true rfl, Nat.le_of_ble_eq_true rfl⟩) (m_preV (ci := 3) hC hH F_4 rfl) rfl rfl hl.1 rfl (lv_room (Nat.le_of_ble_eq_true rfl)) dX3_put_4 ⟨by show _ ≤ 3 * ndh k i f hd.toNatClampNeg; omega, by show _ ≤ 29 * ndh k i f hd.toNatClampNeg; omega⟩) (fun r_1 rho_3 f_2 H locs hw hH => ?_)
  obtain ⟨hI, hfr1, hasp4_, hr_1⟩ := hw
  have hI : IC G k rho_3 n T z st f_2 := hI
  have hfr1 : frC k rho f rho_3 f_2 := hfr1
  have hfr := hfr.trans hfr1
  have hasp4_ : aspP k i hd.toNatClampNeg f f_2 := hasp4_
  try dsimp only at hr_1
  have hpt : nul (cpF k i f_2) 24 + ndh k i f hd.toNatClampNeg = nul (cpF k i f) 24 := hasp4_.1
  refine lv_istore (lv' := [(6, .int r_1), (0, .ref (k (5 + 8 * i))), (1, .int hd), (2, .int ff), (3, .int sr), (4, .long v)]) hx hb dX3_put_7 hl (by decide) rfl (fun ls hl => ?_)
  refine lv_iload hx hb dX3_put_9 (lv_at hl 0 rfl) ?_
  refine lv_if_ne (tgt := 27) hx hb dX3_put_11 (by decide) (fun c_5 => ?_) (fun c_5 => ?_)
  · skip
    have ic_5 : (r_1.toInt : Int) ≠ 0 := ic_ne rfl kI_0 c_5
    refine lv_iload hx hb dX3_put_27 (lv_at hl 0 rfl) ?_
    exact m_iret (v := r_1) hx hb hr hlk hC hH rho_3 ⟨hI, hfr, hpt⟩ (by omega) (by omega) dX3_put_29
  · skip
    have ic_5 : (r_1.toInt : Int) = 0 := ic_eq rfl kI_0 c_5
    obtain ⟨o4_, hask4_, a1_, a2_, hs4_⟩ := hr_1.resolve_left (fun q => by omega)
    refine lv_aload_n hx hb dX3_put_14 rfl (lv_at hl 1 rfl) ?_
    refine lv_iload_n hx hb dX3_put_15 rfl (lv_at hl 2 rfl) ?_
    refine lv_iload_n hx hb dX3_put_16 rfl (lv_at hl 3 rfl) ?_
    obtain ⟨lb_9, dn_9, gf_9, th_9, ta_9, sr_9, nx_9, F_9, s1_9, s2_9⟩ : okRun k st i (f_2 (k (5 + 8 * i))) := hI.run (i := i) (c := 0) hi (by decide)
    have s3_9 := s2_9 hst.1
    subst s3_9
    refine m_goq hH (va_runV (As := [.int hd, .int ff]) (rest := []) ⟨hx, hb, hml, hown, hts⟩ (c_X3_change l G k rho_3 n T z st f_2 hI i hi hst hd ff (by omega) (by omega) o4_ hask4_) (cwV 2 hts gX3_put_X3_change rfl rfl rfl (by decide +kernel) ⟨Nat.le_of_ble_eq_true rfl, Nat.le_of_ble_eq_true rfl⟩) (m_preV (ci := 3) hC hH F_9 rfl) rfl rfl hl.1 rfl (lv_room (Nat.le_of_ble_eq_true rfl)) dX3_put_17 ⟨by show _ ≤ 3 * ndh k i f hd.toNatClampNeg; omega, by show _ ≤ 29 * ndh k i f hd.toNatClampNeg; omega⟩) (fun r_6 rho_8 f_7 H locs hw hH => ?_)
    obtain ⟨hu, hI, hfr1, hkt, b17_, h1_, h2_17, h3_17⟩ := hw
    have hI : IC G k rho_3 n T z st f_7 := hI
    have hfr1 : frC k rho_3 f_2 rho_3 f_7 := hfr1
    have hfr := hfr.trans hfr1
    have hkt : kpT k i f_2 f_7 := hkt
    have h2_17 : rho_3 b17_ = (1, T o4_) := h2_17
    rw [h1_]
    have hpt : nul (cpF k i f_7) 24 + ndh k i f hd.toNatClampNeg = nul (cpF k i f) 24 := by rw [cpF_c (hkt 5 (by decide) (by decide))]; exact hpt
    obtain ⟨ca_10, ia_10, si_10, bf_10, F_10, hca_10, hia_10, hbf_10⟩ : okB rho_3 (T o4_) b17_ (f_7 b17_) := hI.pool h2_17
    have tI_10 : (nI (T o4_)).toInt = (T o4_ : Int) := nI_toInt (by have := hT3 o4_; omega)
    refine m_get (ci := 2) (v := .ref ca_10) (C := RX2) (T := TX2) (N := 5) hx hb hC hH hts in_X3_put_X2 hown F_10 rfl 1 (by decide) (hts (.fieldLink RX3 184 "LazyState$Body" "cells" "[J") (by decide +kernel)) rfl dX3_put_20 ?_
    refine lv_iload_n hx hb dX3_put_23 rfl (lv_at hl 3 rfl) ?_
    refine lv_lload hx hb dX3_put_24 (lv_at hl 5 rfl) ?_
    obtain ⟨g_11, hg_11, hp_11⟩ : okJ G 8 (pCl n (T o4_)) (f_7 ca_10) := hI.pool hca_10
    refine m_last hx hb hC hH hg_11 (vp_in_iff.mpr ⟨by omega, by omega⟩) dX3_put_26 (fun H locs hH => ?_)
    obtain ⟨f_12, ef_12⟩ : ∃ zz_ : mF, zz_ = va_up f_7 ca_10 (some (.inl (gk G 1, 8, .inr (.inl (vp_updL g_11 ff.toNatClampNeg v))))) := ⟨_, rfl⟩
    rw [← ef_12] at hH
    have hpt : nul (cpF k i f_12) 24 + ndh k i f hd.toNatClampNeg = nul (cpF k i f) 24 := by rw [cpF_c (upn ef_12 (Ne.symm (hI.nk (j := (5 + 8 * i + 5)) (by omega) (by rw [hca_10]; simp))))]; exact hpt
    have F_13 := upk F_10 ef_12 (ne_rho h2_17 hca_10 (by simp))
    have hI : IC G k rho_3 n T z st f_12 := hI.setP hca_10 (by simp) ef_12 (show okJ G 8 (pCl n _) _ from ⟨_, rfl, pCl_put hp_11 (fun q => (hv.resolve_left (fun z_ => by rw [z_] at hs4_; rw [hs4_] at q; exact absurd q (by decide))).2) (fun q => by rw [hs4_] at q; exact (hv.elim (fun z_ => absurd (z_.symm.trans q) (by decide)) (fun z_ => absurd (z_.1.symm.trans q) (by decide))))⟩)
    have hfr := hfr.upP (by rw [hca_10]; simp) ef_12
    refine lv_iload hx hb dX3_put_27 (lv_at hl 0 rfl) ?_
    exact m_iret (v := r_1) hx hb hr hlk hC hH rho_3 ⟨hI, hfr, hpt⟩ (by omega) (by omega) dX3_put_29
set_option maxHeartbeats 4000000 in
set_option maxRecDepth 100000 in
theorem c_X3_getItem (l : Launch) (G : mG) (k : Nat → Nat) (rho : tR) (n : Nat) (T z : Nat → Nat) (st : Nat → Bool) (f : mF) (hI : IC G k rho n T z st f) (i : Nat) (hi : i < 3) (hst : st i = true ∧ 0 < n) (x hd ff y : Int32) (hx4 : 0 ≤ x.toInt ∧ x.toInt < 4) (hh4 : 0 ≤ hd.toInt ∧ hd.toInt < 4) (hy4 : 0 ≤ y.toInt ∧ y.toInt < 4) : Met l yX3_getItem wsX3_getItem ({ frames := 4, cells := 3 * ndh k i f hd.toNatClampNeg, slots := 29 * ndh k i f hd.toNatClampNeg, locals := 127 }) (va_Pc [.ref (k (5 + 8 * i)), .int x, .int hd, .int ff, .int y] (mW G f)) (va_Qi (fun (r : Int32) (u : mS) => IC G k u.1 n T z st u.2 ∧ frC k rho f u.1 u.2 ∧ nul (cpF k i u.2) 24 + ndh k i f hd.toNatClampNeg = nul (cpF k i f) 24) (fun (u : mS) t => mW G u.2 t) (mA G)) (3 * ndh k i f hd.toNatClampNeg) (29 * ndh k i f hd.toNatClampNeg) (mA G) := by
  refine mMet [.ref (k (5 + 8 * i)), .int x, .int hd, .int ff, .int y] (cc := cX3_getItem) (maxL := 7) (ret := (some .int)) (by decide) rfl (Nat.le_of_ble_eq_true rfl) ?_
  intro p e s m below meth c ls hx hb hr hml hts hown hlk hnm hC hH hl
  have hl : lv_has ls 7 [(0, .ref (k (5 + 8 * i))), (1, .int x), (2, .int hd), (3, .int ff), (4, .int y)] := hl
  have hj := hI.2.2.2.2.1
  have hn24 := hI.2.2.2.2.2.2.1
  have hT3 := hI.2.2.2.2.2.2.2.1
  have hz32 := hI.2.2.2.2.2.2.2.2
  have nIn : (nI n).toInt = (n : Int) := nI_toInt (by omega)
  have hfr : frC k rho f rho f := frC.rf
  have hn0_ := hst.2
  refine lv_aload_n hx hb dX3_getItem_0 rfl (lv_at hl 0 rfl) ?_
  refine lv_iload_n hx hb dX3_getItem_1 rfl (lv_at hl 2 rfl) ?_
  refine lv_iload_n hx hb dX3_getItem_2 rfl (lv_at hl 3 rfl) ?_
  refine lv_iconst (v := 3) hx hb dX3_getItem_3 (by decide) ?_
  obtain ⟨lb_4, dn_4, gf_4, th_4, ta_4, sr_4, nx_4, F_4, s1_4, s2_4⟩ : okRun k st i (f (k (5 + 8 * i))) := hI.run (i := i) (c := 0) hi (by decide)
  have s3_4 := s2_4 hst.1
  subst s3_4
  refine m_goi hH (va_runV (As := [.int hd, .int ff, .int 3]) (rest := []) ⟨hx, hb, hml, hown, hts⟩ (c_X3_ask l G k rho n T z st f hI i hi hst hd ff 3 (by omega)) (cwV 3 hts gX3_getItem_X3_ask rfl rfl rfl (by decide +kernel) ⟨Nat.le_of_ble_eq_true rfl, Nat.le_of_ble_eq_true rfl⟩) (m_preV (ci := 3) hC hH F_4 rfl) rfl rfl hl.1 rfl (lv_room (Nat.le_of_ble_eq_true rfl)) dX3_getItem_4 ⟨by show _ ≤ 3 * ndh k i f hd.toNatClampNeg; omega, by show _ ≤ 29 * ndh k i f hd.toNatClampNeg; omega⟩) (fun r_1 rho_3 f_2 H locs hw hH => ?_)
  obtain ⟨hI, hfr1, hasp4_, hr_1⟩ := hw
  have hI : IC G k rho_3 n T z st f_2 := hI
  have hfr1 : frC k rho f rho_3 f_2 := hfr1
  have hfr := hfr.trans hfr1
  have hasp4_ : aspP k i hd.toNatClampNeg f f_2 := hasp4_
  try dsimp only at hr_1
  have hpt : nul (cpF k i f_2) 24 + ndh k i f hd.toNatClampNeg = nul (cpF k i f) 24 := hasp4_.1
  refine lv_istore (lv' := [(5, .int r_1), (0, .ref (k (5 + 8 * i))), (1, .int x), (2, .int hd), (3, .int ff), (4, .int y)]) hx hb dX3_getItem_7 hl (by decide) rfl (fun ls hl => ?_)
  refine lv_iload hx hb dX3_getItem_9 (lv_at hl 0 rfl) ?_
  refine lv_if_eq (tgt := 17) hx hb dX3_getItem_11 (by decide) (fun c_5 => ?_) (fun c_5 => ?_)
  · skip
    have ic_5 : (r_1.toInt : Int) = 0 := ic_eq rfl kI_0 c_5
    obtain ⟨o4_, hask4_, a1_, a2_, hs4_⟩ := hr_1.resolve_left (fun q => by omega)
    refine lv_aload_n hx hb dX3_getItem_17 rfl (lv_at hl 1 rfl) ?_
    refine lv_iload_n hx hb dX3_getItem_18 rfl (lv_at hl 3 rfl) ?_
    refine lv_iload_n hx hb dX3_getItem_19 rfl (lv_at hl 4 rfl) ?_
    obtain ⟨lb_9, dn_9, gf_9, th_9, ta_9, sr_9, nx_9, F_9, s1_9, s2_9⟩ : okRun k st i (f_2 (k (5 + 8 * i))) := hI.run (i := i) (c := 0) hi (by decide)
    have s3_9 := s2_9 hst.1
    subst s3_9
    refine m_goq hH (va_runV (As := [.int hd, .int ff]) (rest := []) ⟨hx, hb, hml, hown, hts⟩ (c_X3_read l G k rho_3 n T z st f_2 hI i hi hst hd ff (by omega) (by omega) o4_ hask4_) (cwV 2 hts gX3_getItem_X3_read rfl rfl rfl (by decide +kernel) ⟨Nat.le_of_ble_eq_true rfl, Nat.le_of_ble_eq_true rfl⟩) (m_preV (ci := 3) hC hH F_9 rfl) rfl rfl hl.1 rfl (lv_room (Nat.le_of_ble_eq_true rfl)) dX3_getItem_20 ⟨by show _ ≤ 3 * ndh k i f hd.toNatClampNeg; omega, by show _ ≤ 29 * ndh k i f hd.toNatClampNeg; omega⟩) (fun r_6 rho_8 f_7 H locs hw hH => ?_)
    obtain ⟨hu, hI, hfr1, hkt, b20_, h1_, h2_20, h3_20⟩ := hw
    have hI : IC G k rho_3 n T z st f_7 := hI
    have hfr1 : frC k rho_3 f_2 rho_3 f_7 := hfr1
    have hfr := hfr.trans hfr1
    have hkt : kpT k i f_2 f_7 := hkt
    have h2_20 : rho_3 b20_ = (1, T o4_) := h2_20
    rw [h1_]
    have hpt : nul (cpF k i f_7) 24 + ndh k i f hd.toNatClampNeg = nul (cpF k i f) 24 := by rw [cpF_c (hkt 5 (by decide) (by decide))]; exact hpt
    refine lv_astore (lv' := [(6, .ref b20_), (5, .int r_1), (0, .ref (k (5 + 8 * i))), (1, .int x), (2, .int hd), (3, .int ff), (4, .int y)]) hx hb dX3_getItem_23 hl (by decide) rfl (fun ls hl => ?_)
    refine lv_aload hx hb dX3_getItem_25 (lv_at hl 0 rfl) ?_
    refine lv_iload_n hx hb dX3_getItem_27 rfl (lv_at hl 5 rfl) ?_
    refine lv_aload_n hx hb dX3_getItem_28 rfl (lv_at hl 2 rfl) ?_
    obtain ⟨lb_10, dn_10, gf_10, th_10, ta_10, sr_10, nx_10, F_10, s1_10, s2_10⟩ : okRun k st i (f_7 (k (5 + 8 * i))) := hI.run (i := i) (c := 0) hi (by decide)
    have s3_10 := s2_10 hst.1
    subst s3_10
    refine m_get (ci := 3) (v := .ref (k (5 + 8 * i + 7))) (C := RX3) (T := TX3) (N := 11) hx hb hC hH hts in_X3_getItem_X3 hown F_10 rfl 9 (by decide) (hts (.fieldLink RX3 32 "LazyState$Run" "values" "[J") (by decide +kernel)) rfl dX3_getItem_29 ?_
    refine lv_iload hx hb dX3_getItem_32 (lv_at hl 6 rfl) ?_
    obtain ⟨g_11, hg_11, hp_11⟩ : okJ G 4 (fun _ => True) (f_7 (k (5 + 8 * i + 7))) := hI.run (i := i) (c := 7) hi (by decide)
    refine m_lald hx hb hC hH hg_11 (vp_in_iff.mpr ⟨by omega, by omega⟩) dX3_getItem_34 ?_
    refine lv_topl (fun y_12 ey_12 => ?_)
    refine m_goi hH (va_runS (As := [.ref b20_, .int ff, .long y_12]) (rest := []) ⟨hx, hb, hml, hown, hts⟩ (c_X3_itemRefusal l G k rho_3 n T z st f_7 hI b20_ (T o4_) h2_20 (hT3 _) ff y_12 (by omega) hs4_) (va_cwS 3 hts gX3_getItem_X3_itemRefusal rfl rfl rfl (by decide +kernel) ⟨Nat.le_of_ble_eq_true rfl, Nat.le_of_ble_eq_true rfl⟩) (m_preS hC hH) rfl rfl hl.1 rfl (lv_room (Nat.le_of_ble_eq_true rfl)) dX3_getItem_35 ⟨by show _ ≤ 3 * ndh k i f hd.toNatClampNeg; omega, by show _ ≤ 29 * ndh k i f hd.toNatClampNeg; omega⟩) (fun r_13 rho_15 f_14 H locs hw hH => ?_)
    obtain ⟨hu, hr_13⟩ := hw
    have hu : f_14 = f_7 := hu
    rw [hu] at hH
    refine lv_istore (lv' := [(5, .int r_13), (6, .ref b20_), (0, .ref (k (5 + 8 * i))), (1, .int x), (2, .int hd), (3, .int ff), (4, .int y)]) hx hb dX3_getItem_38 hl (by decide) rfl (fun ls hl => ?_)
    refine lv_iload hx hb dX3_getItem_40 (lv_at hl 0 rfl) ?_
    refine lv_if_eq (tgt := 50) hx hb dX3_getItem_42 (by decide) (fun c_16 => ?_) (fun c_16 => ?_)
    · skip
      have ic_16 : (r_13.toInt : Int) = 0 := ic_eq rfl kI_0 c_16
      have rg_ := (hr_13.resolve_left (fun q => by omega)).2
      refine lv_aload_n hx hb dX3_getItem_50 rfl (lv_at hl 2 rfl) ?_
      refine lv_iload_n hx hb dX3_getItem_51 rfl (lv_at hl 3 rfl) ?_
      refine lv_aload hx hb dX3_getItem_52 (lv_at hl 1 rfl) ?_
      obtain ⟨ca_17, ia_17, si_17, bf_17, F_17, hca_17, hia_17, hbf_17⟩ : okB rho_3 (T o4_) b20_ (f_7 b20_) := hI.pool h2_20
      have tI_17 : (nI (T o4_)).toInt = (T o4_ : Int) := nI_toInt (by have := hT3 o4_; omega)
      refine m_get (ci := 2) (v := .ref ia_17) (C := RX2) (T := TX2) (N := 5) hx hb hC hH hts in_X3_getItem_X2 hown F_17 rfl 2 (by decide) (hts (.fieldLink RX3 194 "LazyState$Body" "items" "[I") (by decide +kernel)) rfl dX3_getItem_54 ?_
      refine lv_iload_n hx hb dX3_getItem_57 rfl (lv_at hl 5 rfl) ?_
      refine lv_aload_n hx hb dX3_getItem_58 rfl (lv_at hl 2 rfl) ?_
      refine m_get (ci := 3) (v := .ref (k (5 + 8 * i + 7))) (C := RX3) (T := TX3) (N := 11) hx hb hC hH hts in_X3_getItem_X3 hown F_10 rfl 9 (by decide) (hts (.fieldLink RX3 32 "LazyState$Run" "values" "[J") (by decide +kernel)) rfl dX3_getItem_59 ?_
      refine lv_iload hx hb dX3_getItem_62 (lv_at hl 6 rfl) ?_
      refine m_lald hx hb hC hH hg_11 (vp_in_iff.mpr ⟨by omega, by omega⟩) dX3_getItem_64 ?_
      refine lv_topl (fun y_18 ey_18 => ?_)
      have yy_ : y_18.toInt = y_12.toInt := by rw [ey_18, ey_12]
      refine lv_l2i hx hb dX3_getItem_65 rfl ?_
      refine lv_topi (fun x_19 ex_19 => ?_)
      have ix_19 : x_19.toInt = y_18.toInt := ic_l2i ex_19 rfl (by omega) (by omega)
      refine m_goi hH (va_runS (As := [.int ff, .int x_19]) (rest := [.ref ia_17, .int x, .ref (k (5 + 8 * i))]) ⟨hx, hb, hml, hown, hts⟩ (c_X2_itemPlace l G f_7 ff x_19 (by omega)) (va_cwS 2 hts gX3_getItem_X2_itemPlace rfl rfl rfl (by decide +kernel) ⟨Nat.le_of_ble_eq_true rfl, Nat.le_of_ble_eq_true rfl⟩) (m_preS hC hH) rfl rfl hl.1 rfl (lv_room (Nat.le_of_ble_eq_true rfl)) dX3_getItem_66 ⟨by show _ ≤ 3 * ndh k i f hd.toNatClampNeg; omega, by show _ ≤ 29 * ndh k i f hd.toNatClampNeg; omega⟩) (fun r_20 rho_22 f_21 H locs hw hH => ?_)
      obtain ⟨hu, hr_20⟩ := hw
      have hu : f_21 = f_7 := hu
      rw [hu] at hH
      obtain ⟨g_23, hg_23, hp_23⟩ : okI G 0 16 (fun _ => True) (f_7 ia_17) := hI.pool hia_17
      refine m_iald hx hb hC hH hg_23 (vp_in_iff.mpr ⟨by omega, by omega⟩) dX3_getItem_69 ?_
      refine lv_topi (fun x_24 ex_24 => ?_)
      refine lv_i2l hx hb dX3_getItem_70 rfl ?_
      refine lv_topl (fun y_25 ey_25 => ?_)
      have iy_25 : y_25.toInt = x_24.toInt := lc_i2l ey_25 rfl
      have gy_25 := ic_rng x_24
      refine m_goi hH (va_runV (As := [.int x, .long y_25]) (rest := []) ⟨hx, hb, hml, hown, hts⟩ (c_X3_setValue l G k rho_3 n T z st f_7 hI i hi hst x y_25 (by omega)) (cwV 2 hts gX3_getItem_X3_setValue rfl rfl rfl (by decide +kernel) ⟨Nat.le_of_ble_eq_true rfl, Nat.le_of_ble_eq_true rfl⟩) (m_preV (ci := 3) hC hH F_10 rfl) rfl rfl hl.1 rfl (lv_room (Nat.le_of_ble_eq_true rfl)) dX3_getItem_71 ⟨by show _ ≤ 3 * ndh k i f hd.toNatClampNeg; omega, by show _ ≤ 29 * ndh k i f hd.toNatClampNeg; omega⟩) (fun r_26 rho_28 f_27 H locs hw hH => ?_)
      obtain ⟨hu, hI, hfr1, hkc1, hr_26⟩ := hw
      have hI : IC G k rho_3 n T z st f_27 := hI
      have hfr1 : frC k rho_3 f_7 rho_3 f_27 := hfr1
      have hfr := hfr.trans hfr1
      try dsimp only at hr_26
      have hpt : nul (cpF k i f_27) 24 + ndh k i f hd.toNatClampNeg = nul (cpF k i f) 24 := by rw [cpF_c hkc1]; exact hpt
      exact m_iret (v := r_26) hx hb hr hlk hC hH rho_3 ⟨hI, hfr, hpt⟩ (by omega) (by omega) dX3_getItem_74
    · skip
      have ic_16 : (r_13.toInt : Int) ≠ 0 := ic_ne rfl kI_0 c_16
      refine lv_iload hx hb dX3_getItem_45 (lv_at hl 0 rfl) ?_
      refine lv_goto (tgt := 74) hx hb dX3_getItem_47 (by decide) ?_
      exact m_iret (v := r_13) hx hb hr hlk hC hH rho_3 ⟨hI, hfr, hpt⟩ (by omega) (by omega) dX3_getItem_74
  · skip
    have ic_5 : (r_1.toInt : Int) ≠ 0 := ic_ne rfl kI_0 c_5
    refine lv_iload hx hb dX3_getItem_14 (lv_at hl 0 rfl) ?_
    exact m_iret (v := r_1) hx hb hr hlk hC hH rho_3 ⟨hI, hfr, hpt⟩ (by omega) (by omega) dX3_getItem_16
set_option maxHeartbeats 4000000 in
set_option maxRecDepth 100000 in
theorem c_X3_lay (l : Launch) (G : mG) (k : Nat → Nat) (rho : tR) (n : Nat) (T z : Nat → Nat) (st : Nat → Bool) (f : mF) (hI : IC G k rho n T z st f) (i : Nat) (hi : i < 3) (hst : st i = true ∧ 0 < n) (hd ff y x : Int32) (hh4 : 0 ≤ hd.toInt ∧ hd.toInt < 4) (hy4 : 0 ≤ y.toInt ∧ y.toInt < 4) (hx4 : 0 ≤ x.toInt ∧ x.toInt < 4) : Met l yX3_lay wsX3_lay ({ frames := 4, cells := 3 * ndh k i f hd.toNatClampNeg, slots := 29 * ndh k i f hd.toNatClampNeg, locals := 127 }) (va_Pc [.ref (k (5 + 8 * i)), .int hd, .int ff, .int y, .int x] (mW G f)) (va_Qi (fun (r : Int32) (u : mS) => IC G k u.1 n T z st u.2 ∧ frC k rho f u.1 u.2 ∧ nul (cpF k i u.2) 24 + ndh k i f hd.toNatClampNeg = nul (cpF k i f) 24) (fun (u : mS) t => mW G u.2 t) (mA G)) (3 * ndh k i f hd.toNatClampNeg) (29 * ndh k i f hd.toNatClampNeg) (mA G) := by
  refine mMet [.ref (k (5 + 8 * i)), .int hd, .int ff, .int y, .int x] (cc := cX3_lay) (maxL := 6) (ret := (some .int)) (by decide) rfl (Nat.le_of_ble_eq_true rfl) ?_
  intro p e s m below meth c ls hx hb hr hml hts hown hlk hnm hC hH hl
  have hl : lv_has ls 6 [(0, .ref (k (5 + 8 * i))), (1, .int hd), (2, .int ff), (3, .int y), (4, .int x)] := hl
  have hj := hI.2.2.2.2.1
  have hn24 := hI.2.2.2.2.2.2.1
  have hT3 := hI.2.2.2.2.2.2.2.1
  have hz32 := hI.2.2.2.2.2.2.2.2
  have nIn : (nI n).toInt = (n : Int) := nI_toInt (by omega)
  have hfr : frC k rho f rho f := frC.rf
  have hn0_ := hst.2
  refine lv_aload_n hx hb dX3_lay_0 rfl (lv_at hl 0 rfl) ?_
  refine lv_iload_n hx hb dX3_lay_1 rfl (lv_at hl 1 rfl) ?_
  refine lv_iload_n hx hb dX3_lay_2 rfl (lv_at hl 2 rfl) ?_
  refine lv_iconst (v := 3) hx hb dX3_lay_3 (by decide) ?_
  obtain ⟨lb_4, dn_4, gf_4, th_4, ta_4, sr_4, nx_4, F_4, s1_4, s2_4⟩ : okRun k st i (f (k (5 + 8 * i))) := hI.run (i := i) (c := 0) hi (by decide)
  have s3_4 := s2_4 hst.1
  subst s3_4
  refine m_goi hH (va_runV (As := [.int hd, .int ff, .int 3]) (rest := []) ⟨hx, hb, hml, hown, hts⟩ (c_X3_ask l G k rho n T z st f hI i hi hst hd ff 3 (by omega)) (cwV 3 hts gX3_lay_X3_ask rfl rfl rfl (by decide +kernel) ⟨Nat.le_of_ble_eq_true rfl, Nat.le_of_ble_eq_true rfl⟩) (m_preV (ci := 3) hC hH F_4 rfl) rfl rfl hl.1 rfl (lv_room (Nat.le_of_ble_eq_true rfl)) dX3_lay_4 ⟨by show _ ≤ 3 * ndh k i f hd.toNatClampNeg; omega, by show _ ≤ 29 * ndh k i f hd.toNatClampNeg; omega⟩) (fun r_1 rho_3 f_2 H locs hw hH => ?_)
  obtain ⟨hI, hfr1, hasp4_, hr_1⟩ := hw
  have hI : IC G k rho_3 n T z st f_2 := hI
  have hfr1 : frC k rho f rho_3 f_2 := hfr1
  have hfr := hfr.trans hfr1
  have hasp4_ : aspP k i hd.toNatClampNeg f f_2 := hasp4_
  try dsimp only at hr_1
  have hpt : nul (cpF k i f_2) 24 + ndh k i f hd.toNatClampNeg = nul (cpF k i f) 24 := hasp4_.1
  refine lv_istore (lv' := [(5, .int r_1), (0, .ref (k (5 + 8 * i))), (1, .int hd), (2, .int ff), (3, .int y), (4, .int x)]) hx hb dX3_lay_7 hl (by decide) rfl (fun ls hl => ?_)
  refine lv_iload hx hb dX3_lay_9 (lv_at hl 0 rfl) ?_
  refine lv_if_eq (tgt := 17) hx hb dX3_lay_11 (by decide) (fun c_5 => ?_) (fun c_5 => ?_)
  · skip
    have ic_5 : (r_1.toInt : Int) = 0 := ic_eq rfl kI_0 c_5
    obtain ⟨o4_, hask4_, a1_, a2_, hs4_⟩ := hr_1.resolve_left (fun q => by omega)
    refine lv_aload_n hx hb dX3_lay_17 rfl (lv_at hl 1 rfl) ?_
    refine lv_iload_n hx hb dX3_lay_18 rfl (lv_at hl 2 rfl) ?_
    refine lv_iload_n hx hb dX3_lay_19 rfl (lv_at hl 3 rfl) ?_
    obtain ⟨lb_9, dn_9, gf_9, th_9, ta_9, sr_9, nx_9, F_9, s1_9, s2_9⟩ : okRun k st i (f_2 (k (5 + 8 * i))) := hI.run (i := i) (c := 0) hi (by decide)
    have s3_9 := s2_9 hst.1
    subst s3_9
    refine m_goq hH (va_runV (As := [.int hd, .int ff]) (rest := []) ⟨hx, hb, hml, hown, hts⟩ (c_X3_read l G k rho_3 n T z st f_2 hI i hi hst hd ff (by omega) (by omega) o4_ hask4_) (cwV 2 hts gX3_lay_X3_read rfl rfl rfl (by decide +kernel) ⟨Nat.le_of_ble_eq_true rfl, Nat.le_of_ble_eq_true rfl⟩) (m_preV (ci := 3) hC hH F_9 rfl) rfl rfl hl.1 rfl (lv_room (Nat.le_of_ble_eq_true rfl)) dX3_lay_20 ⟨by show _ ≤ 3 * ndh k i f hd.toNatClampNeg; omega, by show _ ≤ 29 * ndh k i f hd.toNatClampNeg; omega⟩) (fun r_6 rho_8 f_7 H locs hw hH => ?_)
    obtain ⟨hu, hI, hfr1, hkt, b20_, h1_, h2_20, h3_20⟩ := hw
    have hI : IC G k rho_3 n T z st f_7 := hI
    have hfr1 : frC k rho_3 f_2 rho_3 f_7 := hfr1
    have hfr := hfr.trans hfr1
    have hkt : kpT k i f_2 f_7 := hkt
    have h2_20 : rho_3 b20_ = (1, T o4_) := h2_20
    rw [h1_]
    have hask4_ := hask4_.kt hkt
    have hpt : nul (cpF k i f_7) 24 + ndh k i f hd.toNatClampNeg = nul (cpF k i f) 24 := by rw [cpF_c (hkt 5 (by decide) (by decide))]; exact hpt
    refine lv_iload_n hx hb dX3_lay_23 rfl (lv_at hl 3 rfl) ?_
    refine lv_aload_n hx hb dX3_lay_24 rfl (lv_at hl 1 rfl) ?_
    obtain ⟨lb_10, dn_10, gf_10, th_10, ta_10, sr_10, nx_10, F_10, s1_10, s2_10⟩ : okRun k st i (f_7 (k (5 + 8 * i))) := hI.run (i := i) (c := 0) hi (by decide)
    have s3_10 := s2_10 hst.1
    subst s3_10
    refine m_get (ci := 3) (v := .ref (k (5 + 8 * i + 7))) (C := RX3) (T := TX3) (N := 11) hx hb hC hH hts in_X3_lay_X3 hown F_10 rfl 9 (by decide) (hts (.fieldLink RX3 32 "LazyState$Run" "values" "[J") (by decide +kernel)) rfl dX3_lay_25 ?_
    refine lv_iload_n hx hb dX3_lay_28 rfl (lv_at hl 4 rfl) ?_
    obtain ⟨g_11, hg_11, hp_11⟩ : okJ G 4 (fun _ => True) (f_7 (k (5 + 8 * i + 7))) := hI.run (i := i) (c := 7) hi (by decide)
    refine m_lald hx hb hC hH hg_11 (vp_in_iff.mpr ⟨by omega, by omega⟩) dX3_lay_29 ?_
    refine lv_topl (fun y_12 ey_12 => ?_)
    refine m_goi hH (va_runS (As := [.ref b20_, .int ff, .long y_12]) (rest := []) ⟨hx, hb, hml, hown, hts⟩ (c_X3_itemRefusal l G k rho_3 n T z st f_7 hI b20_ (T o4_) h2_20 (hT3 _) ff y_12 (by omega) hs4_) (va_cwS 3 hts gX3_lay_X3_itemRefusal rfl rfl rfl (by decide +kernel) ⟨Nat.le_of_ble_eq_true rfl, Nat.le_of_ble_eq_true rfl⟩) (m_preS hC hH) rfl rfl hl.1 rfl (lv_room (Nat.le_of_ble_eq_true rfl)) dX3_lay_30 ⟨by show _ ≤ 3 * ndh k i f hd.toNatClampNeg; omega, by show _ ≤ 29 * ndh k i f hd.toNatClampNeg; omega⟩) (fun r_13 rho_15 f_14 H locs hw hH => ?_)
    obtain ⟨hu, hr_13⟩ := hw
    have hu : f_14 = f_7 := hu
    rw [hu] at hH
    refine lv_istore (lv' := [(5, .int r_13), (0, .ref (k (5 + 8 * i))), (1, .int hd), (2, .int ff), (3, .int y), (4, .int x)]) hx hb dX3_lay_33 hl (by decide) rfl (fun ls hl => ?_)
    refine lv_iload hx hb dX3_lay_35 (lv_at hl 0 rfl) ?_
    refine lv_if_ne (tgt := 69) hx hb dX3_lay_37 (by decide) (fun c_16 => ?_) (fun c_16 => ?_)
    · skip
      have ic_16 : (r_13.toInt : Int) ≠ 0 := ic_ne rfl kI_0 c_16
      refine lv_iload hx hb dX3_lay_69 (lv_at hl 0 rfl) ?_
      exact m_iret (v := r_13) hx hb hr hlk hC hH rho_3 ⟨hI, hfr, hpt⟩ (by omega) (by omega) dX3_lay_71
    · skip
      have ic_16 : (r_13.toInt : Int) = 0 := ic_eq rfl kI_0 c_16
      have rg_ := (hr_13.resolve_left (fun q => by omega)).2
      refine lv_aload_n hx hb dX3_lay_40 rfl (lv_at hl 1 rfl) ?_
      refine lv_iload_n hx hb dX3_lay_41 rfl (lv_at hl 2 rfl) ?_
      refine lv_iload_n hx hb dX3_lay_42 rfl (lv_at hl 3 rfl) ?_
      refine m_goq hH (va_runV (As := [.int hd, .int ff]) (rest := []) ⟨hx, hb, hml, hown, hts⟩ (c_X3_change l G k rho_3 n T z st f_7 hI i hi hst hd ff (by omega) (by omega) o4_ hask4_) (cwV 2 hts gX3_lay_X3_change rfl rfl rfl (by decide +kernel) ⟨Nat.le_of_ble_eq_true rfl, Nat.le_of_ble_eq_true rfl⟩) (m_preV (ci := 3) hC hH F_10 rfl) rfl rfl hl.1 rfl (lv_room (Nat.le_of_ble_eq_true rfl)) dX3_lay_43 ⟨by show _ ≤ 3 * ndh k i f hd.toNatClampNeg; omega, by show _ ≤ 29 * ndh k i f hd.toNatClampNeg; omega⟩) (fun r_17 rho_19 f_18 H locs hw hH => ?_)
      obtain ⟨hu, hI, hfr1, hkt, b43_, h1_, h2_43, h3_43⟩ := hw
      have hI : IC G k rho_3 n T z st f_18 := hI
      have hfr1 : frC k rho_3 f_7 rho_3 f_18 := hfr1
      have hfr := hfr.trans hfr1
      have hkt : kpT k i f_7 f_18 := hkt
      have h2_43 : rho_3 b43_ = (1, T o4_) := h2_43
      rw [h1_]
      have hask4_ := hask4_.kt hkt
      have h7_43 := (hkt 7 (by decide) (by decide)).trans hg_11
      have hpt : nul (cpF k i f_18) 24 + ndh k i f hd.toNatClampNeg = nul (cpF k i f) 24 := by rw [cpF_c (hkt 5 (by decide) (by decide))]; exact hpt
      obtain ⟨ca_20, ia_20, si_20, bf_20, F_20, hca_20, hia_20, hbf_20⟩ : okB rho_3 (T o4_) b43_ (f_18 b43_) := hI.pool h2_43
      have tI_20 : (nI (T o4_)).toInt = (T o4_ : Int) := nI_toInt (by have := hT3 o4_; omega)
      refine m_get (ci := 2) (v := .ref ia_20) (C := RX2) (T := TX2) (N := 5) hx hb hC hH hts in_X3_lay_X2 hown F_20 rfl 2 (by decide) (hts (.fieldLink RX3 194 "LazyState$Body" "items" "[I") (by decide +kernel)) rfl dX3_lay_46 ?_
      refine lv_iload_n hx hb dX3_lay_49 rfl (lv_at hl 3 rfl) ?_
      refine lv_aload_n hx hb dX3_lay_50 rfl (lv_at hl 1 rfl) ?_
      obtain ⟨lb_21, dn_21, gf_21, th_21, ta_21, sr_21, nx_21, F_21, s1_21, s2_21⟩ : okRun k st i (f_18 (k (5 + 8 * i))) := hI.run (i := i) (c := 0) hi (by decide)
      have s3_21 := s2_21 hst.1
      subst s3_21
      refine m_get (ci := 3) (v := .ref (k (5 + 8 * i + 7))) (C := RX3) (T := TX3) (N := 11) hx hb hC hH hts in_X3_lay_X3 hown F_21 rfl 9 (by decide) (hts (.fieldLink RX3 32 "LazyState$Run" "values" "[J") (by decide +kernel)) rfl dX3_lay_51 ?_
      refine lv_iload_n hx hb dX3_lay_54 rfl (lv_at hl 4 rfl) ?_
      refine m_lald hx hb hC hH h7_43 (vp_in_iff.mpr ⟨by omega, by omega⟩) dX3_lay_55 ?_
      refine lv_topl (fun y_22 ey_22 => ?_)
      have yy_ : y_22.toInt = y_12.toInt := by rw [ey_22, ey_12]
      refine lv_l2i hx hb dX3_lay_56 rfl ?_
      refine lv_topi (fun x_23 ex_23 => ?_)
      have ix_23 : x_23.toInt = y_22.toInt := ic_l2i ex_23 rfl (by omega) (by omega)
      refine m_goi hH (va_runS (As := [.int ff, .int x_23]) (rest := [.ref ia_20]) ⟨hx, hb, hml, hown, hts⟩ (c_X2_itemPlace l G f_18 ff x_23 (by omega)) (va_cwS 2 hts gX3_lay_X2_itemPlace rfl rfl rfl (by decide +kernel) ⟨Nat.le_of_ble_eq_true rfl, Nat.le_of_ble_eq_true rfl⟩) (m_preS hC hH) rfl rfl hl.1 rfl (lv_room (Nat.le_of_ble_eq_true rfl)) dX3_lay_57 ⟨by show _ ≤ 3 * ndh k i f hd.toNatClampNeg; omega, by show _ ≤ 29 * ndh k i f hd.toNatClampNeg; omega⟩) (fun r_24 rho_26 f_25 H locs hw hH => ?_)
      obtain ⟨hu, hr_24⟩ := hw
      have hu : f_25 = f_18 := hu
      rw [hu] at hH
      refine lv_aload_n hx hb dX3_lay_60 rfl (lv_at hl 1 rfl) ?_
      refine m_get (ci := 3) (v := .ref (k (5 + 8 * i + 7))) (C := RX3) (T := TX3) (N := 11) hx hb hC hH hts in_X3_lay_X3 hown F_21 rfl 9 (by decide) (hts (.fieldLink RX3 32 "LazyState$Run" "values" "[J") (by decide +kernel)) rfl dX3_lay_61 ?_
      refine lv_iload hx hb dX3_lay_64 (lv_at hl 5 rfl) ?_
      refine m_lald hx hb hC hH h7_43 (vp_in_iff.mpr ⟨by omega, by omega⟩) dX3_lay_66 ?_
      refine lv_topl (fun y_27 ey_27 => ?_)
      refine lv_l2i hx hb dX3_lay_67 rfl ?_
      refine lv_topi (fun x_28 ex_28 => ?_)
      obtain ⟨g_29, hg_29, hp_29⟩ : okI G 0 16 (fun _ => True) (f_18 ia_20) := hI.pool hia_20
      refine m_iast hx hb hC hH hg_29 (vp_in_iff.mpr ⟨by omega, by omega⟩) dX3_lay_68 (fun H locs hH => ?_)
      obtain ⟨f_30, ef_30⟩ : ∃ zz_ : mF, zz_ = va_up f_18 ia_20 (some (.inl (gk G 0, 16, .inl (upd g_29 r_24.toNatClampNeg x_28)))) := ⟨_, rfl⟩
      rw [← ef_30] at hH
      have hpt : nul (cpF k i f_30) 24 + ndh k i f hd.toNatClampNeg = nul (cpF k i f) 24 := by rw [cpF_c (upn ef_30 (Ne.symm (hI.nk (j := (5 + 8 * i + 5)) (by omega) (by rw [hia_20]; simp))))]; exact hpt
      have F_31 := upk F_20 ef_30 (ne_rho h2_43 hia_20 (by simp))
      have F_32 := upk F_21 ef_30 (Ne.symm (hI.nk (j := (5 + 8 * i + 0)) (by omega) (by rw [hia_20]; simp)))
      have hI : IC G k rho_3 n T z st f_30 := hI.setP hia_20 (by simp) ef_30 (show okI G 0 16 (fun _ => True) _ from ⟨_, rfl, trivial⟩)
      have hfr := hfr.upP (by rw [hia_20]; simp) ef_30
      refine lv_iload hx hb dX3_lay_69 (lv_at hl 0 rfl) ?_
      exact m_iret (v := r_13) hx hb hr hlk hC hH rho_3 ⟨hI, hfr, hpt⟩ (by omega) (by omega) dX3_lay_71
  · skip
    have ic_5 : (r_1.toInt : Int) ≠ 0 := ic_ne rfl kI_0 c_5
    refine lv_iload hx hb dX3_lay_14 (lv_at hl 0 rfl) ?_
    exact m_iret (v := r_1) hx hb hr hlk hC hH rho_3 ⟨hI, hfr, hpt⟩ (by omega) (by omega) dX3_lay_16
set_option maxHeartbeats 4000000 in
set_option maxRecDepth 100000 in
theorem c_X3_renew (l : Launch) (G : mG) (k : Nat → Nat) (rho : tR) (n : Nat) (T z : Nat → Nat) (st : Nat → Bool) (f : mF) (hI : IC G k rho n T z st f) (i : Nat) (hi : i < 3) (hst : st i = true ∧ 0 < n) (hd ff : Int32) (v : Int64) (hh4 : 0 ≤ hd.toInt ∧ hd.toInt < 4) : Met l yX3_renew wsX3_renew ({ frames := 4, cells := 3 * ndh k i f hd.toNatClampNeg, slots := 29 * ndh k i f hd.toNatClampNeg, locals := 127 }) (va_Pc [.ref (k (5 + 8 * i)), .int hd, .int ff, .long v] (mW G f)) (va_Qi (fun (r : Int32) (u : mS) => IC G k u.1 n T z st u.2 ∧ frC k rho f u.1 u.2 ∧ nul (cpF k i u.2) 24 + ndh k i f hd.toNatClampNeg = nul (cpF k i f) 24) (fun (u : mS) t => mW G u.2 t) (mA G)) (3 * ndh k i f hd.toNatClampNeg) (29 * ndh k i f hd.toNatClampNeg) (mA G) := by
  refine mMet [.ref (k (5 + 8 * i)), .int hd, .int ff, .long v] (cc := cX3_renew) (maxL := 6) (ret := (some .int)) (by decide) rfl (Nat.le_of_ble_eq_true rfl) ?_
  intro p e s m below meth c ls hx hb hr hml hts hown hlk hnm hC hH hl
  have hl : lv_has ls 6 [(0, .ref (k (5 + 8 * i))), (1, .int hd), (2, .int ff), (3, .long v)] := hl
  have hj := hI.2.2.2.2.1
  have hn24 := hI.2.2.2.2.2.2.1
  have hT3 := hI.2.2.2.2.2.2.2.1
  have hz32 := hI.2.2.2.2.2.2.2.2
  have nIn : (nI n).toInt = (n : Int) := nI_toInt (by omega)
  have hfr : frC k rho f rho f := frC.rf
  have hn0_ := hst.2
  refine lv_aload_n hx hb dX3_renew_0 rfl (lv_at hl 0 rfl) ?_
  refine lv_iload_n hx hb dX3_renew_1 rfl (lv_at hl 1 rfl) ?_
  refine lv_iload_n hx hb dX3_renew_2 rfl (lv_at hl 2 rfl) ?_
  refine lv_iconst (v := 3) hx hb dX3_renew_3 (by decide) ?_
  obtain ⟨lb_4, dn_4, gf_4, th_4, ta_4, sr_4, nx_4, F_4, s1_4, s2_4⟩ : okRun k st i (f (k (5 + 8 * i))) := hI.run (i := i) (c := 0) hi (by decide)
  have s3_4 := s2_4 hst.1
  subst s3_4
  refine m_goi hH (va_runV (As := [.int hd, .int ff, .int 3]) (rest := []) ⟨hx, hb, hml, hown, hts⟩ (c_X3_ask l G k rho n T z st f hI i hi hst hd ff 3 (by omega)) (cwV 3 hts gX3_renew_X3_ask rfl rfl rfl (by decide +kernel) ⟨Nat.le_of_ble_eq_true rfl, Nat.le_of_ble_eq_true rfl⟩) (m_preV (ci := 3) hC hH F_4 rfl) rfl rfl hl.1 rfl (lv_room (Nat.le_of_ble_eq_true rfl)) dX3_renew_4 ⟨by show _ ≤ 3 * ndh k i f hd.toNatClampNeg; omega, by show _ ≤ 29 * ndh k i f hd.toNatClampNeg; omega⟩) (fun r_1 rho_3 f_2 H locs hw hH => ?_)
  obtain ⟨hI, hfr1, hasp4_, hr_1⟩ := hw
  have hI : IC G k rho_3 n T z st f_2 := hI
  have hfr1 : frC k rho f rho_3 f_2 := hfr1
  have hfr := hfr.trans hfr1
  have hasp4_ : aspP k i hd.toNatClampNeg f f_2 := hasp4_
  try dsimp only at hr_1
  have hpt : nul (cpF k i f_2) 24 + ndh k i f hd.toNatClampNeg = nul (cpF k i f) 24 := hasp4_.1
  refine lv_istore (lv' := [(5, .int r_1), (0, .ref (k (5 + 8 * i))), (1, .int hd), (2, .int ff), (3, .long v)]) hx hb dX3_renew_7 hl (by decide) rfl (fun ls hl => ?_)
  refine lv_iload hx hb dX3_renew_9 (lv_at hl 0 rfl) ?_
  refine lv_if_eq (tgt := 17) hx hb dX3_renew_11 (by decide) (fun c_5 => ?_) (fun c_5 => ?_)
  · skip
    have ic_5 : (r_1.toInt : Int) = 0 := ic_eq rfl kI_0 c_5
    obtain ⟨o4_, hask4_, a1_, a2_, hs4_⟩ := hr_1.resolve_left (fun q => by omega)
    refine lv_lload_n hx hb dX3_renew_17 rfl (lv_at hl 4 rfl) ?_
    refine lv_lconst (v := 0) hx hb dX3_renew_18 (by decide) ?_
    refine W.lcmp hx hb dX3_renew_19 ?_
    refine lv_if_ge (tgt := 25) hx hb dX3_renew_20 (by decide) (fun c_6 => ?_) (fun c_6 => ?_)
    · skip
      have ic_6 : (0 : Int) ≤ v.toInt := lc_le kJ_0 rfl ((lg_cmp_ge _ _).mp c_6)
      refine lv_lload_n hx hb dX3_renew_25 rfl (lv_at hl 4 rfl) ?_
      refine lv_ldc2 (v := 8) hx hb hown (hts (.constantLong RX3 206 (8)) (by decide +kernel)) dX3_renew_26 ?_
      refine W.lcmp hx hb dX3_renew_29 ?_
      refine lv_if_le (tgt := 36) hx hb dX3_renew_30 (by decide) (fun c_7 => ?_) (fun c_7 => ?_)
      · skip
        have ic_7 : (v.toInt : Int) ≤ 8 := lc_le rfl kJ_8 ((lg_cmp_le _ _).mp c_7)
        refine lv_aload_n hx hb dX3_renew_36 rfl (lv_at hl 1 rfl) ?_
        refine lv_iload_n hx hb dX3_renew_37 rfl (lv_at hl 2 rfl) ?_
        refine lv_iload_n hx hb dX3_renew_38 rfl (lv_at hl 3 rfl) ?_
        obtain ⟨lb_11, dn_11, gf_11, th_11, ta_11, sr_11, nx_11, F_11, s1_11, s2_11⟩ : okRun k st i (f_2 (k (5 + 8 * i))) := hI.run (i := i) (c := 0) hi (by decide)
        have s3_11 := s2_11 hst.1
        subst s3_11
        refine m_goq hH (va_runV (As := [.int hd, .int ff]) (rest := []) ⟨hx, hb, hml, hown, hts⟩ (c_X3_change l G k rho_3 n T z st f_2 hI i hi hst hd ff (by omega) (by omega) o4_ hask4_) (cwV 2 hts gX3_renew_X3_change rfl rfl rfl (by decide +kernel) ⟨Nat.le_of_ble_eq_true rfl, Nat.le_of_ble_eq_true rfl⟩) (m_preV (ci := 3) hC hH F_11 rfl) rfl rfl hl.1 rfl (lv_room (Nat.le_of_ble_eq_true rfl)) dX3_renew_39 ⟨by show _ ≤ 3 * ndh k i f hd.toNatClampNeg; omega, by show _ ≤ 29 * ndh k i f hd.toNatClampNeg; omega⟩) (fun r_8 rho_10 f_9 H locs hw hH => ?_)
        obtain ⟨hu, hI, hfr1, hkt, b39_, h1_, h2_39, h3_39⟩ := hw
        have hI : IC G k rho_3 n T z st f_9 := hI
        have hfr1 : frC k rho_3 f_2 rho_3 f_9 := hfr1
        have hfr := hfr.trans hfr1
        have hkt : kpT k i f_2 f_9 := hkt
        have h2_39 : rho_3 b39_ = (1, T o4_) := h2_39
        rw [h1_]
        have hpt : nul (cpF k i f_9) 24 + ndh k i f hd.toNatClampNeg = nul (cpF k i f) 24 := by rw [cpF_c (hkt 5 (by decide) (by decide))]; exact hpt
        refine lv_iload_n hx hb dX3_renew_42 rfl (lv_at hl 3 rfl) ?_
        refine lv_lload_n hx hb dX3_renew_43 rfl (lv_at hl 4 rfl) ?_
        refine lv_l2i hx hb dX3_renew_44 rfl ?_
        refine lv_topi (fun x_12 ex_12 => ?_)
        have ix_12 : x_12.toInt = v.toInt := ic_l2i ex_12 rfl (by omega) (by omega)
        obtain ⟨ca_16, ia_16, si_16, bf_16, F_16, hca_16, hia_16, hbf_16⟩ : okB rho_3 (T o4_) b39_ (f_9 b39_) := hI.pool h2_39
        have tI_16 : (nI (T o4_)).toInt = (T o4_ : Int) := nI_toInt (by have := hT3 o4_; omega)
        refine m_gov hH (va_runV (As := [.int ff, .int x_12]) (rest := []) ⟨hx, hb, hml, hown, hts⟩ (c_X2_renewRow l G k rho_3 n T z st f_9 hI b39_ (T o4_) h2_39 (hT3 _) ff x_12 (by omega) hs4_ (by omega)) (cwV 2 hts gX3_renew_X2_renewRow rfl rfl rfl (by decide +kernel) ⟨Nat.le_of_ble_eq_true rfl, Nat.le_of_ble_eq_true rfl⟩) (m_preV (ci := 2) hC hH F_16 rfl) rfl rfl hl.1 rfl (lv_room (Nat.le_of_ble_eq_true rfl)) dX3_renew_45 ⟨by show _ ≤ 3 * ndh k i f hd.toNatClampNeg; omega, by show _ ≤ 29 * ndh k i f hd.toNatClampNeg; omega⟩) (fun rho_15 f_14 H locs hw hH => ?_)
        obtain ⟨hu, hI, hfr1, hr_13⟩ := hw
        have hI : IC G k rho_3 n T z st f_14 := hI
        have hfr1 : frC k rho_3 f_9 rho_3 f_14 := hfr1
        have hfr := hfr.trans hfr1
        try dsimp only at hr_13
        have hk_r_13 : kpK k f_9 f_14 := hr_13
        have hpt : nul (cpF k i f_14) 24 + ndh k i f hd.toNatClampNeg = nul (cpF k i f) 24 := by rw [cpF_c (hk_r_13 (5 + 8 * i + 5) (by omega))]; exact hpt
        refine lv_iconst (v := 0) hx hb dX3_renew_48 (by decide) ?_
        exact m_iret (v := 0) hx hb hr hlk hC hH rho_3 ⟨hI, hfr, hpt⟩ (by omega) (by omega) dX3_renew_49
      · skip
        have ic_7 : (v.toInt : Int) > 8 := lc_nle rfl kJ_8 (fun q_ => c_7 ((lg_cmp_le _ _).mpr q_))
        refine lv_bipush (v := 8) hx hb dX3_renew_33 (by decide) ?_
        exact m_iret (v := 8) hx hb hr hlk hC hH rho_3 ⟨hI, hfr, hpt⟩ (by omega) (by omega) dX3_renew_35
    · skip
      have ic_6 : (0 : Int) > v.toInt := lc_nle kJ_0 rfl (fun q_ => c_6 ((lg_cmp_ge _ _).mpr q_))
      refine lv_iconst (v := 4) hx hb dX3_renew_23 (by decide) ?_
      exact m_iret (v := 4) hx hb hr hlk hC hH rho_3 ⟨hI, hfr, hpt⟩ (by omega) (by omega) dX3_renew_24
  · skip
    have ic_5 : (r_1.toInt : Int) ≠ 0 := ic_ne rfl kI_0 c_5
    refine lv_iload hx hb dX3_renew_14 (lv_at hl 0 rfl) ?_
    exact m_iret (v := r_1) hx hb hr hlk hC hH rho_3 ⟨hI, hfr, hpt⟩ (by omega) (by omega) dX3_renew_16
