set_option maxHeartbeats 4000000 in
set_option maxRecDepth 100000 in
theorem c_X3_areAlike (l : Launch) (G : mG) (k : Nat → Nat) (rho : tR) (n : Nat) (T z : Nat → Nat) (st : Nat → Bool) (f : mF) (hI : IC G k rho n T z st f) (i : Nat) (hi : i < 3) (hst : st i = true ∧ 0 < n) (p_ q_ : Int32) (hp0 : p_.toInt = -3 ∨ (0 ≤ p_.toInt ∧ p_.toInt < n)) (hq0 : q_.toInt = -3 ∨ (0 ≤ q_.toInt ∧ q_.toInt < n)) : Met l yX3_areAlike wsX3_areAlike ({ frames := 3, cells := 3 * ndl k i f T p_ q_, slots := 29 * ndl k i f T p_ q_, locals := 102 }) (va_Pc [.ref (k (5 + 8 * i)), .int p_, .int q_] (mW G f)) (va_Qi (fun (r : Int32) (u : mS) => IC G k u.1 n T z st u.2 ∧ frC k rho f u.1 u.2 ∧ nul (cpF k i u.2) 24 + ndl k i f T p_ q_ = nul (cpF k i f) 24 ∧ (r.toInt = 0 ∨ r.toInt = 1)) (fun (u : mS) t => mW G u.2 t) (mA G)) (3 * ndl k i f T p_ q_) (29 * ndl k i f T p_ q_) (mA G) := by
  refine mMet [.ref (k (5 + 8 * i)), .int p_, .int q_] (cc := cX3_areAlike) (maxL := 4) (ret := (some .boolean)) (by decide) rfl (Nat.le_of_ble_eq_true rfl) ?_
  intro p e s m below meth c ls hx hb hr hml hts hown hlk hnm hC hH hl
  have hl : lv_has ls 4 [(0, .ref (k (5 + 8 * i))), (1, .int p_), (2, .int q_)] := hl
  have hj := hI.2.2.2.2.1
  have hn24 := hI.2.2.2.2.2.2.1
  have hT3 := hI.2.2.2.2.2.2.2.1
  have hz32 := hI.2.2.2.2.2.2.2.2
  have nIn : (nI n).toInt = (n : Int) := nI_toInt (by omega)
  have hfr : frC k rho f rho f := frC.rf
  have hn0_ := hst.2
  refine lv_iload_n hx hb dX3_areAlike_0 rfl (lv_at hl 1 rfl) ?_
  refine lv_iload_n hx hb dX3_areAlike_1 rfl (lv_at hl 2 rfl) ?_
  refine lv_icmp_ne (tgt := 7) hx hb dX3_areAlike_2 (by decide) (fun c_1 => ?_) (fun c_1 => ?_)
  · skip
    have ic_1 : (p_.toInt : Int) ≠ q_.toInt := ic_ne rfl rfl c_1
    refine lv_iload_n hx hb dX3_areAlike_7 rfl (lv_at hl 1 rfl) ?_
    refine lv_bipush (v := (-3)) hx hb dX3_areAlike_8 (by decide) ?_
    refine lv_icmp_eq (tgt := 40) hx hb dX3_areAlike_10 (by decide) (fun c_2 => ?_) (fun c_2 => ?_)
    · skip
      have ic_2 : (p_.toInt : Int) = (-3) := ic_eq rfl kI_m3 c_2
      refine lv_iconst (v := 0) hx hb dX3_areAlike_40 (by decide) ?_
      exact m_zret (v := 0) hx hb hr (by rfl) hlk hC hH rho ⟨hI, hfr, by rw [ndl_0 (Or.inr (Or.inl c_2))]; rfl, by have := kI_0; omega⟩ (by omega) (by omega) dX3_areAlike_41
    · skip
      have ic_2 : (p_.toInt : Int) ≠ (-3) := ic_ne rfl kI_m3 c_2
      refine lv_iload_n hx hb dX3_areAlike_13 rfl (lv_at hl 2 rfl) ?_
      refine lv_bipush (v := (-3)) hx hb dX3_areAlike_14 (by decide) ?_
      refine lv_icmp_eq (tgt := 40) hx hb dX3_areAlike_16 (by decide) (fun c_3 => ?_) (fun c_3 => ?_)
      · skip
        have ic_3 : (q_.toInt : Int) = (-3) := ic_eq rfl kI_m3 c_3
        refine lv_iconst (v := 0) hx hb dX3_areAlike_40 (by decide) ?_
        exact m_zret (v := 0) hx hb hr (by rfl) hlk hC hH rho ⟨hI, hfr, by rw [ndl_0 (Or.inr (Or.inr (Or.inl c_3)))]; rfl, by have := kI_0; omega⟩ (by omega) (by omega) dX3_areAlike_41
      · skip
        have ic_3 : (q_.toInt : Int) ≠ (-3) := ic_ne rfl kI_m3 c_3
        refine lv_aload_n hx hb dX3_areAlike_19 rfl (lv_at hl 0 rfl) ?_
        obtain ⟨lb_4, dn_4, gf_4, th_4, ta_4, sr_4, nx_4, F_4, s1_4, s2_4⟩ : okRun k st i (f (k (5 + 8 * i))) := hI.run (i := i) (c := 0) hi (by decide)
        have s3_4 := s2_4 hst.1
        subst s3_4
        refine m_get (ci := 3) (v := .ref (k 1)) (C := RX3) (T := TX3) (N := 11) hx hb hC hH hts in_X3_areAlike_X3 hown F_4 rfl 6 (by decide) (hts (.fieldLink RX3 36 "LazyState$Run" "state" "[LLazyState$Body;") (by decide +kernel)) rfl dX3_areAlike_20 ?_
        refine lv_iload_n hx hb dX3_areAlike_23 rfl (lv_at hl 1 rfl) ?_
        obtain ⟨g_5, hg_5, hp_5⟩ : okQ G 3 24 (fun g => ∀ o, o < n → ∃ b, g o = some b ∧ rho b = (1, T o)) (f (k 1)) := hI.objs
        refine m_aald hx hb hC hH 3 rfl hg_5 (vp_in_iff.mpr ⟨by omega, by omega⟩) dX3_areAlike_24 ?_
        obtain ⟨o_6, h1o_6, h2o_6⟩ := hp_5 (p_.toNatClampNeg) (ic_cl rfl (by omega) (by omega))
        rw [h1o_6]
        obtain ⟨ca_7, ia_7, si_7, bf_7, F_7, hca_7, hia_7, hbf_7⟩ : okB rho (T (p_.toNatClampNeg)) o_6 (f o_6) := hI.pool h2o_6
        have tI_7 : (nI (T (p_.toNatClampNeg))).toInt = (T (p_.toNatClampNeg) : Int) := nI_toInt (by have := hT3 (p_.toNatClampNeg); omega)
        refine m_get (ci := 2) (v := .int (nI (T (p_.toNatClampNeg)))) (C := RX2) (T := TX2) (N := 5) hx hb hC hH hts in_X3_areAlike_X2 hown F_7 rfl 0 (by decide) (hts (.fieldLink RX3 101 "LazyState$Body" "type" "I") (by decide +kernel)) rfl dX3_areAlike_25 ?_
        refine lv_aload_n hx hb dX3_areAlike_28 rfl (lv_at hl 0 rfl) ?_
        refine m_get (ci := 3) (v := .ref (k 1)) (C := RX3) (T := TX3) (N := 11) hx hb hC hH hts in_X3_areAlike_X3 hown F_4 rfl 6 (by decide) (hts (.fieldLink RX3 36 "LazyState$Run" "state" "[LLazyState$Body;") (by decide +kernel)) rfl dX3_areAlike_29 ?_
        refine lv_iload_n hx hb dX3_areAlike_32 rfl (lv_at hl 2 rfl) ?_
        refine m_aald hx hb hC hH 3 rfl hg_5 (vp_in_iff.mpr ⟨by omega, by omega⟩) dX3_areAlike_33 ?_
        obtain ⟨o_8, h1o_8, h2o_8⟩ := hp_5 (q_.toNatClampNeg) (ic_cl rfl (by omega) (by omega))
        rw [h1o_8]
        obtain ⟨ca_9, ia_9, si_9, bf_9, F_9, hca_9, hia_9, hbf_9⟩ : okB rho (T (q_.toNatClampNeg)) o_8 (f o_8) := hI.pool h2o_8
        have tI_9 : (nI (T (q_.toNatClampNeg))).toInt = (T (q_.toNatClampNeg) : Int) := nI_toInt (by have := hT3 (q_.toNatClampNeg); omega)
        refine m_get (ci := 2) (v := .int (nI (T (q_.toNatClampNeg)))) (C := RX2) (T := TX2) (N := 5) hx hb hC hH hts in_X3_areAlike_X2 hown F_9 rfl 0 (by decide) (hts (.fieldLink RX3 101 "LazyState$Body" "type" "I") (by decide +kernel)) rfl dX3_areAlike_34 ?_
        refine lv_icmp_eq (tgt := 42) hx hb dX3_areAlike_37 (by decide) (fun c_10 => ?_) (fun c_10 => ?_)
        · skip
          have ic_10 : (((T (p_.toNatClampNeg) : Nat) : Int) : Int) = ((T (q_.toNatClampNeg) : Nat) : Int) := ic_eq tI_7 tI_9 c_10
          have teq_ : T p_.toNatClampNeg = T q_.toNatClampNeg := by omega
          have hndl := ndl_1 (k := k) (i := i) (f := f) c_1 c_2 c_3 teq_
          refine lv_aload_n hx hb dX3_areAlike_42 rfl (lv_at hl 0 rfl) ?_
          refine lv_iload_n hx hb dX3_areAlike_43 rfl (lv_at hl 1 rfl) ?_
          refine m_gov hH (va_runV (As := [.int p_]) (rest := []) ⟨hx, hb, hml, hown, hts⟩ (c_X3_load l G k rho n T z st f hI i hi hst p_ (by omega)) (cwV 1 hts gX3_areAlike_X3_load rfl rfl rfl (by decide +kernel) ⟨Nat.le_of_ble_eq_true rfl, Nat.le_of_ble_eq_true rfl⟩) (m_preV (ci := 3) hC hH F_4 rfl) rfl rfl hl.1 rfl (lv_room (Nat.le_of_ble_eq_true rfl)) dX3_areAlike_44 ⟨by show _ ≤ 3 * ndl k i f T p_ q_; omega, by show _ ≤ 29 * ndl k i f T p_ q_; omega⟩) (fun rho_13 f_12 H locs hw hH => ?_)
          obtain ⟨hI, hfr1, hld_⟩ := hw
          have hI : IC G k rho_13 n T z st f_12 := hI
          have hfr1 : frC k rho f rho_13 f_12 := hfr1
          have hfr := hfr.trans hfr1
          have rr_14 := (hfr1 _ _ F_7).2.1.trans h2o_6
          have rr_15 := (hfr1 _ _ F_9).2.1.trans h2o_8
          have hld_ : ldP k i p_.toNatClampNeg f f_12 := hld_
          have l1_ := hld_
          have ndq_ : nd k i f_12 q_.toNatClampNeg = nd k i f q_.toNatClampNeg := nd_c (l1_.2.2.1 _ (fun z_ => c_1 (Int32.toInt_inj.mp (by have := ic_clN (rfl : p_.toInt = _) (by omega); have := ic_clN (rfl : q_.toInt = _) (by omega); omega))))
          refine lv_aload_n hx hb dX3_areAlike_47 rfl (lv_at hl 0 rfl) ?_
          refine lv_iload_n hx hb dX3_areAlike_48 rfl (lv_at hl 2 rfl) ?_
          obtain ⟨lb_19, dn_19, gf_19, th_19, ta_19, sr_19, nx_19, F_19, s1_19, s2_19⟩ : okRun k st i (f_12 (k (5 + 8 * i))) := hI.run (i := i) (c := 0) hi (by decide)
          have s3_19 := s2_19 hst.1
          subst s3_19
          refine m_gov hH (va_runV (As := [.int q_]) (rest := []) ⟨hx, hb, hml, hown, hts⟩ (c_X3_load l G k rho_13 n T z st f_12 hI i hi hst q_ (by omega)) (cwV 1 hts gX3_areAlike_X3_load rfl rfl rfl (by decide +kernel) ⟨Nat.le_of_ble_eq_true rfl, Nat.le_of_ble_eq_true rfl⟩) (m_preV (ci := 3) hC hH F_19 rfl) rfl rfl hl.1 rfl (lv_room (Nat.le_of_ble_eq_true rfl)) dX3_areAlike_49 ⟨by show _ ≤ 3 * ndl k i f T p_ q_; omega, by show _ ≤ 29 * ndl k i f T p_ q_; omega⟩) (fun rho_18 f_17 H locs hw hH => ?_)
          obtain ⟨hI, hfr1, hld_⟩ := hw
          have hI : IC G k rho_18 n T z st f_17 := hI
          have hfr1 : frC k rho_13 f_12 rho_18 f_17 := hfr1
          have hfr := hfr.trans hfr1
          have hld_ : ldP k i q_.toNatClampNeg f_12 f_17 := hld_
          have hnp : cpF k i f_17 p_.toNatClampNeg ≠ none := by rw [hld_.2.2.1 _ (fun z_ => c_1 (Int32.toInt_inj.mp (by have := ic_clN (rfl : p_.toInt = _) (by omega); have := ic_clN (rfl : q_.toInt = _) (by omega); omega)))]; exact l1_.1
          have hnq : cpF k i f_17 q_.toNatClampNeg ≠ none := hld_.1
          have hpt : nul (cpF k i f_17) 24 + ndl k i f T p_ q_ = nul (cpF k i f) 24 := by have := l1_.2.1; have := hld_.2.1; omega
          refine lv_iconst (v := 0) hx hb dX3_areAlike_52 (by decide) ?_
          refine lv_istore_n (lv' := [(3, .int 0), (0, .ref (k (5 + 8 * i))), (1, .int p_), (2, .int q_)]) hx hb dX3_areAlike_53 rfl hl (by decide) rfl (fun ls hl => ?_)
          have loop_54 : ∀ (fuel_ : Nat) (k3 : Int32) (fL : mF) (h0_ : 0 ≤ k3.toInt) (h1_ : k3.toInt ≤ 8) (hI : IC G k rho_18 n T z st fL) (hfr : frC k rho f rho_18 fL) (hnp : cpF k i fL p_.toNatClampNeg ≠ none) (hnq : cpF k i fL q_.toNatClampNeg ≠ none) (hpt : nul (cpF k i fL) 24 + ndl k i f T p_ q_ = nul (cpF k i f) 24) (_ : ((8 : Int) - k3.toInt).toNat < fuel_) (H : Heap) (locs : List Loc) (ls : Array Slot) (_ : mH G s fL H locs) (_ : lv_has ls 4 [(0, .ref (k (5 + 8 * i))), (1, .int p_), (2, .int q_), (3, .int k3)]), W p l e ({ frames := 3, cells := 3 * ndl k i f T p_ q_, slots := 29 * ndl k i f T p_ q_, locals := 102 } : Room) s m ([.ref (k (5 + 8 * i)), .int p_, .int q_] : List Value).toArray below meth c H locs (0 + (3 * nd k i f p_.toNatClampNeg) + (3 * nd k i f_12 q_.toNatClampNeg)) (0 + (29 * nd k i f p_.toNatClampNeg) + (29 * nd k i f_12 q_.toNatClampNeg)) (MQ below (va_Qi (fun (r : Int32) (u : mS) => IC G k u.1 n T z st u.2 ∧ frC k rho f u.1 u.2 ∧ nul (cpF k i u.2) 24 + ndl k i f T p_ q_ = nul (cpF k i f) 24 ∧ (r.toInt = 0 ∨ r.toInt = 1)) (fun (u : mS) t => mW G u.2 t) (mA G)) ([.ref (k (5 + 8 * i)), .int p_, .int q_] : List Value).toArray s (3 * ndl k i f T p_ q_) (29 * ndl k i f T p_ q_) (mA G)) (F0 m 54 ls []) := by
            intro N_54
            induction N_54 with
            | zero => intro k3 fL h0_ h1_ hI hfr hnp hnq hpt hN; omega
            | succ N_54 ih_54 =>
              intro k3 fL h0_ h1_ hI hfr hnp hnq hpt hN_54 H locs ls hH hl
              refine lv_iload_n hx hb dX3_areAlike_54 rfl (lv_at hl 3 rfl) ?_
              refine lv_bipush (v := 8) hx hb dX3_areAlike_55 (by decide) ?_
              refine lv_icmp_ge (tgt := 118) hx hb dX3_areAlike_57 (by decide) (fun c_20 => ?_) (fun c_20 => ?_)
              · skip
                have ic_20 : (8 : Int) ≤ k3.toInt := ic_le kI_8 rfl c_20
                refine lv_iconst (v := 1) hx hb dX3_areAlike_118 (by decide) ?_
                exact m_zret (v := 1) hx hb hr (by rfl) hlk hC hH rho_18 ⟨hI, hfr, hpt, by have := kI_1; omega⟩ (by omega) (by omega) dX3_areAlike_119
              · skip
                have ic_20 : (8 : Int) > k3.toInt := ic_nle kI_8 rfl c_20
                refine lv_aload_n hx hb dX3_areAlike_60 rfl (lv_at hl 0 rfl) ?_
                obtain ⟨lb_21, dn_21, gf_21, th_21, ta_21, sr_21, nx_21, F_21, s1_21, s2_21⟩ : okRun k st i (fL (k (5 + 8 * i))) := hI.run (i := i) (c := 0) hi (by decide)
                have s3_21 := s2_21 hst.1
                subst s3_21
                refine m_get (ci := 3) (v := .ref (k (5 + 8 * i + 5))) (C := RX3) (T := TX3) (N := 11) hx hb hC hH hts in_X3_areAlike_X3 hown F_21 rfl 7 (by decide) (hts (.fieldLink RX3 24 "LazyState$Run" "copies" "[LLazyState$Body;") (by decide +kernel)) rfl dX3_areAlike_61 ?_
                refine lv_iload_n hx hb dX3_areAlike_64 rfl (lv_at hl 1 rfl) ?_
                obtain ⟨g_22, hg_22, hp_22⟩ : okQ G 3 24 (pCp rho_18 n T) (fL (k (5 + 8 * i + 5))) := hI.run (i := i) (c := 5) hi (by decide)
                refine m_aald hx hb hC hH 3 rfl hg_22 (vp_in_iff.mpr ⟨by omega, by omega⟩) dX3_areAlike_65 ?_
                obtain ⟨_, cb_23, c1cb_23, c2cb_23⟩ := (hp_22 (p_.toNatClampNeg) (ic_cl rfl (by omega) (by omega))).resolve_left (by rw [← cpF_eq hg_22]; exact hnp)
                rw [c1cb_23]
                refine lv_iload_n hx hb dX3_areAlike_66 rfl (lv_at hl 3 rfl) ?_
                obtain ⟨ca_27, ia_27, si_27, bf_27, F_27, hca_27, hia_27, hbf_27⟩ : okB rho_18 (T (p_.toNatClampNeg)) cb_23 (fL cb_23) := hI.pool c2cb_23
                have tI_27 : (nI (T (p_.toNatClampNeg))).toInt = (T (p_.toNatClampNeg) : Int) := nI_toInt (by have := hT3 (p_.toNatClampNeg); omega)
                refine m_goi hH (va_runV (As := [.int k3]) (rest := []) ⟨hx, hb, hml, hown, hts⟩ (c_X2_sortOf l G k rho_18 n T z st fL hI cb_23 (T (p_.toNatClampNeg)) c2cb_23 (hT3 _) k3) (cwV 1 hts gX3_areAlike_X2_sortOf rfl rfl rfl (by decide +kernel) ⟨Nat.le_of_ble_eq_true rfl, Nat.le_of_ble_eq_true rfl⟩) (m_preV (ci := 2) hC hH F_27 rfl) rfl rfl hl.1 rfl (lv_room (Nat.le_of_ble_eq_true rfl)) dX3_areAlike_67 ⟨by show _ ≤ 3 * ndl k i f T p_ q_; omega, by show _ ≤ 29 * ndl k i f T p_ q_; omega⟩) (fun r_24 rho_26 f_25 H locs hw hH => ?_)
                obtain ⟨hu, hr_24⟩ := hw
                have hu : f_25 = fL := hu
                rw [hu] at hH
                refine lv_if_eq (tgt := 118) hx hb dX3_areAlike_70 (by decide) (fun c_28 => ?_) (fun c_28 => ?_)
                · skip
                  have ic_28 : (r_24.toInt : Int) = 0 := ic_eq rfl kI_0 c_28
                  refine lv_iconst (v := 1) hx hb dX3_areAlike_118 (by decide) ?_
                  exact m_zret (v := 1) hx hb hr (by rfl) hlk hC hH rho_18 ⟨hI, hfr, hpt, by have := kI_1; omega⟩ (by omega) (by omega) dX3_areAlike_119
                · skip
                  have ic_28 : (r_24.toInt : Int) ≠ 0 := ic_ne rfl kI_0 c_28
                  refine lv_aload_n hx hb dX3_areAlike_73 rfl (lv_at hl 0 rfl) ?_
                  refine m_get (ci := 3) (v := .ref (k (5 + 8 * i + 1))) (C := RX3) (T := TX3) (N := 11) hx hb hC hH hts in_X3_areAlike_X3 hown F_21 rfl 0 (by decide) (hts (.fieldLink RX3 12 "LazyState$Run" "trace" "LLazyState$Trace;") (by decide +kernel)) rfl dX3_areAlike_74 ?_
                  refine lv_iload_n hx hb dX3_areAlike_77 rfl (lv_at hl 1 rfl) ?_
                  refine lv_iload_n hx hb dX3_areAlike_78 rfl (lv_at hl 3 rfl) ?_
                  obtain ⟨ct_32, cg_32, F_32, b1_32, b2_32⟩ : okTr k i (fL (k (5 + 8 * i + 1))) := hI.run (i := i) (c := 1) hi (by decide)
                  refine m_gov hH (va_runV (As := [.int p_, .int k3]) (rest := []) ⟨hx, hb, hml, hown, hts⟩ (c_X4_noteRead l G k rho_18 n T z st fL hI i hi p_ k3 (by omega) (by omega)) (cwV 2 hts gX3_areAlike_X4_noteRead rfl rfl rfl (by decide +kernel) ⟨Nat.le_of_ble_eq_true rfl, Nat.le_of_ble_eq_true rfl⟩) (m_preV (ci := 4) hC hH F_32 rfl) rfl rfl hl.1 rfl (lv_room (Nat.le_of_ble_eq_true rfl)) dX3_areAlike_79 ⟨by show _ ≤ 3 * ndl k i f T p_ q_; omega, by show _ ≤ 29 * ndl k i f T p_ q_; omega⟩) (fun rho_31 f_30 H locs hw hH => ?_)
                  obtain ⟨hu, hI, hfr1, hkt⟩ := hw
                  have hI : IC G k rho_18 n T z st f_30 := hI
                  have hfr1 : frC k rho_18 fL rho_18 f_30 := hfr1
                  have hfr := hfr.trans hfr1
                  have hkt : kpT k i fL f_30 := hkt
                  have hnp : cpF k i f_30 p_.toNatClampNeg ≠ none := by rw [cpF_c (hkt 5 (by decide) (by decide))]; exact hnp
                  have hnq : cpF k i f_30 q_.toNatClampNeg ≠ none := by rw [cpF_c (hkt 5 (by decide) (by decide))]; exact hnq
                  have hpt : nul (cpF k i f_30) 24 + ndl k i f T p_ q_ = nul (cpF k i f) 24 := by rw [cpF_c (hkt 5 (by decide) (by decide))]; exact hpt
                  refine lv_aload_n hx hb dX3_areAlike_82 rfl (lv_at hl 0 rfl) ?_
                  obtain ⟨lb_33, dn_33, gf_33, th_33, ta_33, sr_33, nx_33, F_33, s1_33, s2_33⟩ : okRun k st i (f_30 (k (5 + 8 * i))) := hI.run (i := i) (c := 0) hi (by decide)
                  have s3_33 := s2_33 hst.1
                  subst s3_33
                  refine m_get (ci := 3) (v := .ref (k (5 + 8 * i + 1))) (C := RX3) (T := TX3) (N := 11) hx hb hC hH hts in_X3_areAlike_X3 hown F_33 rfl 0 (by decide) (hts (.fieldLink RX3 12 "LazyState$Run" "trace" "LLazyState$Trace;") (by decide +kernel)) rfl dX3_areAlike_83 ?_
                  refine lv_iload_n hx hb dX3_areAlike_86 rfl (lv_at hl 2 rfl) ?_
                  refine lv_iload_n hx hb dX3_areAlike_87 rfl (lv_at hl 3 rfl) ?_
                  obtain ⟨ct_37, cg_37, F_37, b1_37, b2_37⟩ : okTr k i (f_30 (k (5 + 8 * i + 1))) := hI.run (i := i) (c := 1) hi (by decide)
                  refine m_gov hH (va_runV (As := [.int q_, .int k3]) (rest := []) ⟨hx, hb, hml, hown, hts⟩ (c_X4_noteRead l G k rho_18 n T z st f_30 hI i hi q_ k3 (by omega) (by omega)) (cwV 2 hts gX3_areAlike_X4_noteRead rfl rfl rfl (by decide +kernel) ⟨Nat.le_of_ble_eq_true rfl, Nat.le_of_ble_eq_true rfl⟩) (m_preV (ci := 4) hC hH F_37 rfl) rfl rfl hl.1 rfl (lv_room (Nat.le_of_ble_eq_true rfl)) dX3_areAlike_88 ⟨by show _ ≤ 3 * ndl k i f T p_ q_; omega, by show _ ≤ 29 * ndl k i f T p_ q_; omega⟩) (fun rho_36 f_35 H locs hw hH => ?_)
                  obtain ⟨hu, hI, hfr1, hkt⟩ := hw
                  have hI : IC G k rho_18 n T z st f_35 := hI
                  have hfr1 : frC k rho_18 f_30 rho_18 f_35 := hfr1
                  have hfr := hfr.trans hfr1
                  have hkt : kpT k i f_30 f_35 := hkt
                  have hnp : cpF k i f_35 p_.toNatClampNeg ≠ none := by rw [cpF_c (hkt 5 (by decide) (by decide))]; exact hnp
                  have hnq : cpF k i f_35 q_.toNatClampNeg ≠ none := by rw [cpF_c (hkt 5 (by decide) (by decide))]; exact hnq
                  have hpt : nul (cpF k i f_35) 24 + ndl k i f T p_ q_ = nul (cpF k i f) 24 := by rw [cpF_c (hkt 5 (by decide) (by decide))]; exact hpt
                  refine lv_aload_n hx hb dX3_areAlike_91 rfl (lv_at hl 0 rfl) ?_
                  obtain ⟨lb_38, dn_38, gf_38, th_38, ta_38, sr_38, nx_38, F_38, s1_38, s2_38⟩ : okRun k st i (f_35 (k (5 + 8 * i))) := hI.run (i := i) (c := 0) hi (by decide)
                  have s3_38 := s2_38 hst.1
                  subst s3_38
                  refine m_get (ci := 3) (v := .ref (k (5 + 8 * i + 5))) (C := RX3) (T := TX3) (N := 11) hx hb hC hH hts in_X3_areAlike_X3 hown F_38 rfl 7 (by decide) (hts (.fieldLink RX3 24 "LazyState$Run" "copies" "[LLazyState$Body;") (by decide +kernel)) rfl dX3_areAlike_92 ?_
                  refine lv_iload_n hx hb dX3_areAlike_95 rfl (lv_at hl 1 rfl) ?_
                  obtain ⟨g_39, hg_39, hp_39⟩ : okQ G 3 24 (pCp rho_18 n T) (f_35 (k (5 + 8 * i + 5))) := hI.run (i := i) (c := 5) hi (by decide)
                  refine m_aald hx hb hC hH 3 rfl hg_39 (vp_in_iff.mpr ⟨by omega, by omega⟩) dX3_areAlike_96 ?_
                  obtain ⟨_, cb_40, c1cb_40, c2cb_40⟩ := (hp_39 (p_.toNatClampNeg) (ic_cl rfl (by omega) (by omega))).resolve_left (by rw [← cpF_eq hg_39]; exact hnp)
                  rw [c1cb_40]
                  refine lv_aload_n hx hb dX3_areAlike_97 rfl (lv_at hl 0 rfl) ?_
                  refine m_get (ci := 3) (v := .ref (k (5 + 8 * i + 5))) (C := RX3) (T := TX3) (N := 11) hx hb hC hH hts in_X3_areAlike_X3 hown F_38 rfl 7 (by decide) (hts (.fieldLink RX3 24 "LazyState$Run" "copies" "[LLazyState$Body;") (by decide +kernel)) rfl dX3_areAlike_98 ?_
                  refine lv_iload_n hx hb dX3_areAlike_101 rfl (lv_at hl 2 rfl) ?_
                  refine m_aald hx hb hC hH 3 rfl hg_39 (vp_in_iff.mpr ⟨by omega, by omega⟩) dX3_areAlike_102 ?_
                  obtain ⟨_, cb_41, c1cb_41, c2cb_41⟩ := (hp_39 (q_.toNatClampNeg) (ic_cl rfl (by omega) (by omega))).resolve_left (by rw [← cpF_eq hg_39]; exact hnq)
                  rw [c1cb_41]
                  rw [← teq_] at c2cb_41
                  refine lv_iload_n hx hb dX3_areAlike_103 rfl (lv_at hl 3 rfl) ?_
                  obtain ⟨ca_45, ia_45, si_45, bf_45, F_45, hca_45, hia_45, hbf_45⟩ : okB rho_18 (T (p_.toNatClampNeg)) cb_40 (f_35 cb_40) := hI.pool c2cb_40
                  have tI_45 : (nI (T (p_.toNatClampNeg))).toInt = (T (p_.toNatClampNeg) : Int) := nI_toInt (by have := hT3 (p_.toNatClampNeg); omega)
                  refine m_goi hH (va_runV (As := [.ref cb_41, .int k3]) (rest := []) ⟨hx, hb, hml, hown, hts⟩ (c_X2_hasSameField l G k rho_18 n T z st f_35 hI cb_40 (T (p_.toNatClampNeg)) c2cb_40 (hT3 _) cb_41 c2cb_41 k3 (by omega)) (cwV 2 hts gX3_areAlike_X2_hasSameField rfl rfl rfl (by decide +kernel) ⟨Nat.le_of_ble_eq_true rfl, Nat.le_of_ble_eq_true rfl⟩) (m_preV (ci := 2) hC hH F_45 rfl) rfl rfl hl.1 rfl (lv_room (Nat.le_of_ble_eq_true rfl)) dX3_areAlike_104 ⟨by show _ ≤ 3 * ndl k i f T p_ q_; omega, by show _ ≤ 29 * ndl k i f T p_ q_; omega⟩) (fun r_42 rho_44 f_43 H locs hw hH => ?_)
                  obtain ⟨hu, hr_42⟩ := hw
                  have hu : f_43 = f_35 := hu
                  rw [hu] at hH
                  refine lv_if_ne (tgt := 112) hx hb dX3_areAlike_107 (by decide) (fun c_46 => ?_) (fun c_46 => ?_)
                  · skip
                    have ic_46 : (r_42.toInt : Int) ≠ 0 := ic_ne rfl kI_0 c_46
                    obtain ⟨x_47, ex_47⟩ : ∃ y : Int32, y = k3 + 1 := ⟨_, rfl⟩
                    have ix_47 : x_47.toInt = k3.toInt + 1 := ic_add ex_47 rfl kI_1 (by omega) (by omega)
                    refine lv_iinc (v := x_47) (lv' := [(3, .int x_47), (0, .ref (k (5 + 8 * i))), (1, .int p_), (2, .int q_)]) hx hb dX3_areAlike_112 hl (k := 3) rfl (by rw [ex_47]; rfl) (by decide) rfl (fun ls hl => ?_)
                    refine lv_goto (tgt := 54) hx hb dX3_areAlike_115 (by decide) ?_
                    exact ih_54 x_47 f_35 (by omega) (by omega) hI hfr hnp hnq hpt (by omega) _ _ _ hH (lv_sub hl [1, 2, 3, 0] rfl)
                  · skip
                    have ic_46 : (r_42.toInt : Int) = 0 := ic_eq rfl kI_0 c_46
                    refine lv_iconst (v := 0) hx hb dX3_areAlike_110 (by decide) ?_
                    exact m_zret (v := 0) hx hb hr (by rfl) hlk hC hH rho_18 ⟨hI, hfr, hpt, by have := kI_0; omega⟩ (by omega) (by omega) dX3_areAlike_111
          exact loop_54 (((8 : Int) - 0).toNat + 1) 0 f_17 (by have := kI_0; omega) (by have := kI_0; omega) hI hfr hnp hnq hpt (by have := kI_0; omega) _ _ _ hH (lv_sub hl [1, 2, 3, 0] rfl)
        · skip
          have ic_10 : (((T (p_.toNatClampNeg) : Nat) : Int) : Int) ≠ ((T (q_.toNatClampNeg) : Nat) : Int) := ic_ne tI_7 tI_9 c_10
          refine lv_iconst (v := 0) hx hb dX3_areAlike_40 (by decide) ?_
          exact m_zret (v := 0) hx hb hr (by rfl) hlk hC hH rho ⟨hI, hfr, by rw [ndl_0 (Or.inr (Or.inr (Or.inr (fun z_ => by omega))))]; rfl, by have := kI_0; omega⟩ (by omega) (by omega) dX3_areAlike_41
  · skip
    have ic_1 : (p_.toInt : Int) = q_.toInt := ic_eq rfl rfl c_1
    refine lv_iconst (v := 1) hx hb dX3_areAlike_5 (by decide) ?_
    exact m_zret (v := 1) hx hb hr (by rfl) hlk hC hH rho ⟨hI, hfr, by rw [ndl_0 (Or.inl c_1)]; rfl, by have := kI_1; omega⟩ (by omega) (by omega) dX3_areAlike_6
set_option maxHeartbeats 4000000 in
set_option maxRecDepth 100000 in
theorem c_X3_shift (l : Launch) (G : mG) (k : Nat → Nat) (rho : tR) (n : Nat) (T z : Nat → Nat) (st : Nat → Bool) (f : mF) (hI : IC G k rho n T z st f) (i : Nat) (hi : i < 3) (hst : st i = true ∧ 0 < n) (q : Nat) (hq : rho q = (4, 0)) (kd a : Int32) (b : Int64) (c_ d_ e_ : Int32) (Fq : f q = some (.inr (0, [.int kd, .int a, .long b, .int c_, .int d_, .int e_]))) (ha4 : 0 ≤ a.toInt ∧ a.toInt < 4) (hb8 : 0 ≤ b.toInt ∧ b.toInt < 8) (hc4 : 0 ≤ c_.toInt ∧ c_.toInt < 4) (hd8 : 0 ≤ d_.toInt ∧ d_.toInt < 8) (he4 : 0 ≤ e_.toInt ∧ e_.toInt < 4) : Met l yX3_shift wsX3_shift ({ frames := 4, cells := 3 * nds k i f a.toNatClampNeg c_.toNatClampNeg, slots := 29 * nds k i f a.toNatClampNeg c_.toNatClampNeg, locals := 127 }) (va_Pc [.ref (k (5 + 8 * i)), .ref q] (mW G f)) (va_Qi (fun (r : Int32) (u : mS) => IC G k u.1 n T z st u.2 ∧ frC k rho f u.1 u.2 ∧ (r.toInt ≠ 0 ∨ nul (cpF k i u.2) 24 + nds k i f a.toNatClampNeg c_.toNatClampNeg = nul (cpF k i f) 24)) (fun (u : mS) t => mW G u.2 t) (mA G)) (3 * nds k i f a.toNatClampNeg c_.toNatClampNeg) (29 * nds k i f a.toNatClampNeg c_.toNatClampNeg) (mA G) := by
  refine mMet [.ref (k (5 + 8 * i)), .ref q] (cc := cX3_shift) (maxL := 9) (ret := (some .int)) (by decide) rfl (Nat.le_of_ble_eq_true rfl) ?_
  intro p e s m below meth c ls hx hb hr hml hts hown hlk hnm hC hH hl
  have hl : lv_has ls 9 [(0, .ref (k (5 + 8 * i))), (1, .ref q)] := hl
  have hj := hI.2.2.2.2.1
  have hn24 := hI.2.2.2.2.2.2.1
  have hT3 := hI.2.2.2.2.2.2.2.1
  have hz32 := hI.2.2.2.2.2.2.2.2
  have nIn : (nI n).toInt = (n : Int) := nI_toInt (by omega)
  have hfr : frC k rho f rho f := frC.rf
  have hI00_ := hI
  have hn0_ := hst.2
  refine lv_aload_n hx hb dX3_shift_0 rfl (lv_at hl 1 rfl) ?_
  refine m_get (ci := 0) (v := .long b) (C := RX0) (T := TX0) (N := 6) hx hb hC hH hts in_X3_shift_X0 hown Fq rfl 2 (by decide) (hts (.fieldLink RX3 115 "LazyState$Act" "b" "J") (by decide +kernel)) rfl dX3_shift_1 ?_
  refine lv_l2i hx hb dX3_shift_4 rfl ?_
  refine lv_topi (fun x_1 ex_1 => ?_)
  have ix_1 : x_1.toInt = b.toInt := ic_l2i ex_1 rfl (by omega) (by omega)
  refine lv_istore_n (lv' := [(2, .int x_1), (0, .ref (k (5 + 8 * i))), (1, .ref q)]) hx hb dX3_shift_5 rfl hl (by decide) rfl (fun ls hl => ?_)
  refine lv_aload_n hx hb dX3_shift_6 rfl (lv_at hl 1 rfl) ?_
  refine lv_aload_n hx hb dX3_shift_7 rfl (lv_at hl 2 rfl) ?_
  refine m_get (ci := 0) (v := .int a) (C := RX0) (T := TX0) (N := 6) hx hb hC hH hts in_X3_shift_X0 hown Fq rfl 1 (by decide) (hts (.fieldLink RX3 110 "LazyState$Act" "a" "I") (by decide +kernel)) rfl dX3_shift_8 ?_
  refine lv_iload_n hx hb dX3_shift_11 rfl (lv_at hl 0 rfl) ?_
  refine lv_iconst (v := 3) hx hb dX3_shift_12 (by decide) ?_
  obtain ⟨lb_5, dn_5, gf_5, th_5, ta_5, sr_5, nx_5, F_5, s1_5, s2_5⟩ : okRun k st i (f (k (5 + 8 * i))) := hI.run (i := i) (c := 0) hi (by decide)
  have s3_5 := s2_5 hst.1
  subst s3_5
  refine m_goi hH (va_runV (As := [.int a, .int x_1, .int 3]) (rest := []) ⟨hx, hb, hml, hown, hts⟩ (c_X3_ask l G k rho n T z st f hI i hi hst a x_1 3 (by omega)) (cwV 3 hts gX3_shift_X3_ask rfl rfl rfl (by decide +kernel) ⟨Nat.le_of_ble_eq_true rfl, Nat.le_of_ble_eq_true rfl⟩) (m_preV (ci := 3) hC hH F_5 rfl) rfl rfl hl.1 rfl (lv_room (Nat.le_of_ble_eq_true rfl)) dX3_shift_13 ⟨by show _ ≤ 3 * nds k i f a.toNatClampNeg c_.toNatClampNeg; first | omega | (unfold nds; omega), by show _ ≤ 29 * nds k i f a.toNatClampNeg c_.toNatClampNeg; first | omega | (unfold nds; omega)⟩) (fun r_2 rho_4 f_3 H locs hw hH => ?_)
  obtain ⟨hI, hfr1, hasp13_, hr_2⟩ := hw
  have hI : IC G k rho_4 n T z st f_3 := hI
  have hfr1 : frC k rho f rho_4 f_3 := hfr1
  have hfr := hfr.trans hfr1
  have rr_6 := (hfr1 _ _ Fq).2.1.trans hq
  have F_7 := (hfr1 _ _ Fq).2.2 (fun j_ hj_ => hI.nk hj_ (by rw [rr_6]; simp)) (Or.inr (by rw [hq]))
  have hasp13_ : aspP k i a.toNatClampNeg f f_3 := hasp13_
  try dsimp only at hr_2
  refine lv_istore_n (lv' := [(3, .int r_2), (2, .int x_1), (0, .ref (k (5 + 8 * i))), (1, .ref q)]) hx hb dX3_shift_16 rfl hl (by decide) rfl (fun ls hl => ?_)
  refine lv_iload_n hx hb dX3_shift_17 rfl (lv_at hl 0 rfl) ?_
  refine lv_if_eq (tgt := 23) hx hb dX3_shift_18 (by decide) (fun c_8 => ?_) (fun c_8 => ?_)
  · skip
    have ic_8 : (r_2.toInt : Int) = 0 := ic_eq rfl kI_0 c_8
    obtain ⟨o13_, hask13_, a1_, a2_, hs13_⟩ := hr_2.resolve_left (fun q => by omega)
    have nd2_ := nds_2 hasp13_ hask13_ hn24 (pHa_get hI00_ hi (ic_cl (rfl : c_.toInt = _) (by omega) (by omega)) hn0_)
    have nds_e : nds k i f a.toNatClampNeg c_.toNatClampNeg = ndh k i f a.toNatClampNeg + ndh k i f_3 c_.toNatClampNeg := by rw [nd2_]; rfl
    refine lv_aload_n hx hb dX3_shift_23 rfl (lv_at hl 2 rfl) ?_
    refine lv_aload_n hx hb dX3_shift_24 rfl (lv_at hl 3 rfl) ?_
    refine m_get (ci := 0) (v := .int a) (C := RX0) (T := TX0) (N := 6) hx hb hC hH hts in_X3_shift_X0 hown F_7 rfl 1 (by decide) (hts (.fieldLink RX3 110 "LazyState$Act" "a" "I") (by decide +kernel)) rfl dX3_shift_25 ?_
    refine lv_iload_n hx hb dX3_shift_28 rfl (lv_at hl 1 rfl) ?_
    obtain ⟨lb_12, dn_12, gf_12, th_12, ta_12, sr_12, nx_12, F_12, s1_12, s2_12⟩ : okRun k st i (f_3 (k (5 + 8 * i))) := hI.run (i := i) (c := 0) hi (by decide)
    have s3_12 := s2_12 hst.1
    subst s3_12
    refine m_goq hH (va_runV (As := [.int a, .int x_1]) (rest := []) ⟨hx, hb, hml, hown, hts⟩ (c_X3_read l G k rho_4 n T z st f_3 hI i hi hst a x_1 (by omega) (by omega) o13_ hask13_) (cwV 2 hts gX3_shift_X3_read rfl rfl rfl (by decide +kernel) ⟨Nat.le_of_ble_eq_true rfl, Nat.le_of_ble_eq_true rfl⟩) (m_preV (ci := 3) hC hH F_12 rfl) rfl rfl hl.1 rfl (lv_room (Nat.le_of_ble_eq_true rfl)) dX3_shift_29 ⟨by show _ ≤ 3 * nds k i f a.toNatClampNeg c_.toNatClampNeg; first | omega | (unfold nds; omega), by show _ ≤ 29 * nds k i f a.toNatClampNeg c_.toNatClampNeg; first | omega | (unfold nds; omega)⟩) (fun r_9 rho_11 f_10 H locs hw hH => ?_)
    obtain ⟨hu, hI, hfr1, hkt, b29_, h1_, h2_29, h3_29⟩ := hw
    have hI : IC G k rho_4 n T z st f_10 := hI
    have hfr1 : frC k rho_4 f_3 rho_4 f_10 := hfr1
    have hfr := hfr.trans hfr1
    have hkt : kpT k i f_3 f_10 := hkt
    have h2_29 : rho_4 b29_ = (1, T o13_) := h2_29
    rw [h1_]
    have hask13_ := hask13_.kt hkt
    have hasp13_ := hasp13_.kt hkt
    have F_13 := (hfr1 _ _ F_7).2.2 (fun j_ hj_ => hI.nk hj_ (by rw [rr_6]; simp)) (Or.inr (by rw [rr_6]))
    obtain ⟨ca_14, ia_14, si_14, bf_14, F_14, hca_14, hia_14, hbf_14⟩ : okB rho_4 (T o13_) b29_ (f_10 b29_) := hI.pool h2_29
    have tI_14 : (nI (T o13_)).toInt = (T o13_ : Int) := nI_toInt (by have := hT3 o13_; omega)
    have nds_e : nds k i f a.toNatClampNeg c_.toNatClampNeg = ndh k i f a.toNatClampNeg + ndh k i f_10 c_.toNatClampNeg := by rw [nds_e]; unfold ndh nd; rw [haF_c (hkt 6 (by decide) (by decide)), cpF_c (hkt 5 (by decide) (by decide))]
    refine lv_astore (lv' := [(4, .ref b29_), (3, .int r_2), (2, .int x_1), (0, .ref (k (5 + 8 * i))), (1, .ref q)]) hx hb dX3_shift_32 hl (by decide) rfl (fun ls hl => ?_)
    refine lv_aload_n hx hb dX3_shift_34 rfl (lv_at hl 4 rfl) ?_
    refine m_get (ci := 0) (v := .int d_) (C := RX0) (T := TX0) (N := 6) hx hb hC hH hts in_X3_shift_X0 hown F_13 rfl 4 (by decide) (hts (.fieldLink RX3 139 "LazyState$Act" "d" "I") (by decide +kernel)) rfl dX3_shift_35 ?_
    refine lv_istore (lv' := [(5, .int d_), (4, .ref b29_), (3, .int r_2), (2, .int x_1), (0, .ref (k (5 + 8 * i))), (1, .ref q)]) hx hb dX3_shift_38 hl (by decide) rfl (fun ls hl => ?_)
    refine lv_aload_n hx hb dX3_shift_40 rfl (lv_at hl 4 rfl) ?_
    refine lv_aload_n hx hb dX3_shift_41 rfl (lv_at hl 5 rfl) ?_
    refine m_get (ci := 0) (v := .int c_) (C := RX0) (T := TX0) (N := 6) hx hb hC hH hts in_X3_shift_X0 hown F_13 rfl 3 (by decide) (hts (.fieldLink RX3 118 "LazyState$Act" "c" "I") (by decide +kernel)) rfl dX3_shift_42 ?_
    refine lv_iload hx hb dX3_shift_45 (lv_at hl 0 rfl) ?_
    refine lv_iconst (v := 3) hx hb dX3_shift_47 (by decide) ?_
    obtain ⟨lb_18, dn_18, gf_18, th_18, ta_18, sr_18, nx_18, F_18, s1_18, s2_18⟩ : okRun k st i (f_10 (k (5 + 8 * i))) := hI.run (i := i) (c := 0) hi (by decide)
    have s3_18 := s2_18 hst.1
    subst s3_18
    refine m_goi hH (va_runV (As := [.int c_, .int d_, .int 3]) (rest := []) ⟨hx, hb, hml, hown, hts⟩ (c_X3_ask l G k rho_4 n T z st f_10 hI i hi hst c_ d_ 3 (by omega)) (cwV 3 hts gX3_shift_X3_ask rfl rfl rfl (by decide +kernel) ⟨Nat.le_of_ble_eq_true rfl, Nat.le_of_ble_eq_true rfl⟩) (m_preV (ci := 3) hC hH F_18 rfl) rfl rfl hl.1 rfl (lv_room (Nat.le_of_ble_eq_true rfl)) dX3_shift_48 ⟨by show _ ≤ 3 * nds k i f a.toNatClampNeg c_.toNatClampNeg; first | omega | (unfold nds; omega), by show _ ≤ 29 * nds k i f a.toNatClampNeg c_.toNatClampNeg; first | omega | (unfold nds; omega)⟩) (fun r_15 rho_17 f_16 H locs hw hH => ?_)
    obtain ⟨hI, hfr1, hasp48_, hr_15⟩ := hw
    have hI : IC G k rho_17 n T z st f_16 := hI
    have hfr1 : frC k rho_4 f_10 rho_17 f_16 := hfr1
    have hfr := hfr.trans hfr1
    have rr_19 := (hfr1 _ _ F_13).2.1.trans rr_6
    have rr_20 := (hfr1 _ _ F_14).2.1.trans h2_29
    have F_21 := (hfr1 _ _ F_13).2.2 (fun j_ hj_ => hI.nk hj_ (by rw [rr_19]; simp)) (Or.inr (by rw [rr_6]))
    have hasp48_ : aspP k i c_.toNatClampNeg f_10 f_16 := hasp48_
    try dsimp only at hr_15
    refine lv_istore_n (lv' := [(3, .int r_15), (5, .int d_), (4, .ref b29_), (2, .int x_1), (0, .ref (k (5 + 8 * i))), (1, .ref q)]) hx hb dX3_shift_51 rfl hl (by decide) rfl (fun ls hl => ?_)
    refine lv_iload_n hx hb dX3_shift_52 rfl (lv_at hl 0 rfl) ?_
    refine lv_if_eq (tgt := 58) hx hb dX3_shift_53 (by decide) (fun c_22 => ?_) (fun c_22 => ?_)
    · skip
      have ic_22 : (r_15.toInt : Int) = 0 := ic_eq rfl kI_0 c_22
      obtain ⟨o48_, hask48_, a1_, a2_, hs48_⟩ := hr_15.resolve_left (fun q => by omega)
      have hpt : nul (cpF k i f_16) 24 + nds k i f a.toNatClampNeg c_.toNatClampNeg = nul (cpF k i f) 24 := by have := hasp48_.1; have := hasp13_.1; omega
      refine lv_aload_n hx hb dX3_shift_58 rfl (lv_at hl 4 rfl) ?_
      refine lv_aload_n hx hb dX3_shift_59 rfl (lv_at hl 5 rfl) ?_
      refine m_get (ci := 0) (v := .int c_) (C := RX0) (T := TX0) (N := 6) hx hb hC hH hts in_X3_shift_X0 hown F_21 rfl 3 (by decide) (hts (.fieldLink RX3 118 "LazyState$Act" "c" "I") (by decide +kernel)) rfl dX3_shift_60 ?_
      refine lv_iload hx hb dX3_shift_63 (lv_at hl 1 rfl) ?_
      obtain ⟨lb_26, dn_26, gf_26, th_26, ta_26, sr_26, nx_26, F_26, s1_26, s2_26⟩ : okRun k st i (f_16 (k (5 + 8 * i))) := hI.run (i := i) (c := 0) hi (by decide)
      have s3_26 := s2_26 hst.1
      subst s3_26
      refine m_goq hH (va_runV (As := [.int c_, .int d_]) (rest := []) ⟨hx, hb, hml, hown, hts⟩ (c_X3_read l G k rho_17 n T z st f_16 hI i hi hst c_ d_ (by omega) (by omega) o48_ hask48_) (cwV 2 hts gX3_shift_X3_read rfl rfl rfl (by decide +kernel) ⟨Nat.le_of_ble_eq_true rfl, Nat.le_of_ble_eq_true rfl⟩) (m_preV (ci := 3) hC hH F_26 rfl) rfl rfl hl.1 rfl (lv_room (Nat.le_of_ble_eq_true rfl)) dX3_shift_65 ⟨by show _ ≤ 3 * nds k i f a.toNatClampNeg c_.toNatClampNeg; first | omega | (unfold nds; omega), by show _ ≤ 29 * nds k i f a.toNatClampNeg c_.toNatClampNeg; first | omega | (unfold nds; omega)⟩) (fun r_23 rho_25 f_24 H locs hw hH => ?_)
      obtain ⟨hu, hI, hfr1, hkt, b65_, h1_, h2_65, h3_65⟩ := hw
      have hI : IC G k rho_17 n T z st f_24 := hI
      have hfr1 : frC k rho_17 f_16 rho_17 f_24 := hfr1
      have hfr := hfr.trans hfr1
      have hkt : kpT k i f_16 f_24 := hkt
      have h2_65 : rho_17 b65_ = (1, T o48_) := h2_65
      rw [h1_]
      have hask48_ := hask48_.kt hkt
      have F_27 := (hfr1 _ _ F_21).2.2 (fun j_ hj_ => hI.nk hj_ (by rw [rr_19]; simp)) (Or.inr (by rw [rr_19]))
      obtain ⟨ca_28, ia_28, si_28, bf_28, F_28, hca_28, hia_28, hbf_28⟩ : okB rho_17 (T o48_) b65_ (f_24 b65_) := hI.pool h2_65
      have tI_28 : (nI (T o48_)).toInt = (T o48_ : Int) := nI_toInt (by have := hT3 o48_; omega)
      have hpt : nul (cpF k i f_24) 24 + nds k i f a.toNatClampNeg c_.toNatClampNeg = nul (cpF k i f) 24 := by rw [cpF_c (hkt 5 (by decide) (by decide))]; exact hpt
      refine lv_astore (lv' := [(6, .ref b65_), (3, .int r_15), (5, .int d_), (4, .ref b29_), (2, .int x_1), (0, .ref (k (5 + 8 * i))), (1, .ref q)]) hx hb dX3_shift_68 hl (by decide) rfl (fun ls hl => ?_)
      refine lv_aload hx hb dX3_shift_70 (lv_at hl 3 rfl) ?_
      obtain ⟨ca_29, ia_29, si_29, bf_29, F_29, hca_29, hia_29, hbf_29⟩ : okB rho_17 (T o13_) b29_ (f_24 b29_) := hI.pool rr_20
      have tI_29 : (nI (T o13_)).toInt = (T o13_ : Int) := nI_toInt (by have := hT3 o13_; omega)
      refine m_get (ci := 2) (v := .ref ca_29) (C := RX2) (T := TX2) (N := 5) hx hb hC hH hts in_X3_shift_X2 hown F_29 rfl 1 (by decide) (hts (.fieldLink RX3 184 "LazyState$Body" "cells" "[J") (by decide +kernel)) rfl dX3_shift_72 ?_
      refine lv_iload_n hx hb dX3_shift_75 rfl (lv_at hl 4 rfl) ?_
      obtain ⟨g_30, hg_30, hp_30⟩ : okJ G 8 (pCl n (T o13_)) (f_24 ca_29) := hI.pool hca_29
      refine m_lald hx hb hC hH hg_30 (vp_in_iff.mpr ⟨by omega, by omega⟩) dX3_shift_76 ?_
      refine lv_topl (fun y_31 ey_31 => ?_)
      have cy_31 := hp_30 (x_1.toNatClampNeg) (ic_cl rfl (by omega) (by omega))
      rw [← ey_31] at cy_31
      have dy_31 := cy_31.2 hs13_
      refine lv_ldc2 (v := (-3)) hx hb hown (hts (.constantLong RX3 200 (-3)) (by decide +kernel)) dX3_shift_77 ?_
      refine W.lcmp hx hb dX3_shift_80 ?_
      refine lv_if_eq (tgt := 99) hx hb dX3_shift_81 (by decide) (fun c_32 => ?_) (fun c_32 => ?_)
      · skip
        have ic_32 : (y_31.toInt : Int) = (-3) := lc_eq rfl kJ_m3 ((lg_cmp_eq _ _).mp c_32)
        refine lv_iconst (v := 1) hx hb dX3_shift_99 (by decide) ?_
        exact m_iret (v := 1) hx hb hr hlk hC hH rho_17 ⟨hI, hfr, Or.inl (by have := kI_1; omega)⟩ (by unfold nds; omega) (by unfold nds; omega) dX3_shift_100
      · skip
        have ic_32 : (y_31.toInt : Int) ≠ (-3) := lc_ne rfl kJ_m3 (fun q_ => c_32 ((lg_cmp_eq _ _).mpr q_))
        refine lv_aload hx hb dX3_shift_84 (lv_at hl 0 rfl) ?_
        refine m_get (ci := 2) (v := .ref ca_28) (C := RX2) (T := TX2) (N := 5) hx hb hC hH hts in_X3_shift_X2 hown F_28 rfl 1 (by decide) (hts (.fieldLink RX3 184 "LazyState$Body" "cells" "[J") (by decide +kernel)) rfl dX3_shift_86 ?_
        refine lv_iload hx hb dX3_shift_89 (lv_at hl 2 rfl) ?_
        obtain ⟨g_33, hg_33, hp_33⟩ : okJ G 8 (pCl n (T o48_)) (f_24 ca_28) := hI.pool hca_28
        refine m_lald hx hb hC hH hg_33 (vp_in_iff.mpr ⟨by omega, by omega⟩) dX3_shift_91 ?_
        refine lv_topl (fun y_34 ey_34 => ?_)
        have cy_34 := hp_33 (d_.toNatClampNeg) (ic_cl rfl (by omega) (by omega))
        rw [← ey_34] at cy_34
        have dy_34 := cy_34.2 hs48_
        refine lv_ldc2 (v := (-3)) hx hb hown (hts (.constantLong RX3 200 (-3)) (by decide +kernel)) dX3_shift_92 ?_
        refine W.lcmp hx hb dX3_shift_95 ?_
        refine lv_if_ne (tgt := 101) hx hb dX3_shift_96 (by decide) (fun c_35 => ?_) (fun c_35 => ?_)
        · skip
          have ic_35 : (y_34.toInt : Int) ≠ (-3) := lc_ne rfl kJ_m3 (fun q_ => c_35 ((lg_cmp_eq _ _).mpr q_))
          refine lv_aload_n hx hb dX3_shift_101 rfl (lv_at hl 5 rfl) ?_
          obtain ⟨lb_36, dn_36, gf_36, th_36, ta_36, sr_36, nx_36, F_36, s1_36, s2_36⟩ : okRun k st i (f_24 (k (5 + 8 * i))) := hI.run (i := i) (c := 0) hi (by decide)
          have s3_36 := s2_36 hst.1
          subst s3_36
          refine m_get (ci := 3) (v := .ref (k (5 + 8 * i + 7))) (C := RX3) (T := TX3) (N := 11) hx hb hC hH hts in_X3_shift_X3 hown F_36 rfl 9 (by decide) (hts (.fieldLink RX3 32 "LazyState$Run" "values" "[J") (by decide +kernel)) rfl dX3_shift_102 ?_
          refine lv_aload_n hx hb dX3_shift_105 rfl (lv_at hl 6 rfl) ?_
          refine m_get (ci := 0) (v := .int e_) (C := RX0) (T := TX0) (N := 6) hx hb hC hH hts in_X3_shift_X0 hown F_27 rfl 5 (by decide) (hts (.fieldLink RX3 211 "LazyState$Act" "e" "I") (by decide +kernel)) rfl dX3_shift_106 ?_
          obtain ⟨g_37, hg_37, hp_37⟩ : okJ G 4 (fun _ => True) (f_24 (k (5 + 8 * i + 7))) := hI.run (i := i) (c := 7) hi (by decide)
          refine m_lald hx hb hC hH hg_37 (vp_in_iff.mpr ⟨by omega, by omega⟩) dX3_shift_109 ?_
          refine lv_topl (fun y_38 ey_38 => ?_)
          refine lv_lstore (lv' := [(7, .long y_38), (6, .ref b65_), (3, .int r_15), (5, .int d_), (4, .ref b29_), (2, .int x_1), (0, .ref (k (5 + 8 * i))), (1, .ref q)]) hx hb dX3_shift_110 hl (by decide) rfl (fun ls hl => ?_)
          refine lv_lload hx hb dX3_shift_112 (lv_at hl 0 rfl) ?_
          refine lv_lconst (v := 0) hx hb dX3_shift_114 (by decide) ?_
          refine W.lcmp hx hb dX3_shift_115 ?_
          refine lv_if_lt (tgt := 146) hx hb dX3_shift_116 (by decide) (fun c_39 => ?_) (fun c_39 => ?_)
          · skip
            have ic_39 : (y_38.toInt : Int) < 0 := lc_lt rfl kJ_0 ((lg_cmp_lt _ _).mp c_39)
            refine lv_iconst (v := 3) hx hb dX3_shift_146 (by decide) ?_
            exact m_iret (v := 3) hx hb hr hlk hC hH rho_17 ⟨hI, hfr, Or.inl (by have := kI_3; omega)⟩ (by unfold nds; omega) (by unfold nds; omega) dX3_shift_147
          · skip
            have ic_39 : (y_38.toInt : Int) ≥ 0 := lc_nlt rfl kJ_0 (fun q_ => c_39 ((lg_cmp_lt _ _).mpr q_))
            refine lv_lload hx hb dX3_shift_119 (lv_at hl 0 rfl) ?_
            refine lv_aload hx hb dX3_shift_121 (lv_at hl 4 rfl) ?_
            refine m_get (ci := 2) (v := .ref ca_29) (C := RX2) (T := TX2) (N := 5) hx hb hC hH hts in_X3_shift_X2 hown F_29 rfl 1 (by decide) (hts (.fieldLink RX3 184 "LazyState$Body" "cells" "[J") (by decide +kernel)) rfl dX3_shift_123 ?_
            refine lv_iload_n hx hb dX3_shift_126 rfl (lv_at hl 5 rfl) ?_
            refine m_lald hx hb hC hH hg_30 (vp_in_iff.mpr ⟨by omega, by omega⟩) dX3_shift_127 ?_
            refine lv_topl (fun y_40 ey_40 => ?_)
            have cy_40 := hp_30 (x_1.toNatClampNeg) (ic_cl rfl (by omega) (by omega))
            rw [← ey_40] at cy_40
            have dy_40 := cy_40.2 hs13_
            refine W.lcmp hx hb dX3_shift_128 ?_
            refine lv_if_gt (tgt := 146) hx hb dX3_shift_129 (by decide) (fun c_41 => ?_) (fun c_41 => ?_)
            · skip
              have ic_41 : (y_40.toInt : Int) < y_38.toInt := lc_lt rfl rfl ((lg_cmp_gt _ _).mp c_41)
              refine lv_iconst (v := 3) hx hb dX3_shift_146 (by decide) ?_
              exact m_iret (v := 3) hx hb hr hlk hC hH rho_17 ⟨hI, hfr, Or.inl (by have := kI_3; omega)⟩ (by unfold nds; omega) (by unfold nds; omega) dX3_shift_147
            · skip
              have ic_41 : (y_40.toInt : Int) ≥ y_38.toInt := lc_nlt rfl rfl (fun q_ => c_41 ((lg_cmp_gt _ _).mpr q_))
              refine lv_lload hx hb dX3_shift_132 (lv_at hl 0 rfl) ?_
              refine lv_aload hx hb dX3_shift_134 (lv_at hl 1 rfl) ?_
              refine m_get (ci := 2) (v := .ref ca_28) (C := RX2) (T := TX2) (N := 5) hx hb hC hH hts in_X3_shift_X2 hown F_28 rfl 1 (by decide) (hts (.fieldLink RX3 184 "LazyState$Body" "cells" "[J") (by decide +kernel)) rfl dX3_shift_136 ?_
              refine lv_iload hx hb dX3_shift_139 (lv_at hl 3 rfl) ?_
              refine m_lald hx hb hC hH hg_33 (vp_in_iff.mpr ⟨by omega, by omega⟩) dX3_shift_141 ?_
              refine lv_topl (fun y_42 ey_42 => ?_)
              have cy_42 := hp_33 (d_.toNatClampNeg) (ic_cl rfl (by omega) (by omega))
              rw [← ey_42] at cy_42
              have dy_42 := cy_42.2 hs48_
              refine W.lcmp hx hb dX3_shift_142 ?_
              refine lv_if_le (tgt := 148) hx hb dX3_shift_143 (by decide) (fun c_43 => ?_) (fun c_43 => ?_)
              · skip
                have ic_43 : (y_38.toInt : Int) ≤ y_42.toInt := lc_le rfl rfl ((lg_cmp_le _ _).mp c_43)
                refine lv_aload_n hx hb dX3_shift_148 rfl (lv_at hl 6 rfl) ?_
                refine lv_aload_n hx hb dX3_shift_149 rfl (lv_at hl 7 rfl) ?_
                refine m_get (ci := 0) (v := .int c_) (C := RX0) (T := TX0) (N := 6) hx hb hC hH hts in_X3_shift_X0 hown F_27 rfl 3 (by decide) (hts (.fieldLink RX3 118 "LazyState$Act" "c" "I") (by decide +kernel)) rfl dX3_shift_150 ?_
                refine lv_iload hx hb dX3_shift_153 (lv_at hl 3 rfl) ?_
                refine m_goq hH (va_runV (As := [.int c_, .int d_]) (rest := []) ⟨hx, hb, hml, hown, hts⟩ (c_X3_change l G k rho_17 n T z st f_24 hI i hi hst c_ d_ (by omega) (by omega) o48_ hask48_) (cwV 2 hts gX3_shift_X3_change rfl rfl rfl (by decide +kernel) ⟨Nat.le_of_ble_eq_true rfl, Nat.le_of_ble_eq_true rfl⟩) (m_preV (ci := 3) hC hH F_36 rfl) rfl rfl hl.1 rfl (lv_room (Nat.le_of_ble_eq_true rfl)) dX3_shift_155 ⟨by show _ ≤ 3 * nds k i f a.toNatClampNeg c_.toNatClampNeg; first | omega | (unfold nds; omega), by show _ ≤ 29 * nds k i f a.toNatClampNeg c_.toNatClampNeg; first | omega | (unfold nds; omega)⟩) (fun r_44 rho_46 f_45 H locs hw hH => ?_)
                obtain ⟨hu, hI, hfr1, hkt, b155_, h1_, h2_155, h3_155⟩ := hw
                have hI : IC G k rho_17 n T z st f_45 := hI
                have hfr1 : frC k rho_17 f_24 rho_17 f_45 := hfr1
                have hfr := hfr.trans hfr1
                have hkt : kpT k i f_24 f_45 := hkt
                have h2_155 : rho_17 b155_ = (1, T o48_) := h2_155
                rw [h1_]
                have hask48_ := hask48_.kt hkt
                have F_47 := (hfr1 _ _ F_27).2.2 (fun j_ hj_ => hI.nk hj_ (by rw [rr_19]; simp)) (Or.inr (by rw [rr_19]))
                have h7_155 := (hkt 7 (by decide) (by decide)).trans hg_37
                obtain ⟨ca_48, ia_48, si_48, bf_48, F_48, hca_48, hia_48, hbf_48⟩ : okB rho_17 (T o48_) b155_ (f_45 b155_) := hI.pool h2_155
                have tI_48 : (nI (T o48_)).toInt = (T o48_ : Int) := nI_toInt (by have := hT3 o48_; omega)
                have hpt : nul (cpF k i f_45) 24 + nds k i f a.toNatClampNeg c_.toNatClampNeg = nul (cpF k i f) 24 := by rw [cpF_c (hkt 5 (by decide) (by decide))]; exact hpt
                refine lv_pop hx hb dX3_shift_158 rfl ?_
                refine lv_aload hx hb dX3_shift_159 (lv_at hl 4 rfl) ?_
                obtain ⟨ca_49, ia_49, si_49, bf_49, F_49, hca_49, hia_49, hbf_49⟩ : okB rho_17 (T o13_) b29_ (f_45 b29_) := hI.pool rr_20
                have tI_49 : (nI (T o13_)).toInt = (T o13_ : Int) := nI_toInt (by have := hT3 o13_; omega)
                refine m_get (ci := 2) (v := .ref ia_49) (C := RX2) (T := TX2) (N := 5) hx hb hC hH hts in_X3_shift_X2 hown F_49 rfl 2 (by decide) (hts (.fieldLink RX3 194 "LazyState$Body" "items" "[I") (by decide +kernel)) rfl dX3_shift_161 ?_
                refine lv_iload_n hx hb dX3_shift_164 rfl (lv_at hl 5 rfl) ?_
                refine lv_iconst (v := 0) hx hb dX3_shift_165 (by decide) ?_
                refine m_goi hH (va_runS (As := [.int x_1, .int 0]) (rest := [.ref ia_49]) ⟨hx, hb, hml, hown, hts⟩ (c_X2_itemPlace l G f_45 x_1 0 (by have := kI_0; omega)) (va_cwS 2 hts gX3_shift_X2_itemPlace rfl rfl rfl (by decide +kernel) ⟨Nat.le_of_ble_eq_true rfl, Nat.le_of_ble_eq_true rfl⟩) (m_preS hC hH) rfl rfl hl.1 rfl (lv_room (Nat.le_of_ble_eq_true rfl)) dX3_shift_166 ⟨by show _ ≤ 3 * nds k i f a.toNatClampNeg c_.toNatClampNeg; first | omega | (unfold nds; omega), by show _ ≤ 29 * nds k i f a.toNatClampNeg c_.toNatClampNeg; first | omega | (unfold nds; omega)⟩) (fun r_50 rho_52 f_51 H locs hw hH => ?_)
                obtain ⟨hu, hr_50⟩ := hw
                have hu : f_51 = f_45 := hu
                rw [hu] at hH
                refine lv_aload hx hb dX3_shift_169 (lv_at hl 1 rfl) ?_
                obtain ⟨ca_53, ia_53, si_53, bf_53, F_53, hca_53, hia_53, hbf_53⟩ : okB rho_17 (T o48_) b65_ (f_45 b65_) := hI.pool h2_65
                have tI_53 : (nI (T o48_)).toInt = (T o48_ : Int) := nI_toInt (by have := hT3 o48_; omega)
                refine m_get (ci := 2) (v := .ref ia_53) (C := RX2) (T := TX2) (N := 5) hx hb hC hH hts in_X3_shift_X2 hown F_53 rfl 2 (by decide) (hts (.fieldLink RX3 194 "LazyState$Body" "items" "[I") (by decide +kernel)) rfl dX3_shift_171 ?_
                refine lv_iload hx hb dX3_shift_174 (lv_at hl 3 rfl) ?_
                refine lv_iconst (v := 0) hx hb dX3_shift_176 (by decide) ?_
                refine m_goi hH (va_runS (As := [.int d_, .int 0]) (rest := [.ref ia_53, .int r_50, .ref ia_49]) ⟨hx, hb, hml, hown, hts⟩ (c_X2_itemPlace l G f_45 d_ 0 (by have := kI_0; omega)) (va_cwS 2 hts gX3_shift_X2_itemPlace rfl rfl rfl (by decide +kernel) ⟨Nat.le_of_ble_eq_true rfl, Nat.le_of_ble_eq_true rfl⟩) (m_preS hC hH) rfl rfl hl.1 rfl (lv_room (Nat.le_of_ble_eq_true rfl)) dX3_shift_177 ⟨by show _ ≤ 3 * nds k i f a.toNatClampNeg c_.toNatClampNeg; first | omega | (unfold nds; omega), by show _ ≤ 29 * nds k i f a.toNatClampNeg c_.toNatClampNeg; first | omega | (unfold nds; omega)⟩) (fun r_54 rho_56 f_55 H locs hw hH => ?_)
                obtain ⟨hu, hr_54⟩ := hw
                have hu : f_55 = f_45 := hu
                rw [hu] at hH
                refine lv_lload hx hb dX3_shift_180 (lv_at hl 0 rfl) ?_
                refine lv_l2i hx hb dX3_shift_182 rfl ?_
                refine lv_topi (fun x_57 ex_57 => ?_)
                have ix_57 : x_57.toInt = y_38.toInt := ic_l2i ex_57 rfl (by omega) (by omega)
                have z0_ := kI_0
                obtain ⟨g_58, hg_58, hp_58⟩ : okI G 0 16 (fun _ => True) (f_45 ia_49) := hI.pool hia_49
                obtain ⟨g_59, hg_59, hp_59⟩ : okI G 0 16 (fun _ => True) (f_45 ia_53) := hI.pool hia_53
                refine m_copyi (rest := []) (sp := r_50) (dp := r_54) (n := x_57) hx hb (hml.trans hl.1.symm) hC hH hown (hts (.methodLink RX3 214 arraycopyName) (by decide +kernel)) (hts (.native arraycopyName) (by decide +kernel)) (hts (.static arraycopyName) (by decide +kernel)) (hts (.initialized "java/lang/System") (by decide +kernel)) hg_58 hg_59 (fun q_ => by have := ic_lt (rfl : r_50.toInt = _) kI_0 q_; omega) (fun q_ => by have := ic_lt (rfl : r_54.toInt = _) kI_0 q_; omega) (fun q_ => by have := ic_lt (rfl : x_57.toInt = _) kI_0 q_; omega) (by have := ic_clN (rfl : r_50.toInt = _) (by omega); have := ic_clN (rfl : x_57.toInt = _) (by omega); omega) (by have := ic_clN (rfl : r_54.toInt = _) (by omega); have := ic_clN (rfl : x_57.toInt = _) (by omega); omega) (Nat.le_of_ble_eq_true rfl) (Nat.le_of_ble_eq_true rfl) dX3_shift_183 (fun H locs hH => ?_)
                obtain ⟨f_60, ef_60⟩ : ∃ zz_ : mF, zz_ = va_up f_45 ia_53 (some (.inl (gk G 0, 16, .inl (va_cpy g_58 g_59 r_50.toNatClampNeg r_54.toNatClampNeg x_57.toNatClampNeg)))) := ⟨_, rfl⟩
                rw [← ef_60] at hH
                have hpt : nul (cpF k i f_60) 24 + nds k i f a.toNatClampNeg c_.toNatClampNeg = nul (cpF k i f) 24 := by rw [cpF_c (upn ef_60 (Ne.symm (hI.nk (j := (5 + 8 * i + 5)) (by omega) (by rw [hia_53]; simp))))]; exact hpt
                have F_61 := upk F_47 ef_60 (ne_rho rr_19 hia_53 (by simp))
                have F_62 := upk F_48 ef_60 (ne_rho h2_155 hia_53 (by simp))
                have F_63 := upk F_49 ef_60 (ne_rho rr_20 hia_53 (by simp))
                have F_64 := upk F_53 ef_60 (ne_rho h2_65 hia_53 (by simp))
                have hI : IC G k rho_17 n T z st f_60 := hI.setP hia_53 (by simp) ef_60 (show okI G 0 16 (fun _ => True) _ from ⟨_, rfl, trivial⟩)
                have hfr := hfr.upP (by rw [hia_53]; simp) ef_60
                refine lv_iconst (v := 0) hx hb dX3_shift_186 (by decide) ?_
                exact m_iret (v := 0) hx hb hr hlk hC hH rho_17 ⟨hI, hfr, Or.inr hpt⟩ (by unfold nds; omega) (by unfold nds; omega) dX3_shift_187
              · skip
                have ic_43 : (y_38.toInt : Int) > y_42.toInt := lc_nle rfl rfl (fun q_ => c_43 ((lg_cmp_le _ _).mpr q_))
                refine lv_iconst (v := 3) hx hb dX3_shift_146 (by decide) ?_
                exact m_iret (v := 3) hx hb hr hlk hC hH rho_17 ⟨hI, hfr, Or.inl (by have := kI_3; omega)⟩ (by unfold nds; omega) (by unfold nds; omega) dX3_shift_147
        · skip
          have ic_35 : (y_34.toInt : Int) = (-3) := lc_eq rfl kJ_m3 ((lg_cmp_eq _ _).mp c_35)
          refine lv_iconst (v := 1) hx hb dX3_shift_99 (by decide) ?_
          exact m_iret (v := 1) hx hb hr hlk hC hH rho_17 ⟨hI, hfr, Or.inl (by have := kI_1; omega)⟩ (by unfold nds; omega) (by unfold nds; omega) dX3_shift_100
    · skip
      have ic_22 : (r_15.toInt : Int) ≠ 0 := ic_ne rfl kI_0 c_22
      refine lv_iload_n hx hb dX3_shift_56 rfl (lv_at hl 0 rfl) ?_
      exact m_iret (v := r_15) hx hb hr hlk hC hH rho_17 ⟨hI, hfr, Or.inl (by omega)⟩ (by unfold nds; omega) (by unfold nds; omega) dX3_shift_57
  · skip
    have ic_8 : (r_2.toInt : Int) ≠ 0 := ic_ne rfl kI_0 c_8
    refine lv_iload_n hx hb dX3_shift_21 rfl (lv_at hl 0 rfl) ?_
    exact m_iret (v := r_2) hx hb hr hlk hC hH rho_4 ⟨hI, hfr, Or.inl (by omega)⟩ (by unfold nds; omega) (by unfold nds; omega) dX3_shift_22
