set_option maxHeartbeats 4000000 in
set_option maxRecDepth 100000 in
theorem c_X3_areAlike (l : Launch) (G : mG) (k : Nat → Nat) (own : tR) (n : Nat) (T z : Nat → Nat) (i : Nat) (hi : i < 3) (D : tD) (dn th ta nx : Int32) (σ : tS) (f : mF) (hM : CM G k own n z D f) (hR : RP n T (k 1) i dn th ta nx σ D) (p_ q_ : Int32) (hp0 : p_.toInt = -3 ∨ (0 ≤ p_.toInt ∧ p_.toInt < n)) (hq0 : q_.toInt = -3 ∨ (0 ≤ q_.toInt ∧ q_.toInt < n)) : Met l yX3_areAlike wsX3_areAlike ({ frames := 3, cells := 3 * (nld (lik T σ p_ q_).2 - nld σ), slots := 29 * (nld (lik T σ p_ q_).2 - nld σ), locals := 102 }) (va_Pc [.ref (k (5 + 8 * i)), .int p_, .int q_] (mW G f)) (va_Qi (fun (r : Int32) (u : mS) => RN G k u.1 n T z i D dn th ta nx ((lik T σ p_ q_).2) u.2 ∧ frD own f u.1 u.2 ∧ ((r.toInt = 1 ∧ (lik T σ p_ q_).1 = true) ∨ (r.toInt = 0 ∧ (lik T σ p_ q_).1 = false))) (fun (u : mS) t => mW G u.2 t) (mA G)) (3 * (nld (lik T σ p_ q_).2 - nld σ)) (29 * (nld (lik T σ p_ q_).2 - nld σ)) (mA G) := by
  refine mMet [.ref (k (5 + 8 * i)), .int p_, .int q_] (cc := cX3_areAlike) (maxL := 4) (ret := (some .boolean)) (by decide) rfl (Nat.le_of_ble_eq_true rfl) ?_
  intro p e s m below meth c ls hx hb hr hml hts hown hlk hnm hC hH hl
  have hl : lv_has ls 4 [(0, .ref (k (5 + 8 * i))), (1, .int p_), (2, .int q_)] := hl
  have hK : KP i D D := KP.rf
  have hfr : frD own f own f := frD.rf
  have n24_ := hR.1.1
  have hT3_ := hR.1.2
  have ok_ := hR.2.1
  obtain ⟨lb_1, hr_1, hlb_1⟩ := hR.2.2.1
  refine lv_iload_n hx hb dX3_areAlike_0 rfl (lv_at hl 1 rfl) ?_
  refine lv_iload_n hx hb dX3_areAlike_1 rfl (lv_at hl 2 rfl) ?_
  refine lv_icmp_ne (tgt := 7) hx hb dX3_areAlike_2 (by decide) (fun c_2 => ?_) (fun c_2 => ?_)
  · skip
    have ic_2 : (p_.toInt : Int) ≠ q_.toInt := ic_ne rfl rfl c_2
    have cne_ : ¬ p_ = q_ := c_2
    refine lv_iload_n hx hb dX3_areAlike_7 rfl (lv_at hl 1 rfl) ?_
    refine lv_bipush (v := (-3)) hx hb dX3_areAlike_8 (by decide) ?_
    refine lv_icmp_eq (tgt := 40) hx hb dX3_areAlike_10 (by decide) (fun c_3 => ?_) (fun c_3 => ?_)
    · skip
      have ic_3 : (p_.toInt : Int) = (-3) := ic_eq rfl kI_m3 c_3
      have m3_ : p_ = -3 := Int32.toInt_inj.mp (by have : (-3 : Int32).toInt = -3 := (by decide); omega)
      refine lv_iconst (v := 0) hx hb dX3_areAlike_40 (by decide) ?_
      exact m_zret (v := 0) hx hb hr (by rfl) hlk hC hH own (by rw [show (lik T σ p_ q_) = (false, σ) from (if_neg cne_).trans (if_pos (Or.inl m3_))]; exact ⟨⟨_, hM, hR, hK⟩, hfr, Or.inr ⟨kI_0, rfl⟩⟩) (by omega) (by omega) dX3_areAlike_41
    · skip
      have ic_3 : (p_.toInt : Int) ≠ (-3) := ic_ne rfl kI_m3 c_3
      refine lv_iload_n hx hb dX3_areAlike_13 rfl (lv_at hl 2 rfl) ?_
      refine lv_bipush (v := (-3)) hx hb dX3_areAlike_14 (by decide) ?_
      refine lv_icmp_eq (tgt := 40) hx hb dX3_areAlike_16 (by decide) (fun c_4 => ?_) (fun c_4 => ?_)
      · skip
        have ic_4 : (q_.toInt : Int) = (-3) := ic_eq rfl kI_m3 c_4
        have m3_ : q_ = -3 := Int32.toInt_inj.mp (by have : (-3 : Int32).toInt = -3 := (by decide); omega)
        refine lv_iconst (v := 0) hx hb dX3_areAlike_40 (by decide) ?_
        exact m_zret (v := 0) hx hb hr (by rfl) hlk hC hH own (by rw [show (lik T σ p_ q_) = (false, σ) from (if_neg cne_).trans (if_pos (Or.inr (Or.inl m3_)))]; exact ⟨⟨_, hM, hR, hK⟩, hfr, Or.inr ⟨kI_0, rfl⟩⟩) (by omega) (by omega) dX3_areAlike_41
      · skip
        have ic_4 : (q_.toInt : Int) ≠ (-3) := ic_ne rfl kI_m3 c_4
        have cl_p := ic_clN (rfl : p_.toInt = _) (by omega)
        have cl_q := ic_clN (rfl : q_.toInt = _) (by omega)
        refine lv_aload_n hx hb dX3_areAlike_19 rfl (lv_at hl 0 rfl) ?_
        have F_5 : f (k (5 + 8 * i)) = some (.inr (3, [.ref (k (5 + 8 * i + 1)), .int lb_1, .int dn, .long (gfS σ), .int th, .int ta, .ref (k 1), .ref (k (5 + 8 * i + 5)), .ref (k (5 + 8 * i + 6)), .ref (k (5 + 8 * i + 7)), .int nx])) := by have w_ := hM.r0 i hi; rw [hr_1] at w_; exact w_
        refine m_get (ci := 3) (v := .ref (k 1)) (C := RX3) (T := TX3) (N := 11) hx hb hC hH hts in_X3_areAlike_X3 hown F_5 rfl 6 (by decide) (hts (.fieldLink RX3 36 "LazyState$Run" "state" "[LLazyState$Body;") (by decide +kernel)) rfl dX3_areAlike_20 ?_
        refine lv_iload_n hx hb dX3_areAlike_23 rfl (lv_at hl 1 rfl) ?_
        have hg_6 := hM.c1
        refine m_aald hx hb hC hH 3 rfl hg_6 (vp_in_iff.mpr ⟨by omega, by omega⟩) dX3_areAlike_24 ?_
        obtain ⟨ctso_7, so_7, boso_7, h1so_7, h2so_7, h3so_7, h4so_7, h5so_7⟩ : ∃ c_, obO T D p_.toNatClampNeg c_ := hR.2.2.2.2.2.2.2.1 p_.toNatClampNeg (by have := ic_clN (rfl : p_.toInt = _) (by omega); omega)
        rw [h1so_7]
        have F_8 : f so_7 = some (.inr (2, [.int (nI (yB boso_7)), .ref (caB boso_7), .ref (iaB boso_7), .int (siB boso_7), va_rf (bfB boso_7)])) := (hM.bf h2so_7).1
        have tI_8 : (nI (yB boso_7)).toInt = ((yB boso_7 : Nat) : Int) := nI_toInt (by rw [h4so_7]; have := hT3_ p_.toNatClampNeg; omega)
        refine m_get (ci := 2) (v := .int (nI (yB boso_7))) (C := RX2) (T := TX2) (N := 5) hx hb hC hH hts in_X3_areAlike_X2 hown F_8 rfl 0 (by decide) (hts (.fieldLink RX3 101 "LazyState$Body" "type" "I") (by decide +kernel)) rfl dX3_areAlike_25 ?_
        refine lv_aload_n hx hb dX3_areAlike_28 rfl (lv_at hl 0 rfl) ?_
        refine m_get (ci := 3) (v := .ref (k 1)) (C := RX3) (T := TX3) (N := 11) hx hb hC hH hts in_X3_areAlike_X3 hown F_5 rfl 6 (by decide) (hts (.fieldLink RX3 36 "LazyState$Run" "state" "[LLazyState$Body;") (by decide +kernel)) rfl dX3_areAlike_29 ?_
        refine lv_iload_n hx hb dX3_areAlike_32 rfl (lv_at hl 2 rfl) ?_
        have hg_9 := hM.c1
        refine m_aald hx hb hC hH 3 rfl hg_9 (vp_in_iff.mpr ⟨by omega, by omega⟩) dX3_areAlike_33 ?_
        obtain ⟨ctso_10, so_10, boso_10, h1so_10, h2so_10, h3so_10, h4so_10, h5so_10⟩ : ∃ c_, obO T D q_.toNatClampNeg c_ := hR.2.2.2.2.2.2.2.1 q_.toNatClampNeg (by have := ic_clN (rfl : q_.toInt = _) (by omega); omega)
        rw [h1so_10]
        have F_11 : f so_10 = some (.inr (2, [.int (nI (yB boso_10)), .ref (caB boso_10), .ref (iaB boso_10), .int (siB boso_10), va_rf (bfB boso_10)])) := (hM.bf h2so_10).1
        have tI_11 : (nI (yB boso_10)).toInt = ((yB boso_10 : Nat) : Int) := nI_toInt (by rw [h4so_10]; have := hT3_ q_.toNatClampNeg; omega)
        refine m_get (ci := 2) (v := .int (nI (yB boso_10))) (C := RX2) (T := TX2) (N := 5) hx hb hC hH hts in_X3_areAlike_X2 hown F_11 rfl 0 (by decide) (hts (.fieldLink RX3 101 "LazyState$Body" "type" "I") (by decide +kernel)) rfl dX3_areAlike_34 ?_
        refine lv_icmp_eq (tgt := 42) hx hb dX3_areAlike_37 (by decide) (fun c_12 => ?_) (fun c_12 => ?_)
        · skip
          have ic_12 : (((yB boso_7 : Nat) : Int) : Int) = ((yB boso_10 : Nat) : Int) := ic_eq tI_8 tI_11 c_12
          have teq_ : T p_.toNatClampNeg = T q_.toNatClampNeg := by have a_ := h4so_7; have b_ := h4so_10; omega
          have lk_ : (lik T σ p_ q_) = (lkF (T p_.toNatClampNeg) p_.toNatClampNeg q_.toNatClampNeg 8 0 (sLd (sLd σ p_.toNatClampNeg) q_.toNatClampNeg)) := (if_neg cne_).trans (if_neg (fun z_ => z_.elim (fun y_ => by have z1_ := congrArg Int32.toInt y_; have : (-3 : Int32).toInt = -3 := (by decide); omega) (fun y_ => y_.elim (fun y_ => by have z1_ := congrArg Int32.toInt y_; have : (-3 : Int32).toInt = -3 := (by decide); omega) (fun y_ => y_ teq_))))
          have nq_ : nld (lik T σ p_ q_).2 = nld σ + ldn σ p_.toNatClampNeg + ldn (sLd σ p_.toNatClampNeg) q_.toNatClampNeg := by rw [lk_, nl_lkF, nld_l (by omega), nld_l (by omega)]
          refine lv_aload_n hx hb dX3_areAlike_42 rfl (lv_at hl 0 rfl) ?_
          refine lv_iload_n hx hb dX3_areAlike_43 rfl (lv_at hl 1 rfl) ?_
          refine m_gov hH (va_runV (As := [.int p_]) (rest := []) ⟨hx, hb, hml, hown, hts⟩ (c_X3_load l G k own n T z i hi D dn th ta nx σ f hM hR p_ (by omega)) (cwV 1 hts gX3_areAlike_X3_load rfl rfl rfl (by decide +kernel) ⟨Nat.le_of_ble_eq_true rfl, Nat.le_of_ble_eq_true rfl⟩) (m_preV (ci := 3) hC hH F_5 rfl) rfl rfl hl.1 rfl (lv_room (Nat.le_of_ble_eq_true rfl)) dX3_areAlike_44 ⟨by show _ ≤ 3 * (nld (lik T σ p_ q_).2 - nld σ); omega, by show _ ≤ 29 * (nld (lik T σ p_ q_).2 - nld σ); omega⟩) (fun rho_15 f_14 H locs hw hH => ?_)
          obtain ⟨hI, hfr1⟩ := hw
          have hI : RN G k rho_15 n T z i D dn th ta nx (sLd σ p_.toNatClampNeg) f_14 := hI
          have hfr1 : frD own f rho_15 f_14 := hfr1
          have hfr := hfr.trans hfr1
          obtain ⟨D_16, hM, hR, hK1_16⟩ := hI
          have hK := hK.trans hK1_16
          have n24_ := hR.1.1
          have hT3_ := hR.1.2
          have ok_ := hR.2.1
          obtain ⟨lb_17, hr_17, hlb_17⟩ := hR.2.2.1
          refine lv_aload_n hx hb dX3_areAlike_47 rfl (lv_at hl 0 rfl) ?_
          refine lv_iload_n hx hb dX3_areAlike_48 rfl (lv_at hl 2 rfl) ?_
          have F_21 : f_14 (k (5 + 8 * i)) = some (.inr (3, [.ref (k (5 + 8 * i + 1)), .int lb_17, .int dn, .long (gfS (sLd σ p_.toNatClampNeg)), .int th, .int ta, .ref (k 1), .ref (k (5 + 8 * i + 5)), .ref (k (5 + 8 * i + 6)), .ref (k (5 + 8 * i + 7)), .int nx])) := by have w_ := hM.r0 i hi; rw [hr_17] at w_; exact w_
          refine m_gov hH (va_runV (As := [.int q_]) (rest := []) ⟨hx, hb, hml, hown, hts⟩ (c_X3_load l G k rho_15 n T z i hi D_16 dn th ta nx (sLd σ p_.toNatClampNeg) f_14 hM hR q_ (by omega)) (cwV 1 hts gX3_areAlike_X3_load rfl rfl rfl (by decide +kernel) ⟨Nat.le_of_ble_eq_true rfl, Nat.le_of_ble_eq_true rfl⟩) (m_preV (ci := 3) hC hH F_21 rfl) rfl rfl hl.1 rfl (lv_room (Nat.le_of_ble_eq_true rfl)) dX3_areAlike_49 ⟨by show _ ≤ 3 * (nld (lik T σ p_ q_).2 - nld σ); omega, by show _ ≤ 29 * (nld (lik T σ p_ q_).2 - nld σ); omega⟩) (fun rho_20 f_19 H locs hw hH => ?_)
          obtain ⟨hI, hfr1⟩ := hw
          have hI : RN G k rho_20 n T z i D_16 dn th ta nx (sLd (sLd σ p_.toNatClampNeg) q_.toNatClampNeg) f_19 := hI
          have hfr1 : frD rho_15 f_14 rho_20 f_19 := hfr1
          have hfr := hfr.trans hfr1
          obtain ⟨D_22, hM, hR, hK1_22⟩ := hI
          have hK := hK.trans hK1_22
          have n24_ := hR.1.1
          have hT3_ := hR.1.2
          have ok_ := hR.2.1
          obtain ⟨lb_23, hr_23, hlb_23⟩ := hR.2.2.1
          refine lv_iconst (v := 0) hx hb dX3_areAlike_52 (by decide) ?_
          refine lv_istore_n (lv' := [(3, .int 0), (0, .ref (k (5 + 8 * i))), (1, .int p_), (2, .int q_)]) hx hb dX3_areAlike_53 rfl hl (by decide) rfl (fun ls hl => ?_)
          have loop_54 : ∀ (fuel_ : Nat) (k3 : Int32) (fL : mF) (sL : tS) (h0_ : 0 ≤ k3.toInt) (h1_ : k3.toInt ≤ 8) (hfr : frD own f rho_20 fL) (hI : RN G k rho_20 n T z i D dn th ta nx sL fL) (hl1_ : ldS sL p_.toNatClampNeg = true) (hl2_ : ldS sL q_.toNatClampNeg = true) (hlk_ : lkF (T p_.toNatClampNeg) p_.toNatClampNeg q_.toNatClampNeg (8 - k3.toNatClampNeg) k3.toNatClampNeg sL = (lkF (T p_.toNatClampNeg) p_.toNatClampNeg q_.toNatClampNeg 8 0 (sLd (sLd σ p_.toNatClampNeg) q_.toNatClampNeg))) (_ : ((8 : Int) - k3.toInt).toNat < fuel_) (H : Heap) (locs : List Loc) (ls : Array Slot) (_ : mH G s fL H locs) (_ : lv_has ls 4 [(0, .ref (k (5 + 8 * i))), (1, .int p_), (2, .int q_), (3, .int k3)]), W p l e ({ frames := 3, cells := 3 * (nld (lik T σ p_ q_).2 - nld σ), slots := 29 * (nld (lik T σ p_ q_).2 - nld σ), locals := 102 } : Room) s m ([.ref (k (5 + 8 * i)), .int p_, .int q_] : List Value).toArray below meth c H locs (0 + (3 * (ldn σ p_.toNatClampNeg)) + (3 * (ldn (sLd σ p_.toNatClampNeg) q_.toNatClampNeg))) (0 + (29 * (ldn σ p_.toNatClampNeg)) + (29 * (ldn (sLd σ p_.toNatClampNeg) q_.toNatClampNeg))) (MQ below (va_Qi (fun (r : Int32) (u : mS) => RN G k u.1 n T z i D dn th ta nx ((lik T σ p_ q_).2) u.2 ∧ frD own f u.1 u.2 ∧ ((r.toInt = 1 ∧ (lik T σ p_ q_).1 = true) ∨ (r.toInt = 0 ∧ (lik T σ p_ q_).1 = false))) (fun (u : mS) t => mW G u.2 t) (mA G)) ([.ref (k (5 + 8 * i)), .int p_, .int q_] : List Value).toArray s (3 * (nld (lik T σ p_ q_).2 - nld σ)) (29 * (nld (lik T σ p_ q_).2 - nld σ)) (mA G)) (F0 m 54 ls []) := by
            intro N_54
            induction N_54 with
            | zero => intro k3 fL sL h0_ h1_ hfr hI hl1_ hl2_ hlk_ hN; omega
            | succ N_54 ih_54 =>
              intro k3 fL sL h0_ h1_ hfr hI hl1_ hl2_ hlk_ hN_54 H locs ls hH hl
              obtain ⟨D_24, hM, hR, hK⟩ := hI
              have n24_ := hR.1.1
              have hT3_ := hR.1.2
              have ok_ := hR.2.1
              obtain ⟨lb_25, hr_25, hlb_25⟩ := hR.2.2.1
              refine lv_iload_n hx hb dX3_areAlike_54 rfl (lv_at hl 3 rfl) ?_
              refine lv_bipush (v := 8) hx hb dX3_areAlike_55 (by decide) ?_
              refine lv_icmp_ge (tgt := 118) hx hb dX3_areAlike_57 (by decide) (fun c_26 => ?_) (fun c_26 => ?_)
              · skip
                have ic_26 : (8 : Int) ≤ k3.toInt := ic_le kI_8 rfl c_26
                have ck_ := ic_clN (rfl : k3.toInt = _) (by omega)
                refine lv_iconst (v := 1) hx hb dX3_areAlike_118 (by decide) ?_
                exact m_zret (v := 1) hx hb hr (by rfl) hlk hC hH rho_20 (by have q0_ := hlk_; rw [show 8 - k3.toNatClampNeg = 0 from by omega] at q0_; rw [lk_, ← q0_]; exact ⟨⟨_, hM, hR, hK⟩, hfr, Or.inl ⟨kI_1, rfl⟩⟩) (by omega) (by omega) dX3_areAlike_119
              · skip
                have ic_26 : (8 : Int) > k3.toInt := ic_nle kI_8 rfl c_26
                have ck_ := ic_clN (rfl : k3.toInt = _) (by omega)
                refine lv_aload_n hx hb dX3_areAlike_60 rfl (lv_at hl 0 rfl) ?_
                have F_27 : fL (k (5 + 8 * i)) = some (.inr (3, [.ref (k (5 + 8 * i + 1)), .int lb_25, .int dn, .long (gfS sL), .int th, .int ta, .ref (k 1), .ref (k (5 + 8 * i + 5)), .ref (k (5 + 8 * i + 6)), .ref (k (5 + 8 * i + 7)), .int nx])) := by have w_ := hM.r0 i hi; rw [hr_25] at w_; exact w_
                refine m_get (ci := 3) (v := .ref (k (5 + 8 * i + 5))) (C := RX3) (T := TX3) (N := 11) hx hb hC hH hts in_X3_areAlike_X3 hown F_27 rfl 7 (by decide) (hts (.fieldLink RX3 24 "LazyState$Run" "copies" "[LLazyState$Body;") (by decide +kernel)) rfl dX3_areAlike_61 ?_
                refine lv_iload_n hx hb dX3_areAlike_64 rfl (lv_at hl 1 rfl) ?_
                have hg_28 := hM.r5 i hi
                refine m_aald hx hb hC hH 3 rfl hg_28 (vp_in_iff.mpr ⟨by omega, by omega⟩) dX3_areAlike_65 ?_
                obtain ⟨cp_29, bcp_29, p1cp_29, p2cp_29, p3cp_29, p4cp_29, p5cp_29⟩ := (hR.2.2.2.2.2.2.2.2 p_.toNatClampNeg (by omega)).1 hl1_
                rw [p1cp_29]
                refine lv_iload_n hx hb dX3_areAlike_66 rfl (lv_at hl 3 rfl) ?_
                have F_33 : fL cp_29 = some (.inr (2, [.int (nI (yB bcp_29)), .ref (caB bcp_29), .ref (iaB bcp_29), .int (siB bcp_29), va_rf (bfB bcp_29)])) := (hM.bf p2cp_29).1
                have tI_33 : (nI (yB bcp_29)).toInt = ((yB bcp_29 : Nat) : Int) := nI_toInt (by rw [p4cp_29]; have := hT3_ p_.toNatClampNeg; omega)
                refine m_goi hH (va_runV (As := [.int k3]) (rest := []) ⟨hx, hb, hml, hown, hts⟩ (c_X2_sortOf l G fL cp_29 bcp_29 (hM.bf p2cp_29) (by rw [p4cp_29]; have := hT3_ p_.toNatClampNeg; omega) k3) (cwV 1 hts gX3_areAlike_X2_sortOf rfl rfl rfl (by decide +kernel) ⟨Nat.le_of_ble_eq_true rfl, Nat.le_of_ble_eq_true rfl⟩) (m_preV (ci := 2) hC hH F_33 rfl) rfl rfl hl.1 rfl (lv_room (Nat.le_of_ble_eq_true rfl)) dX3_areAlike_67 ⟨by show _ ≤ 3 * (nld (lik T σ p_ q_).2 - nld σ); omega, by show _ ≤ 29 * (nld (lik T σ p_ q_).2 - nld σ); omega⟩) (fun r_30 rho_32 f_31 H locs hw hH => ?_)
                obtain ⟨hu, hr_30⟩ := hw
                have hu : f_31 = fL := hu
                rw [hu] at hH
                try dsimp only at hr_30
                have so_ := (hr_30.resolve_right (fun z_ => by omega)).2.2
                rw [p4cp_29] at so_
                have sb_ := srt_b (T p_.toNatClampNeg) (hT3_ _) k3.toNatClampNeg (by omega)
                have soI_ : r_30.toInt = ((srt (T p_.toNatClampNeg) k3.toNatClampNeg : Nat) : Int) := by rw [so_]; exact nI_toInt (by omega)
                refine lv_if_eq (tgt := 118) hx hb dX3_areAlike_70 (by decide) (fun c_34 => ?_) (fun c_34 => ?_)
                · skip
                  have ic_34 : (r_30.toInt : Int) = 0 := ic_eq rfl kI_0 c_34
                  have sz_ : srt (T p_.toNatClampNeg) k3.toNatClampNeg = 0 := by omega
                  refine lv_iconst (v := 1) hx hb dX3_areAlike_118 (by decide) ?_
                  exact m_zret (v := 1) hx hb hr (by rfl) hlk hC hH rho_20 (by have q0_ := hlk_; rw [lkF_0 sz_] at q0_; rw [lk_, ← q0_]; exact ⟨⟨_, hM, hR, hK⟩, hfr, Or.inl ⟨kI_1, rfl⟩⟩) (by omega) (by omega) dX3_areAlike_119
                · skip
                  have ic_34 : (r_30.toInt : Int) ≠ 0 := ic_ne rfl kI_0 c_34
                  have sn_ : srt (T p_.toNatClampNeg) k3.toNatClampNeg ≠ 0 := by omega
                  refine lv_aload_n hx hb dX3_areAlike_73 rfl (lv_at hl 0 rfl) ?_
                  refine m_get (ci := 3) (v := .ref (k (5 + 8 * i + 1))) (C := RX3) (T := TX3) (N := 11) hx hb hC hH hts in_X3_areAlike_X3 hown F_27 rfl 0 (by decide) (hts (.fieldLink RX3 12 "LazyState$Run" "trace" "LLazyState$Trace;") (by decide +kernel)) rfl dX3_areAlike_74 ?_
                  refine lv_iload_n hx hb dX3_areAlike_77 rfl (lv_at hl 1 rfl) ?_
                  refine lv_iload_n hx hb dX3_areAlike_78 rfl (lv_at hl 3 rfl) ?_
                  have F_38 := hM.r1 i hi
                  refine m_gov hH (va_runV (As := [.int p_, .int k3]) (rest := []) ⟨hx, hb, hml, hown, hts⟩ (c_X4_noteRead l G k fL i hi hM.kne (trS sL) (tq_of hM hi hR) p_ k3 (by omega) (by omega)) (cwV 2 hts gX3_areAlike_X4_noteRead rfl rfl rfl (by decide +kernel) ⟨Nat.le_of_ble_eq_true rfl, Nat.le_of_ble_eq_true rfl⟩) (m_preV (ci := 4) hC hH F_38 rfl) rfl rfl hl.1 rfl (lv_room (Nat.le_of_ble_eq_true rfl)) dX3_areAlike_79 ⟨by show _ ≤ 3 * (nld (lik T σ p_ q_).2 - nld σ); omega, by show _ ≤ 29 * (nld (lik T σ p_ q_).2 - nld σ); omega⟩) (fun rho_37 f_36 H locs hw hH => ?_)
                  obtain ⟨hT2_, hf2_⟩ := hw
                  have hT2_ : TQ G k i (tchL (2 * (8 * p_.toNatClampNeg + k3.toNatClampNeg)) (trS sL)) f_36 := hT2_
                  have hf2_ : ∀ a, (∀ c, 1 ≤ c → c ≤ 4 → a ≠ k (5 + 8 * i + c)) → f_36 a = fL a := hf2_
                  have hfr := hfr.trans (frD.tq hM hi hT2_ hf2_)
                  obtain ⟨D_39, hM, hR, hK1_39, hBq_39, hQq_39⟩ := tq_in hM hi hR (c := (2 * (8 * p_.toNatClampNeg + k3.toNatClampNeg))) (by have := ic_clN (rfl : p_.toInt = _) (by omega); have := ic_clN (rfl : k3.toInt = _) (by omega); omega) hT2_ hf2_
                  have hK := hK.trans hK1_39
                  have n24_ := hR.1.1
                  have hT3_ := hR.1.2
                  have ok_ := hR.2.1
                  obtain ⟨lb_40, hr_40, hlb_40⟩ := hR.2.2.1
                  refine lv_aload_n hx hb dX3_areAlike_82 rfl (lv_at hl 0 rfl) ?_
                  have F_41 : f_36 (k (5 + 8 * i)) = some (.inr (3, [.ref (k (5 + 8 * i + 1)), .int lb_40, .int dn, .long (gfS (sTc sL (2 * (8 * p_.toNatClampNeg + k3.toNatClampNeg)))), .int th, .int ta, .ref (k 1), .ref (k (5 + 8 * i + 5)), .ref (k (5 + 8 * i + 6)), .ref (k (5 + 8 * i + 7)), .int nx])) := by have w_ := hM.r0 i hi; rw [hr_40] at w_; exact w_
                  refine m_get (ci := 3) (v := .ref (k (5 + 8 * i + 1))) (C := RX3) (T := TX3) (N := 11) hx hb hC hH hts in_X3_areAlike_X3 hown F_41 rfl 0 (by decide) (hts (.fieldLink RX3 12 "LazyState$Run" "trace" "LLazyState$Trace;") (by decide +kernel)) rfl dX3_areAlike_83 ?_
                  refine lv_iload_n hx hb dX3_areAlike_86 rfl (lv_at hl 2 rfl) ?_
                  refine lv_iload_n hx hb dX3_areAlike_87 rfl (lv_at hl 3 rfl) ?_
                  have F_45 := hM.r1 i hi
                  refine m_gov hH (va_runV (As := [.int q_, .int k3]) (rest := []) ⟨hx, hb, hml, hown, hts⟩ (c_X4_noteRead l G k f_36 i hi hM.kne (trS (sTc sL (2 * (8 * p_.toNatClampNeg + k3.toNatClampNeg)))) (tq_of hM hi hR) q_ k3 (by omega) (by omega)) (cwV 2 hts gX3_areAlike_X4_noteRead rfl rfl rfl (by decide +kernel) ⟨Nat.le_of_ble_eq_true rfl, Nat.le_of_ble_eq_true rfl⟩) (m_preV (ci := 4) hC hH F_45 rfl) rfl rfl hl.1 rfl (lv_room (Nat.le_of_ble_eq_true rfl)) dX3_areAlike_88 ⟨by show _ ≤ 3 * (nld (lik T σ p_ q_).2 - nld σ); omega, by show _ ≤ 29 * (nld (lik T σ p_ q_).2 - nld σ); omega⟩) (fun rho_44 f_43 H locs hw hH => ?_)
                  obtain ⟨hT2_, hf2_⟩ := hw
                  have hT2_ : TQ G k i (tchL (2 * (8 * q_.toNatClampNeg + k3.toNatClampNeg)) (trS (sTc sL (2 * (8 * p_.toNatClampNeg + k3.toNatClampNeg))))) f_43 := hT2_
                  have hf2_ : ∀ a, (∀ c, 1 ≤ c → c ≤ 4 → a ≠ k (5 + 8 * i + c)) → f_43 a = f_36 a := hf2_
                  have hfr := hfr.trans (frD.tq hM hi hT2_ hf2_)
                  obtain ⟨D_46, hM, hR, hK1_46, hBq_46, hQq_46⟩ := tq_in hM hi hR (c := (2 * (8 * q_.toNatClampNeg + k3.toNatClampNeg))) (by have := ic_clN (rfl : q_.toInt = _) (by omega); have := ic_clN (rfl : k3.toInt = _) (by omega); omega) hT2_ hf2_
                  have hK := hK.trans hK1_46
                  have n24_ := hR.1.1
                  have hT3_ := hR.1.2
                  have ok_ := hR.2.1
                  obtain ⟨lb_47, hr_47, hlb_47⟩ := hR.2.2.1
                  refine lv_aload_n hx hb dX3_areAlike_91 rfl (lv_at hl 0 rfl) ?_
                  have F_48 : f_43 (k (5 + 8 * i)) = some (.inr (3, [.ref (k (5 + 8 * i + 1)), .int lb_47, .int dn, .long (gfS (sTc (sTc sL (2 * (8 * p_.toNatClampNeg + k3.toNatClampNeg))) (2 * (8 * q_.toNatClampNeg + k3.toNatClampNeg)))), .int th, .int ta, .ref (k 1), .ref (k (5 + 8 * i + 5)), .ref (k (5 + 8 * i + 6)), .ref (k (5 + 8 * i + 7)), .int nx])) := by have w_ := hM.r0 i hi; rw [hr_47] at w_; exact w_
                  refine m_get (ci := 3) (v := .ref (k (5 + 8 * i + 5))) (C := RX3) (T := TX3) (N := 11) hx hb hC hH hts in_X3_areAlike_X3 hown F_48 rfl 7 (by decide) (hts (.fieldLink RX3 24 "LazyState$Run" "copies" "[LLazyState$Body;") (by decide +kernel)) rfl dX3_areAlike_92 ?_
                  refine lv_iload_n hx hb dX3_areAlike_95 rfl (lv_at hl 1 rfl) ?_
                  have hg_49 := hM.r5 i hi
                  refine m_aald hx hb hC hH 3 rfl hg_49 (vp_in_iff.mpr ⟨by omega, by omega⟩) dX3_areAlike_96 ?_
                  obtain ⟨cp_50, bcp_50, p1cp_50, p2cp_50, p3cp_50, p4cp_50, p5cp_50⟩ := (hR.2.2.2.2.2.2.2.2 p_.toNatClampNeg (by omega)).1 hl1_
                  rw [p1cp_50]
                  refine lv_aload_n hx hb dX3_areAlike_97 rfl (lv_at hl 0 rfl) ?_
                  refine m_get (ci := 3) (v := .ref (k (5 + 8 * i + 5))) (C := RX3) (T := TX3) (N := 11) hx hb hC hH hts in_X3_areAlike_X3 hown F_48 rfl 7 (by decide) (hts (.fieldLink RX3 24 "LazyState$Run" "copies" "[LLazyState$Body;") (by decide +kernel)) rfl dX3_areAlike_98 ?_
                  refine lv_iload_n hx hb dX3_areAlike_101 rfl (lv_at hl 2 rfl) ?_
                  have hg_51 := hM.r5 i hi
                  refine m_aald hx hb hC hH 3 rfl hg_51 (vp_in_iff.mpr ⟨by omega, by omega⟩) dX3_areAlike_102 ?_
                  obtain ⟨cp_52, bcp_52, p1cp_52, p2cp_52, p3cp_52, p4cp_52, p5cp_52⟩ := (hR.2.2.2.2.2.2.2.2 q_.toNatClampNeg (by omega)).1 hl2_
                  rw [p1cp_52]
                  refine lv_iload_n hx hb dX3_areAlike_103 rfl (lv_at hl 3 rfl) ?_
                  have F_56 : f_43 cp_50 = some (.inr (2, [.int (nI (yB bcp_50)), .ref (caB bcp_50), .ref (iaB bcp_50), .int (siB bcp_50), va_rf (bfB bcp_50)])) := (hM.bf p2cp_50).1
                  have tI_56 : (nI (yB bcp_50)).toInt = ((yB bcp_50 : Nat) : Int) := nI_toInt (by rw [p4cp_50]; have := hT3_ p_.toNatClampNeg; omega)
                  refine m_goi hH (va_runV (As := [.ref cp_52, .int k3]) (rest := []) ⟨hx, hb, hml, hown, hts⟩ (c_X2_hasSameField l G f_43 cp_50 bcp_50 (hM.bf p2cp_50) (by rw [p4cp_50]; have := hT3_ p_.toNatClampNeg; omega) cp_52 bcp_52 (hM.bf p2cp_52) (by rw [p4cp_52]; have := hT3_ q_.toNatClampNeg; omega) k3 (by omega)) (cwV 2 hts gX3_areAlike_X2_hasSameField rfl rfl rfl (by decide +kernel) ⟨Nat.le_of_ble_eq_true rfl, Nat.le_of_ble_eq_true rfl⟩) (m_preV (ci := 2) hC hH F_56 rfl) rfl rfl hl.1 rfl (lv_room (Nat.le_of_ble_eq_true rfl)) dX3_areAlike_104 ⟨by show _ ≤ 3 * (nld (lik T σ p_ q_).2 - nld σ); omega, by show _ ≤ 29 * (nld (lik T σ p_ q_).2 - nld σ); omega⟩) (fun r_53 rho_55 f_54 H locs hw hH => ?_)
                  obtain ⟨hu, hr_53⟩ := hw
                  have hu : f_54 = f_43 := hu
                  rw [hu] at hH
                  try dsimp only at hr_53
                  have sm_ : sameF (yB bcp_50) k3.toNatClampNeg (cB bcp_50) (cB bcp_52) ↔ sameF (T p_.toNatClampNeg) k3.toNatClampNeg (bdS sL p_.toNatClampNeg) (bdS sL q_.toNatClampNeg) := by rw [p4cp_50]; have a_ := p5cp_50 k3.toNatClampNeg (by omega); have b_ := p5cp_52 k3.toNatClampNeg (by omega); rw [← teq_] at b_; exact sameF_c a_ b_
                  rw [sm_] at hr_53
                  refine lv_if_ne (tgt := 112) hx hb dX3_areAlike_107 (by decide) (fun c_57 => ?_) (fun c_57 => ?_)
                  · skip
                    have ic_57 : (r_53.toInt : Int) ≠ 0 := ic_ne rfl kI_0 c_57
                    obtain ⟨x_58, ex_58⟩ : ∃ y : Int32, y = k3 + 1 := ⟨_, rfl⟩
                    have ix_58 : x_58.toInt = k3.toInt + 1 := ic_add ex_58 rfl kI_1 (by omega) (by omega)
                    refine lv_iinc (v := x_58) (lv' := [(3, .int x_58), (0, .ref (k (5 + 8 * i))), (1, .int p_), (2, .int q_)]) hx hb dX3_areAlike_112 hl (k := 3) rfl (by rw [ex_58]; rfl) (by decide) rfl (fun ls hl => ?_)
                    refine lv_goto (tgt := 54) hx hb dX3_areAlike_115 (by decide) ?_
                    exact ih_54 x_58 f_43 (sTc (sTc sL (2 * (8 * p_.toNatClampNeg + k3.toNatClampNeg))) (2 * (8 * q_.toNatClampNeg + k3.toNatClampNeg))) (by omega) (by omega) hfr (⟨_, hM, hR, hK⟩) hl1_ hl2_ (by have q0_ := hlk_; rw [show 8 - k3.toNatClampNeg = (8 - (k3.toNatClampNeg + 1)) + 1 from by omega, lkF_y (s := sL) sn_ (hr_53.resolve_right (fun y_ => by omega)).2] at q0_; rw [show x_58.toNatClampNeg = k3.toNatClampNeg + 1 from by have := ic_clN (rfl : x_58.toInt = _) (by omega); have := ic_clN (rfl : k3.toInt = _) (by omega); omega]; exact q0_) (by omega) _ _ _ hH (lv_sub hl [1, 2, 3, 0] rfl)
                  · skip
                    have ic_57 : (r_53.toInt : Int) = 0 := ic_eq rfl kI_0 c_57
                    refine lv_iconst (v := 0) hx hb dX3_areAlike_110 (by decide) ?_
                    exact m_zret (v := 0) hx hb hr (by rfl) hlk hC hH rho_20 (by have q0_ := hlk_; rw [show 8 - k3.toNatClampNeg = (8 - (k3.toNatClampNeg + 1)) + 1 from by omega, lkF_n (s := sL) sn_ (hr_53.resolve_left (fun y_ => by omega)).2] at q0_; rw [lk_, ← q0_]; exact ⟨⟨_, hM, hR, hK⟩, hfr, Or.inr ⟨kI_0, rfl⟩⟩) (by omega) (by omega) dX3_areAlike_111
          exact loop_54 (((8 : Int) - 0).toNat + 1) 0 f_19 (sLd (sLd σ p_.toNatClampNeg) q_.toNatClampNeg) (by have := kI_0; omega) (by have := kI_0; omega) hfr (⟨_, hM, hR, hK⟩) (sLd_m sLd_s) sLd_s rfl (by have := kI_0; omega) _ _ _ hH (lv_sub hl [1, 2, 3, 0] rfl)
        · skip
          have ic_12 : (((yB boso_7 : Nat) : Int) : Int) ≠ ((yB boso_10 : Nat) : Int) := ic_ne tI_8 tI_11 c_12
          refine lv_iconst (v := 0) hx hb dX3_areAlike_40 (by decide) ?_
          exact m_zret (v := 0) hx hb hr (by rfl) hlk hC hH own (by rw [show (lik T σ p_ q_) = (false, σ) from (if_neg cne_).trans (if_pos (Or.inr (Or.inr (fun z_ => by have a_ := h4so_7; have b_ := h4so_10; rw [z_] at a_; omega))))]; exact ⟨⟨_, hM, hR, hK⟩, hfr, Or.inr ⟨kI_0, rfl⟩⟩) (by omega) (by omega) dX3_areAlike_41
  · skip
    have ic_2 : (p_.toInt : Int) = q_.toInt := ic_eq rfl rfl c_2
    refine lv_iconst (v := 1) hx hb dX3_areAlike_5 (by decide) ?_
    exact m_zret (v := 1) hx hb hr (by rfl) hlk hC hH own (by rw [show (lik T σ p_ q_) = (true, σ) from if_pos c_2]; exact ⟨⟨_, hM, hR, hK⟩, hfr, Or.inl ⟨kI_1, rfl⟩⟩) (by omega) (by omega) dX3_areAlike_6
