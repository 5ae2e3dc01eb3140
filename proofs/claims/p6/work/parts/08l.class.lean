set_option maxHeartbeats 4000000 in
set_option maxRecDepth 100000 in
theorem c_X3_work (l : Launch) (G : mG) (k : Nat → Nat) (rho : tR) (n : Nat) (T z : Nat → Nat) (st : Nat → Bool) (f : mF) (hI : IC G k rho n T z st f) (i : Nat) (hi : i < 3) (hst : st i = true ∧ 0 < n) (b : Nat) (hb6 : b < 6) : Met l yX3_work wsX3_work ({ frames := 6, cells := 78, slots := 754, locals := 179 }) (va_Pc [.ref (k (5 + 8 * i)), .ref (k (29 + 2 * b))] (mW G f)) (va_Qv (fun (u : mS) => IC G k u.1 n T z st u.2 ∧ frC k rho f u.1 u.2) (fun (u : mS) t => mW G u.2 t) (mA G)) 78 754 (mA G) := by
  refine mMet [.ref (k (5 + 8 * i)), .ref (k (29 + 2 * b))] (cc := cX3_work) (maxL := 6) (ret := none) (by decide) rfl (Nat.le_of_ble_eq_true rfl) ?_
  intro p e s m below meth c ls hx hb hr hml hts hown hlk hnm hC hH hl
  have hl : lv_has ls 6 [(0, .ref (k (5 + 8 * i))), (1, .ref (k (29 + 2 * b)))] := hl
  have hj := hI.2.2.2.2.1
  have hn24 := hI.2.2.2.2.2.2.1
  have hT3 := hI.2.2.2.2.2.2.2.1
  have hz32 := hI.2.2.2.2.2.2.2.2
  have nIn : (nI n).toInt = (n : Int) := nI_toInt (by omega)
  have hfr : frC k rho f rho f := frC.rf
  have hn0_ := hst.2
  refine lv_iconst (v := 0) hx hb dX3_work_0 (by decide) ?_
  refine lv_istore_n (lv' := [(2, .int 0), (0, .ref (k (5 + 8 * i))), (1, .ref (k (29 + 2 * b)))]) hx hb dX3_work_1 rfl hl (by decide) rfl (fun ls hl => ?_)
  refine lv_iconst (v := 0) hx hb dX3_work_2 (by decide) ?_
  refine lv_istore_n (lv' := [(3, .int 0), (2, .int 0), (0, .ref (k (5 + 8 * i))), (1, .ref (k (29 + 2 * b)))]) hx hb dX3_work_3 rfl hl (by decide) rfl (fun ls hl => ?_)
  have loop_4 : ∀ (fuel_ : Nat) (at2 : Int32) (s3 : Int32) (fL : mF) (rhoL : tR) (cl_ sl_ : Nat) (h0_ : 0 ≤ s3.toInt) (h1_ : s3.toInt ≤ 201) (hI : IC G k rhoL n T z st fL) (hfr : frC k rho f rhoL fL) (hcl : cl_ + 3 * nul (cpF k i fL) 24 ≤ 72) (hsl : sl_ + 29 * nul (cpF k i fL) 24 ≤ 696) (_ : ((201 : Int) - s3.toInt).toNat < fuel_) (H : Heap) (locs : List Loc) (ls : Array Slot) (_ : mH G s fL H locs) (_ : lv_has ls 6 [(0, .ref (k (5 + 8 * i))), (1, .ref (k (29 + 2 * b))), (2, .int at2), (3, .int s3)]), W p l e ({ frames := 6, cells := 78, slots := 754, locals := 179 } : Room) s m ([.ref (k (5 + 8 * i)), .ref (k (29 + 2 * b))] : List Value).toArray below meth c H locs cl_ sl_ (MQ below (va_Qv (fun (u : mS) => IC G k u.1 n T z st u.2 ∧ frC k rho f u.1 u.2) (fun (u : mS) t => mW G u.2 t) (mA G)) ([.ref (k (5 + 8 * i)), .ref (k (29 + 2 * b))] : List Value).toArray s 78 754 (mA G)) (F0 m 4 ls []) := by
    intro N_4
    induction N_4 with
    | zero => intro at2 s3 fL rhoL cl_ sl_ h0_ h1_ hI hfr hcl hsl hN; omega
    | succ N_4 ih_4 =>
      intro at2 s3 fL rhoL cl_ sl_ h0_ h1_ hI hfr hcl hsl hN_4 H locs ls hH hl
      refine lv_iload_n hx hb dX3_work_4 rfl (lv_at hl 3 rfl) ?_
      refine lv_sipush (v := 200) hx hb dX3_work_5 (by decide) ?_
      refine lv_icmp_gt (tgt := 85) hx hb dX3_work_8 (by decide) (fun c_1 => ?_) (fun c_1 => ?_)
      · skip
        have ic_1 : (200 : Int) < s3.toInt := ic_lt kI_200 rfl c_1
        exact m_vret hx hb hr hlk hC hH rhoL ⟨hI, hfr⟩ (by omega) (by omega) dX3_work_85
      · skip
        have ic_1 : (200 : Int) ≥ s3.toInt := ic_nlt kI_200 rfl c_1
        refine lv_aload_n hx hb dX3_work_11 rfl (lv_at hl 1 rfl) ?_
        refine lv_iload_n hx hb dX3_work_12 rfl (lv_at hl 2 rfl) ?_
        have F_5 : fL (k (29 + 2 * b)) = some (.inr (1, [.ref (k (29 + 2 * b + 1)), .int (nI (z b))])) := hI.beh hb6
        have zb_5 := hz32 b
        have zI_5 : (nI (z b)).toInt = (z b : Int) := nI_toInt (by omega)
        refine m_goq hH (va_runV (As := [.int at2]) (rest := []) ⟨hx, hb, hml, hown, hts⟩ (c_X1_actAt l G k rhoL n T z st fL hI b hb6 at2) (cwV 1 hts gX3_work_X1_actAt rfl rfl rfl (by decide +kernel) ⟨Nat.le_of_ble_eq_true rfl, Nat.le_of_ble_eq_true rfl⟩) (m_preV (ci := 1) hC hH F_5 rfl) rfl rfl hl.1 rfl (lv_room (Nat.le_of_ble_eq_true rfl)) dX3_work_13 ⟨by show _ ≤ 78; omega, by show _ ≤ 754; omega⟩) (fun r_2 rho_4 f_3 H locs hw hH => ?_)
        obtain ⟨hu, hr_2⟩ := hw
        have hu : f_3 = fL := hu
        rw [hu] at hH
        rcases hr_2 with hz_ | ⟨ac_, hz_, hr_ac⟩
        · skip
          rw [hz_]
          refine lv_astoreN (lv' := [(4, .null), (0, .ref (k (5 + 8 * i))), (1, .ref (k (29 + 2 * b))), (2, .int at2), (3, .int s3)]) hx hb dX3_work_16 hl (by decide) rfl (fun ls hl => ?_)
          refine lv_aloadN hx hb dX3_work_18 (lv_at hl 0 rfl) ?_
          refine lv_ifnonnullN hx hb dX3_work_20 ?_
          exact m_vret hx hb hr hlk hC hH rhoL ⟨hI, hfr⟩ (by omega) (by omega) dX3_work_23
        · skip
          rw [hz_]
          refine lv_astore (lv' := [(4, .ref ac_), (0, .ref (k (5 + 8 * i))), (1, .ref (k (29 + 2 * b))), (2, .int at2), (3, .int s3)]) hx hb dX3_work_16 hl (by decide) rfl (fun ls hl => ?_)
          refine lv_aload hx hb dX3_work_18 (lv_at hl 0 rfl) ?_
          refine lv_ifnonnull (tgt := 24) hx hb dX3_work_20 (by decide) ?_
          refine lv_iload_n hx hb dX3_work_24 rfl (lv_at hl 4 rfl) ?_
          refine lv_sipush (v := 200) hx hb dX3_work_25 (by decide) ?_
          refine lv_icmp_ne (tgt := 39) hx hb dX3_work_28 (by decide) (fun c_6 => ?_) (fun c_6 => ?_)
          · skip
            have ic_6 : (s3.toInt : Int) ≠ 200 := ic_ne rfl kI_200 c_6
            refine lv_aload_n hx hb dX3_work_39 rfl (lv_at hl 1 rfl) ?_
            refine lv_iload_n hx hb dX3_work_40 rfl (lv_at hl 4 rfl) ?_
            refine lv_iconst (v := 1) hx hb dX3_work_41 (by decide) ?_
            refine lv_iadd hx hb dX3_work_42 ?_
            refine lv_topi (fun x_7 ex_7 => ?_)
            have ix_7 : x_7.toInt = s3.toInt + 1 := ic_add ex_7 rfl kI_1 (by omega) (by omega)
            obtain ⟨lb_8, dn_8, gf_8, th_8, ta_8, sr_8, nx_8, F_8, s1_8, s2_8⟩ : okRun k st i (fL (k (5 + 8 * i))) := hI.run (i := i) (c := 0) hi (by decide)
            have s3_8 := s2_8 hst.1
            subst s3_8
            refine m_put (ci := 3) (v := .int x_7) (C := RX3) (T := TX3) (N := 11) hx hb hC hH hts in_X3_work_X3 tyX3 tyX3_ok nmX3 hown F_8 rfl 2 (by decide) (hts (.fieldLink RX3 45 "LazyState$Run" "done" "I") (by decide +kernel)) rfl rfl rfl (Nat.le_of_ble_eq_true rfl) dX3_work_43 (fun H locs hH => ?_)
            have hH : mH G s (va_up fL (k (5 + 8 * i)) (some (.inr (3, [.ref (k (5 + 8 * i + 1)), .int lb_8, .int x_7, .long gf_8, .int th_8, .int ta_8, .ref (k 1), .ref (k (5 + 8 * i + 5)), .ref (k (5 + 8 * i + 6)), .ref (k (5 + 8 * i + 7)), .int nx_8])))) H locs := hH
            obtain ⟨f_9, ef_9⟩ : ∃ zz_ : mF, zz_ = va_up fL (k (5 + 8 * i)) (some (.inr (3, [.ref (k (5 + 8 * i + 1)), .int lb_8, .int x_7, .long gf_8, .int th_8, .int ta_8, .ref (k 1), .ref (k (5 + 8 * i + 5)), .ref (k (5 + 8 * i + 6)), .ref (k (5 + 8 * i + 7)), .int nx_8]))) := ⟨_, rfl⟩
            rw [← ef_9] at hH
            have hcc_ := cpF_c (k := k) (i := i) (upn ef_9 (neC hj (i := (5 + 8 * i + 5)) (j := (5 + 8 * i + 0)) (by omega) (by omega) (by omega)))
            have hnu_ : nul (cpF k i f_9) 24 = nul (cpF k i fL) 24 := by rw [hcc_]
            have F_10 := upk F_5 ef_9 (neC hj (i := (29 + 2 * b)) (j := (5 + 8 * i + 0)) (by omega) (by omega) (by omega))
            have F_11 : f_9 (k (5 + 8 * i)) = some (.inr (3, [.ref (k (5 + 8 * i + 1)), .int lb_8, .int x_7, .long gf_8, .int th_8, .int ta_8, .ref (k 1), .ref (k (5 + 8 * i + 5)), .ref (k (5 + 8 * i + 6)), .ref (k (5 + 8 * i + 7)), .int nx_8])) := by rw [ef_9]; exact va_up_self _ _ _
            have hI : IC G k rhoL n T z st f_9 := hI.setRun hi F_8 ef_9 rfl ⟨_, _, _, _, _, some (k 1), _, rfl, Or.inr rfl, fun _ => rfl⟩
            have hfr := hfr.upK (j := (5 + 8 * i + 0)) (by omega) ef_9
            refine lv_aload_n hx hb dX3_work_46 rfl (lv_at hl 1 rfl) ?_
            refine lv_iload_n hx hb dX3_work_47 rfl (lv_at hl 3 rfl) ?_
            refine lv_iconst (v := 1) hx hb dX3_work_48 (by decide) ?_
            refine lv_iadd hx hb dX3_work_49 ?_
            refine lv_topi (fun x_12 ex_12 => ?_)
            refine m_put (ci := 3) (v := .int x_12) (C := RX3) (T := TX3) (N := 11) hx hb hC hH hts in_X3_work_X3 tyX3 tyX3_ok nmX3 hown F_11 rfl 10 (by decide) (hts (.fieldLink RX3 78 "LazyState$Run" "next" "I") (by decide +kernel)) rfl rfl rfl (Nat.le_of_ble_eq_true rfl) dX3_work_50 (fun H locs hH => ?_)
            have hH : mH G s (va_up f_9 (k (5 + 8 * i)) (some (.inr (3, [.ref (k (5 + 8 * i + 1)), .int lb_8, .int x_7, .long gf_8, .int th_8, .int ta_8, .ref (k 1), .ref (k (5 + 8 * i + 5)), .ref (k (5 + 8 * i + 6)), .ref (k (5 + 8 * i + 7)), .int x_12])))) H locs := hH
            obtain ⟨f_13, ef_13⟩ : ∃ zz_ : mF, zz_ = va_up f_9 (k (5 + 8 * i)) (some (.inr (3, [.ref (k (5 + 8 * i + 1)), .int lb_8, .int x_7, .long gf_8, .int th_8, .int ta_8, .ref (k 1), .ref (k (5 + 8 * i + 5)), .ref (k (5 + 8 * i + 6)), .ref (k (5 + 8 * i + 7)), .int x_12]))) := ⟨_, rfl⟩
            rw [← ef_13] at hH
            have hcc_ := cpF_c (k := k) (i := i) (upn ef_13 (neC hj (i := (5 + 8 * i + 5)) (j := (5 + 8 * i + 0)) (by omega) (by omega) (by omega)))
            have hnu_ : nul (cpF k i f_13) 24 = nul (cpF k i fL) 24 := by rw [hcc_]; exact hnu_
            have F_14 := upk F_10 ef_13 (neC hj (i := (29 + 2 * b)) (j := (5 + 8 * i + 0)) (by omega) (by omega) (by omega))
            have F_15 : f_13 (k (5 + 8 * i)) = some (.inr (3, [.ref (k (5 + 8 * i + 1)), .int lb_8, .int x_7, .long gf_8, .int th_8, .int ta_8, .ref (k 1), .ref (k (5 + 8 * i + 5)), .ref (k (5 + 8 * i + 6)), .ref (k (5 + 8 * i + 7)), .int x_12])) := by rw [ef_13]; exact va_up_self _ _ _
            have hI : IC G k rhoL n T z st f_13 := hI.setRun hi F_11 ef_13 rfl ⟨_, _, _, _, _, some (k 1), _, rfl, Or.inr rfl, fun _ => rfl⟩
            have hfr := hfr.upK (j := (5 + 8 * i + 0)) (by omega) ef_13
            refine lv_aload_n hx hb dX3_work_53 rfl (lv_at hl 1 rfl) ?_
            refine lv_aload hx hb dX3_work_54 (lv_at hl 0 rfl) ?_
            obtain ⟨kd_16, aa_16, bb_16, c2_16, d2_16, e2_16, F_16, hok_16⟩ : okAc (f_13 ac_) := hI.pool hr_ac
            obtain ⟨cx_, hcx_, hM_⟩ := c_X3_perform l G k rhoL n T z st f_13 hI i hi hst ac_ hr_ac kd_16 aa_16 bb_16 c2_16 d2_16 e2_16 F_16 _ rfl hok_16
            have hnz_ := nul_le (cpF k i f_13) 24
            refine m_goi hH (va_runV (As := [.ref ac_]) (rest := []) ⟨hx, hb, hml, hown, hts⟩ (hM_) (cwV 1 hts gX3_work_X3_perform rfl rfl rfl (by decide +kernel) ⟨Nat.le_of_ble_eq_true rfl, Nat.le_of_ble_eq_true rfl⟩) (m_preV (ci := 3) hC hH F_15 rfl) rfl rfl hl.1 rfl (lv_room (Nat.le_of_ble_eq_true rfl)) dX3_work_56 ⟨by show _ ≤ 78; omega, by show _ ≤ 754; omega⟩) (fun r_17 rho_19 f_18 H locs hw hH => ?_)
            obtain ⟨hI, hfr1, hpf_⟩ := hw
            have hI : IC G k rho_19 n T z st f_18 := hI
            have hfr1 : frC k rhoL f_13 rho_19 f_18 := hfr1
            have hfr := hfr.trans hfr1
            have rr_20 := (hfr1 _ _ F_16).2.1.trans hr_ac
            have F_21 := (hfr1 _ _ F_16).2.2 (fun j_ hj_ => hI.nk hj_ (by rw [rr_20]; simp)) (Or.inr (by rw [hr_ac]))
            have hpf_ : r_17.toInt ≠ 0 ∨ nul (cpF k i f_18) 24 + cx_ = nul (cpF k i f_13) 24 := hpf_
            refine lv_istore (lv' := [(5, .int r_17), (4, .ref ac_), (0, .ref (k (5 + 8 * i))), (1, .ref (k (29 + 2 * b))), (2, .int at2), (3, .int s3)]) hx hb dX3_work_59 hl (by decide) rfl (fun ls hl => ?_)
            refine lv_iload hx hb dX3_work_61 (lv_at hl 0 rfl) ?_
            refine lv_if_eq (tgt := 74) hx hb dX3_work_63 (by decide) (fun c_22 => ?_) (fun c_22 => ?_)
            · skip
              have ic_22 : (r_17.toInt : Int) = 0 := ic_eq rfl kI_0 c_22
              refine lv_aload_n hx hb dX3_work_74 rfl (lv_at hl 2 rfl) ?_
              obtain ⟨lb_23, dn_23, gf_23, th_23, ta_23, sr_23, nx_23, F_23, s1_23, s2_23⟩ : okRun k st i (f_18 (k (5 + 8 * i))) := hI.run (i := i) (c := 0) hi (by decide)
              have s3_23 := s2_23 hst.1
              subst s3_23
              refine m_get (ci := 3) (v := .int nx_23) (C := RX3) (T := TX3) (N := 11) hx hb hC hH hts in_X3_work_X3 hown F_23 rfl 10 (by decide) (hts (.fieldLink RX3 78 "LazyState$Run" "next" "I") (by decide +kernel)) rfl dX3_work_75 ?_
              refine lv_istore_n (lv' := [(2, .int nx_23), (5, .int r_17), (4, .ref ac_), (0, .ref (k (5 + 8 * i))), (1, .ref (k (29 + 2 * b))), (3, .int s3)]) hx hb dX3_work_78 rfl hl (by decide) rfl (fun ls hl => ?_)
              obtain ⟨x_24, ex_24⟩ : ∃ y : Int32, y = s3 + 1 := ⟨_, rfl⟩
              have ix_24 : x_24.toInt = s3.toInt + 1 := ic_add ex_24 rfl kI_1 (by omega) (by omega)
              refine lv_iinc (v := x_24) (lv' := [(3, .int x_24), (2, .int nx_23), (5, .int r_17), (4, .ref ac_), (0, .ref (k (5 + 8 * i))), (1, .ref (k (29 + 2 * b)))]) hx hb dX3_work_79 hl (k := 5) rfl (by rw [ex_24]; rfl) (by decide) rfl (fun ls hl => ?_)
              refine lv_goto (tgt := 4) hx hb dX3_work_82 (by decide) ?_
              exact ih_4 nx_23 x_24 f_18 rho_19 (cl_ + 0 + (3 * cx_)) (sl_ + 0 + (29 * cx_)) (by omega) (by omega) hI hfr (by omega) (by omega) (by omega) _ _ _ hH (lv_sub hl [4, 5, 1, 0] rfl)
            · skip
              have ic_22 : (r_17.toInt : Int) ≠ 0 := ic_ne rfl kI_0 c_22
              refine lv_aload_n hx hb dX3_work_66 rfl (lv_at hl 2 rfl) ?_
              refine lv_iload hx hb dX3_work_67 (lv_at hl 0 rfl) ?_
              refine lv_iload_n hx hb dX3_work_69 rfl (lv_at hl 4 rfl) ?_
              obtain ⟨lb_28, dn_28, gf_28, th_28, ta_28, sr_28, nx_28, F_28, s1_28, s2_28⟩ : okRun k st i (f_18 (k (5 + 8 * i))) := hI.run (i := i) (c := 0) hi (by decide)
              have s3_28 := s2_28 hst.1
              subst s3_28
              refine m_gov hH (va_runV (As := [.int r_17, .int at2]) (rest := []) ⟨hx, hb, hml, hown, hts⟩ (c_X3_fail l G k rho_19 n T z st f_18 hI i hi hst r_17 at2) (cwV 2 hts gX3_work_X3_fail rfl rfl rfl (by decide +kernel) ⟨Nat.le_of_ble_eq_true rfl, Nat.le_of_ble_eq_true rfl⟩) (m_preV (ci := 3) hC hH F_28 rfl) rfl rfl hl.1 rfl (lv_room (Nat.le_of_ble_eq_true rfl)) dX3_work_70 ⟨by show _ ≤ 78; omega, by show _ ≤ 754; omega⟩) (fun rho_27 f_26 H locs hw hH => ?_)
              obtain ⟨hu, hI, hfr1, hkc1⟩ := hw
              have hI : IC G k rho_19 n T z st f_26 := hI
              have hfr1 : frC k rho_19 f_18 rho_19 f_26 := hfr1
              have hfr := hfr.trans hfr1
              exact m_vret hx hb hr hlk hC hH rho_19 ⟨hI, hfr⟩ (by omega) (by omega) dX3_work_73
          · skip
            have ic_6 : (s3.toInt : Int) = 200 := ic_eq rfl kI_200 c_6
            refine lv_aload_n hx hb dX3_work_31 rfl (lv_at hl 1 rfl) ?_
            refine lv_bipush (v := 7) hx hb dX3_work_32 (by decide) ?_
            refine lv_iload_n hx hb dX3_work_34 rfl (lv_at hl 3 rfl) ?_
            obtain ⟨lb_32, dn_32, gf_32, th_32, ta_32, sr_32, nx_32, F_32, s1_32, s2_32⟩ : okRun k st i (fL (k (5 + 8 * i))) := hI.run (i := i) (c := 0) hi (by decide)
            have s3_32 := s2_32 hst.1
            subst s3_32
            refine m_gov hH (va_runV (As := [.int 7, .int at2]) (rest := []) ⟨hx, hb, hml, hown, hts⟩ (c_X3_fail l G k rhoL n T z st fL hI i hi hst 7 at2) (cwV 2 hts gX3_work_X3_fail rfl rfl rfl (by decide +kernel) ⟨Nat.le_of_ble_eq_true rfl, Nat.le_of_ble_eq_true rfl⟩) (m_preV (ci := 3) hC hH F_32 rfl) rfl rfl hl.1 rfl (lv_room (Nat.le_of_ble_eq_true rfl)) dX3_work_35 ⟨by show _ ≤ 78; omega, by show _ ≤ 754; omega⟩) (fun rho_31 f_30 H locs hw hH => ?_)
            obtain ⟨hu, hI, hfr1, hkc1⟩ := hw
            have hI : IC G k rhoL n T z st f_30 := hI
            have hfr1 : frC k rhoL fL rhoL f_30 := hfr1
            have hfr := hfr.trans hfr1
            exact m_vret hx hb hr hlk hC hH rhoL ⟨hI, hfr⟩ (by omega) (by omega) dX3_work_38
  exact loop_4 (((201 : Int) - 0).toNat + 1) 0 0 f rho 0 0 (by have := kI_0; have := kI_0; omega) (by have := kI_0; have := kI_0; omega) hI hfr (by have := nul_le (cpF k i f) 24; omega) (by have := nul_le (cpF k i f) 24; omega) (by have := kI_0; have := kI_0; omega) _ _ _ hH (lv_sub hl [2, 3, 1, 0] rfl)
