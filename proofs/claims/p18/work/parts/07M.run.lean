set_option maxHeartbeats 4000000 in
set_option maxRecDepth 100000 in
theorem c_X3_work (l : Launch) (G : mG) (k : Nat → Nat) (own : tR) (n : Nat) (T z : Nat → Nat) (i : Nat) (hi : i < 3) (D : tD) (dn th ta nx : Int32) (σ : tS) (f : mF) (hM : CM G k own n z D f) (hR : RP n T (k 1) i dn th ta nx σ D) (b : Nat) (hb6 : b < 6) (hz32 : z b ≤ 32) (Ab : Nat → tA) (hAb : ∀ p_, p_ < z b → okA (Ab p_) ∧ ∃ a_, QD D (29 + 2 * b + 1) p_ = some a_ ∧ AD D a_ = some (Ab p_)) (hdn : dn = nI 0) (hth : th = nI 0) (hta : ta = -3) : Met l yX3_work wsX3_work ({ frames := 6, cells := 3 * (nld (rnS T Ab (z b) 200 0 0 σ).2.2.2 - nld σ), slots := 29 * (nld (rnS T Ab (z b) 200 0 0 σ).2.2.2 - nld σ), locals := 179 }) (va_Pc [.ref (k (5 + 8 * i)), .ref (k (29 + 2 * b))] (mW G f)) (va_Qv (fun (u : mS) => (∃ nx2, RN G k u.1 n T z i D (nI (rnS T Ab (z b) 200 0 0 σ).2.2.1) (nI (rnS T Ab (z b) 200 0 0 σ).1) (if (rnS T Ab (z b) 200 0 0 σ).1 = 0 then -3 else nI (rnS T Ab (z b) 200 0 0 σ).2.1) nx2 (rnS T Ab (z b) 200 0 0 σ).2.2.2 u.2) ∧ frD own f u.1 u.2) (fun (u : mS) t => mW G u.2 t) (mA G)) (3 * (nld (rnS T Ab (z b) 200 0 0 σ).2.2.2 - nld σ)) (29 * (nld (rnS T Ab (z b) 200 0 0 σ).2.2.2 - nld σ)) (mA G) := by
  refine mMet [.ref (k (5 + 8 * i)), .ref (k (29 + 2 * b))] (cc := cX3_work) (maxL := 6) (ret := none) (by decide) rfl (Nat.le_of_ble_eq_true rfl) ?_
  intro p e s m below meth c ls hx hb hr hml hts hown hlk hnm hC hH hl
  have hl : lv_has ls 6 [(0, .ref (k (5 + 8 * i))), (1, .ref (k (29 + 2 * b)))] := hl
  have hK : KP i D D := KP.rf
  have hfr : frD own f own f := frD.rf
  have n24_ := hR.1.1
  have hT3_ := hR.1.2
  have ok_ := hR.2.1
  obtain ⟨lb_1, hr_1, hlb_1⟩ := hR.2.2.1
  refine lv_iconst (v := 0) hx hb dX3_work_0 (by decide) ?_
  refine lv_istore_n (lv' := [(2, .int 0), (0, .ref (k (5 + 8 * i))), (1, .ref (k (29 + 2 * b)))]) hx hb dX3_work_1 rfl hl (by decide) rfl (fun ls hl => ?_)
  refine lv_iconst (v := 0) hx hb dX3_work_2 (by decide) ?_
  refine lv_istore_n (lv' := [(3, .int 0), (2, .int 0), (0, .ref (k (5 + 8 * i))), (1, .ref (k (29 + 2 * b)))]) hx hb dX3_work_3 rfl hl (by decide) rfl (fun ls hl => ?_)
  have loop_4 : ∀ (fuel_ : Nat) (at2 : Int32) (s3 : Int32) (fL : mF) (rhoL : tR) (sL : tS) (pL : Nat) (cL : Nat) (dL : Int32) (nL : Int32) (cl_ sl_ : Nat) (hp_ : at2.toInt = ((pL : Nat) : Int)) (hp2_ : pL ≤ 32) (hc_ : s3.toInt = ((cL : Nat) : Int)) (hc2_ : cL ≤ 200) (hd_ : dL = nI cL) (hfr : frD own f rhoL fL) (hI : RN G k rhoL n T z i D dL th ta nL sL fL) (hrn_ : rnS T Ab (z b) (200 - cL) pL cL sL = (rnS T Ab (z b) 200 0 0 σ)) (hcl : cl_ + 3 * nld σ ≤ 3 * nld sL) (hsl : sl_ + 29 * nld σ ≤ 29 * nld sL) (_ : ((201 : Int) - s3.toInt).toNat < fuel_) (H : Heap) (locs : List Loc) (ls : Array Slot) (_ : mH G s fL H locs) (_ : lv_has ls 6 [(0, .ref (k (5 + 8 * i))), (1, .ref (k (29 + 2 * b))), (2, .int at2), (3, .int s3)]), W p l e ({ frames := 6, cells := 3 * (nld (rnS T Ab (z b) 200 0 0 σ).2.2.2 - nld σ), slots := 29 * (nld (rnS T Ab (z b) 200 0 0 σ).2.2.2 - nld σ), locals := 179 } : Room) s m ([.ref (k (5 + 8 * i)), .ref (k (29 + 2 * b))] : List Value).toArray below meth c H locs cl_ sl_ (MQ below (va_Qv (fun (u : mS) => (∃ nx2, RN G k u.1 n T z i D (nI (rnS T Ab (z b) 200 0 0 σ).2.2.1) (nI (rnS T Ab (z b) 200 0 0 σ).1) (if (rnS T Ab (z b) 200 0 0 σ).1 = 0 then -3 else nI (rnS T Ab (z b) 200 0 0 σ).2.1) nx2 (rnS T Ab (z b) 200 0 0 σ).2.2.2 u.2) ∧ frD own f u.1 u.2) (fun (u : mS) t => mW G u.2 t) (mA G)) ([.ref (k (5 + 8 * i)), .ref (k (29 + 2 * b))] : List Value).toArray s (3 * (nld (rnS T Ab (z b) 200 0 0 σ).2.2.2 - nld σ)) (29 * (nld (rnS T Ab (z b) 200 0 0 σ).2.2.2 - nld σ)) (mA G)) (F0 m 4 ls []) := by
    intro N_4
    induction N_4 with
    | zero => intro at2 s3 fL rhoL sL pL cL dL nL cl_ sl_ hp_ hp2_ hc_ hc2_ hd_ hfr hI hrn_ hcl hsl hN; omega
    | succ N_4 ih_4 =>
      intro at2 s3 fL rhoL sL pL cL dL nL cl_ sl_ hp_ hp2_ hc_ hc2_ hd_ hfr hI hrn_ hcl hsl hN_4 H locs ls hH hl
      obtain ⟨D_2, hM, hR, hK⟩ := hI
      have n24_ := hR.1.1
      have hT3_ := hR.1.2
      have ok_ := hR.2.1
      obtain ⟨lb_3, hr_3, hlb_3⟩ := hR.2.2.1
      have nL_ : nld sL ≤ nld (rnS T Ab (z b) 200 0 0 σ).2.2.2 := by rw [← hrn_]; exact rnS_nlm n24_ hT3_ (fun p_ h_ => (hAb p_ h_).1) _ _ _ _ ok_
      refine lv_iload_n hx hb dX3_work_4 rfl (lv_at hl 3 rfl) ?_
      refine lv_sipush (v := 200) hx hb dX3_work_5 (by decide) ?_
      refine lv_icmp_gt (tgt := 85) hx hb dX3_work_8 (by decide) (fun c_4 => ?_) (fun c_4 => ?_)
      · skip
        have ic_4 : (200 : Int) < s3.toInt := ic_lt kI_200 rfl c_4
        omega
      · skip
        have ic_4 : (200 : Int) ≥ s3.toInt := ic_nlt kI_200 rfl c_4
        refine lv_aload_n hx hb dX3_work_11 rfl (lv_at hl 1 rfl) ?_
        refine lv_iload_n hx hb dX3_work_12 rfl (lv_at hl 2 rfl) ?_
        have F_8 := hM.b0 b hb6
        have zI_8 : (nI (z b)).toInt = ((z b : Nat) : Int) := nI_toInt (by omega)
        refine m_goq hH (va_runV (As := [.int at2]) (rest := []) ⟨hx, hb, hml, hown, hts⟩ (c_X1_actAt l G k rhoL n z D_2 fL hM b hb6 hz32 at2) (cwV 1 hts gX3_work_X1_actAt rfl rfl rfl (by decide +kernel) ⟨Nat.le_of_ble_eq_true rfl, Nat.le_of_ble_eq_true rfl⟩) (m_preV (ci := 1) hC hH F_8 rfl) rfl rfl hl.1 rfl (lv_room (Nat.le_of_ble_eq_true rfl)) dX3_work_13 ⟨by show _ ≤ 3 * (nld (rnS T Ab (z b) 200 0 0 σ).2.2.2 - nld σ); omega, by show _ ≤ 29 * (nld (rnS T Ab (z b) 200 0 0 σ).2.2.2 - nld σ); omega⟩) (fun r_5 rho_7 f_6 H locs hw hH => ?_)
        obtain ⟨hu, hr_5⟩ := hw
        have hu : f_6 = fL := hu
        rw [hu] at hH
        try dsimp only at hr_5
        rcases hr_5 with y_ | y_
        · skip
          have pz_ : pL < z b := by omega
          obtain ⟨okA_, aq_, q1_, q2_⟩ := hAb pL pz_
          have qd_ : QD D_2 (29 + 2 * b + 1) = QD D (29 + 2 * b + 1) := (hK.2.2.2.2.1 _ (by omega)).2.2
          have ca_ : at2.toNatClampNeg = pL := by have := ic_clN (rfl : at2.toInt = _) (by omega); omega
          have hz_ : r_5 = some aq_ := y_.2.2.trans (by rw [qd_, ca_]; exact q1_)
          rw [hz_]
          obtain ⟨⟨kd, aa, bb, cc, dd, ee⟩, et_⟩ : ∃ t_ : tA, Ab pL = t_ := ⟨_, rfl⟩
          rw [et_] at okA_ q2_
          have at_ : at2 = nI pL := Int32.toInt_inj.mp (by rw [nI_toInt (by omega)]; omega)
          refine lv_astore (lv' := [(4, .ref aq_), (0, .ref (k (5 + 8 * i))), (1, .ref (k (29 + 2 * b))), (2, .int at2), (3, .int s3)]) hx hb dX3_work_16 hl (by decide) rfl (fun ls hl => ?_)
          refine lv_aload hx hb dX3_work_18 (lv_at hl 0 rfl) ?_
          refine lv_ifnonnull (tgt := 24) hx hb dX3_work_20 (by decide) ?_
          refine lv_iload_n hx hb dX3_work_24 rfl (lv_at hl 4 rfl) ?_
          refine lv_sipush (v := 200) hx hb dX3_work_25 (by decide) ?_
          refine lv_icmp_ne (tgt := 39) hx hb dX3_work_28 (by decide) (fun c_9 => ?_) (fun c_9 => ?_)
          · skip
            have ic_9 : (s3.toInt : Int) ≠ 200 := ic_ne rfl kI_200 c_9
            refine lv_aload_n hx hb dX3_work_39 rfl (lv_at hl 1 rfl) ?_
            refine lv_iload_n hx hb dX3_work_40 rfl (lv_at hl 4 rfl) ?_
            refine lv_iconst (v := 1) hx hb dX3_work_41 (by decide) ?_
            refine lv_iadd hx hb dX3_work_42 ?_
            refine lv_topi (fun x_10 ex_10 => ?_)
            have ix_10 : x_10.toInt = s3.toInt + 1 := ic_add ex_10 rfl kI_1 (by omega) (by omega)
            have F_11 : fL (k (5 + 8 * i)) = some (.inr (3, [.ref (k (5 + 8 * i + 1)), .int lb_3, .int dL, .long (gfS sL), .int th, .int ta, .ref (k 1), .ref (k (5 + 8 * i + 5)), .ref (k (5 + 8 * i + 6)), .ref (k (5 + 8 * i + 7)), .int nL])) := by have w_ := hM.r0 i hi; rw [hr_3] at w_; exact w_
            refine m_put (ci := 3) (v := .int x_10) (C := RX3) (T := TX3) (N := 11) hx hb hC hH hts in_X3_work_X3 tyX3 tyX3_ok nmX3 hown F_11 rfl 2 (by decide) (hts (.fieldLink RX3 45 "LazyState$Run" "done" "I") (by decide +kernel)) rfl rfl rfl (Nat.le_of_ble_eq_true rfl) dX3_work_43 (fun H locs hH => ?_)
            have hH : mH G s (va_up fL (k (5 + 8 * i)) (some (.inr (3, [.ref (k (5 + 8 * i + 1)), .int lb_3, .int x_10, .long (gfS sL), .int th, .int ta, .ref (k 1), .ref (k (5 + 8 * i + 5)), .ref (k (5 + 8 * i + 6)), .ref (k (5 + 8 * i + 7)), .int nL])))) H locs := hH
            obtain ⟨f_12, ef_12⟩ : ∃ zz_ : mF, zz_ = va_up fL (k (5 + 8 * i)) (some (.inr (3, [.ref (k (5 + 8 * i + 1)), .int lb_3, .int x_10, .long (gfS sL), .int th, .int ta, .ref (k 1), .ref (k (5 + 8 * i + 5)), .ref (k (5 + 8 * i + 6)), .ref (k (5 + 8 * i + 7)), .int nL]))) := ⟨_, rfl⟩
            rw [← ef_12] at hH
            have hM := hM.setR (i0 := i) hi (q := (lb_3, x_10, gfS sL, th, ta, some (k 1), nL)) ef_12
            have hR := hR.fld (lb := lb_3) (by rw [hr_3]) (dn2 := x_10) (th2 := th) (ta2 := ta) (nx2 := nL) (gf2 := gfS sL)
            have hK := hK.R (q := (lb_3, x_10, gfS sL, th, ta, some (k 1), nL))
            have hfr := hfr.up (by rw [hM.ok (5 + 8 * i) (by omega)]; exact (by decide : (1 : Nat) ≠ 0)) ef_12
            have hI : RN G k rhoL n T z i D x_10 th ta nL sL f_12 := ⟨_, hM, hR, hK⟩
            obtain ⟨D_13, hM, hR, hK⟩ := hI
            have n24_ := hR.1.1
            have hT3_ := hR.1.2
            have ok_ := hR.2.1
            obtain ⟨lb_14, hr_14, hlb_14⟩ := hR.2.2.1
            refine lv_aload_n hx hb dX3_work_46 rfl (lv_at hl 1 rfl) ?_
            refine lv_iload_n hx hb dX3_work_47 rfl (lv_at hl 3 rfl) ?_
            refine lv_iconst (v := 1) hx hb dX3_work_48 (by decide) ?_
            refine lv_iadd hx hb dX3_work_49 ?_
            refine lv_topi (fun x_15 ex_15 => ?_)
            have ix_15 : x_15.toInt = at2.toInt + 1 := ic_add ex_15 rfl kI_1 (by omega) (by omega)
            have F_16 : f_12 (k (5 + 8 * i)) = some (.inr (3, [.ref (k (5 + 8 * i + 1)), .int lb_14, .int x_10, .long (gfS sL), .int th, .int ta, .ref (k 1), .ref (k (5 + 8 * i + 5)), .ref (k (5 + 8 * i + 6)), .ref (k (5 + 8 * i + 7)), .int nL])) := by have w_ := hM.r0 i hi; rw [hr_14] at w_; exact w_
            refine m_put (ci := 3) (v := .int x_15) (C := RX3) (T := TX3) (N := 11) hx hb hC hH hts in_X3_work_X3 tyX3 tyX3_ok nmX3 hown F_16 rfl 10 (by decide) (hts (.fieldLink RX3 78 "LazyState$Run" "next" "I") (by decide +kernel)) rfl rfl rfl (Nat.le_of_ble_eq_true rfl) dX3_work_50 (fun H locs hH => ?_)
            have hH : mH G s (va_up f_12 (k (5 + 8 * i)) (some (.inr (3, [.ref (k (5 + 8 * i + 1)), .int lb_14, .int x_10, .long (gfS sL), .int th, .int ta, .ref (k 1), .ref (k (5 + 8 * i + 5)), .ref (k (5 + 8 * i + 6)), .ref (k (5 + 8 * i + 7)), .int x_15])))) H locs := hH
            obtain ⟨f_17, ef_17⟩ : ∃ zz_ : mF, zz_ = va_up f_12 (k (5 + 8 * i)) (some (.inr (3, [.ref (k (5 + 8 * i + 1)), .int lb_14, .int x_10, .long (gfS sL), .int th, .int ta, .ref (k 1), .ref (k (5 + 8 * i + 5)), .ref (k (5 + 8 * i + 6)), .ref (k (5 + 8 * i + 7)), .int x_15]))) := ⟨_, rfl⟩
            rw [← ef_17] at hH
            have hM := hM.setR (i0 := i) hi (q := (lb_14, x_10, gfS sL, th, ta, some (k 1), x_15)) ef_17
            have hR := hR.fld (lb := lb_14) (by rw [hr_14]) (dn2 := x_10) (th2 := th) (ta2 := ta) (nx2 := x_15) (gf2 := gfS sL)
            have hK := hK.R (q := (lb_14, x_10, gfS sL, th, ta, some (k 1), x_15))
            have hfr := hfr.up (by rw [hM.ok (5 + 8 * i) (by omega)]; exact (by decide : (1 : Nat) ≠ 0)) ef_17
            have hI : RN G k rhoL n T z i D x_10 th ta x_15 sL f_17 := ⟨_, hM, hR, hK⟩
            obtain ⟨D_18, hM, hR, hK⟩ := hI
            have n24_ := hR.1.1
            have hT3_ := hR.1.2
            have ok_ := hR.2.1
            obtain ⟨lb_19, hr_19, hlb_19⟩ := hR.2.2.1
            refine lv_aload_n hx hb dX3_work_53 rfl (lv_at hl 1 rfl) ?_
            refine lv_aload hx hb dX3_work_54 (lv_at hl 0 rfl) ?_
            have hnx_ : x_15 = nI (pL + 1) := Int32.toInt_inj.mp (by rw [nI_toInt (by omega)]; omega)
            have hdx_ : x_10 = nI (cL + 1) := Int32.toInt_inj.mp (by rw [nI_toInt (by omega)]; omega)
            have pm_ := prf_nlm (T := T) n24_ ok_ okA_
            have rm_ : nld (prf T (kd, aa, bb, cc, dd, ee) sL).2 ≤ nld (rnS T Ab (z b) 200 0 0 σ).2.2.2 := by rw [← hrn_, show 200 - cL = (199 - cL) + 1 from by omega]; by_cases z_ : (prf T (Ab pL) sL).1 = 0; (rw [rnS_g pz_ z_, et_]; exact rnS_nlm n24_ hT3_ (fun p_ h_ => (hAb p_ h_).1) _ _ _ _ (prf_ok n24_ hT3_ ok_ okA_)); (rw [rnS_t pz_ z_, et_]; exact Nat.le_refl _)
            have F_23 : f_17 (k (5 + 8 * i)) = some (.inr (3, [.ref (k (5 + 8 * i + 1)), .int lb_19, .int x_10, .long (gfS sL), .int th, .int ta, .ref (k 1), .ref (k (5 + 8 * i + 5)), .ref (k (5 + 8 * i + 6)), .ref (k (5 + 8 * i + 7)), .int x_15])) := by have w_ := hM.r0 i hi; rw [hr_19] at w_; exact w_
            refine m_goi hH (va_runV (As := [.ref aq_]) (rest := []) ⟨hx, hb, hml, hown, hts⟩ (c_X3_perform l G k rhoL n T z i hi D_18 x_10 th ta x_15 sL f_17 hM hR aq_ kd aa bb cc dd ee (by rw [hK.2.1]; exact q2_) pL hnx_ okA_) (cwV 1 hts gX3_work_X3_perform rfl rfl rfl (by decide +kernel) ⟨Nat.le_of_ble_eq_true rfl, Nat.le_of_ble_eq_true rfl⟩) (m_preV (ci := 3) hC hH F_23 rfl) rfl rfl hl.1 rfl (lv_room (Nat.le_of_ble_eq_true rfl)) dX3_work_56 ⟨by show _ ≤ 3 * (nld (rnS T Ab (z b) 200 0 0 σ).2.2.2 - nld σ); omega, by show _ ≤ 29 * (nld (rnS T Ab (z b) 200 0 0 σ).2.2.2 - nld σ); omega⟩) (fun r_20 rho_22 f_21 H locs hw hH => ?_)
            obtain ⟨hI, hfr1, hr_20⟩ := hw
            have hI : RN G k rho_22 n T z i D_18 x_10 th ta (nI (nxt (kd, aa, bb, cc, dd, ee) pL sL)) ((prf T (kd, aa, bb, cc, dd, ee) sL).2) f_21 := hI
            have hfr1 : frD rhoL f_17 rho_22 f_21 := hfr1
            have hfr := hfr.trans hfr1
            try dsimp only at hr_20
            obtain ⟨D_24, hM, hR, hK1_24⟩ := hI
            have hK := hK.trans hK1_24
            have n24_ := hR.1.1
            have hT3_ := hR.1.2
            have ok_ := hR.2.1
            obtain ⟨lb_25, hr_25, hlb_25⟩ := hR.2.2.1
            refine lv_istore (lv' := [(5, .int r_20), (4, .ref aq_), (0, .ref (k (5 + 8 * i))), (1, .ref (k (29 + 2 * b))), (2, .int at2), (3, .int s3)]) hx hb dX3_work_59 hl (by decide) rfl (fun ls hl => ?_)
            refine lv_iload hx hb dX3_work_61 (lv_at hl 0 rfl) ?_
            refine lv_if_eq (tgt := 74) hx hb dX3_work_63 (by decide) (fun c_26 => ?_) (fun c_26 => ?_)
            · skip
              have ic_26 : (r_20.toInt : Int) = 0 := ic_eq rfl kI_0 c_26
              have a0_ : (prf T (Ab pL) sL).1 = 0 := by rw [et_]; omega
              refine lv_aload_n hx hb dX3_work_74 rfl (lv_at hl 2 rfl) ?_
              have F_27 : f_21 (k (5 + 8 * i)) = some (.inr (3, [.ref (k (5 + 8 * i + 1)), .int lb_25, .int x_10, .long (gfS ((prf T (kd, aa, bb, cc, dd, ee) sL).2)), .int th, .int ta, .ref (k 1), .ref (k (5 + 8 * i + 5)), .ref (k (5 + 8 * i + 6)), .ref (k (5 + 8 * i + 7)), .int (nI (nxt (kd, aa, bb, cc, dd, ee) pL sL))])) := by have w_ := hM.r0 i hi; rw [hr_25] at w_; exact w_
              refine m_get (ci := 3) (v := .int (nI (nxt (kd, aa, bb, cc, dd, ee) pL sL))) (C := RX3) (T := TX3) (N := 11) hx hb hC hH hts in_X3_work_X3 hown F_27 rfl 10 (by decide) (hts (.fieldLink RX3 78 "LazyState$Run" "next" "I") (by decide +kernel)) rfl dX3_work_75 ?_
              refine lv_istore_n (lv' := [(2, .int (nI (nxt (kd, aa, bb, cc, dd, ee) pL sL))), (5, .int r_20), (4, .ref aq_), (0, .ref (k (5 + 8 * i))), (1, .ref (k (29 + 2 * b))), (3, .int s3)]) hx hb dX3_work_78 rfl hl (by decide) rfl (fun ls hl => ?_)
              obtain ⟨x_28, ex_28⟩ : ∃ y : Int32, y = s3 + 1 := ⟨_, rfl⟩
              have ix_28 : x_28.toInt = s3.toInt + 1 := ic_add ex_28 rfl kI_1 (by omega) (by omega)
              refine lv_iinc (v := x_28) (lv' := [(3, .int x_28), (2, .int (nI (nxt (kd, aa, bb, cc, dd, ee) pL sL))), (5, .int r_20), (4, .ref aq_), (0, .ref (k (5 + 8 * i))), (1, .ref (k (29 + 2 * b)))]) hx hb dX3_work_79 hl (k := 5) rfl (by rw [ex_28]; rfl) (by decide) rfl (fun ls hl => ?_)
              refine lv_goto (tgt := 4) hx hb dX3_work_82 (by decide) ?_
              exact ih_4 (nI (nxt (kd, aa, bb, cc, dd, ee) pL sL)) x_28 f_21 rho_22 ((prf T (kd, aa, bb, cc, dd, ee) sL).2) (nxt (kd, aa, bb, cc, dd, ee) pL sL) (cL + 1) x_10 (nI (nxt (kd, aa, bb, cc, dd, ee) pL sL)) (cl_ + 0 + (3 * (nld (prf T (kd, aa, bb, cc, dd, ee) sL).2 - nld sL))) (sl_ + 0 + (29 * (nld (prf T (kd, aa, bb, cc, dd, ee) sL).2 - nld sL))) (nI_toInt (by have := nxt_le (p := pL) (s := sL) okA_ (by omega); omega)) (nxt_le okA_ (by omega)) (by omega) (by omega) hdx_ hfr (⟨_, hM, hR, hK⟩) (by rw [show 200 - (cL + 1) = 199 - cL from by omega]; rw [show 200 - cL = (199 - cL) + 1 from by omega, rnS_g pz_ a0_, et_] at hrn_; exact hrn_) (by omega) (by omega) (by omega) _ _ _ hH (lv_sub hl [4, 5, 1, 0] rfl)
            · skip
              have ic_26 : (r_20.toInt : Int) ≠ 0 := ic_ne rfl kI_0 c_26
              have a0_ : (prf T (Ab pL) sL).1 ≠ 0 := by rw [et_]; omega
              refine lv_aload_n hx hb dX3_work_66 rfl (lv_at hl 2 rfl) ?_
              refine lv_iload hx hb dX3_work_67 (lv_at hl 0 rfl) ?_
              refine lv_iload_n hx hb dX3_work_69 rfl (lv_at hl 4 rfl) ?_
              have F_32 : f_21 (k (5 + 8 * i)) = some (.inr (3, [.ref (k (5 + 8 * i + 1)), .int lb_25, .int x_10, .long (gfS ((prf T (kd, aa, bb, cc, dd, ee) sL).2)), .int th, .int ta, .ref (k 1), .ref (k (5 + 8 * i + 5)), .ref (k (5 + 8 * i + 6)), .ref (k (5 + 8 * i + 7)), .int (nI (nxt (kd, aa, bb, cc, dd, ee) pL sL))])) := by have w_ := hM.r0 i hi; rw [hr_25] at w_; exact w_
              refine m_gov hH (va_runV (As := [.int r_20, .int at2]) (rest := []) ⟨hx, hb, hml, hown, hts⟩ (c_X3_fail l G k rho_22 n T z i hi D_24 x_10 th ta (nI (nxt (kd, aa, bb, cc, dd, ee) pL sL)) ((prf T (kd, aa, bb, cc, dd, ee) sL).2) f_21 hM hR r_20 at2) (cwV 2 hts gX3_work_X3_fail rfl rfl rfl (by decide +kernel) ⟨Nat.le_of_ble_eq_true rfl, Nat.le_of_ble_eq_true rfl⟩) (m_preV (ci := 3) hC hH F_32 rfl) rfl rfl hl.1 rfl (lv_room (Nat.le_of_ble_eq_true rfl)) dX3_work_70 ⟨by show _ ≤ 3 * (nld (rnS T Ab (z b) 200 0 0 σ).2.2.2 - nld σ); omega, by show _ ≤ 29 * (nld (rnS T Ab (z b) 200 0 0 σ).2.2.2 - nld σ); omega⟩) (fun rho_31 f_30 H locs hw hH => ?_)
              obtain ⟨hI, hfr1⟩ := hw
              have hI : RN G k rho_31 n T z i D_24 x_10 r_20 at2 (nI (nxt (kd, aa, bb, cc, dd, ee) pL sL)) ((prf T (kd, aa, bb, cc, dd, ee) sL).2) f_30 := hI
              have hfr1 : frD rho_22 f_21 rho_31 f_30 := hfr1
              have hfr := hfr.trans hfr1
              obtain ⟨D_33, hM, hR, hK1_33⟩ := hI
              have hK := hK.trans hK1_33
              have n24_ := hR.1.1
              have hT3_ := hR.1.2
              have ok_ := hR.2.1
              obtain ⟨lb_34, hr_34, hlb_34⟩ := hR.2.2.1
              exact m_vret hx hb hr hlk hC hH rho_31 (by have re_ : nI (prf T (kd, aa, bb, cc, dd, ee) sL).1 = r_20 := Int32.toInt_inj.mp (by rw [nI_toInt (by have := r_20.toInt_lt; omega)]; omega); rw [← hrn_, show 200 - cL = (199 - cL) + 1 from by omega, rnS_t pz_ a0_]; rw [et_] at a0_ ⊢; exact ⟨⟨_, _, hM, (by show RP n T (k 1) i (nI (cL + 1)) (nI (prf T (kd, aa, bb, cc, dd, ee) sL).1) (if (prf T (kd, aa, bb, cc, dd, ee) sL).1 = 0 then -3 else nI pL) _ (prf T (kd, aa, bb, cc, dd, ee) sL).2 _; rw [if_neg a0_, ← hdx_, re_, ← at_]; exact hR), hK⟩, hfr⟩) (by omega) (by omega) dX3_work_73
          · skip
            have ic_9 : (s3.toInt : Int) = 200 := ic_eq rfl kI_200 c_9
            refine lv_aload_n hx hb dX3_work_31 rfl (lv_at hl 1 rfl) ?_
            refine lv_bipush (v := 7) hx hb dX3_work_32 (by decide) ?_
            refine lv_iload_n hx hb dX3_work_34 rfl (lv_at hl 3 rfl) ?_
            have F_38 : fL (k (5 + 8 * i)) = some (.inr (3, [.ref (k (5 + 8 * i + 1)), .int lb_3, .int dL, .long (gfS sL), .int th, .int ta, .ref (k 1), .ref (k (5 + 8 * i + 5)), .ref (k (5 + 8 * i + 6)), .ref (k (5 + 8 * i + 7)), .int nL])) := by have w_ := hM.r0 i hi; rw [hr_3] at w_; exact w_
            refine m_gov hH (va_runV (As := [.int 7, .int at2]) (rest := []) ⟨hx, hb, hml, hown, hts⟩ (c_X3_fail l G k rhoL n T z i hi D_2 dL th ta nL sL fL hM hR 7 at2) (cwV 2 hts gX3_work_X3_fail rfl rfl rfl (by decide +kernel) ⟨Nat.le_of_ble_eq_true rfl, Nat.le_of_ble_eq_true rfl⟩) (m_preV (ci := 3) hC hH F_38 rfl) rfl rfl hl.1 rfl (lv_room (Nat.le_of_ble_eq_true rfl)) dX3_work_35 ⟨by show _ ≤ 3 * (nld (rnS T Ab (z b) 200 0 0 σ).2.2.2 - nld σ); omega, by show _ ≤ 29 * (nld (rnS T Ab (z b) 200 0 0 σ).2.2.2 - nld σ); omega⟩) (fun rho_37 f_36 H locs hw hH => ?_)
            obtain ⟨hI, hfr1⟩ := hw
            have hI : RN G k rho_37 n T z i D_2 dL 7 at2 nL sL f_36 := hI
            have hfr1 : frD rhoL fL rho_37 f_36 := hfr1
            have hfr := hfr.trans hfr1
            obtain ⟨D_39, hM, hR, hK1_39⟩ := hI
            have hK := hK.trans hK1_39
            have n24_ := hR.1.1
            have hT3_ := hR.1.2
            have ok_ := hR.2.1
            obtain ⟨lb_40, hr_40, hlb_40⟩ := hR.2.2.1
            exact m_vret hx hb hr hlk hC hH rho_37 (by rw [← hrn_, show 200 - cL = 0 from by omega, rnS_7 pz_]; exact ⟨⟨_, _, hM, (by show RP n T (k 1) i (nI cL) (nI 7) (if 7 = 0 then -3 else nI pL) _ sL _; rw [if_neg (by decide), ← hd_, ← at_]; exact hR), hK⟩, hfr⟩) (by omega) (by omega) dX3_work_38
        · skip
          have pz_ : ¬ pL < z b := by omega
          rw [y_.2]
          refine lv_astoreN (lv' := [(4, .null), (0, .ref (k (5 + 8 * i))), (1, .ref (k (29 + 2 * b))), (2, .int at2), (3, .int s3)]) hx hb dX3_work_16 hl (by decide) rfl (fun ls hl => ?_)
          refine lv_aloadN hx hb dX3_work_18 (lv_at hl 0 rfl) ?_
          refine lv_ifnonnullN hx hb dX3_work_20 ?_
          exact m_vret hx hb hr hlk hC hH rhoL (by rw [← hrn_, rnS_end pz_]; exact ⟨⟨_, _, hM, (by show RP n T (k 1) i (nI cL) (nI 0) (if 0 = 0 then -3 else nI 0) _ sL _; rw [if_pos rfl, ← hd_]; rw [hth, hta] at hR; exact hR), hK⟩, hfr⟩) (by omega) (by omega) dX3_work_23
  exact loop_4 (((201 : Int) - 0).toNat + 1) 0 0 f own σ 0 0 dn nx 0 0 kI_0 (Nat.zero_le _) kI_0 (Nat.zero_le _) hdn hfr (⟨_, hM, hR, hK⟩) rfl (by omega) (by omega) (by have := kI_0; have := kI_0; omega) _ _ _ hH (lv_sub hl [2, 3, 1, 0] rfl)
