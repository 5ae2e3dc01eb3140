set_option maxHeartbeats 4000000 in
set_option maxRecDepth 100000 in
theorem c_X5_noteWritten (l : Launch) (G : mG) (k : Nat → Nat) (own : tR) (n : Nat) (T z : Nat → Nat) (D : tD) (f : mF) (hM : CM G k own n z D f) (n24_ : n ≤ 24) (hT3_ : ∀ o, T o < 3) (dn th ta nx : Int32) (σ : tS) (hR0 : RP n T (k 1) 0 dn th ta nx σ D) (o : Int32) (ho : 0 ≤ o.toInt ∧ o.toInt < n) (a_ : Nat) (b0 : tBo) (h1_ : QD D 1 o.toNatClampNeg = some a_) (h2_ : BD D a_ = some b0) (h4_ : yB b0 = T o.toNatClampNeg) (vb : Nat → tB) (h5_ : eqB (T o.toNatClampNeg) (cB b0) (vb o.toNatClampNeg)) (tms : Nat → Int32) (h_ ca fe cb sx : Int32) (hL0 : lD D = (h_, ca, fe, cb, nI (wls (dif n T vb (bdS σ)) (8 * o.toNatClampNeg)).length, sx)) (hW0 : wlC (wls (dif n T vb (bdS σ)) (8 * o.toNatClampNeg)) D) (hT0 : tmC (tmS tms (dif n T vb (bdS σ)) (8 * o.toNatClampNeg)) D) : Met l yX5_noteWritten wsX5_noteWritten ({ frames := 3, cells := 0, slots := 0, locals := 66 }) (va_Pc [.ref (k 0), .int o] (mW G f)) (va_Qv (fun (u : mS) => (∃ D2, CM G k u.1 n z D2 u.2 ∧ NW D D2 ∧ lD D2 = (h_, ca, fe, cb, nI (wls (dif n T vb (bdS σ)) (8 * o.toNatClampNeg + 8)).length, sx) ∧ wlC (wls (dif n T vb (bdS σ)) (8 * o.toNatClampNeg + 8)) D2 ∧ tmC (tmS tms (dif n T vb (bdS σ)) (8 * o.toNatClampNeg + 8)) D2) ∧ frD own f u.1 u.2) (fun (u : mS) t => mW G u.2 t) (mA G)) 0 0 (mA G) := by
  refine mMet [.ref (k 0), .int o] (cc := cX5_noteWritten) (maxL := 4) (ret := none) (by decide) rfl (Nat.le_of_ble_eq_true rfl) ?_
  intro p e s m below meth c ls hx hb hr hml hts hown hlk hnm hC hH hl
  have hl : lv_has ls 4 [(0, .ref (k 0)), (1, .int o)] := hl
  have hfr : frD own f own f := frD.rf
  have tn_ : (nI n).toInt = ((n : Nat) : Int) := nI_toInt (by omega)
  have cl_o := ic_clN (rfl : o.toInt = _) (by omega)
  refine lv_iconst (v := 0) hx hb dX5_noteWritten_0 (by decide) ?_
  refine lv_istore_n (lv' := [(2, .int 0), (0, .ref (k 0)), (1, .int o)]) hx hb dX5_noteWritten_1 rfl hl (by decide) rfl (fun ls hl => ?_)
  have loop_2 : ∀ (fuel_ : Nat) (j2 : Int32) (fL : mF) (h0_ : 0 ≤ j2.toInt) (h8_ : j2.toInt ≤ 8) (hfr : frD own f own fL) (hI : ∃ D2, CM G k own n z D2 fL ∧ NW D D2 ∧ lD D2 = (h_, ca, fe, cb, nI (wls (dif n T vb (bdS σ)) (8 * o.toNatClampNeg + j2.toNatClampNeg)).length, sx) ∧ wlC (wls (dif n T vb (bdS σ)) (8 * o.toNatClampNeg + j2.toNatClampNeg)) D2 ∧ tmC (tmS tms (dif n T vb (bdS σ)) (8 * o.toNatClampNeg + j2.toNatClampNeg)) D2) (_ : ((8 : Int) - j2.toInt).toNat < fuel_) (H : Heap) (locs : List Loc) (ls : Array Slot) (_ : mH G s fL H locs) (_ : lv_has ls 4 [(0, .ref (k 0)), (1, .int o), (2, .int j2)]), W p l e ({ frames := 3, cells := 0, slots := 0, locals := 66 } : Room) s m ([.ref (k 0), .int o] : List Value).toArray below meth c H locs 0 0 (MQ below (va_Qv (fun (u : mS) => (∃ D2, CM G k u.1 n z D2 u.2 ∧ NW D D2 ∧ lD D2 = (h_, ca, fe, cb, nI (wls (dif n T vb (bdS σ)) (8 * o.toNatClampNeg + 8)).length, sx) ∧ wlC (wls (dif n T vb (bdS σ)) (8 * o.toNatClampNeg + 8)) D2 ∧ tmC (tmS tms (dif n T vb (bdS σ)) (8 * o.toNatClampNeg + 8)) D2) ∧ frD own f u.1 u.2) (fun (u : mS) t => mW G u.2 t) (mA G)) ([.ref (k 0), .int o] : List Value).toArray s 0 0 (mA G)) (F0 m 2 ls []) := by
    intro N_2
    induction N_2 with
    | zero => intro j2 fL h0_ h8_ hfr hI hN; omega
    | succ N_2 ih_2 =>
      intro j2 fL h0_ h8_ hfr hI hN_2 H locs ls hH hl
      obtain ⟨D_1, hM, hN, hLd, hW, hTm⟩ := hI
      have hR := hR0.nw hN
      have wlen_ := hW.1
      have c2_ := ic_clN (rfl : j2.toInt = _) (by omega)
      have wle_ := wls_len (dif n T vb (bdS σ)) (8 * o.toNatClampNeg + j2.toNatClampNeg)
      have tw_ : (nI (wls (dif n T vb (bdS σ)) (8 * o.toNatClampNeg + j2.toNatClampNeg)).length).toInt = (((wls (dif n T vb (bdS σ)) (8 * o.toNatClampNeg + j2.toNatClampNeg)).length : Nat) : Int) := nI_toInt (by omega)
      refine lv_iload_n hx hb dX5_noteWritten_2 rfl (lv_at hl 2 rfl) ?_
      refine lv_bipush (v := 8) hx hb dX5_noteWritten_3 (by decide) ?_
      refine lv_icmp_ge (tgt := 72) hx hb dX5_noteWritten_5 (by decide) (fun c_2 => ?_) (fun c_2 => ?_)
      · skip
        have ic_2 : (8 : Int) ≤ j2.toInt := ic_le kI_8 rfl c_2
        exact m_vret hx hb hr hlk hC hH own (by have e_ : (8 * o.toNatClampNeg + j2.toNatClampNeg) = 8 * o.toNatClampNeg + 8 := (by omega); rw [e_] at hLd hW hTm; exact ⟨⟨_, hM, hN, hLd, hW, hTm⟩, hfr⟩) (Nat.le_of_ble_eq_true rfl) (Nat.le_of_ble_eq_true rfl) dX5_noteWritten_72
      · skip
        have ic_2 : (8 : Int) > j2.toInt := ic_nle kI_8 rfl c_2
        refine lv_aload_n hx hb dX5_noteWritten_8 rfl (lv_at hl 0 rfl) ?_
        have F_3 : fL (k 0) = some (.inr (5, [.ref (k 1), .int (nI n), .int h_, .ref (k 2), .ref (k 5), .ref (k 13), .ref (k 21), .int ca, .int fe, .int cb, .ref (k 3), .int (nI ((wls (dif n T vb (bdS σ)) (8 * o.toNatClampNeg + j2.toNatClampNeg)).length)), .ref (k 4), .int sx])) := by have w_ := hM.c0; rw [hLd] at w_; exact w_
        refine m_get (ci := 5) (v := .ref (k 1)) (C := RX5) (T := TX5) (N := 14) hx hb hC hH hts in_X5_noteWritten_X5 hown F_3 rfl 0 (by decide) (hts (.fieldLink RX5 11 "LazyState" "objects" "[LLazyState$Body;") (by decide +kernel)) rfl dX5_noteWritten_9 ?_
        refine lv_iload_n hx hb dX5_noteWritten_12 rfl (lv_at hl 1 rfl) ?_
        have hg_4 := hM.c1
        refine m_aald hx hb hC hH 3 rfl hg_4 (vp_in_iff.mpr ⟨by omega, by omega⟩) dX5_noteWritten_13 ?_
        rw [show QD D_1 1 o.toNatClampNeg = some a_ from by rw [hN.2.2.2.2.2.1]; exact h1_]
        refine lv_aload_n hx hb dX5_noteWritten_14 rfl (lv_at hl 0 rfl) ?_
        refine m_get (ci := 5) (v := .ref (k 5)) (C := RX5) (T := TX5) (N := 14) hx hb hC hH hts in_X5_noteWritten_X5 hown F_3 rfl 4 (by decide) (hts (.fieldLink RX5 24 "LazyState" "latest" "LLazyState$Run;") (by decide +kernel)) rfl dX5_noteWritten_15 ?_
        refine lv_iload_n hx hb dX5_noteWritten_18 rfl (lv_at hl 1 rfl) ?_
        have F_8 : fL (k 5) = some (.inr (3, [.ref (k 6), .int ((rD D_1 0).1), .int ((rD D_1 0).2.1), .long ((rD D_1 0).2.2.1), .int ((rD D_1 0).2.2.2.1), .int ((rD D_1 0).2.2.2.2.1), va_rf ((rD D_1 0).2.2.2.2.2.1), .ref (k 10), .ref (k 11), .ref (k 12), .int ((rD D_1 0).2.2.2.2.2.2)])) := hM.r0 0 (by decide)
        refine m_goq hH (va_runV (As := [.int o]) (rest := [.ref a_]) ⟨hx, hb, hml, hown, hts⟩ (c_X3_bodyOf l G k own n T z 0 (by decide) D_1 dn th ta nx σ fL hM hR o (by omega)) (cwV 1 hts gX5_noteWritten_X3_bodyOf rfl rfl rfl (by decide +kernel) ⟨Nat.le_of_ble_eq_true rfl, Nat.le_of_ble_eq_true rfl⟩) (m_preV (ci := 3) hC hH F_8 rfl) rfl rfl hl.1 rfl (lv_room (Nat.le_of_ble_eq_true rfl)) dX5_noteWritten_19 ⟨Nat.le_of_ble_eq_true rfl, Nat.le_of_ble_eq_true rfl⟩) (fun r_5 rho_7 f_6 H locs hw hH => ?_)
        obtain ⟨hu, ba_9, bb_9, hr_9, u2_9, u4_9, u5_9⟩ := hw
        have hu : f_6 = fL := hu
        rw [hu] at hH
        have hr_9 : r_5 = some ba_9 := hr_9
        rw [hr_9]
        refine lv_iload_n hx hb dX5_noteWritten_22 rfl (lv_at hl 2 rfl) ?_
        have F_13 : fL a_ = some (.inr (2, [.int (nI (yB b0)), .ref (caB b0), .ref (iaB b0), .int (siB b0), va_rf (bfB b0)])) := (hM.bf (show BD D_1 a_ = some b0 from by rw [hN.1]; exact h2_)).1
        have tI_13 : (nI (yB b0)).toInt = ((yB b0 : Nat) : Int) := nI_toInt (by rw [h4_]; have := hT3_ o.toNatClampNeg; omega)
        refine m_goi hH (va_runV (As := [.ref ba_9, .int j2]) (rest := []) ⟨hx, hb, hml, hown, hts⟩ (c_X2_hasSameField l G fL a_ b0 (hM.bf (show BD D_1 a_ = some b0 from by rw [hN.1]; exact h2_)) (by rw [h4_]; have := hT3_ o.toNatClampNeg; omega) ba_9 bb_9 (hM.bf u2_9) (by rw [u4_9]; have := hT3_ o.toNatClampNeg; omega) j2 (by omega)) (cwV 2 hts gX5_noteWritten_X2_hasSameField rfl rfl rfl (by decide +kernel) ⟨Nat.le_of_ble_eq_true rfl, Nat.le_of_ble_eq_true rfl⟩) (m_preV (ci := 2) hC hH F_13 rfl) rfl rfl hl.1 rfl (lv_room (Nat.le_of_ble_eq_true rfl)) dX5_noteWritten_23 ⟨Nat.le_of_ble_eq_true rfl, Nat.le_of_ble_eq_true rfl⟩) (fun r_10 rho_12 f_11 H locs hw hH => ?_)
        obtain ⟨hu, hr_10⟩ := hw
        have hu : f_11 = fL := hu
        rw [hu] at hH
        try dsimp only at hr_10
        refine lv_if_ne (tgt := 66) hx hb dX5_noteWritten_26 (by decide) (fun c_14 => ?_) (fun c_14 => ?_)
        · skip
          have ic_14 : (r_10.toInt : Int) ≠ 0 := ic_ne rfl kI_0 c_14
          have sm_ : sameF (yB b0) j2.toNatClampNeg (cB b0) (cB bb_9) ↔ sameF (T o.toNatClampNeg) j2.toNatClampNeg (vb o.toNatClampNeg) (bdS σ o.toNatClampNeg) := by rw [h4_]; exact sameF_c (h5_ _ (by omega)) (u5_9 _ (by omega))
          have df_ : (dif n T vb (bdS σ)) (8 * o.toNatClampNeg + j2.toNatClampNeg) = false := dif_8f (by omega) (by omega) (sm_.mp (hr_10.resolve_right (fun z_ => by omega)).2)
          obtain ⟨x_15, ex_15⟩ : ∃ y : Int32, y = j2 + 1 := ⟨_, rfl⟩
          have ix_15 : x_15.toInt = j2.toInt + 1 := ic_add ex_15 rfl kI_1 (by omega) (by omega)
          refine lv_iinc (v := x_15) (lv' := [(2, .int x_15), (0, .ref (k 0)), (1, .int o)]) hx hb dX5_noteWritten_66 hl (k := 2) rfl (by rw [ex_15]; rfl) (by decide) rfl (fun ls hl => ?_)
          refine lv_goto (tgt := 2) hx hb dX5_noteWritten_69 (by decide) ?_
          exact ih_2 x_15 fL (by omega) (by omega) hfr (by rw [show 8 * o.toNatClampNeg + x_15.toNatClampNeg = (8 * o.toNatClampNeg + j2.toNatClampNeg) + 1 from by have := ic_clN (rfl : x_15.toInt = _) (by omega); omega, wls_0 df_, tmS_s df_]; exact ⟨_, hM, hN, hLd, hW, hTm⟩) (by omega) _ _ _ hH (lv_sub hl [1, 2, 0] rfl)
        · skip
          have ic_14 : (r_10.toInt : Int) = 0 := ic_eq rfl kI_0 c_14
          have sm_ : sameF (yB b0) j2.toNatClampNeg (cB b0) (cB bb_9) ↔ sameF (T o.toNatClampNeg) j2.toNatClampNeg (vb o.toNatClampNeg) (bdS σ o.toNatClampNeg) := by rw [h4_]; exact sameF_c (h5_ _ (by omega)) (u5_9 _ (by omega))
          have df_ : (dif n T vb (bdS σ)) (8 * o.toNatClampNeg + j2.toNatClampNeg) = true := dif_8t (by omega) (by omega) (fun z_ => (hr_10.resolve_left (fun y_ => by omega)).2 (sm_.mpr z_))
          refine lv_bipush (v := 8) hx hb dX5_noteWritten_29 (by decide) ?_
          refine lv_iload_n hx hb dX5_noteWritten_31 rfl (lv_at hl 1 rfl) ?_
          refine lv_imul hx hb dX5_noteWritten_32 ?_
          refine lv_topi (fun x_16 ex_16 => ?_)
          have ix_16 : x_16.toInt = 8 * o.toInt := ic_mul ex_16 kI_8 rfl (by omega) (by omega)
          refine lv_iload_n hx hb dX5_noteWritten_33 rfl (lv_at hl 2 rfl) ?_
          refine lv_iadd hx hb dX5_noteWritten_34 ?_
          refine lv_topi (fun x_17 ex_17 => ?_)
          have ix_17 : x_17.toInt = x_16.toInt + j2.toInt := ic_add ex_17 rfl rfl (by omega) (by omega)
          have lf_ : x_17 = nI (8 * o.toNatClampNeg + j2.toNatClampNeg) := ic_inj (by omega) (by omega)
          have lfc_ : x_17.toNatClampNeg = (8 * o.toNatClampNeg + j2.toNatClampNeg) := by rw [lf_]; exact nI_cl (by omega)
          refine lv_istore_n (lv' := [(3, .int x_17), (0, .ref (k 0)), (1, .int o), (2, .int j2)]) hx hb dX5_noteWritten_35 rfl hl (by decide) rfl (fun ls hl => ?_)
          refine lv_aload_n hx hb dX5_noteWritten_36 rfl (lv_at hl 1 rfl) ?_
          refine m_get (ci := 5) (v := .ref (k 3)) (C := RX5) (T := TX5) (N := 14) hx hb hC hH hts in_X5_noteWritten_X5 hown F_3 rfl 10 (by decide) (hts (.fieldLink RX5 34 "LazyState" "writtenLeaves" "[I") (by decide +kernel)) rfl dX5_noteWritten_37 ?_
          refine lv_aload_n hx hb dX5_noteWritten_40 rfl (lv_at hl 1 rfl) ?_
          refine m_get (ci := 5) (v := .int (nI ((wls (dif n T vb (bdS σ)) (8 * o.toNatClampNeg + j2.toNatClampNeg)).length))) (C := RX5) (T := TX5) (N := 14) hx hb hC hH hts in_X5_noteWritten_X5 hown F_3 rfl 11 (by decide) (hts (.fieldLink RX5 131 "LazyState" "writtenCount" "I") (by decide +kernel)) rfl dX5_noteWritten_41 ?_
          refine lv_iload_n hx hb dX5_noteWritten_44 rfl (lv_at hl 0 rfl) ?_
          have hg_18 := hM.c3
          refine m_iast hx hb hC hH hg_18 (vp_in_iff.mpr (by rw [tw_]; exact ⟨by omega, by omega⟩)) dX5_noteWritten_45 (fun H locs hH => ?_)
          obtain ⟨f_19, ef_19⟩ : ∃ zz_ : mF, zz_ = va_up fL (k 3) (some (.inl (gk G 0, 192, .inl (upd (ID D_1 3) ((nI ((wls (dif n T vb (bdS σ)) (8 * o.toNatClampNeg + j2.toNatClampNeg)).length)).toNatClampNeg) x_17)))) := ⟨_, rfl⟩
          rw [← ef_19] at hH
          have ix_ : (nI ((wls (dif n T vb (bdS σ)) (8 * o.toNatClampNeg + j2.toNatClampNeg)).length)).toNatClampNeg = (wls (dif n T vb (bdS σ)) (8 * o.toNatClampNeg + j2.toNatClampNeg)).length := nI_cl (by omega)
          rw [ix_] at ef_19
          have hfr := hfr.up (by rw [hM.ok 3 (by omega)]; exact (by decide : (1 : Nat) ≠ 0)) ef_19
          have hM := hM.setI_3 ef_19
          have hW := hW.app (by omega) lf_
          rw [← wls_1 df_] at hW
          have hN := hN.I3 (g := upd (ID D_1 3) (wls (dif n T vb (bdS σ)) (8 * o.toNatClampNeg + j2.toNatClampNeg)).length x_17)
          obtain ⟨D_20, eD_20⟩ : ∃ d_ : tD, d_ = dI D_1 3 (upd (ID D_1 3) (wls (dif n T vb (bdS σ)) (8 * o.toNatClampNeg + j2.toNatClampNeg)).length x_17) := ⟨_, rfl⟩
          have hM : CM G k own n z D_20 f_19 := by rw [eD_20]; exact hM
          have hN : NW D D_20 := by rw [eD_20]; exact hN
          have hLd : lD D_20 = (h_, ca, fe, cb, nI (wls (dif n T vb (bdS σ)) (8 * o.toNatClampNeg + j2.toNatClampNeg)).length, sx) := by rw [eD_20]; exact hLd
          have hW : wlC (wls (dif n T vb (bdS σ)) ((8 * o.toNatClampNeg + j2.toNatClampNeg) + 1)) D_20 := by rw [eD_20]; exact hW
          have hTm : tmC (tmS tms (dif n T vb (bdS σ)) (8 * o.toNatClampNeg + j2.toNatClampNeg)) D_20 := by rw [eD_20]; exact hTm
          refine lv_aload_n hx hb dX5_noteWritten_46 rfl (lv_at hl 1 rfl) ?_
          refine lv_dup hx hb dX5_noteWritten_47 rfl ?_
          have F_21 : f_19 (k 0) = some (.inr (5, [.ref (k 1), .int (nI n), .int h_, .ref (k 2), .ref (k 5), .ref (k 13), .ref (k 21), .int ca, .int fe, .int cb, .ref (k 3), .int (nI ((wls (dif n T vb (bdS σ)) (8 * o.toNatClampNeg + j2.toNatClampNeg)).length)), .ref (k 4), .int sx])) := by have w_ := hM.c0; rw [hLd] at w_; exact w_
          refine m_get (ci := 5) (v := .int (nI ((wls (dif n T vb (bdS σ)) (8 * o.toNatClampNeg + j2.toNatClampNeg)).length))) (C := RX5) (T := TX5) (N := 14) hx hb hC hH hts in_X5_noteWritten_X5 hown F_21 rfl 11 (by decide) (hts (.fieldLink RX5 131 "LazyState" "writtenCount" "I") (by decide +kernel)) rfl dX5_noteWritten_48 ?_
          refine lv_iconst (v := 1) hx hb dX5_noteWritten_51 (by decide) ?_
          refine lv_iadd hx hb dX5_noteWritten_52 ?_
          refine lv_topi (fun x_22 ex_22 => ?_)
          have ix_22 : x_22.toInt = (((wls (dif n T vb (bdS σ)) (8 * o.toNatClampNeg + j2.toNatClampNeg)).length : Nat) : Int) + 1 := ic_add ex_22 tw_ kI_1 (by omega) (by omega)
          refine m_put (ci := 5) (v := .int x_22) (C := RX5) (T := TX5) (N := 14) hx hb hC hH hts in_X5_noteWritten_X5 tyX5 tyX5_ok nmX5 hown F_21 rfl 11 (by decide) (hts (.fieldLink RX5 131 "LazyState" "writtenCount" "I") (by decide +kernel)) rfl rfl rfl (Nat.le_of_ble_eq_true rfl) dX5_noteWritten_53 (fun H locs hH => ?_)
          have hH : mH G s (va_up f_19 (k 0) (some (.inr (5, [.ref (k 1), .int (nI n), .int h_, .ref (k 2), .ref (k 5), .ref (k 13), .ref (k 21), .int ca, .int fe, .int cb, .ref (k 3), .int x_22, .ref (k 4), .int sx])))) H locs := hH
          obtain ⟨f_23, ef_23⟩ : ∃ zz_ : mF, zz_ = va_up f_19 (k 0) (some (.inr (5, [.ref (k 1), .int (nI n), .int h_, .ref (k 2), .ref (k 5), .ref (k 13), .ref (k 21), .int ca, .int fe, .int cb, .ref (k 3), .int x_22, .ref (k 4), .int sx]))) := ⟨_, rfl⟩
          rw [← ef_23] at hH
          have wl1_ : (wls (dif n T vb (bdS σ)) ((8 * o.toNatClampNeg + j2.toNatClampNeg) + 1)).length = (wls (dif n T vb (bdS σ)) (8 * o.toNatClampNeg + j2.toNatClampNeg)).length + 1 := by rw [wls_1 df_, List.length_append]; rfl
          have wn_ : x_22 = nI (wls (dif n T vb (bdS σ)) ((8 * o.toNatClampNeg + j2.toNatClampNeg) + 1)).length := by rw [wl1_]; exact ic_inj (by omega) (by omega)
          rw [wn_] at ef_23
          have hfr := hfr.up (by rw [hM.ok 0 (by omega)]; exact (by decide : (1 : Nat) ≠ 0)) ef_23
          have hM := hM.setL (n2 := n) (c := (h_, ca, fe, cb, nI (wls (dif n T vb (bdS σ)) ((8 * o.toNatClampNeg + j2.toNatClampNeg) + 1)).length, sx)) ef_23
          have hLd : lD (dL D_20 (h_, ca, fe, cb, nI (wls (dif n T vb (bdS σ)) ((8 * o.toNatClampNeg + j2.toNatClampNeg) + 1)).length, sx)) = (h_, ca, fe, cb, nI (wls (dif n T vb (bdS σ)) ((8 * o.toNatClampNeg + j2.toNatClampNeg) + 1)).length, sx) := rfl
          obtain ⟨D_24, eD_24⟩ : ∃ d_ : tD, d_ = dL D_20 (h_, ca, fe, cb, nI (wls (dif n T vb (bdS σ)) ((8 * o.toNatClampNeg + j2.toNatClampNeg) + 1)).length, sx) := ⟨_, rfl⟩
          have hM : CM G k own n z D_24 f_23 := by rw [eD_24]; exact hM
          have hN : NW D D_24 := by rw [eD_24]; exact hN
          have hLd : lD D_24 = (h_, ca, fe, cb, nI (wls (dif n T vb (bdS σ)) ((8 * o.toNatClampNeg + j2.toNatClampNeg) + 1)).length, sx) := by rw [eD_24]; exact hLd
          have hW : wlC (wls (dif n T vb (bdS σ)) ((8 * o.toNatClampNeg + j2.toNatClampNeg) + 1)) D_24 := by rw [eD_24]; exact hW
          have hTm : tmC (tmS tms (dif n T vb (bdS σ)) (8 * o.toNatClampNeg + j2.toNatClampNeg)) D_24 := by rw [eD_24]; exact hTm
          refine lv_aload_n hx hb dX5_noteWritten_56 rfl (lv_at hl 1 rfl) ?_
          have F_25 : f_23 (k 0) = some (.inr (5, [.ref (k 1), .int (nI n), .int h_, .ref (k 2), .ref (k 5), .ref (k 13), .ref (k 21), .int ca, .int fe, .int cb, .ref (k 3), .int (nI ((wls (dif n T vb (bdS σ)) ((8 * o.toNatClampNeg + j2.toNatClampNeg) + 1)).length)), .ref (k 4), .int sx])) := by have w_ := hM.c0; rw [hLd] at w_; exact w_
          refine m_get (ci := 5) (v := .ref (k 4)) (C := RX5) (T := TX5) (N := 14) hx hb hC hH hts in_X5_noteWritten_X5 hown F_25 rfl 12 (by decide) (hts (.fieldLink RX5 38 "LazyState" "writeCounts" "[I") (by decide +kernel)) rfl dX5_noteWritten_57 ?_
          refine lv_iload_n hx hb dX5_noteWritten_60 rfl (lv_at hl 0 rfl) ?_
          refine lv_dup2_11 hx hb dX5_noteWritten_61 rfl rfl ?_
          have hg_26 := hM.c4
          refine m_iald hx hb hC hH hg_26 (vp_in_iff.mpr ⟨by omega, by omega⟩) dX5_noteWritten_62 ?_
          refine lv_topi (fun x_27 ex_27 => ?_)
          refine lv_iconst (v := 1) hx hb dX5_noteWritten_63 (by decide) ?_
          refine lv_iadd hx hb dX5_noteWritten_64 ?_
          refine lv_topi (fun x_28 ex_28 => ?_)
          have hg_29 := hM.c4
          refine m_iast hx hb hC hH hg_29 (vp_in_iff.mpr ⟨by omega, by omega⟩) dX5_noteWritten_65 (fun H locs hH => ?_)
          obtain ⟨f_30, ef_30⟩ : ∃ zz_ : mF, zz_ = va_up f_23 (k 4) (some (.inl (gk G 0, 192, .inl (upd (ID D_24 4) x_17.toNatClampNeg x_28)))) := ⟨_, rfl⟩
          rw [← ef_30] at hH
          have hfr := hfr.up (by rw [hM.ok 4 (by omega)]; exact (by decide : (1 : Nat) ≠ 0)) ef_30
          rw [lfc_] at ef_30
          have hM := hM.setI_4 ef_30
          have hTm := hTm.app (c := (8 * o.toNatClampNeg + j2.toNatClampNeg)) (by omega) (x := x_28) (by rw [ex_28, ex_27, lfc_])
          rw [tmS_u df_] at hTm
          have hN := hN.I4 (g := upd (ID D_24 4) (8 * o.toNatClampNeg + j2.toNatClampNeg) x_28)
          obtain ⟨D_31, eD_31⟩ : ∃ d_ : tD, d_ = dI D_24 4 (upd (ID D_24 4) (8 * o.toNatClampNeg + j2.toNatClampNeg) x_28) := ⟨_, rfl⟩
          have hM : CM G k own n z D_31 f_30 := by rw [eD_31]; exact hM
          have hN : NW D D_31 := by rw [eD_31]; exact hN
          have hLd : lD D_31 = (h_, ca, fe, cb, nI (wls (dif n T vb (bdS σ)) ((8 * o.toNatClampNeg + j2.toNatClampNeg) + 1)).length, sx) := by rw [eD_31]; exact hLd
          have hW : wlC (wls (dif n T vb (bdS σ)) ((8 * o.toNatClampNeg + j2.toNatClampNeg) + 1)) D_31 := by rw [eD_31]; exact hW
          have hTm : tmC (tmS tms (dif n T vb (bdS σ)) ((8 * o.toNatClampNeg + j2.toNatClampNeg) + 1)) D_31 := by rw [eD_31]; exact hTm
          obtain ⟨x_32, ex_32⟩ : ∃ y : Int32, y = j2 + 1 := ⟨_, rfl⟩
          have ix_32 : x_32.toInt = j2.toInt + 1 := ic_add ex_32 rfl kI_1 (by omega) (by omega)
          refine lv_iinc (v := x_32) (lv' := [(2, .int x_32), (3, .int x_17), (0, .ref (k 0)), (1, .int o)]) hx hb dX5_noteWritten_66 hl (k := 3) rfl (by rw [ex_32]; rfl) (by decide) rfl (fun ls hl => ?_)
          refine lv_goto (tgt := 2) hx hb dX5_noteWritten_69 (by decide) ?_
          exact ih_2 x_32 f_30 (by omega) (by omega) hfr (by rw [show 8 * o.toNatClampNeg + x_32.toNatClampNeg = (8 * o.toNatClampNeg + j2.toNatClampNeg) + 1 from by have := ic_clN (rfl : x_32.toInt = _) (by omega); omega]; exact ⟨_, hM, hN, hLd, hW, hTm⟩) (by omega) _ _ _ hH (lv_sub hl [2, 3, 0] rfl)
  exact loop_2 (((8 : Int) - 0).toNat + 1) 0 f (by have := kI_0; omega) (by have := kI_0; omega) hfr (⟨D, hM, NW.rf, hL0, hW0, hT0⟩) (by have := kI_0; omega) _ _ _ hH (lv_sub hl [1, 2, 0] rfl)
set_option maxHeartbeats 4000000 in
set_option maxRecDepth 100000 in
theorem c_X5_keepChanges (l : Launch) (G : mG) (k : Nat → Nat) (own : tR) (n : Nat) (T z : Nat → Nat) (A : Nat → tA) (hg : Nat) (ver : Nat → Nat → tB) (cq : Nat → Bool) (fe : Int32) (tms : Nat → Int32) (ca : Int32) (wh : Int32) (ac th : Nat) (sx : Int32) (D : tD) (f : mF) (hM : CM G k own n z D f) (σ : tS) (hG : GC n T z A hg ver cq fe tms ca ([]) wh ac th sx (ldS σ) (trS σ) (gfS σ) D) (h39 : hg ≤ 39) (dn th2 ta nx : Int32) (hR0 : RP n T (k 1) 0 dn th2 ta nx σ D) : Met l yX5_keepChanges wsX5_keepChanges ({ frames := 4, cells := 72, slots := 696, locals := 104 }) (va_Pc [.ref (k 0)] (mW G f)) (va_Qv (fun (u : mS) => frD own f u.1 u.2 ∧ (((wls (dif n T (ver hg) (bdS σ)) 192) = [] ∧ (∃ D2, CM G k u.1 n z D2 u.2 ∧ GC n T z A hg ver cq fe tms ca ([]) wh ac th sx (ldS σ) (trS σ) (gfS σ) D2)) ∨ ((wls (dif n T (ver hg) (bdS σ)) 192) ≠ [] ∧ (∃ D2, CM G k u.1 n z D2 u.2 ∧ GC n T z A (hg + 1) (va_up ver (hg + 1) (bdS σ)) (fun _ => false) fe (tmS tms (dif n T (ver hg) (bdS σ)) 192) ca (wls (dif n T (ver hg) (bdS σ)) 192) wh ac th sx (ldS σ) (trS σ) (gfS σ) D2)))) (fun (u : mS) t => mW G u.2 t) (mA G)) 72 696 (mA G) := by
  refine mMet [.ref (k 0)] (cc := cX5_keepChanges) (maxL := 3) (ret := none) (by decide) rfl (Nat.le_of_ble_eq_true rfl) ?_
  intro p e s m below meth c ls hx hb hr hml hts hown hlk hnm hC hH hl
  have hl : lv_has ls 3 [(0, .ref (k 0))] := hl
  have hfr : frD own f own f := frD.rf
  have n24_ := hG.bs.1
  have hT3_ := hG.bs.2
  have tn_ : (nI n).toInt = ((n : Nat) : Int) := nI_toInt (by omega)
  obtain ⟨cb0_, hl0_, hcb0_⟩ := hG.ln
  refine lv_iconst (v := 0) hx hb dX5_keepChanges_0 (by decide) ?_
  refine lv_istore_n (lv' := [(1, .int 0), (0, .ref (k 0))]) hx hb dX5_keepChanges_1 rfl hl (by decide) rfl (fun ls hl => ?_)
  have loop_2 : ∀ (fuel_ : Nat) (o1 : Int32) (fL : mF) (rhoL : tR) (cl_ sl_ : Nat) (h0_ : 0 ≤ o1.toInt) (h1_ : o1.toInt ≤ (n : Int)) (hfr : frD own f rhoL fL) (hI : ∃ D2, CM G k rhoL n z D2 fL ∧ ∃ (H_ : Nat) (cx_ : Int32), KX n T (k 1) hg ver dn th2 ta nx σ tms ca fe sx H_ cx_ (8 * o1.toNatClampNeg) o1.toNatClampNeg D D2 ∧ (((wls (dif n T (ver hg) (bdS σ)) (8 * o1.toNatClampNeg)) = [] ∧ H_ = hg ∧ cx_ = cb0_) ∨ ((wls (dif n T (ver hg) (bdS σ)) (8 * o1.toNatClampNeg)) ≠ [] ∧ H_ = hg + 1 ∧ cx_ = 0))) (hcl : (cl_ : Int) ≤ 3 * o1.toInt) (hsl : (sl_ : Int) ≤ 29 * o1.toInt) (_ : ((n : Int) - o1.toInt).toNat < fuel_) (H : Heap) (locs : List Loc) (ls : Array Slot) (_ : mH G s fL H locs) (_ : lv_has ls 3 [(0, .ref (k 0)), (1, .int o1)]), W p l e ({ frames := 4, cells := 72, slots := 696, locals := 104 } : Room) s m ([.ref (k 0)] : List Value).toArray below meth c H locs cl_ sl_ (MQ below (va_Qv (fun (u : mS) => frD own f u.1 u.2 ∧ (((wls (dif n T (ver hg) (bdS σ)) 192) = [] ∧ (∃ D2, CM G k u.1 n z D2 u.2 ∧ GC n T z A hg ver cq fe tms ca ([]) wh ac th sx (ldS σ) (trS σ) (gfS σ) D2)) ∨ ((wls (dif n T (ver hg) (bdS σ)) 192) ≠ [] ∧ (∃ D2, CM G k u.1 n z D2 u.2 ∧ GC n T z A (hg + 1) (va_up ver (hg + 1) (bdS σ)) (fun _ => false) fe (tmS tms (dif n T (ver hg) (bdS σ)) 192) ca (wls (dif n T (ver hg) (bdS σ)) 192) wh ac th sx (ldS σ) (trS σ) (gfS σ) D2)))) (fun (u : mS) t => mW G u.2 t) (mA G)) ([.ref (k 0)] : List Value).toArray s 72 696 (mA G)) (F0 m 2 ls []) := by
    intro N_2
    induction N_2 with
    | zero => intro o1 fL rhoL cl_ sl_ h0_ h1_ hfr hI hcl hsl hN; omega
    | succ N_2 ih_2 =>
      intro o1 fL rhoL cl_ sl_ h0_ h1_ hfr hI hcl hsl hN_2 H locs ls hH hl
      obtain ⟨D_1, hM, H_, cx_, hX, hD⟩ := hI
      have c1_ := ic_clN (rfl : o1.toInt = _) (by omega)
      have hH40_ : H_ ≤ 40 := by omega
      have wl8_ := hX.2.2.1.1
      have tw_2 : (nI ((wls (dif n T (ver hg) (bdS σ)) (8 * o1.toNatClampNeg)).length)).toInt = (((wls (dif n T (ver hg) (bdS σ)) (8 * o1.toNatClampNeg)).length : Nat) : Int) := nI_toInt (by omega)
      have hLd := hX.2.1
      have hR := hX.1
      obtain ⟨lb_3, hr_3, hlb_3⟩ := hR.2.2.1
      refine lv_iload_n hx hb dX5_keepChanges_2 rfl (lv_at hl 1 rfl) ?_
      refine lv_aload_n hx hb dX5_keepChanges_3 rfl (lv_at hl 0 rfl) ?_
      have F_4 : fL (k 0) = some (.inr (5, [.ref (k 1), .int (nI n), .int (nI H_), .ref (k 2), .ref (k 5), .ref (k 13), .ref (k 21), .int ca, .int fe, .int cx_, .ref (k 3), .int (nI ((wls (dif n T (ver hg) (bdS σ)) (8 * o1.toNatClampNeg)).length)), .ref (k 4), .int sx])) := by have w_ := hM.c0; rw [hLd] at w_; exact w_
      refine m_get (ci := 5) (v := .int (nI n)) (C := RX5) (T := TX5) (N := 14) hx hb hC hH hts in_X5_keepChanges_X5 hown F_4 rfl 1 (by decide) (hts (.fieldLink RX5 46 "LazyState" "objectCount" "I") (by decide +kernel)) rfl dX5_keepChanges_4 ?_
      refine lv_icmp_ge (tgt := 71) hx hb dX5_keepChanges_7 (by decide) (fun c_5 => ?_) (fun c_5 => ?_)
      · skip
        have ic_5 : (((n : Nat) : Int) : Int) ≤ o1.toInt := ic_le tn_ rfl c_5
        exact m_vret hx hb hr hlk hC hH rhoL (by have en_ : o1.toNatClampNeg = n := (by omega); rw [en_] at hX hD; rcases hD with ⟨w1_, rfl, rfl⟩ | ⟨w1_, rfl, rfl⟩; (obtain ⟨y1_, y2_⟩ := KX.end0 hG hX hcb0_ w1_; exact ⟨hfr, Or.inl ⟨y1_, _, hM, y2_⟩⟩); (obtain ⟨y1_, y2_⟩ := KX.end1 hG h39 hX w1_; exact ⟨hfr, Or.inr ⟨y1_, _, hM, y2_⟩⟩)) (by omega) (by omega) dX5_keepChanges_71
      · skip
        have ic_5 : (((n : Nat) : Int) : Int) > o1.toInt := ic_nle tn_ rfl c_5
        refine lv_aload_n hx hb dX5_keepChanges_10 rfl (lv_at hl 0 rfl) ?_
        refine m_get (ci := 5) (v := .int (nI ((wls (dif n T (ver hg) (bdS σ)) (8 * o1.toNatClampNeg)).length))) (C := RX5) (T := TX5) (N := 14) hx hb hC hH hts in_X5_keepChanges_X5 hown F_4 rfl 11 (by decide) (hts (.fieldLink RX5 131 "LazyState" "writtenCount" "I") (by decide +kernel)) rfl dX5_keepChanges_11 ?_
        refine lv_istore_n (lv' := [(2, .int (nI ((wls (dif n T (ver hg) (bdS σ)) (8 * o1.toNatClampNeg)).length))), (0, .ref (k 0)), (1, .int o1)]) hx hb dX5_keepChanges_14 rfl hl (by decide) rfl (fun ls hl => ?_)
        refine lv_aload_n hx hb dX5_keepChanges_15 rfl (lv_at hl 1 rfl) ?_
        refine m_get (ci := 5) (v := .ref (k 5)) (C := RX5) (T := TX5) (N := 14) hx hb hC hH hts in_X5_keepChanges_X5 hown F_4 rfl 4 (by decide) (hts (.fieldLink RX5 24 "LazyState" "latest" "LLazyState$Run;") (by decide +kernel)) rfl dX5_keepChanges_16 ?_
        have F_6 : fL (k 5) = some (.inr (3, [.ref (k 6), .int lb_3, .int dn, .long (gfS σ), .int th2, .int ta, .ref (k 1), .ref (k 10), .ref (k 11), .ref (k 12), .int nx])) := by have w_ := hM.r0 0 (by decide); rw [hr_3] at w_; exact w_
        refine m_get (ci := 3) (v := .int lb_3) (C := RX3) (T := TX3) (N := 11) hx hb hC hH hts in_X5_keepChanges_X3 hown F_6 rfl 1 (by decide) (hts (.fieldLink RX5 119 "LazyState$Run" "loadedBits" "I") (by decide +kernel)) rfl dX5_keepChanges_19 ?_
        refine lv_iload_n hx hb dX5_keepChanges_22 rfl (lv_at hl 2 rfl) ?_
        refine m_goi hH (va_runS (As := [.int lb_3, .int o1]) (rest := []) ⟨hx, hb, hml, hown, hts⟩ (c_X5_bitOf l G fL lb_3 o1) (va_cwS 2 hts gX5_keepChanges_X5_bitOf rfl rfl rfl (by decide +kernel) ⟨Nat.le_of_ble_eq_true rfl, Nat.le_of_ble_eq_true rfl⟩) (m_preS hC hH) rfl rfl hl.1 rfl (lv_room (Nat.le_of_ble_eq_true rfl)) dX5_keepChanges_23 ⟨by show _ ≤ 72; omega, by show _ ≤ 696; omega⟩) (fun r_7 rho_9 f_8 H locs hw hH => ?_)
        obtain ⟨hu, hr_7⟩ := hw
        have hu : f_8 = fL := hu
        rw [hu] at hH
        try dsimp only at hr_7
        have bq_ : r_7 = b2i (ldS σ o1.toNatClampNeg) := by have w_ := bt_get (x := lb_3) (j := o1.toNatClampNeg) (by omega); rw [nI_ofC (by omega)] at w_; rw [hr_7, w_, hlb_3 o1.toNatClampNeg (by omega)]
        refine lv_iconst (v := 1) hx hb dX5_keepChanges_26 (by decide) ?_
        refine lv_icmp_ne (tgt := 35) hx hb dX5_keepChanges_27 (by decide) (fun c_10 => ?_) (fun c_10 => ?_)
        · skip
          have ic_10 : (r_7.toInt : Int) ≠ 1 := ic_ne rfl kI_1 c_10
          have lf_ : ldS σ o1.toNatClampNeg = false := b2i_n1 (by rw [← bq_]; exact c_10)
          have he_ := hX.un (by omega) lf_
          have hX8 := hX.mv he_
          have wq_ : (wls (dif n T (ver hg) (bdS σ)) (8 * o1.toNatClampNeg + 8)) = (wls (dif n T (ver hg) (bdS σ)) (8 * o1.toNatClampNeg)) := wls_8 8 he_
          have wql_ := congrArg List.length wq_
          have wl8_ := hX8.2.2.1.1
          have tw_11 : (nI ((wls (dif n T (ver hg) (bdS σ)) (8 * o1.toNatClampNeg + 8)).length)).toInt = (((wls (dif n T (ver hg) (bdS σ)) (8 * o1.toNatClampNeg + 8)).length : Nat) : Int) := nI_toInt (by omega)
          have hLd := hX8.2.1
          have hR := hX8.1
          obtain ⟨lb_12, hr_12, hlb_12⟩ := hR.2.2.1
          refine lv_aload_n hx hb dX5_keepChanges_35 rfl (lv_at hl 1 rfl) ?_
          have F_13 : fL (k 0) = some (.inr (5, [.ref (k 1), .int (nI n), .int (nI H_), .ref (k 2), .ref (k 5), .ref (k 13), .ref (k 21), .int ca, .int fe, .int cx_, .ref (k 3), .int (nI ((wls (dif n T (ver hg) (bdS σ)) (8 * o1.toNatClampNeg + 8)).length)), .ref (k 4), .int sx])) := by have w_ := hM.c0; rw [hLd] at w_; exact w_
          refine m_get (ci := 5) (v := .int (nI ((wls (dif n T (ver hg) (bdS σ)) (8 * o1.toNatClampNeg + 8)).length))) (C := RX5) (T := TX5) (N := 14) hx hb hC hH hts in_X5_keepChanges_X5 hown F_13 rfl 11 (by decide) (hts (.fieldLink RX5 131 "LazyState" "writtenCount" "I") (by decide +kernel)) rfl dX5_keepChanges_36 ?_
          refine lv_iload_n hx hb dX5_keepChanges_39 rfl (lv_at hl 0 rfl) ?_
          refine lv_icmp_le (tgt := 65) hx hb dX5_keepChanges_40 (by decide) (fun c_14 => ?_) (fun c_14 => ?_)
          · skip
            have ic_14 : ((((wls (dif n T (ver hg) (bdS σ)) (8 * o1.toNatClampNeg + 8)).length : Nat) : Int) : Int) ≤ (((wls (dif n T (ver hg) (bdS σ)) (8 * o1.toNatClampNeg)).length : Nat) : Int) := ic_le tw_11 tw_2 c_14
            have hX9 := hX8.same (by omega) he_
            obtain ⟨x_15, ex_15⟩ : ∃ y : Int32, y = o1 + 1 := ⟨_, rfl⟩
            have ix_15 : x_15.toInt = o1.toInt + 1 := ic_add ex_15 rfl kI_1 (by omega) (by omega)
            refine lv_iinc (v := x_15) (lv' := [(1, .int x_15), (2, .int (nI ((wls (dif n T (ver hg) (bdS σ)) (8 * o1.toNatClampNeg)).length))), (0, .ref (k 0))]) hx hb dX5_keepChanges_65 hl (k := 2) rfl (by rw [ex_15]; rfl) (by decide) rfl (fun ls hl => ?_)
            refine lv_goto (tgt := 2) hx hb dX5_keepChanges_68 (by decide) ?_
            exact ih_2 x_15 fL rhoL (cl_ + 0) (sl_ + 0) (by omega) (by omega) hfr (by rw [show x_15.toNatClampNeg = o1.toNatClampNeg + 1 from by have := ic_clN (rfl : x_15.toInt = _) (by omega); omega]; exact ⟨_, hM, H_, cx_, hX9, by rw [show 8 * (o1.toNatClampNeg + 1) = 8 * o1.toNatClampNeg + 8 from by omega, wq_]; exact hD⟩) (by omega) (by omega) (by omega) _ _ _ hH (lv_sub hl [2, 0] rfl)
          · skip
            have ic_14 : ((((wls (dif n T (ver hg) (bdS σ)) (8 * o1.toNatClampNeg + 8)).length : Nat) : Int) : Int) > (((wls (dif n T (ver hg) (bdS σ)) (8 * o1.toNatClampNeg)).length : Nat) : Int) := ic_nle tw_11 tw_2 c_14
            omega
        · skip
          have ic_10 : (r_7.toInt : Int) = 1 := ic_eq rfl kI_1 c_10
          have lt_ : ldS σ o1.toNatClampNeg = true := b2i_1 (by rw [← bq_]; exact Int32.toInt_inj.mp ic_10)
          refine lv_aload_n hx hb dX5_keepChanges_30 rfl (lv_at hl 1 rfl) ?_
          refine lv_iload_n hx hb dX5_keepChanges_31 rfl (lv_at hl 2 rfl) ?_
          obtain ⟨ka_, kb_, k1_, k2_, k3_, k4_⟩ := hX.hd (by omega)
          refine m_gov hH (va_runV (As := [.int o1]) (rest := []) ⟨hx, hb, hml, hown, hts⟩ (c_X5_noteWritten l G k rhoL n T z D_1 fL hM n24_ hT3_ dn th2 ta nx σ hR o1 (by omega) ka_ kb_ k1_ k2_ k3_ (ver hg) k4_ tms (nI H_) ca fe cx_ sx hX.2.1 hX.2.2.1 hX.2.2.2.1) (cwV 1 hts gX5_keepChanges_X5_noteWritten rfl rfl rfl (by decide +kernel) ⟨Nat.le_of_ble_eq_true rfl, Nat.le_of_ble_eq_true rfl⟩) (m_preV (ci := 5) hC hH F_4 rfl) rfl rfl hl.1 rfl (lv_room (Nat.le_of_ble_eq_true rfl)) dX5_keepChanges_32 ⟨by show _ ≤ 72; omega, by show _ ≤ 696; omega⟩) (fun rho_18 f_17 H locs hw hH => ?_)
          obtain ⟨⟨D_19, hM, hN_, hL_, hW_, hT_⟩, hfr1⟩ := hw
          have hM : CM G k rho_18 n z D_19 f_17 := hM
          have hfr1 : frD rhoL fL rho_18 f_17 := hfr1
          have hfr := hfr.trans hfr1
          have hX8 : KX n T (k 1) hg ver dn th2 ta nx σ tms ca fe sx H_ cx_ (8 * o1.toNatClampNeg + 8) o1.toNatClampNeg D D_19 := hX.nw hN_ hL_ hW_ hT_
          have wl8_ := hX8.2.2.1.1
          have tw_20 : (nI ((wls (dif n T (ver hg) (bdS σ)) (8 * o1.toNatClampNeg + 8)).length)).toInt = (((wls (dif n T (ver hg) (bdS σ)) (8 * o1.toNatClampNeg + 8)).length : Nat) : Int) := nI_toInt (by omega)
          have hLd := hX8.2.1
          have hR := hX8.1
          obtain ⟨lb_21, hr_21, hlb_21⟩ := hR.2.2.1
          refine lv_aload_n hx hb dX5_keepChanges_35 rfl (lv_at hl 1 rfl) ?_
          have F_22 : f_17 (k 0) = some (.inr (5, [.ref (k 1), .int (nI n), .int (nI H_), .ref (k 2), .ref (k 5), .ref (k 13), .ref (k 21), .int ca, .int fe, .int cx_, .ref (k 3), .int (nI ((wls (dif n T (ver hg) (bdS σ)) (8 * o1.toNatClampNeg + 8)).length)), .ref (k 4), .int sx])) := by have w_ := hM.c0; rw [hLd] at w_; exact w_
          refine m_get (ci := 5) (v := .int (nI ((wls (dif n T (ver hg) (bdS σ)) (8 * o1.toNatClampNeg + 8)).length))) (C := RX5) (T := TX5) (N := 14) hx hb hC hH hts in_X5_keepChanges_X5 hown F_22 rfl 11 (by decide) (hts (.fieldLink RX5 131 "LazyState" "writtenCount" "I") (by decide +kernel)) rfl dX5_keepChanges_36 ?_
          refine lv_iload_n hx hb dX5_keepChanges_39 rfl (lv_at hl 0 rfl) ?_
          refine lv_icmp_le (tgt := 65) hx hb dX5_keepChanges_40 (by decide) (fun c_23 => ?_) (fun c_23 => ?_)
          · skip
            have ic_23 : ((((wls (dif n T (ver hg) (bdS σ)) (8 * o1.toNatClampNeg + 8)).length : Nat) : Int) : Int) ≤ (((wls (dif n T (ver hg) (bdS σ)) (8 * o1.toNatClampNeg)).length : Nat) : Int) := ic_le tw_20 tw_2 c_23
            have he_ := (wls_mono (p := (dif n T (ver hg) (bdS σ))) (m := 8 * o1.toNatClampNeg) 8).2 (by omega)
            have wq_ : (wls (dif n T (ver hg) (bdS σ)) (8 * o1.toNatClampNeg + 8)) = (wls (dif n T (ver hg) (bdS σ)) (8 * o1.toNatClampNeg)) := wls_8 8 he_
            have hX9 := hX8.same (by omega) he_
            obtain ⟨x_24, ex_24⟩ : ∃ y : Int32, y = o1 + 1 := ⟨_, rfl⟩
            have ix_24 : x_24.toInt = o1.toInt + 1 := ic_add ex_24 rfl kI_1 (by omega) (by omega)
            refine lv_iinc (v := x_24) (lv' := [(1, .int x_24), (2, .int (nI ((wls (dif n T (ver hg) (bdS σ)) (8 * o1.toNatClampNeg)).length))), (0, .ref (k 0))]) hx hb dX5_keepChanges_65 hl (k := 2) rfl (by rw [ex_24]; rfl) (by decide) rfl (fun ls hl => ?_)
            refine lv_goto (tgt := 2) hx hb dX5_keepChanges_68 (by decide) ?_
            exact ih_2 x_24 f_17 rho_18 (cl_ + 0 + 0) (sl_ + 0 + 0) (by omega) (by omega) hfr (by rw [show x_24.toNatClampNeg = o1.toNatClampNeg + 1 from by have := ic_clN (rfl : x_24.toInt = _) (by omega); omega]; exact ⟨_, hM, H_, cx_, hX9, by rw [show 8 * (o1.toNatClampNeg + 1) = 8 * o1.toNatClampNeg + 8 from by omega, wq_]; exact hD⟩) (by omega) (by omega) (by omega) _ _ _ hH (lv_sub hl [2, 0] rfl)
          · skip
            have ic_23 : ((((wls (dif n T (ver hg) (bdS σ)) (8 * o1.toNatClampNeg + 8)).length : Nat) : Int) : Int) > (((wls (dif n T (ver hg) (bdS σ)) (8 * o1.toNatClampNeg)).length : Nat) : Int) := ic_nle tw_20 tw_2 c_23
            have wn8_ : (wls (dif n T (ver hg) (bdS σ)) (8 * o1.toNatClampNeg + 8)) ≠ [] := fun z_ => by have w_ := congrArg List.length z_; have w2_ : ([] : List Nat).length = 0 := rfl; omega
            refine lv_iload_n hx hb dX5_keepChanges_43 rfl (lv_at hl 0 rfl) ?_
            refine lv_if_ne (tgt := 51) hx hb dX5_keepChanges_44 (by decide) (fun c_25 => ?_) (fun c_25 => ?_)
            · skip
              have ic_25 : ((((wls (dif n T (ver hg) (bdS σ)) (8 * o1.toNatClampNeg)).length : Nat) : Int) : Int) ≠ 0 := ic_ne tw_2 kI_0 c_25
              obtain ⟨-, eH_, ecx_⟩ := hD.resolve_left (fun z_ => by have w_ := congrArg List.length z_.1; have w2_ : ([] : List Nat).length = 0 := rfl; omega)
              subst H_
              subst ecx_
              have wl8_ := hX8.2.2.1.1
              have tw_26 : (nI ((wls (dif n T (ver hg) (bdS σ)) (8 * o1.toNatClampNeg + 8)).length)).toInt = (((wls (dif n T (ver hg) (bdS σ)) (8 * o1.toNatClampNeg + 8)).length : Nat) : Int) := nI_toInt (by omega)
              have hLd := hX8.2.1
              have hR := hX8.1
              obtain ⟨lb_27, hr_27, hlb_27⟩ := hR.2.2.1
              refine lv_aload_n hx hb dX5_keepChanges_51 rfl (lv_at hl 1 rfl) ?_
              refine lv_iload_n hx hb dX5_keepChanges_52 rfl (lv_at hl 2 rfl) ?_
              refine lv_aload_n hx hb dX5_keepChanges_53 rfl (lv_at hl 1 rfl) ?_
              have F_28 : f_17 (k 0) = some (.inr (5, [.ref (k 1), .int (nI n), .int (nI (hg + 1)), .ref (k 2), .ref (k 5), .ref (k 13), .ref (k 21), .int ca, .int fe, .int 0, .ref (k 3), .int (nI ((wls (dif n T (ver hg) (bdS σ)) (8 * o1.toNatClampNeg + 8)).length)), .ref (k 4), .int sx])) := by have w_ := hM.c0; rw [hLd] at w_; exact w_
              refine m_get (ci := 5) (v := .ref (k 5)) (C := RX5) (T := TX5) (N := 14) hx hb hC hH hts in_X5_keepChanges_X5 hown F_28 rfl 4 (by decide) (hts (.fieldLink RX5 24 "LazyState" "latest" "LLazyState$Run;") (by decide +kernel)) rfl dX5_keepChanges_54 ?_
              refine lv_iload_n hx hb dX5_keepChanges_57 rfl (lv_at hl 2 rfl) ?_
              have F_32 : f_17 (k 5) = some (.inr (3, [.ref (k 6), .int lb_27, .int dn, .long (gfS σ), .int th2, .int ta, .ref (k 1), .ref (k 10), .ref (k 11), .ref (k 12), .int nx])) := by have w_ := hM.r0 0 (by decide); rw [hr_27] at w_; exact w_
              refine m_goq hH (va_runV (As := [.int o1]) (rest := [.int o1, .ref (k 0)]) ⟨hx, hb, hml, hown, hts⟩ (c_X3_bodyOf l G k rho_18 n T z 0 (by decide) D_19 dn th2 ta nx σ f_17 hM hR o1 (by omega)) (cwV 1 hts gX5_keepChanges_X3_bodyOf rfl rfl rfl (by decide +kernel) ⟨Nat.le_of_ble_eq_true rfl, Nat.le_of_ble_eq_true rfl⟩) (m_preV (ci := 3) hC hH F_32 rfl) rfl rfl hl.1 rfl (lv_room (Nat.le_of_ble_eq_true rfl)) dX5_keepChanges_58 ⟨by show _ ≤ 72; omega, by show _ ≤ 696; omega⟩) (fun r_29 rho_31 f_30 H locs hw hH => ?_)
              obtain ⟨hu, ba_33, bb_33, hr_33, u2_33, u4_33, u5_33⟩ := hw
              have hu : f_30 = f_17 := hu
              rw [hu] at hH
              have hr_33 : r_29 = some ba_33 := hr_33
              rw [hr_33]
              obtain ⟨va_, vb_, v1_, v2_, v3_, v4_⟩ := hX8.hd (by omega)
              refine m_goq hH (va_runV (As := [.int o1, .ref ba_33]) (rest := []) ⟨hx, hb, hml, hown, hts⟩ (c_X5_newVersion l G k rho_18 n T z D_19 f_17 hM n24_ hT3_ (nI (hg + 1)) (by rw [hX8.2.1]) o1 (by omega) va_ v1_ ba_33 bb_33 u2_33 u4_33) (cwV 2 hts gX5_keepChanges_X5_newVersion rfl rfl rfl (by decide +kernel) ⟨Nat.le_of_ble_eq_true rfl, Nat.le_of_ble_eq_true rfl⟩) (m_preV (ci := 5) hC hH F_28 rfl) rfl rfl hl.1 rfl (lv_room (Nat.le_of_ble_eq_true rfl)) dX5_keepChanges_61 ⟨by show _ ≤ 72; omega, by show _ ≤ 696; omega⟩) (fun r_34 rho_36 f_35 H locs hw hH => ?_)
              obtain ⟨nq_, nb_, hM, hfr1, hnr_, nq1_, ng_, ny_, ns_, nf_, ne_⟩ := hw
              have hM : CM G k rho_36 n z (nvD D_19 o1.toNatClampNeg nq_ nb_) f_35 := hM
              have hfr1 : frD rho_18 f_17 rho_36 f_35 := hfr1
              have hfr := hfr.trans hfr1
              have hnr_ : r_34 = some nq_ := hnr_
              rw [hnr_]
              have hX9 := hX8.new (by omega) lt_ nq1_ ng_ ny_ ns_ (nf_.trans v1_.symm) (ne_.tr u5_33)
              refine lv_pop hx hb dX5_keepChanges_64 rfl ?_
              obtain ⟨x_38, ex_38⟩ : ∃ y : Int32, y = o1 + 1 := ⟨_, rfl⟩
              have ix_38 : x_38.toInt = o1.toInt + 1 := ic_add ex_38 rfl kI_1 (by omega) (by omega)
              refine lv_iinc (v := x_38) (lv' := [(1, .int x_38), (2, .int (nI ((wls (dif n T (ver hg) (bdS σ)) (8 * o1.toNatClampNeg)).length))), (0, .ref (k 0))]) hx hb dX5_keepChanges_65 hl (k := 2) rfl (by rw [ex_38]; rfl) (by decide) rfl (fun ls hl => ?_)
              refine lv_goto (tgt := 2) hx hb dX5_keepChanges_68 (by decide) ?_
              exact ih_2 x_38 f_35 rho_36 (cl_ + 0 + 0 + 0 + 3) (sl_ + 0 + 0 + 0 + 29) (by omega) (by omega) hfr (by rw [show x_38.toNatClampNeg = o1.toNatClampNeg + 1 from by have := ic_clN (rfl : x_38.toInt = _) (by omega); omega]; exact ⟨_, hM, hg + 1, 0, hX9, Or.inr ⟨by rw [show 8 * (o1.toNatClampNeg + 1) = 8 * o1.toNatClampNeg + 8 from by omega]; exact wn8_, rfl, rfl⟩⟩) (by omega) (by omega) (by omega) _ _ _ hH (lv_sub hl [2, 0] rfl)
            · skip
              have ic_25 : ((((wls (dif n T (ver hg) (bdS σ)) (8 * o1.toNatClampNeg)).length : Nat) : Int) : Int) = 0 := ic_eq tw_2 kI_0 c_25
              obtain ⟨-, eH_, ecx_⟩ := hD.resolve_right (fun z_ => z_.1 (List.eq_nil_of_length_eq_zero (by omega)))
              subst H_
              have hgE_ : True := trivial
              refine lv_aload_n hx hb dX5_keepChanges_47 rfl (lv_at hl 1 rfl) ?_
              refine m_gov hH (va_runV (As := []) (rest := []) ⟨hx, hb, hml, hown, hts⟩ (c_X5_raiseHeight l G k rho_18 n T z D_19 f_17 hM n24_ hg (by omega) ca fe cx_ (nI (wls (dif n T (ver hg) (bdS σ)) (8 * o1.toNatClampNeg + 8)).length) sx hX8.2.1) (cwV 0 hts gX5_keepChanges_X5_raiseHeight rfl rfl rfl (by decide +kernel) ⟨Nat.le_of_ble_eq_true rfl, Nat.le_of_ble_eq_true rfl⟩) (m_preV (ci := 5) hC hH F_22 rfl) rfl rfl hl.1 rfl (lv_room (Nat.le_of_ble_eq_true rfl)) dX5_keepChanges_48 ⟨by show _ ≤ 72; omega, by show _ ≤ 696; omega⟩) (fun rho_41 f_40 H locs hw hH => ?_)
              obtain ⟨hM, hfr1⟩ := hw
              have hfr1 : frD rho_18 f_17 rho_41 f_40 := hfr1
              have hfr := hfr.trans hfr1
              have hX8 := hX8.rise
              obtain ⟨D_42, eD_42⟩ : ∃ d_ : tD, d_ = dL D_19 (nI (hg + 1), ca, fe, 0, (nI (wls (dif n T (ver hg) (bdS σ)) (8 * o1.toNatClampNeg + 8)).length), sx) := ⟨_, rfl⟩
              have hM : CM G k rho_41 n z D_42 f_40 := by rw [eD_42]; exact hM
              have hX8 : KX n T (k 1) hg ver dn th2 ta nx σ tms ca fe sx (hg + 1) 0 (8 * o1.toNatClampNeg + 8) o1.toNatClampNeg D D_42 := by rw [eD_42]; exact hX8
              have wl8_ := hX8.2.2.1.1
              have tw_43 : (nI ((wls (dif n T (ver hg) (bdS σ)) (8 * o1.toNatClampNeg + 8)).length)).toInt = (((wls (dif n T (ver hg) (bdS σ)) (8 * o1.toNatClampNeg + 8)).length : Nat) : Int) := nI_toInt (by omega)
              have hLd := hX8.2.1
              have hR := hX8.1
              obtain ⟨lb_44, hr_44, hlb_44⟩ := hR.2.2.1
              refine lv_aload_n hx hb dX5_keepChanges_51 rfl (lv_at hl 1 rfl) ?_
              refine lv_iload_n hx hb dX5_keepChanges_52 rfl (lv_at hl 2 rfl) ?_
              refine lv_aload_n hx hb dX5_keepChanges_53 rfl (lv_at hl 1 rfl) ?_
              have F_45 : f_40 (k 0) = some (.inr (5, [.ref (k 1), .int (nI n), .int (nI (hg + 1)), .ref (k 2), .ref (k 5), .ref (k 13), .ref (k 21), .int ca, .int fe, .int 0, .ref (k 3), .int (nI ((wls (dif n T (ver hg) (bdS σ)) (8 * o1.toNatClampNeg + 8)).length)), .ref (k 4), .int sx])) := by have w_ := hM.c0; rw [hLd] at w_; exact w_
              refine m_get (ci := 5) (v := .ref (k 5)) (C := RX5) (T := TX5) (N := 14) hx hb hC hH hts in_X5_keepChanges_X5 hown F_45 rfl 4 (by decide) (hts (.fieldLink RX5 24 "LazyState" "latest" "LLazyState$Run;") (by decide +kernel)) rfl dX5_keepChanges_54 ?_
              refine lv_iload_n hx hb dX5_keepChanges_57 rfl (lv_at hl 2 rfl) ?_
              have F_49 : f_40 (k 5) = some (.inr (3, [.ref (k 6), .int lb_44, .int dn, .long (gfS σ), .int th2, .int ta, .ref (k 1), .ref (k 10), .ref (k 11), .ref (k 12), .int nx])) := by have w_ := hM.r0 0 (by decide); rw [hr_44] at w_; exact w_
              refine m_goq hH (va_runV (As := [.int o1]) (rest := [.int o1, .ref (k 0)]) ⟨hx, hb, hml, hown, hts⟩ (c_X3_bodyOf l G k rho_41 n T z 0 (by decide) D_42 dn th2 ta nx σ f_40 hM hR o1 (by omega)) (cwV 1 hts gX5_keepChanges_X3_bodyOf rfl rfl rfl (by decide +kernel) ⟨Nat.le_of_ble_eq_true rfl, Nat.le_of_ble_eq_true rfl⟩) (m_preV (ci := 3) hC hH F_49 rfl) rfl rfl hl.1 rfl (lv_room (Nat.le_of_ble_eq_true rfl)) dX5_keepChanges_58 ⟨by show _ ≤ 72; omega, by show _ ≤ 696; omega⟩) (fun r_46 rho_48 f_47 H locs hw hH => ?_)
              obtain ⟨hu, ba_50, bb_50, hr_50, u2_50, u4_50, u5_50⟩ := hw
              have hu : f_47 = f_40 := hu
              rw [hu] at hH
              have hr_50 : r_46 = some ba_50 := hr_50
              rw [hr_50]
              obtain ⟨va_, vb_, v1_, v2_, v3_, v4_⟩ := hX8.hd (by omega)
              refine m_goq hH (va_runV (As := [.int o1, .ref ba_50]) (rest := []) ⟨hx, hb, hml, hown, hts⟩ (c_X5_newVersion l G k rho_41 n T z D_42 f_40 hM n24_ hT3_ (nI (hg + 1)) (by rw [hX8.2.1]) o1 (by omega) va_ v1_ ba_50 bb_50 u2_50 u4_50) (cwV 2 hts gX5_keepChanges_X5_newVersion rfl rfl rfl (by decide +kernel) ⟨Nat.le_of_ble_eq_true rfl, Nat.le_of_ble_eq_true rfl⟩) (m_preV (ci := 5) hC hH F_45 rfl) rfl rfl hl.1 rfl (lv_room (Nat.le_of_ble_eq_true rfl)) dX5_keepChanges_61 ⟨by show _ ≤ 72; omega, by show _ ≤ 696; omega⟩) (fun r_51 rho_53 f_52 H locs hw hH => ?_)
              obtain ⟨nq_, nb_, hM, hfr1, hnr_, nq1_, ng_, ny_, ns_, nf_, ne_⟩ := hw
              have hM : CM G k rho_53 n z (nvD D_42 o1.toNatClampNeg nq_ nb_) f_52 := hM
              have hfr1 : frD rho_41 f_40 rho_53 f_52 := hfr1
              have hfr := hfr.trans hfr1
              have hnr_ : r_51 = some nq_ := hnr_
              rw [hnr_]
              have hX9 := hX8.new (by omega) lt_ nq1_ ng_ ny_ ns_ (nf_.trans v1_.symm) (ne_.tr u5_50)
              refine lv_pop hx hb dX5_keepChanges_64 rfl ?_
              obtain ⟨x_55, ex_55⟩ : ∃ y : Int32, y = o1 + 1 := ⟨_, rfl⟩
              have ix_55 : x_55.toInt = o1.toInt + 1 := ic_add ex_55 rfl kI_1 (by omega) (by omega)
              refine lv_iinc (v := x_55) (lv' := [(1, .int x_55), (2, .int (nI ((wls (dif n T (ver hg) (bdS σ)) (8 * o1.toNatClampNeg)).length))), (0, .ref (k 0))]) hx hb dX5_keepChanges_65 hl (k := 2) rfl (by rw [ex_55]; rfl) (by decide) rfl (fun ls hl => ?_)
              refine lv_goto (tgt := 2) hx hb dX5_keepChanges_68 (by decide) ?_
              exact ih_2 x_55 f_52 rho_53 (cl_ + 0 + 0 + 0 + 0 + 3) (sl_ + 0 + 0 + 0 + 0 + 29) (by omega) (by omega) hfr (by rw [show x_55.toNatClampNeg = o1.toNatClampNeg + 1 from by have := ic_clN (rfl : x_55.toInt = _) (by omega); omega]; exact ⟨_, hM, hg + 1, 0, hX9, Or.inr ⟨by rw [show 8 * (o1.toNatClampNeg + 1) = 8 * o1.toNatClampNeg + 8 from by omega]; exact wn8_, rfl, rfl⟩⟩) (by omega) (by omega) (by omega) _ _ _ hH (lv_sub hl [2, 0] rfl)
  exact loop_2 (((n : Int) - 0).toNat + 1) 0 f own 0 0 (by have := kI_0; omega) (by have := kI_0; omega) hfr (⟨D, hM, hg, cb0_, ⟨hR0, hl0_, hG.wr, (by rw [show (0 : Int32).toNatClampNeg = 0 from rfl, show 8 * 0 = 0 from rfl, tmS_0]; exact hG.tm), KE.rf, fun o_ ho_ => by obtain ⟨-, a_, L_, q1_, q2_⟩ := hG.obs o_ ho_; exact ⟨a_, L_, q1_, Or.inl ⟨q2_, fun z_ => absurd z_ (Nat.not_lt_zero _)⟩⟩⟩, Or.inl ⟨rfl, rfl, rfl⟩⟩) (by have := kI_0; omega) (by have := kI_0; omega) (by have := kI_0; omega) _ _ _ hH (lv_sub hl [1, 0] rfl)
