set_option maxHeartbeats 4000000 in
set_option maxRecDepth 100000 in
theorem c_X3_put (l : Launch) (G : mG) (k : Nat → Nat) (own : tR) (n : Nat) (T z : Nat → Nat) (i : Nat) (hi : i < 3) (D : tD) (dn th ta nx : Int32) (σ : tS) (f : mF) (hM : CM G k own n z D f) (hR : RP n T (k 1) i dn th ta nx σ D) (hd ff sr : Int32) (v : Int64) (hh4 : 0 ≤ hd.toInt ∧ hd.toInt < 4) (hff : 0 ≤ ff.toInt ∧ ff.toInt < 8) (hsr : 1 ≤ sr.toInt ∧ sr.toInt ≤ 2) (hv2 : sr.toInt = 2 → v.toInt = -3 ∨ (0 ≤ v.toInt ∧ v.toInt < n)) : Met l yX3_put wsX3_put ({ frames := 4, cells := 3 * (nld (pPut T σ hd.toNatClampNeg ff.toNatClampNeg sr.toNatClampNeg v).2 - nld σ), slots := 29 * (nld (pPut T σ hd.toNatClampNeg ff.toNatClampNeg sr.toNatClampNeg v).2 - nld σ), locals := 127 }) (va_Pc [.ref (k (5 + 8 * i)), .int hd, .int ff, .int sr, .long v] (mW G f)) (va_Qi (fun (r : Int32) (u : mS) => RN G k u.1 n T z i D dn th ta nx ((pPut T σ hd.toNatClampNeg ff.toNatClampNeg sr.toNatClampNeg v).2) u.2 ∧ frD own f u.1 u.2 ∧ r.toInt = (((pPut T σ hd.toNatClampNeg ff.toNatClampNeg sr.toNatClampNeg v).1 : Nat) : Int)) (fun (u : mS) t => mW G u.2 t) (mA G)) (3 * (nld (pPut T σ hd.toNatClampNeg ff.toNatClampNeg sr.toNatClampNeg v).2 - nld σ)) (29 * (nld (pPut T σ hd.toNatClampNeg ff.toNatClampNeg sr.toNatClampNeg v).2 - nld σ)) (mA G) := by
  refine mMet [.ref (k (5 + 8 * i)), .int hd, .int ff, .int sr, .long v] (cc := cX3_put) (maxL := 7) (ret := (some .int)) (by decide) rfl (Nat.le_of_ble_eq_true rfl) ?_
  intro p e s m below meth c ls hx hb hr hml hts hown hlk hnm hC hH hl
  have hl : lv_has ls 7 [(0, .ref (k (5 + 8 * i))), (1, .int hd), (2, .int ff), (3, .int sr), (4, .long v)] := hl
  have hK : KP i D D := KP.rf
  have hfr : frD own f own f := frD.rf
  have cl_hd := ic_clN (rfl : hd.toInt = _) (by omega)
  have cl_ff := ic_clN (rfl : ff.toInt = _) (by omega)
  have cl_sr := ic_clN (rfl : sr.toInt = _) (by omega)
  have nq_ : nld (pPut T σ hd.toNatClampNeg ff.toNatClampNeg sr.toNatClampNeg v).2 = nld (ask T σ hd.toNatClampNeg ff.toNatClampNeg sr.toNatClampNeg).2 := nl_pPut
  have n24_ := hR.1.1
  have hT3_ := hR.1.2
  have ok_ := hR.2.1
  obtain ⟨lb_1, hr_1, hlb_1⟩ := hR.2.2.1
  refine lv_aload_n hx hb dX3_put_0 rfl (lv_at hl 0 rfl) ?_
  refine lv_iload_n hx hb dX3_put_1 rfl (lv_at hl 1 rfl) ?_
  refine lv_iload_n hx hb dX3_put_2 rfl (lv_at hl 2 rfl) ?_
  refine lv_iload_n hx hb dX3_put_3 rfl (lv_at hl 3 rfl) ?_
  have okb_ := ok_
  have nm_ := ask_nlm (j := ff.toNatClampNeg) (st := sr.toNatClampNeg) n24_ ok_ (show hd.toNatClampNeg < 4 from by have := ic_clN (rfl : hd.toInt = _) (by omega); omega)
  have F_5 : f (k (5 + 8 * i)) = some (.inr (3, [.ref (k (5 + 8 * i + 1)), .int lb_1, .int dn, .long (gfS σ), .int th, .int ta, .ref (k 1), .ref (k (5 + 8 * i + 5)), .ref (k (5 + 8 * i + 6)), .ref (k (5 + 8 * i + 7)), .int nx])) := by have w_ := hM.r0 i hi; rw [hr_1] at w_; exact w_
  refine m_goi hH (va_runV (As := [.int hd, .int ff, .int sr]) (rest := []) ⟨hx, hb, hml, hown, hts⟩ (c_X3_ask l G k own n T z i hi D dn th ta nx σ f hM hR hd ff sr (by omega) (by omega) (by omega)) (cwV 3 hts gX3_put_X3_ask rfl rfl rfl (by decide +kernel) ⟨Nat.le_of_ble_eq_true rfl, Nat.le_of_ble_eq_true rfl⟩) (m_preV (ci := 3) hC hH F_5 rfl) rfl rfl hl.1 rfl (lv_room (Nat.le_of_ble_eq_true rfl)) dX3_put_4 ⟨by show _ ≤ 3 * (nld (pPut T σ hd.toNatClampNeg ff.toNatClampNeg sr.toNatClampNeg v).2 - nld σ); omega, by show _ ≤ 29 * (nld (pPut T σ hd.toNatClampNeg ff.toNatClampNeg sr.toNatClampNeg v).2 - nld σ); omega⟩) (fun r_2 rho_4 f_3 H locs hw hH => ?_)
  obtain ⟨hI, hfr1, hr_2⟩ := hw
  have hI : RN G k rho_4 n T z i D dn th ta nx ((ask T σ hd.toNatClampNeg ff.toNatClampNeg sr.toNatClampNeg).2) f_3 := hI
  have hfr1 : frD own f rho_4 f_3 := hfr1
  have hfr := hfr.trans hfr1
  try dsimp only at hr_2
  obtain ⟨D_6, hM, hR, hK1_6⟩ := hI
  have hK := hK.trans hK1_6
  have n24_ := hR.1.1
  have hT3_ := hR.1.2
  have ok_ := hR.2.1
  obtain ⟨lb_7, hr_7, hlb_7⟩ := hR.2.2.1
  refine lv_istore (lv' := [(6, .int r_2), (0, .ref (k (5 + 8 * i))), (1, .int hd), (2, .int ff), (3, .int sr), (4, .long v)]) hx hb dX3_put_7 hl (by decide) rfl (fun ls hl => ?_)
  refine lv_iload hx hb dX3_put_9 (lv_at hl 0 rfl) ?_
  refine lv_if_ne (tgt := 27) hx hb dX3_put_11 (by decide) (fun c_8 => ?_) (fun c_8 => ?_)
  · skip
    have ic_8 : (r_2.toInt : Int) ≠ 0 := ic_ne rfl kI_0 c_8
    have a0_ : (ask T σ hd.toNatClampNeg ff.toNatClampNeg sr.toNatClampNeg).1 ≠ 0 := by omega
    refine lv_iload hx hb dX3_put_27 (lv_at hl 0 rfl) ?_
    exact m_iret (v := r_2) hx hb hr hlk hC hH rho_4 (by rw [show (pPut T σ hd.toNatClampNeg ff.toNatClampNeg sr.toNatClampNeg v) = (ask T σ hd.toNatClampNeg ff.toNatClampNeg sr.toNatClampNeg) from thn_1 a0_]; exact ⟨⟨_, hM, hR, hK⟩, hfr, by omega⟩) (by omega) (by omega) dX3_put_29
  · skip
    have ic_8 : (r_2.toInt : Int) = 0 := ic_eq rfl kI_0 c_8
    have a0_ : (ask T σ hd.toNatClampNeg ff.toNatClampNeg sr.toNatClampNeg).1 = 0 := by omega
    obtain ⟨au1_, au2_, au3_, au4_, au5_⟩ := ask_use okb_ (show hd.toNatClampNeg < 4 from by omega) a0_
    have al_ := ask_ld a0_
    have an_ := ask_nh a0_
    refine lv_aload_n hx hb dX3_put_14 rfl (lv_at hl 1 rfl) ?_
    refine lv_iload_n hx hb dX3_put_15 rfl (lv_at hl 2 rfl) ?_
    refine lv_iload_n hx hb dX3_put_16 rfl (lv_at hl 3 rfl) ?_
    have F_12 : f_3 (k (5 + 8 * i)) = some (.inr (3, [.ref (k (5 + 8 * i + 1)), .int lb_7, .int dn, .long (gfS ((ask T σ hd.toNatClampNeg ff.toNatClampNeg sr.toNatClampNeg).2)), .int th, .int ta, .ref (k 1), .ref (k (5 + 8 * i + 5)), .ref (k (5 + 8 * i + 6)), .ref (k (5 + 8 * i + 7)), .int nx])) := by have w_ := hM.r0 i hi; rw [hr_7] at w_; exact w_
    refine m_goq hH (va_runV (As := [.int hd, .int ff]) (rest := []) ⟨hx, hb, hml, hown, hts⟩ (c_X3_change l G k rho_4 n T z i hi D_6 dn th ta nx ((ask T σ hd.toNatClampNeg ff.toNatClampNeg sr.toNatClampNeg).2) f_3 hM hR hd ff (by omega) (by omega) (hob (ask T σ hd.toNatClampNeg ff.toNatClampNeg sr.toNatClampNeg).2 hd.toNatClampNeg) rfl au2_ an_ al_) (cwV 2 hts gX3_put_X3_change rfl rfl rfl (by decide +kernel) ⟨Nat.le_of_ble_eq_true rfl, Nat.le_of_ble_eq_true rfl⟩) (m_preV (ci := 3) hC hH F_12 rfl) rfl rfl hl.1 rfl (lv_room (Nat.le_of_ble_eq_true rfl)) dX3_put_17 ⟨by show _ ≤ 3 * (nld (pPut T σ hd.toNatClampNeg ff.toNatClampNeg sr.toNatClampNeg v).2 - nld σ); omega, by show _ ≤ 29 * (nld (pPut T σ hd.toNatClampNeg ff.toNatClampNeg sr.toNatClampNeg v).2 - nld σ); omega⟩) (fun r_9 rho_11 f_10 H locs hw hH => ?_)
    obtain ⟨D_13, ra_13, rb_13, hM, hR, hK1_13, hfr1, hu_, r1_13, r2_13, r3_13, r4_13, r5_13⟩ := hw
    have hM : CM G k rho_11 n z D_13 f_10 := hM
    have hfr1 : frD rho_4 f_3 rho_11 f_10 := hfr1
    have hfr := hfr.trans hfr1
    have hK := hK.trans hK1_13
    have hu_ : r_9 = some ra_13 := hu_
    rw [hu_]
    have n24_ := hR.1.1
    have hT3_ := hR.1.2
    have ok_ := hR.2.1
    obtain ⟨lb_14, hr_14, hlb_14⟩ := hR.2.2.1
    have F_15 : f_10 ra_13 = some (.inr (2, [.int (nI (yB rb_13)), .ref (caB rb_13), .ref (iaB rb_13), .int (siB rb_13), va_rf (bfB rb_13)])) := (hM.bf r2_13).1
    have tI_15 : (nI (yB rb_13)).toInt = ((yB rb_13 : Nat) : Int) := nI_toInt (by rw [r4_13]; have := hT3_ (hob (ask T σ hd.toNatClampNeg ff.toNatClampNeg sr.toNatClampNeg).2 hd.toNatClampNeg); omega)
    refine m_get (ci := 2) (v := .ref (caB rb_13)) (C := RX2) (T := TX2) (N := 5) hx hb hC hH hts in_X3_put_X2 hown F_15 rfl 1 (by decide) (hts (.fieldLink RX3 184 "LazyState$Body" "cells" "[J") (by decide +kernel)) rfl dX3_put_20 ?_
    refine lv_iload_n hx hb dX3_put_23 rfl (lv_at hl 3 rfl) ?_
    refine lv_lload hx hb dX3_put_24 (lv_at hl 5 rfl) ?_
    have hg_16 : f_10 (caB rb_13) = some (.inl (gk G 1, 8, .inr (.inl ((cB rb_13).1)))) := (hM.bf r2_13).2.1
    refine m_last hx hb hC hH hg_16 (vp_in_iff.mpr ⟨by omega, by omega⟩) dX3_put_26 (fun H locs hH => ?_)
    obtain ⟨f_17, ef_17⟩ : ∃ zz_ : mF, zz_ = va_up f_10 (caB rb_13) (some (.inl (gk G 1, 8, .inr (.inl (vp_updL (cB rb_13).1 ff.toNatClampNeg v))))) := ⟨_, rfl⟩
    rw [← ef_17] at hH
    have ob_ := hM.ob _ _ r2_13
    have hfr := hfr.up (by rw [ob_.2.1]; exact (by decide : (3 : Nat) ≠ 0)) ef_17
    have hM := hM.setPc (a0 := ra_13) (b0 := rb_13) r2_13 ef_17
    have hR := hR.cel (o := (hob (ask T σ hd.toNatClampNeg ff.toNatClampNeg sr.toNatClampNeg).2 hd.toNatClampNeg)) (a := ra_13) (b := rb_13) (c2 := (vp_updL (cB rb_13).1 ff.toNatClampNeg v, (cB rb_13).2)) (cn := setC (bdS (ask T σ hd.toNatClampNeg ff.toNatClampNeg sr.toNatClampNeg).2 (hob (ask T σ hd.toNatClampNeg ff.toNatClampNeg sr.toNatClampNeg).2 hd.toNatClampNeg)) ff.toNatClampNeg v) au2_ r2_13 r3_13 r4_13 r1_13 al_ (eqB.setC r5_13) (okBd_C au5_ au4_ (by rw [au3_]; omega) (fun z_ => hv2 (by rw [au3_] at z_; omega)))
    have hK := hK.B (b2 := stB rb_13 (vp_updL (cB rb_13).1 ff.toNatClampNeg v, (cB rb_13).2)) r2_13 (by rw [r3_13])
    have hI : RN G k rho_11 n T z i D dn th ta nx (sBd (sTc ((ask T σ hd.toNatClampNeg ff.toNatClampNeg sr.toNatClampNeg).2) (2 * (8 * (hob (ask T σ hd.toNatClampNeg ff.toNatClampNeg sr.toNatClampNeg).2 hd.toNatClampNeg) + ff.toNatClampNeg) + 1)) (hob (ask T σ hd.toNatClampNeg ff.toNatClampNeg sr.toNatClampNeg).2 hd.toNatClampNeg) (setC (bdS (ask T σ hd.toNatClampNeg ff.toNatClampNeg sr.toNatClampNeg).2 (hob (ask T σ hd.toNatClampNeg ff.toNatClampNeg sr.toNatClampNeg).2 hd.toNatClampNeg)) ff.toNatClampNeg v)) f_17 := ⟨_, hM, hR, hK⟩
    obtain ⟨D_18, hM, hR, hK⟩ := hI
    have n24_ := hR.1.1
    have hT3_ := hR.1.2
    have ok_ := hR.2.1
    obtain ⟨lb_19, hr_19, hlb_19⟩ := hR.2.2.1
    refine lv_iload hx hb dX3_put_27 (lv_at hl 0 rfl) ?_
    exact m_iret (v := r_2) hx hb hr hlk hC hH rho_11 (by rw [show (pPut T σ hd.toNatClampNeg ff.toNatClampNeg sr.toNatClampNeg v) = (0, (sBd (sTc ((ask T σ hd.toNatClampNeg ff.toNatClampNeg sr.toNatClampNeg).2) (2 * (8 * (hob (ask T σ hd.toNatClampNeg ff.toNatClampNeg sr.toNatClampNeg).2 hd.toNatClampNeg) + ff.toNatClampNeg) + 1)) (hob (ask T σ hd.toNatClampNeg ff.toNatClampNeg sr.toNatClampNeg).2 hd.toNatClampNeg) (setC (bdS (ask T σ hd.toNatClampNeg ff.toNatClampNeg sr.toNatClampNeg).2 (hob (ask T σ hd.toNatClampNeg ff.toNatClampNeg sr.toNatClampNeg).2 hd.toNatClampNeg)) ff.toNatClampNeg v))) from thn_0 a0_]; exact ⟨⟨_, hM, hR, hK⟩, hfr, by omega⟩) (by omega) (by omega) dX3_put_29
set_option maxHeartbeats 4000000 in
set_option maxRecDepth 100000 in
theorem c_X3_itemRefusal (l : Launch) (G : mG) (f : mF) (q : Nat) (b : tBo) (hb_ : BF G f q b) (ht : yB b < 3) (j : Int32) (v : Int64) (hjj : 0 ≤ j.toInt ∧ j.toInt < 8) : Met l yX3_itemRefusal wsX3_itemRefusal ({ frames := 1, cells := 0, slots := 0, locals := 23 }) (va_Pc [.ref q, .int j, .long v] (mW G f)) (va_Qi (fun (r : Int32) (u : mS) => u.2 = f ∧ r.toInt = (((iRf (cB b) j.toNatClampNeg v) : Nat) : Int)) (fun (u : mS) t => mW G u.2 t) (mA G)) 0 0 (mA G) := by
  refine mMet [.ref q, .int j, .long v] (cc := cX3_itemRefusal) (maxL := 4) (ret := (some .int)) (by decide) rfl (Nat.le_of_ble_eq_true rfl) ?_
  intro p e s m below meth c ls hx hb hr hml hts hown hlk hnm hC hH hl
  have hl : lv_has ls 4 [(0, .ref q), (1, .int j), (2, .long v)] := hl
  have km_ := kJ_m3
  refine lv_aload_n hx hb dX3_itemRefusal_0 rfl (lv_at hl 0 rfl) ?_
  have F_1 : f q = some (.inr (2, [.int (nI (yB b)), .ref (caB b), .ref (iaB b), .int (siB b), va_rf (bfB b)])) := hb_.1
  have tI_1 : (nI (yB b)).toInt = ((yB b : Nat) : Int) := nI_toInt (by omega)
  refine m_get (ci := 2) (v := .ref (caB b)) (C := RX2) (T := TX2) (N := 5) hx hb hC hH hts in_X3_itemRefusal_X2 hown F_1 rfl 1 (by decide) (hts (.fieldLink RX3 184 "LazyState$Body" "cells" "[J") (by decide +kernel)) rfl dX3_itemRefusal_1 ?_
  refine lv_iload_n hx hb dX3_itemRefusal_4 rfl (lv_at hl 1 rfl) ?_
  have hg_2 : f (caB b) = some (.inl (gk G 1, 8, .inr (.inl ((cB b).1)))) := hb_.2.1
  refine m_lald hx hb hC hH hg_2 (vp_in_iff.mpr ⟨by omega, by omega⟩) dX3_itemRefusal_5 ?_
  refine lv_topl (fun y_3 ey_3 => ?_)
  have cx_ : y_3 = (cB b).1 j.toNatClampNeg := ey_3
  have cxi_ : y_3.toInt = ((cB b).1 j.toNatClampNeg).toInt := by rw [cx_]
  refine lv_ldc2 (v := (-3)) hx hb hown (hts (.constantLong RX3 200 (-3)) (by decide +kernel)) dX3_itemRefusal_6 ?_
  refine W.lcmp hx hb dX3_itemRefusal_9 ?_
  refine lv_if_ne (tgt := 15) hx hb dX3_itemRefusal_10 (by decide) (fun c_4 => ?_) (fun c_4 => ?_)
  · skip
    have ic_4 : (y_3.toInt : Int) ≠ (-3) := lc_ne rfl kJ_m3 (fun q_ => c_4 ((lg_cmp_eq _ _).mpr q_))
    refine lv_aload_n hx hb dX3_itemRefusal_15 rfl (lv_at hl 0 rfl) ?_
    refine lv_iload_n hx hb dX3_itemRefusal_16 rfl (lv_at hl 1 rfl) ?_
    refine lv_lload_n hx hb dX3_itemRefusal_17 rfl (lv_at hl 2 rfl) ?_
    refine m_goi hH (va_runV (As := [.int j, .long v]) (rest := []) ⟨hx, hb, hml, hown, hts⟩ (c_X2_hasItem l G f q b hb_ (by omega) j v (by omega)) (cwV 2 hts gX3_itemRefusal_X2_hasItem rfl rfl rfl (by decide +kernel) ⟨Nat.le_of_ble_eq_true rfl, Nat.le_of_ble_eq_true rfl⟩) (m_preV (ci := 2) hC hH F_1 rfl) rfl rfl hl.1 rfl (lv_room (Nat.le_of_ble_eq_true rfl)) dX3_itemRefusal_18 ⟨Nat.le_of_ble_eq_true rfl, Nat.le_of_ble_eq_true rfl⟩) (fun r_5 rho_7 f_6 H locs hw hH => ?_)
    obtain ⟨hu, hr_5⟩ := hw
    have hu : f_6 = f := hu
    rw [hu] at hH
    try dsimp only at hr_5
    refine lv_if_eq (tgt := 28) hx hb dX3_itemRefusal_21 (by decide) (fun c_8 => ?_) (fun c_8 => ?_)
    · skip
      have ic_8 : (r_5.toInt : Int) = 0 := ic_eq rfl kI_0 c_8
      refine lv_iconst (v := 3) hx hb dX3_itemRefusal_28 (by decide) ?_
      exact m_iret (v := 3) hx hb hr hlk hC hH (fun _ => (0, 0)) ⟨rfl, by have q_ := (hr_5.resolve_left (fun z_ => by omega)).2; rw [show (iRf (cB b) j.toNatClampNeg v) = 3 from iRf_n (by omega) (by omega)]; exact kI_3⟩ (Nat.le_of_ble_eq_true rfl) (Nat.le_of_ble_eq_true rfl) dX3_itemRefusal_29
    · skip
      have ic_8 : (r_5.toInt : Int) ≠ 0 := ic_ne rfl kI_0 c_8
      refine lv_iconst (v := 0) hx hb dX3_itemRefusal_24 (by decide) ?_
      refine lv_goto (tgt := 29) hx hb dX3_itemRefusal_25 (by decide) ?_
      exact m_iret (v := 0) hx hb hr hlk hC hH (fun _ => (0, 0)) ⟨rfl, by have q_ := (hr_5.resolve_right (fun z_ => by omega)).2; rw [show (iRf (cB b) j.toNatClampNeg v) = 0 from iRf_y (by omega) q_.1 q_.2]; exact kI_0⟩ (Nat.le_of_ble_eq_true rfl) (Nat.le_of_ble_eq_true rfl) dX3_itemRefusal_29
  · skip
    have ic_4 : (y_3.toInt : Int) = (-3) := lc_eq rfl kJ_m3 ((lg_cmp_eq _ _).mp c_4)
    refine lv_iconst (v := 1) hx hb dX3_itemRefusal_13 (by decide) ?_
    exact m_iret (v := 1) hx hb hr hlk hC hH (fun _ => (0, 0)) ⟨rfl, by rw [show (iRf (cB b) j.toNatClampNeg v) = 1 from iRf_1 (by omega)]; exact kI_1⟩ (Nat.le_of_ble_eq_true rfl) (Nat.le_of_ble_eq_true rfl) dX3_itemRefusal_14
set_option maxHeartbeats 4000000 in
set_option maxRecDepth 100000 in
theorem c_X3_getItem (l : Launch) (G : mG) (k : Nat → Nat) (own : tR) (n : Nat) (T z : Nat → Nat) (i : Nat) (hi : i < 3) (D : tD) (dn th ta nx : Int32) (σ : tS) (f : mF) (hM : CM G k own n z D f) (hR : RP n T (k 1) i dn th ta nx σ D) (x hd ff y : Int32) (hx4 : 0 ≤ x.toInt ∧ x.toInt < 4) (hh4 : 0 ≤ hd.toInt ∧ hd.toInt < 4) (hff : 0 ≤ ff.toInt ∧ ff.toInt < 8) (hy4 : 0 ≤ y.toInt ∧ y.toInt < 4) : Met l yX3_getItem wsX3_getItem ({ frames := 4, cells := 3 * (nld (pItm T σ x.toNatClampNeg hd.toNatClampNeg ff.toNatClampNeg y.toNatClampNeg).2 - nld σ), slots := 29 * (nld (pItm T σ x.toNatClampNeg hd.toNatClampNeg ff.toNatClampNeg y.toNatClampNeg).2 - nld σ), locals := 127 }) (va_Pc [.ref (k (5 + 8 * i)), .int x, .int hd, .int ff, .int y] (mW G f)) (va_Qi (fun (r : Int32) (u : mS) => RN G k u.1 n T z i D dn th ta nx ((pItm T σ x.toNatClampNeg hd.toNatClampNeg ff.toNatClampNeg y.toNatClampNeg).2) u.2 ∧ frD own f u.1 u.2 ∧ r.toInt = (((pItm T σ x.toNatClampNeg hd.toNatClampNeg ff.toNatClampNeg y.toNatClampNeg).1 : Nat) : Int)) (fun (u : mS) t => mW G u.2 t) (mA G)) (3 * (nld (pItm T σ x.toNatClampNeg hd.toNatClampNeg ff.toNatClampNeg y.toNatClampNeg).2 - nld σ)) (29 * (nld (pItm T σ x.toNatClampNeg hd.toNatClampNeg ff.toNatClampNeg y.toNatClampNeg).2 - nld σ)) (mA G) := by
  refine mMet [.ref (k (5 + 8 * i)), .int x, .int hd, .int ff, .int y] (cc := cX3_getItem) (maxL := 7) (ret := (some .int)) (by decide) rfl (Nat.le_of_ble_eq_true rfl) ?_
  intro p e s m below meth c ls hx hb hr hml hts hown hlk hnm hC hH hl
  have hl : lv_has ls 7 [(0, .ref (k (5 + 8 * i))), (1, .int x), (2, .int hd), (3, .int ff), (4, .int y)] := hl
  have hK : KP i D D := KP.rf
  have hfr : frD own f own f := frD.rf
  have cl_x := ic_clN (rfl : x.toInt = _) (by omega)
  have cl_hd := ic_clN (rfl : hd.toInt = _) (by omega)
  have cl_ff := ic_clN (rfl : ff.toInt = _) (by omega)
  have cl_y := ic_clN (rfl : y.toInt = _) (by omega)
  have nq_ : nld (pItm T σ x.toNatClampNeg hd.toNatClampNeg ff.toNatClampNeg y.toNatClampNeg).2 = nld (ask T σ hd.toNatClampNeg ff.toNatClampNeg (3 : Int32).toNatClampNeg).2 := nl_pItm
  have n24_ := hR.1.1
  have hT3_ := hR.1.2
  have ok_ := hR.2.1
  obtain ⟨lb_1, hr_1, hlb_1⟩ := hR.2.2.1
  refine lv_aload_n hx hb dX3_getItem_0 rfl (lv_at hl 0 rfl) ?_
  refine lv_iload_n hx hb dX3_getItem_1 rfl (lv_at hl 2 rfl) ?_
  refine lv_iload_n hx hb dX3_getItem_2 rfl (lv_at hl 3 rfl) ?_
  refine lv_iconst (v := 3) hx hb dX3_getItem_3 (by decide) ?_
  have okb_ := ok_
  have nm_ := ask_nlm (j := ff.toNatClampNeg) (st := (3 : Int32).toNatClampNeg) n24_ ok_ (show hd.toNatClampNeg < 4 from by have := ic_clN (rfl : hd.toInt = _) (by omega); omega)
  have F_5 : f (k (5 + 8 * i)) = some (.inr (3, [.ref (k (5 + 8 * i + 1)), .int lb_1, .int dn, .long (gfS σ), .int th, .int ta, .ref (k 1), .ref (k (5 + 8 * i + 5)), .ref (k (5 + 8 * i + 6)), .ref (k (5 + 8 * i + 7)), .int nx])) := by have w_ := hM.r0 i hi; rw [hr_1] at w_; exact w_
  refine m_goi hH (va_runV (As := [.int hd, .int ff, .int 3]) (rest := []) ⟨hx, hb, hml, hown, hts⟩ (c_X3_ask l G k own n T z i hi D dn th ta nx σ f hM hR hd ff 3 (by have := kI_3; omega) (by have := kI_3; omega) (by have := kI_3; omega)) (cwV 3 hts gX3_getItem_X3_ask rfl rfl rfl (by decide +kernel) ⟨Nat.le_of_ble_eq_true rfl, Nat.le_of_ble_eq_true rfl⟩) (m_preV (ci := 3) hC hH F_5 rfl) rfl rfl hl.1 rfl (lv_room (Nat.le_of_ble_eq_true rfl)) dX3_getItem_4 ⟨by show _ ≤ 3 * (nld (pItm T σ x.toNatClampNeg hd.toNatClampNeg ff.toNatClampNeg y.toNatClampNeg).2 - nld σ); omega, by show _ ≤ 29 * (nld (pItm T σ x.toNatClampNeg hd.toNatClampNeg ff.toNatClampNeg y.toNatClampNeg).2 - nld σ); omega⟩) (fun r_2 rho_4 f_3 H locs hw hH => ?_)
  obtain ⟨hI, hfr1, hr_2⟩ := hw
  have hI : RN G k rho_4 n T z i D dn th ta nx ((ask T σ hd.toNatClampNeg ff.toNatClampNeg (3 : Int32).toNatClampNeg).2) f_3 := hI
  have hfr1 : frD own f rho_4 f_3 := hfr1
  have hfr := hfr.trans hfr1
  try dsimp only at hr_2
  obtain ⟨D_6, hM, hR, hK1_6⟩ := hI
  have hK := hK.trans hK1_6
  have n24_ := hR.1.1
  have hT3_ := hR.1.2
  have ok_ := hR.2.1
  obtain ⟨lb_7, hr_7, hlb_7⟩ := hR.2.2.1
  refine lv_istore (lv' := [(5, .int r_2), (0, .ref (k (5 + 8 * i))), (1, .int x), (2, .int hd), (3, .int ff), (4, .int y)]) hx hb dX3_getItem_7 hl (by decide) rfl (fun ls hl => ?_)
  refine lv_iload hx hb dX3_getItem_9 (lv_at hl 0 rfl) ?_
  refine lv_if_eq (tgt := 17) hx hb dX3_getItem_11 (by decide) (fun c_8 => ?_) (fun c_8 => ?_)
  · skip
    have ic_8 : (r_2.toInt : Int) = 0 := ic_eq rfl kI_0 c_8
    have a0_ : (ask T σ hd.toNatClampNeg ff.toNatClampNeg (3 : Int32).toNatClampNeg).1 = 0 := by omega
    obtain ⟨au1_, au2_, au3_, au4_, au5_⟩ := ask_use okb_ (show hd.toNatClampNeg < 4 from by omega) a0_
    have al_ := ask_ld a0_
    have an_ := ask_nh a0_
    refine lv_aload_n hx hb dX3_getItem_17 rfl (lv_at hl 1 rfl) ?_
    refine lv_iload_n hx hb dX3_getItem_18 rfl (lv_at hl 3 rfl) ?_
    refine lv_iload_n hx hb dX3_getItem_19 rfl (lv_at hl 4 rfl) ?_
    have F_12 : f_3 (k (5 + 8 * i)) = some (.inr (3, [.ref (k (5 + 8 * i + 1)), .int lb_7, .int dn, .long (gfS ((ask T σ hd.toNatClampNeg ff.toNatClampNeg (3 : Int32).toNatClampNeg).2)), .int th, .int ta, .ref (k 1), .ref (k (5 + 8 * i + 5)), .ref (k (5 + 8 * i + 6)), .ref (k (5 + 8 * i + 7)), .int nx])) := by have w_ := hM.r0 i hi; rw [hr_7] at w_; exact w_
    refine m_goq hH (va_runV (As := [.int hd, .int ff]) (rest := []) ⟨hx, hb, hml, hown, hts⟩ (c_X3_read l G k rho_4 n T z i hi D_6 dn th ta nx ((ask T σ hd.toNatClampNeg ff.toNatClampNeg (3 : Int32).toNatClampNeg).2) f_3 hM hR hd ff (by omega) (by omega) (hob (ask T σ hd.toNatClampNeg ff.toNatClampNeg (3 : Int32).toNatClampNeg).2 hd.toNatClampNeg) rfl au2_ an_ al_) (cwV 2 hts gX3_getItem_X3_read rfl rfl rfl (by decide +kernel) ⟨Nat.le_of_ble_eq_true rfl, Nat.le_of_ble_eq_true rfl⟩) (m_preV (ci := 3) hC hH F_12 rfl) rfl rfl hl.1 rfl (lv_room (Nat.le_of_ble_eq_true rfl)) dX3_getItem_20 ⟨by show _ ≤ 3 * (nld (pItm T σ x.toNatClampNeg hd.toNatClampNeg ff.toNatClampNeg y.toNatClampNeg).2 - nld σ); omega, by show _ ≤ 29 * (nld (pItm T σ x.toNatClampNeg hd.toNatClampNeg ff.toNatClampNeg y.toNatClampNeg).2 - nld σ); omega⟩) (fun r_9 rho_11 f_10 H locs hw hH => ?_)
    obtain ⟨D_13, ra_13, rb_13, hM, hR, hK1_13, hfr1, hu_, r1_13, r2_13, r3_13, r4_13, r5_13⟩ := hw
    have hM : CM G k rho_11 n z D_13 f_10 := hM
    have hfr1 : frD rho_4 f_3 rho_11 f_10 := hfr1
    have hfr := hfr.trans hfr1
    have hK := hK.trans hK1_13
    have hu_ : r_9 = some ra_13 := hu_
    rw [hu_]
    have n24_ := hR.1.1
    have hT3_ := hR.1.2
    have ok_ := hR.2.1
    obtain ⟨lb_14, hr_14, hlb_14⟩ := hR.2.2.1
    refine lv_astore (lv' := [(6, .ref ra_13), (5, .int r_2), (0, .ref (k (5 + 8 * i))), (1, .int x), (2, .int hd), (3, .int ff), (4, .int y)]) hx hb dX3_getItem_23 hl (by decide) rfl (fun ls hl => ?_)
    refine lv_aload hx hb dX3_getItem_25 (lv_at hl 0 rfl) ?_
    refine lv_iload_n hx hb dX3_getItem_27 rfl (lv_at hl 5 rfl) ?_
    refine lv_aload_n hx hb dX3_getItem_28 rfl (lv_at hl 2 rfl) ?_
    have F_15 : f_10 (k (5 + 8 * i)) = some (.inr (3, [.ref (k (5 + 8 * i + 1)), .int lb_14, .int dn, .long (gfS (sTc ((ask T σ hd.toNatClampNeg ff.toNatClampNeg (3 : Int32).toNatClampNeg).2) (2 * (8 * (hob (ask T σ hd.toNatClampNeg ff.toNatClampNeg (3 : Int32).toNatClampNeg).2 hd.toNatClampNeg) + ff.toNatClampNeg)))), .int th, .int ta, .ref (k 1), .ref (k (5 + 8 * i + 5)), .ref (k (5 + 8 * i + 6)), .ref (k (5 + 8 * i + 7)), .int nx])) := by have w_ := hM.r0 i hi; rw [hr_14] at w_; exact w_
    refine m_get (ci := 3) (v := .ref (k (5 + 8 * i + 7))) (C := RX3) (T := TX3) (N := 11) hx hb hC hH hts in_X3_getItem_X3 hown F_15 rfl 9 (by decide) (hts (.fieldLink RX3 32 "LazyState$Run" "values" "[J") (by decide +kernel)) rfl dX3_getItem_29 ?_
    refine lv_iload hx hb dX3_getItem_32 (lv_at hl 6 rfl) ?_
    have hg_16 := hM.r7 i hi
    refine m_lald hx hb hC hH hg_16 (vp_in_iff.mpr ⟨by omega, by omega⟩) dX3_getItem_34 ?_
    refine lv_topl (fun y_17 ey_17 => ?_)
    have vy_17 : y_17 = vaS (sTc ((ask T σ hd.toNatClampNeg ff.toNatClampNeg (3 : Int32).toNatClampNeg).2) (2 * (8 * (hob (ask T σ hd.toNatClampNeg ff.toNatClampNeg (3 : Int32).toNatClampNeg).2 hd.toNatClampNeg) + ff.toNatClampNeg))) y.toNatClampNeg := by rw [ey_17]; exact hR.2.2.2.2.2.1 y.toNatClampNeg (by have := ic_clN (rfl : y.toInt = _) (by omega); omega)
    refine m_goi hH (va_runS (As := [.ref ra_13, .int ff, .long y_17]) (rest := []) ⟨hx, hb, hml, hown, hts⟩ (c_X3_itemRefusal l G f_10 ra_13 rb_13 (hM.bf r2_13) (by rw [r4_13]; have := hT3_ (hob (ask T σ hd.toNatClampNeg ff.toNatClampNeg (3 : Int32).toNatClampNeg).2 hd.toNatClampNeg); omega) ff y_17 (by omega)) (va_cwS 3 hts gX3_getItem_X3_itemRefusal rfl rfl rfl (by decide +kernel) ⟨Nat.le_of_ble_eq_true rfl, Nat.le_of_ble_eq_true rfl⟩) (m_preS hC hH) rfl rfl hl.1 rfl (lv_room (Nat.le_of_ble_eq_true rfl)) dX3_getItem_35 ⟨by show _ ≤ 3 * (nld (pItm T σ x.toNatClampNeg hd.toNatClampNeg ff.toNatClampNeg y.toNatClampNeg).2 - nld σ); omega, by show _ ≤ 29 * (nld (pItm T σ x.toNatClampNeg hd.toNatClampNeg ff.toNatClampNeg y.toNatClampNeg).2 - nld σ); omega⟩) (fun r_18 rho_20 f_19 H locs hw hH => ?_)
    obtain ⟨hu, hr_18⟩ := hw
    have hu : f_19 = f_10 := hu
    rw [hu] at hH
    try dsimp only at hr_18
    have ire_ : iRf (cB rb_13) ff.toNatClampNeg y_17 = iRf (bdS (ask T σ hd.toNatClampNeg ff.toNatClampNeg (3 : Int32).toNatClampNeg).2 (hob (ask T σ hd.toNatClampNeg ff.toNatClampNeg (3 : Int32).toNatClampNeg).2 hd.toNatClampNeg)) ff.toNatClampNeg (vaS (ask T σ hd.toNatClampNeg ff.toNatClampNeg (3 : Int32).toNatClampNeg).2 y.toNatClampNeg) := by rw [iRf_e r5_13 (by omega), vy_17]; rfl
    rw [ire_] at hr_18
    refine lv_istore (lv' := [(5, .int r_18), (6, .ref ra_13), (0, .ref (k (5 + 8 * i))), (1, .int x), (2, .int hd), (3, .int ff), (4, .int y)]) hx hb dX3_getItem_38 hl (by decide) rfl (fun ls hl => ?_)
    refine lv_iload hx hb dX3_getItem_40 (lv_at hl 0 rfl) ?_
    refine lv_if_eq (tgt := 50) hx hb dX3_getItem_42 (by decide) (fun c_21 => ?_) (fun c_21 => ?_)
    · skip
      have ic_21 : (r_18.toInt : Int) = 0 := ic_eq rfl kI_0 c_21
      have ir_ : (iRf (bdS (ask T σ hd.toNatClampNeg ff.toNatClampNeg (3 : Int32).toNatClampNeg).2 (hob (ask T σ hd.toNatClampNeg ff.toNatClampNeg (3 : Int32).toNatClampNeg).2 hd.toNatClampNeg)) ff.toNatClampNeg (vaS (ask T σ hd.toNatClampNeg ff.toNatClampNeg (3 : Int32).toNatClampNeg).2 y.toNatClampNeg)) = 0 := by omega
      have ib_ := iRf_0 ir_
      have i8_ := ((au5_ ff.toNatClampNeg (by omega)).2.2 au3_).1
      have vi_ : y_17.toInt = (vaS (ask T σ hd.toNatClampNeg ff.toNatClampNeg (3 : Int32).toNatClampNeg).2 y.toNatClampNeg).toInt := by rw [vy_17]; rfl
      refine lv_aload_n hx hb dX3_getItem_50 rfl (lv_at hl 2 rfl) ?_
      refine lv_iload_n hx hb dX3_getItem_51 rfl (lv_at hl 3 rfl) ?_
      refine lv_aload hx hb dX3_getItem_52 (lv_at hl 1 rfl) ?_
      have F_22 : f_10 ra_13 = some (.inr (2, [.int (nI (yB rb_13)), .ref (caB rb_13), .ref (iaB rb_13), .int (siB rb_13), va_rf (bfB rb_13)])) := (hM.bf r2_13).1
      have tI_22 : (nI (yB rb_13)).toInt = ((yB rb_13 : Nat) : Int) := nI_toInt (by rw [r4_13]; have := hT3_ (hob (ask T σ hd.toNatClampNeg ff.toNatClampNeg (3 : Int32).toNatClampNeg).2 hd.toNatClampNeg); omega)
      refine m_get (ci := 2) (v := .ref (iaB rb_13)) (C := RX2) (T := TX2) (N := 5) hx hb hC hH hts in_X3_getItem_X2 hown F_22 rfl 2 (by decide) (hts (.fieldLink RX3 194 "LazyState$Body" "items" "[I") (by decide +kernel)) rfl dX3_getItem_54 ?_
      refine lv_iload_n hx hb dX3_getItem_57 rfl (lv_at hl 5 rfl) ?_
      refine lv_aload_n hx hb dX3_getItem_58 rfl (lv_at hl 2 rfl) ?_
      refine m_get (ci := 3) (v := .ref (k (5 + 8 * i + 7))) (C := RX3) (T := TX3) (N := 11) hx hb hC hH hts in_X3_getItem_X3 hown F_15 rfl 9 (by decide) (hts (.fieldLink RX3 32 "LazyState$Run" "values" "[J") (by decide +kernel)) rfl dX3_getItem_59 ?_
      refine lv_iload hx hb dX3_getItem_62 (lv_at hl 6 rfl) ?_
      have hg_23 := hM.r7 i hi
      refine m_lald hx hb hC hH hg_23 (vp_in_iff.mpr ⟨by omega, by omega⟩) dX3_getItem_64 ?_
      refine lv_topl (fun y_24 ey_24 => ?_)
      have vy_24 : y_24 = vaS (sTc ((ask T σ hd.toNatClampNeg ff.toNatClampNeg (3 : Int32).toNatClampNeg).2) (2 * (8 * (hob (ask T σ hd.toNatClampNeg ff.toNatClampNeg (3 : Int32).toNatClampNeg).2 hd.toNatClampNeg) + ff.toNatClampNeg))) y.toNatClampNeg := by rw [ey_24]; exact hR.2.2.2.2.2.1 y.toNatClampNeg (by have := ic_clN (rfl : y.toInt = _) (by omega); omega)
      have vj_ : y_24.toInt = (vaS (ask T σ hd.toNatClampNeg ff.toNatClampNeg (3 : Int32).toNatClampNeg).2 y.toNatClampNeg).toInt := by rw [vy_24]; rfl
      refine lv_l2i hx hb dX3_getItem_65 rfl ?_
      refine lv_topi (fun x_25 ex_25 => ?_)
      have ix_25 : x_25.toInt = y_24.toInt := ic_l2i ex_25 rfl (by omega) (by omega)
      refine m_goi hH (va_runS (As := [.int ff, .int x_25]) (rest := [.ref (iaB rb_13), .int x, .ref (k (5 + 8 * i))]) ⟨hx, hb, hml, hown, hts⟩ (c_X2_itemPlace l G f_10 ff x_25 (by omega)) (va_cwS 2 hts gX3_getItem_X2_itemPlace rfl rfl rfl (by decide +kernel) ⟨Nat.le_of_ble_eq_true rfl, Nat.le_of_ble_eq_true rfl⟩) (m_preS hC hH) rfl rfl hl.1 rfl (lv_room (Nat.le_of_ble_eq_true rfl)) dX3_getItem_66 ⟨by show _ ≤ 3 * (nld (pItm T σ x.toNatClampNeg hd.toNatClampNeg ff.toNatClampNeg y.toNatClampNeg).2 - nld σ); omega, by show _ ≤ 29 * (nld (pItm T σ x.toNatClampNeg hd.toNatClampNeg ff.toNatClampNeg y.toNatClampNeg).2 - nld σ); omega⟩) (fun r_26 rho_28 f_27 H locs hw hH => ?_)
      obtain ⟨hu, hr_26⟩ := hw
      have hu : f_27 = f_10 := hu
      rw [hu] at hH
      try dsimp only at hr_26
      have hg_29 : f_10 (iaB rb_13) = some (.inl (gk G 0, 16, .inl ((cB rb_13).2))) := (hM.bf r2_13).2.2
      refine m_iald hx hb hC hH hg_29 (vp_in_iff.mpr ⟨by omega, by omega⟩) dX3_getItem_69 ?_
      refine lv_topi (fun x_30 ex_30 => ?_)
      have it_ : x_30 = (bdS (ask T σ hd.toNatClampNeg ff.toNatClampNeg (3 : Int32).toNatClampNeg).2 (hob (ask T σ hd.toNatClampNeg ff.toNatClampNeg (3 : Int32).toNatClampNeg).2 hd.toNatClampNeg)).2 (plc ff.toNatClampNeg (vaS (ask T σ hd.toNatClampNeg ff.toNatClampNeg (3 : Int32).toNatClampNeg).2 y.toNatClampNeg).toInt.toNat) := by rw [ex_30, show r_26.toNatClampNeg = plc ff.toNatClampNeg (vaS (ask T σ hd.toNatClampNeg ff.toNatClampNeg (3 : Int32).toNatClampNeg).2 y.toNatClampNeg).toInt.toNat from by have := ic_clN (rfl : r_26.toInt = _) (by omega); have := ic_clN (rfl : ff.toInt = _) (by omega); unfold plc; rcases hr_26 with y_ | y_; (rw [if_pos (by omega)]; omega); (rw [if_neg (by omega)]; omega)]; exact eqB_2 r5_13 (by omega) au3_ (by omega)
      refine lv_i2l hx hb dX3_getItem_70 rfl ?_
      refine lv_topl (fun y_31 ey_31 => ?_)
      have iy_31 : y_31.toInt = x_30.toInt := lc_i2l ey_31 rfl
      have gy_31 := ic_rng x_30
      have fv_ : y_31 = ((bdS (ask T σ hd.toNatClampNeg ff.toNatClampNeg (3 : Int32).toNatClampNeg).2 (hob (ask T σ hd.toNatClampNeg ff.toNatClampNeg (3 : Int32).toNatClampNeg).2 hd.toNatClampNeg)).2 (plc ff.toNatClampNeg (vaS (ask T σ hd.toNatClampNeg ff.toNatClampNeg (3 : Int32).toNatClampNeg).2 y.toNatClampNeg).toInt.toNat)).toInt64 := by rw [ey_31, it_]
      refine m_goi hH (va_runV (As := [.int x, .long y_31]) (rest := []) ⟨hx, hb, hml, hown, hts⟩ (c_X3_setValue l G k rho_11 n T z i hi D_13 dn th ta nx (sTc ((ask T σ hd.toNatClampNeg ff.toNatClampNeg (3 : Int32).toNatClampNeg).2) (2 * (8 * (hob (ask T σ hd.toNatClampNeg ff.toNatClampNeg (3 : Int32).toNatClampNeg).2 hd.toNatClampNeg) + ff.toNatClampNeg))) f_10 hM hR x y_31 (by omega)) (cwV 2 hts gX3_getItem_X3_setValue rfl rfl rfl (by decide +kernel) ⟨Nat.le_of_ble_eq_true rfl, Nat.le_of_ble_eq_true rfl⟩) (m_preV (ci := 3) hC hH F_15 rfl) rfl rfl hl.1 rfl (lv_room (Nat.le_of_ble_eq_true rfl)) dX3_getItem_71 ⟨by show _ ≤ 3 * (nld (pItm T σ x.toNatClampNeg hd.toNatClampNeg ff.toNatClampNeg y.toNatClampNeg).2 - nld σ); omega, by show _ ≤ 29 * (nld (pItm T σ x.toNatClampNeg hd.toNatClampNeg ff.toNatClampNeg y.toNatClampNeg).2 - nld σ); omega⟩) (fun r_32 rho_34 f_33 H locs hw hH => ?_)
      obtain ⟨hI, hfr1, hr_32⟩ := hw
      have hI : RN G k rho_34 n T z i D_13 dn th ta nx (sVa (sTc ((ask T σ hd.toNatClampNeg ff.toNatClampNeg (3 : Int32).toNatClampNeg).2) (2 * (8 * (hob (ask T σ hd.toNatClampNeg ff.toNatClampNeg (3 : Int32).toNatClampNeg).2 hd.toNatClampNeg) + ff.toNatClampNeg))) x.toNatClampNeg y_31) f_33 := hI
      have hfr1 : frD rho_11 f_10 rho_34 f_33 := hfr1
      have hfr := hfr.trans hfr1
      try dsimp only at hr_32
      obtain ⟨D_35, hM, hR, hK1_35⟩ := hI
      have hK := hK.trans hK1_35
      have n24_ := hR.1.1
      have hT3_ := hR.1.2
      have ok_ := hR.2.1
      obtain ⟨lb_36, hr_36, hlb_36⟩ := hR.2.2.1
      exact m_iret (v := r_32) hx hb hr hlk hC hH rho_34 (by rw [show (pItm T σ x.toNatClampNeg hd.toNatClampNeg ff.toNatClampNeg y.toNatClampNeg) = (0, (sVa (sTc ((ask T σ hd.toNatClampNeg ff.toNatClampNeg (3 : Int32).toNatClampNeg).2) (2 * (8 * (hob (ask T σ hd.toNatClampNeg ff.toNatClampNeg (3 : Int32).toNatClampNeg).2 hd.toNatClampNeg) + ff.toNatClampNeg))) x.toNatClampNeg y_31)) from (thn_0 a0_).trans ((thn_0 ir_).trans (by rw [fv_]; rfl))]; exact ⟨⟨_, hM, hR, hK⟩, hfr, by omega⟩) (by omega) (by omega) dX3_getItem_74
    · skip
      have ic_21 : (r_18.toInt : Int) ≠ 0 := ic_ne rfl kI_0 c_21
      have ir_ : (iRf (bdS (ask T σ hd.toNatClampNeg ff.toNatClampNeg (3 : Int32).toNatClampNeg).2 (hob (ask T σ hd.toNatClampNeg ff.toNatClampNeg (3 : Int32).toNatClampNeg).2 hd.toNatClampNeg)) ff.toNatClampNeg (vaS (ask T σ hd.toNatClampNeg ff.toNatClampNeg (3 : Int32).toNatClampNeg).2 y.toNatClampNeg)) ≠ 0 := by omega
      refine lv_iload hx hb dX3_getItem_45 (lv_at hl 0 rfl) ?_
      refine lv_goto (tgt := 74) hx hb dX3_getItem_47 (by decide) ?_
      exact m_iret (v := r_18) hx hb hr hlk hC hH rho_11 (by rw [show (pItm T σ x.toNatClampNeg hd.toNatClampNeg ff.toNatClampNeg y.toNatClampNeg) = ((iRf (bdS (ask T σ hd.toNatClampNeg ff.toNatClampNeg (3 : Int32).toNatClampNeg).2 (hob (ask T σ hd.toNatClampNeg ff.toNatClampNeg (3 : Int32).toNatClampNeg).2 hd.toNatClampNeg)) ff.toNatClampNeg (vaS (ask T σ hd.toNatClampNeg ff.toNatClampNeg (3 : Int32).toNatClampNeg).2 y.toNatClampNeg)), (sTc ((ask T σ hd.toNatClampNeg ff.toNatClampNeg (3 : Int32).toNatClampNeg).2) (2 * (8 * (hob (ask T σ hd.toNatClampNeg ff.toNatClampNeg (3 : Int32).toNatClampNeg).2 hd.toNatClampNeg) + ff.toNatClampNeg)))) from (thn_0 a0_).trans (thn_1 ir_)]; exact ⟨⟨_, hM, hR, hK⟩, hfr, by omega⟩) (by omega) (by omega) dX3_getItem_74
  · skip
    have ic_8 : (r_2.toInt : Int) ≠ 0 := ic_ne rfl kI_0 c_8
    have a0_ : (ask T σ hd.toNatClampNeg ff.toNatClampNeg (3 : Int32).toNatClampNeg).1 ≠ 0 := by omega
    refine lv_iload hx hb dX3_getItem_14 (lv_at hl 0 rfl) ?_
    exact m_iret (v := r_2) hx hb hr hlk hC hH rho_4 (by rw [show (pItm T σ x.toNatClampNeg hd.toNatClampNeg ff.toNatClampNeg y.toNatClampNeg) = (ask T σ hd.toNatClampNeg ff.toNatClampNeg (3 : Int32).toNatClampNeg) from thn_1 a0_]; exact ⟨⟨_, hM, hR, hK⟩, hfr, by omega⟩) (by omega) (by omega) dX3_getItem_16
set_option maxHeartbeats 4000000 in
set_option maxRecDepth 100000 in
theorem c_X3_lay (l : Launch) (G : mG) (k : Nat → Nat) (own : tR) (n : Nat) (T z : Nat → Nat) (i : Nat) (hi : i < 3) (D : tD) (dn th ta nx : Int32) (σ : tS) (f : mF) (hM : CM G k own n z D f) (hR : RP n T (k 1) i dn th ta nx σ D) (hd ff y x : Int32) (hh4 : 0 ≤ hd.toInt ∧ hd.toInt < 4) (hff : 0 ≤ ff.toInt ∧ ff.toInt < 8) (hy4 : 0 ≤ y.toInt ∧ y.toInt < 4) (hx4 : 0 ≤ x.toInt ∧ x.toInt < 4) : Met l yX3_lay wsX3_lay ({ frames := 4, cells := 3 * (nld (pLay T σ hd.toNatClampNeg ff.toNatClampNeg y.toNatClampNeg x.toNatClampNeg).2 - nld σ), slots := 29 * (nld (pLay T σ hd.toNatClampNeg ff.toNatClampNeg y.toNatClampNeg x.toNatClampNeg).2 - nld σ), locals := 127 }) (va_Pc [.ref (k (5 + 8 * i)), .int hd, .int ff, .int y, .int x] (mW G f)) (va_Qi (fun (r : Int32) (u : mS) => RN G k u.1 n T z i D dn th ta nx ((pLay T σ hd.toNatClampNeg ff.toNatClampNeg y.toNatClampNeg x.toNatClampNeg).2) u.2 ∧ frD own f u.1 u.2 ∧ r.toInt = (((pLay T σ hd.toNatClampNeg ff.toNatClampNeg y.toNatClampNeg x.toNatClampNeg).1 : Nat) : Int)) (fun (u : mS) t => mW G u.2 t) (mA G)) (3 * (nld (pLay T σ hd.toNatClampNeg ff.toNatClampNeg y.toNatClampNeg x.toNatClampNeg).2 - nld σ)) (29 * (nld (pLay T σ hd.toNatClampNeg ff.toNatClampNeg y.toNatClampNeg x.toNatClampNeg).2 - nld σ)) (mA G) := by
  refine mMet [.ref (k (5 + 8 * i)), .int hd, .int ff, .int y, .int x] (cc := cX3_lay) (maxL := 6) (ret := (some .int)) (by decide) rfl (Nat.le_of_ble_eq_true rfl) ?_
  intro p e s m below meth c ls hx hb hr hml hts hown hlk hnm hC hH hl
  have hl : lv_has ls 6 [(0, .ref (k (5 + 8 * i))), (1, .int hd), (2, .int ff), (3, .int y), (4, .int x)] := hl
  have hK : KP i D D := KP.rf
  have hfr : frD own f own f := frD.rf
  have cl_x := ic_clN (rfl : x.toInt = _) (by omega)
  have cl_hd := ic_clN (rfl : hd.toInt = _) (by omega)
  have cl_ff := ic_clN (rfl : ff.toInt = _) (by omega)
  have cl_y := ic_clN (rfl : y.toInt = _) (by omega)
  have nq_ : nld (pLay T σ hd.toNatClampNeg ff.toNatClampNeg y.toNatClampNeg x.toNatClampNeg).2 = nld (ask T σ hd.toNatClampNeg ff.toNatClampNeg (3 : Int32).toNatClampNeg).2 := nl_pLay
  have n24_ := hR.1.1
  have hT3_ := hR.1.2
  have ok_ := hR.2.1
  obtain ⟨lb_1, hr_1, hlb_1⟩ := hR.2.2.1
  refine lv_aload_n hx hb dX3_lay_0 rfl (lv_at hl 0 rfl) ?_
  refine lv_iload_n hx hb dX3_lay_1 rfl (lv_at hl 1 rfl) ?_
  refine lv_iload_n hx hb dX3_lay_2 rfl (lv_at hl 2 rfl) ?_
  refine lv_iconst (v := 3) hx hb dX3_lay_3 (by decide) ?_
  have okb_ := ok_
  have nm_ := ask_nlm (j := ff.toNatClampNeg) (st := (3 : Int32).toNatClampNeg) n24_ ok_ (show hd.toNatClampNeg < 4 from by have := ic_clN (rfl : hd.toInt = _) (by omega); omega)
  have F_5 : f (k (5 + 8 * i)) = some (.inr (3, [.ref (k (5 + 8 * i + 1)), .int lb_1, .int dn, .long (gfS σ), .int th, .int ta, .ref (k 1), .ref (k (5 + 8 * i + 5)), .ref (k (5 + 8 * i + 6)), .ref (k (5 + 8 * i + 7)), .int nx])) := by have w_ := hM.r0 i hi; rw [hr_1] at w_; exact w_
  refine m_goi hH (va_runV (As := [.int hd, .int ff, .int 3]) (rest := []) ⟨hx, hb, hml, hown, hts⟩ (c_X3_ask l G k own n T z i hi D dn th ta nx σ f hM hR hd ff 3 (by have := kI_3; omega) (by have := kI_3; omega) (by have := kI_3; omega)) (cwV 3 hts gX3_lay_X3_ask rfl rfl rfl (by decide +kernel) ⟨Nat.le_of_ble_eq_true rfl, Nat.le_of_ble_eq_true rfl⟩) (m_preV (ci := 3) hC hH F_5 rfl) rfl rfl hl.1 rfl (lv_room (Nat.le_of_ble_eq_true rfl)) dX3_lay_4 ⟨by show _ ≤ 3 * (nld (pLay T σ hd.toNatClampNeg ff.toNatClampNeg y.toNatClampNeg x.toNatClampNeg).2 - nld σ); omega, by show _ ≤ 29 * (nld (pLay T σ hd.toNatClampNeg ff.toNatClampNeg y.toNatClampNeg x.toNatClampNeg).2 - nld σ); omega⟩) (fun r_2 rho_4 f_3 H locs hw hH => ?_)
  obtain ⟨hI, hfr1, hr_2⟩ := hw
  have hI : RN G k rho_4 n T z i D dn th ta nx ((ask T σ hd.toNatClampNeg ff.toNatClampNeg (3 : Int32).toNatClampNeg).2) f_3 := hI
  have hfr1 : frD own f rho_4 f_3 := hfr1
  have hfr := hfr.trans hfr1
  try dsimp only at hr_2
  obtain ⟨D_6, hM, hR, hK1_6⟩ := hI
  have hK := hK.trans hK1_6
  have n24_ := hR.1.1
  have hT3_ := hR.1.2
  have ok_ := hR.2.1
  obtain ⟨lb_7, hr_7, hlb_7⟩ := hR.2.2.1
  refine lv_istore (lv' := [(5, .int r_2), (0, .ref (k (5 + 8 * i))), (1, .int hd), (2, .int ff), (3, .int y), (4, .int x)]) hx hb dX3_lay_7 hl (by decide) rfl (fun ls hl => ?_)
  refine lv_iload hx hb dX3_lay_9 (lv_at hl 0 rfl) ?_
  refine lv_if_eq (tgt := 17) hx hb dX3_lay_11 (by decide) (fun c_8 => ?_) (fun c_8 => ?_)
  · skip
    have ic_8 : (r_2.toInt : Int) = 0 := ic_eq rfl kI_0 c_8
    have a0_ : (ask T σ hd.toNatClampNeg ff.toNatClampNeg (3 : Int32).toNatClampNeg).1 = 0 := by omega
    obtain ⟨au1_, au2_, au3_, au4_, au5_⟩ := ask_use okb_ (show hd.toNatClampNeg < 4 from by omega) a0_
    have al_ := ask_ld a0_
    have an_ := ask_nh a0_
    refine lv_aload_n hx hb dX3_lay_17 rfl (lv_at hl 1 rfl) ?_
    refine lv_iload_n hx hb dX3_lay_18 rfl (lv_at hl 2 rfl) ?_
    refine lv_iload_n hx hb dX3_lay_19 rfl (lv_at hl 3 rfl) ?_
    have F_12 : f_3 (k (5 + 8 * i)) = some (.inr (3, [.ref (k (5 + 8 * i + 1)), .int lb_7, .int dn, .long (gfS ((ask T σ hd.toNatClampNeg ff.toNatClampNeg (3 : Int32).toNatClampNeg).2)), .int th, .int ta, .ref (k 1), .ref (k (5 + 8 * i + 5)), .ref (k (5 + 8 * i + 6)), .ref (k (5 + 8 * i + 7)), .int nx])) := by have w_ := hM.r0 i hi; rw [hr_7] at w_; exact w_
    refine m_goq hH (va_runV (As := [.int hd, .int ff]) (rest := []) ⟨hx, hb, hml, hown, hts⟩ (c_X3_read l G k rho_4 n T z i hi D_6 dn th ta nx ((ask T σ hd.toNatClampNeg ff.toNatClampNeg (3 : Int32).toNatClampNeg).2) f_3 hM hR hd ff (by omega) (by omega) (hob (ask T σ hd.toNatClampNeg ff.toNatClampNeg (3 : Int32).toNatClampNeg).2 hd.toNatClampNeg) rfl au2_ an_ al_) (cwV 2 hts gX3_lay_X3_read rfl rfl rfl (by decide +kernel) ⟨Nat.le_of_ble_eq_true rfl, Nat.le_of_ble_eq_true rfl⟩) (m_preV (ci := 3) hC hH F_12 rfl) rfl rfl hl.1 rfl (lv_room (Nat.le_of_ble_eq_true rfl)) dX3_lay_20 ⟨by show _ ≤ 3 * (nld (pLay T σ hd.toNatClampNeg ff.toNatClampNeg y.toNatClampNeg x.toNatClampNeg).2 - nld σ); omega, by show _ ≤ 29 * (nld (pLay T σ hd.toNatClampNeg ff.toNatClampNeg y.toNatClampNeg x.toNatClampNeg).2 - nld σ); omega⟩) (fun r_9 rho_11 f_10 H locs hw hH => ?_)
    obtain ⟨D_13, ra_13, rb_13, hM, hR, hK1_13, hfr1, hu_, r1_13, r2_13, r3_13, r4_13, r5_13⟩ := hw
    have hM : CM G k rho_11 n z D_13 f_10 := hM
    have hfr1 : frD rho_4 f_3 rho_11 f_10 := hfr1
    have hfr := hfr.trans hfr1
    have hK := hK.trans hK1_13
    have hu_ : r_9 = some ra_13 := hu_
    rw [hu_]
    have n24_ := hR.1.1
    have hT3_ := hR.1.2
    have ok_ := hR.2.1
    obtain ⟨lb_14, hr_14, hlb_14⟩ := hR.2.2.1
    refine lv_iload_n hx hb dX3_lay_23 rfl (lv_at hl 3 rfl) ?_
    refine lv_aload_n hx hb dX3_lay_24 rfl (lv_at hl 1 rfl) ?_
    have F_15 : f_10 (k (5 + 8 * i)) = some (.inr (3, [.ref (k (5 + 8 * i + 1)), .int lb_14, .int dn, .long (gfS (sTc ((ask T σ hd.toNatClampNeg ff.toNatClampNeg (3 : Int32).toNatClampNeg).2) (2 * (8 * (hob (ask T σ hd.toNatClampNeg ff.toNatClampNeg (3 : Int32).toNatClampNeg).2 hd.toNatClampNeg) + ff.toNatClampNeg)))), .int th, .int ta, .ref (k 1), .ref (k (5 + 8 * i + 5)), .ref (k (5 + 8 * i + 6)), .ref (k (5 + 8 * i + 7)), .int nx])) := by have w_ := hM.r0 i hi; rw [hr_14] at w_; exact w_
    refine m_get (ci := 3) (v := .ref (k (5 + 8 * i + 7))) (C := RX3) (T := TX3) (N := 11) hx hb hC hH hts in_X3_lay_X3 hown F_15 rfl 9 (by decide) (hts (.fieldLink RX3 32 "LazyState$Run" "values" "[J") (by decide +kernel)) rfl dX3_lay_25 ?_
    refine lv_iload_n hx hb dX3_lay_28 rfl (lv_at hl 4 rfl) ?_
    have hg_16 := hM.r7 i hi
    refine m_lald hx hb hC hH hg_16 (vp_in_iff.mpr ⟨by omega, by omega⟩) dX3_lay_29 ?_
    refine lv_topl (fun y_17 ey_17 => ?_)
    have vy_17 : y_17 = vaS (sTc ((ask T σ hd.toNatClampNeg ff.toNatClampNeg (3 : Int32).toNatClampNeg).2) (2 * (8 * (hob (ask T σ hd.toNatClampNeg ff.toNatClampNeg (3 : Int32).toNatClampNeg).2 hd.toNatClampNeg) + ff.toNatClampNeg))) y.toNatClampNeg := by rw [ey_17]; exact hR.2.2.2.2.2.1 y.toNatClampNeg (by have := ic_clN (rfl : y.toInt = _) (by omega); omega)
    refine m_goi hH (va_runS (As := [.ref ra_13, .int ff, .long y_17]) (rest := []) ⟨hx, hb, hml, hown, hts⟩ (c_X3_itemRefusal l G f_10 ra_13 rb_13 (hM.bf r2_13) (by rw [r4_13]; have := hT3_ (hob (ask T σ hd.toNatClampNeg ff.toNatClampNeg (3 : Int32).toNatClampNeg).2 hd.toNatClampNeg); omega) ff y_17 (by omega)) (va_cwS 3 hts gX3_lay_X3_itemRefusal rfl rfl rfl (by decide +kernel) ⟨Nat.le_of_ble_eq_true rfl, Nat.le_of_ble_eq_true rfl⟩) (m_preS hC hH) rfl rfl hl.1 rfl (lv_room (Nat.le_of_ble_eq_true rfl)) dX3_lay_30 ⟨by show _ ≤ 3 * (nld (pLay T σ hd.toNatClampNeg ff.toNatClampNeg y.toNatClampNeg x.toNatClampNeg).2 - nld σ); omega, by show _ ≤ 29 * (nld (pLay T σ hd.toNatClampNeg ff.toNatClampNeg y.toNatClampNeg x.toNatClampNeg).2 - nld σ); omega⟩) (fun r_18 rho_20 f_19 H locs hw hH => ?_)
    obtain ⟨hu, hr_18⟩ := hw
    have hu : f_19 = f_10 := hu
    rw [hu] at hH
    try dsimp only at hr_18
    have ire_ : iRf (cB rb_13) ff.toNatClampNeg y_17 = iRf (bdS (ask T σ hd.toNatClampNeg ff.toNatClampNeg (3 : Int32).toNatClampNeg).2 (hob (ask T σ hd.toNatClampNeg ff.toNatClampNeg (3 : Int32).toNatClampNeg).2 hd.toNatClampNeg)) ff.toNatClampNeg (vaS (ask T σ hd.toNatClampNeg ff.toNatClampNeg (3 : Int32).toNatClampNeg).2 y.toNatClampNeg) := by rw [iRf_e r5_13 (by omega), vy_17]; rfl
    rw [ire_] at hr_18
    refine lv_istore (lv' := [(5, .int r_18), (0, .ref (k (5 + 8 * i))), (1, .int hd), (2, .int ff), (3, .int y), (4, .int x)]) hx hb dX3_lay_33 hl (by decide) rfl (fun ls hl => ?_)
    refine lv_iload hx hb dX3_lay_35 (lv_at hl 0 rfl) ?_
    refine lv_if_ne (tgt := 69) hx hb dX3_lay_37 (by decide) (fun c_21 => ?_) (fun c_21 => ?_)
    · skip
      have ic_21 : (r_18.toInt : Int) ≠ 0 := ic_ne rfl kI_0 c_21
      have ir_ : (iRf (bdS (ask T σ hd.toNatClampNeg ff.toNatClampNeg (3 : Int32).toNatClampNeg).2 (hob (ask T σ hd.toNatClampNeg ff.toNatClampNeg (3 : Int32).toNatClampNeg).2 hd.toNatClampNeg)) ff.toNatClampNeg (vaS (ask T σ hd.toNatClampNeg ff.toNatClampNeg (3 : Int32).toNatClampNeg).2 y.toNatClampNeg)) ≠ 0 := by omega
      refine lv_iload hx hb dX3_lay_69 (lv_at hl 0 rfl) ?_
      exact m_iret (v := r_18) hx hb hr hlk hC hH rho_11 (by rw [show (pLay T σ hd.toNatClampNeg ff.toNatClampNeg y.toNatClampNeg x.toNatClampNeg) = ((iRf (bdS (ask T σ hd.toNatClampNeg ff.toNatClampNeg (3 : Int32).toNatClampNeg).2 (hob (ask T σ hd.toNatClampNeg ff.toNatClampNeg (3 : Int32).toNatClampNeg).2 hd.toNatClampNeg)) ff.toNatClampNeg (vaS (ask T σ hd.toNatClampNeg ff.toNatClampNeg (3 : Int32).toNatClampNeg).2 y.toNatClampNeg)), (sTc ((ask T σ hd.toNatClampNeg ff.toNatClampNeg (3 : Int32).toNatClampNeg).2) (2 * (8 * (hob (ask T σ hd.toNatClampNeg ff.toNatClampNeg (3 : Int32).toNatClampNeg).2 hd.toNatClampNeg) + ff.toNatClampNeg)))) from (thn_0 a0_).trans (thn_1 ir_)]; exact ⟨⟨_, hM, hR, hK⟩, hfr, by omega⟩) (by omega) (by omega) dX3_lay_71
    · skip
      have ic_21 : (r_18.toInt : Int) = 0 := ic_eq rfl kI_0 c_21
      have ir_ : (iRf (bdS (ask T σ hd.toNatClampNeg ff.toNatClampNeg (3 : Int32).toNatClampNeg).2 (hob (ask T σ hd.toNatClampNeg ff.toNatClampNeg (3 : Int32).toNatClampNeg).2 hd.toNatClampNeg)) ff.toNatClampNeg (vaS (ask T σ hd.toNatClampNeg ff.toNatClampNeg (3 : Int32).toNatClampNeg).2 y.toNatClampNeg)) = 0 := by omega
      have ib_ := iRf_0 ir_
      have i8_ := ((au5_ ff.toNatClampNeg (by omega)).2.2 au3_).1
      have vi_ : y_17.toInt = (vaS (ask T σ hd.toNatClampNeg ff.toNatClampNeg (3 : Int32).toNatClampNeg).2 y.toNatClampNeg).toInt := by rw [vy_17]; rfl
      refine lv_aload_n hx hb dX3_lay_40 rfl (lv_at hl 1 rfl) ?_
      refine lv_iload_n hx hb dX3_lay_41 rfl (lv_at hl 2 rfl) ?_
      refine lv_iload_n hx hb dX3_lay_42 rfl (lv_at hl 3 rfl) ?_
      refine m_goq hH (va_runV (As := [.int hd, .int ff]) (rest := []) ⟨hx, hb, hml, hown, hts⟩ (c_X3_change l G k rho_11 n T z i hi D_13 dn th ta nx (sTc ((ask T σ hd.toNatClampNeg ff.toNatClampNeg (3 : Int32).toNatClampNeg).2) (2 * (8 * (hob (ask T σ hd.toNatClampNeg ff.toNatClampNeg (3 : Int32).toNatClampNeg).2 hd.toNatClampNeg) + ff.toNatClampNeg))) f_10 hM hR hd ff (by omega) (by omega) (hob (ask T σ hd.toNatClampNeg ff.toNatClampNeg (3 : Int32).toNatClampNeg).2 hd.toNatClampNeg) rfl au2_ an_ al_) (cwV 2 hts gX3_lay_X3_change rfl rfl rfl (by decide +kernel) ⟨Nat.le_of_ble_eq_true rfl, Nat.le_of_ble_eq_true rfl⟩) (m_preV (ci := 3) hC hH F_15 rfl) rfl rfl hl.1 rfl (lv_room (Nat.le_of_ble_eq_true rfl)) dX3_lay_43 ⟨by show _ ≤ 3 * (nld (pLay T σ hd.toNatClampNeg ff.toNatClampNeg y.toNatClampNeg x.toNatClampNeg).2 - nld σ); omega, by show _ ≤ 29 * (nld (pLay T σ hd.toNatClampNeg ff.toNatClampNeg y.toNatClampNeg x.toNatClampNeg).2 - nld σ); omega⟩) (fun r_22 rho_24 f_23 H locs hw hH => ?_)
      obtain ⟨D_25, ra_25, rb_25, hM, hR, hK1_25, hfr1, hu_, r1_25, r2_25, r3_25, r4_25, r5_25⟩ := hw
      have hM : CM G k rho_24 n z D_25 f_23 := hM
      have hfr1 : frD rho_11 f_10 rho_24 f_23 := hfr1
      have hfr := hfr.trans hfr1
      have hK := hK.trans hK1_25
      have hu_ : r_22 = some ra_25 := hu_
      rw [hu_]
      have n24_ := hR.1.1
      have hT3_ := hR.1.2
      have ok_ := hR.2.1
      obtain ⟨lb_26, hr_26, hlb_26⟩ := hR.2.2.1
      have F_27 : f_23 ra_25 = some (.inr (2, [.int (nI (yB rb_25)), .ref (caB rb_25), .ref (iaB rb_25), .int (siB rb_25), va_rf (bfB rb_25)])) := (hM.bf r2_25).1
      have tI_27 : (nI (yB rb_25)).toInt = ((yB rb_25 : Nat) : Int) := nI_toInt (by rw [r4_25]; have := hT3_ (hob (ask T σ hd.toNatClampNeg ff.toNatClampNeg (3 : Int32).toNatClampNeg).2 hd.toNatClampNeg); omega)
      refine m_get (ci := 2) (v := .ref (iaB rb_25)) (C := RX2) (T := TX2) (N := 5) hx hb hC hH hts in_X3_lay_X2 hown F_27 rfl 2 (by decide) (hts (.fieldLink RX3 194 "LazyState$Body" "items" "[I") (by decide +kernel)) rfl dX3_lay_46 ?_
      refine lv_iload_n hx hb dX3_lay_49 rfl (lv_at hl 3 rfl) ?_
      refine lv_aload_n hx hb dX3_lay_50 rfl (lv_at hl 1 rfl) ?_
      have F_28 : f_23 (k (5 + 8 * i)) = some (.inr (3, [.ref (k (5 + 8 * i + 1)), .int lb_26, .int dn, .long (gfS (sTc (sTc ((ask T σ hd.toNatClampNeg ff.toNatClampNeg (3 : Int32).toNatClampNeg).2) (2 * (8 * (hob (ask T σ hd.toNatClampNeg ff.toNatClampNeg (3 : Int32).toNatClampNeg).2 hd.toNatClampNeg) + ff.toNatClampNeg))) (2 * (8 * (hob (ask T σ hd.toNatClampNeg ff.toNatClampNeg (3 : Int32).toNatClampNeg).2 hd.toNatClampNeg) + ff.toNatClampNeg) + 1))), .int th, .int ta, .ref (k 1), .ref (k (5 + 8 * i + 5)), .ref (k (5 + 8 * i + 6)), .ref (k (5 + 8 * i + 7)), .int nx])) := by have w_ := hM.r0 i hi; rw [hr_26] at w_; exact w_
      refine m_get (ci := 3) (v := .ref (k (5 + 8 * i + 7))) (C := RX3) (T := TX3) (N := 11) hx hb hC hH hts in_X3_lay_X3 hown F_28 rfl 9 (by decide) (hts (.fieldLink RX3 32 "LazyState$Run" "values" "[J") (by decide +kernel)) rfl dX3_lay_51 ?_
      refine lv_iload_n hx hb dX3_lay_54 rfl (lv_at hl 4 rfl) ?_
      have hg_29 := hM.r7 i hi
      refine m_lald hx hb hC hH hg_29 (vp_in_iff.mpr ⟨by omega, by omega⟩) dX3_lay_55 ?_
      refine lv_topl (fun y_30 ey_30 => ?_)
      have vy_30 : y_30 = vaS (sTc (sTc ((ask T σ hd.toNatClampNeg ff.toNatClampNeg (3 : Int32).toNatClampNeg).2) (2 * (8 * (hob (ask T σ hd.toNatClampNeg ff.toNatClampNeg (3 : Int32).toNatClampNeg).2 hd.toNatClampNeg) + ff.toNatClampNeg))) (2 * (8 * (hob (ask T σ hd.toNatClampNeg ff.toNatClampNeg (3 : Int32).toNatClampNeg).2 hd.toNatClampNeg) + ff.toNatClampNeg) + 1)) y.toNatClampNeg := by rw [ey_30]; exact hR.2.2.2.2.2.1 y.toNatClampNeg (by have := ic_clN (rfl : y.toInt = _) (by omega); omega)
      have vj_ : y_30.toInt = (vaS (ask T σ hd.toNatClampNeg ff.toNatClampNeg (3 : Int32).toNatClampNeg).2 y.toNatClampNeg).toInt := by rw [vy_30]; rfl
      refine lv_l2i hx hb dX3_lay_56 rfl ?_
      refine lv_topi (fun x_31 ex_31 => ?_)
      have ix_31 : x_31.toInt = y_30.toInt := ic_l2i ex_31 rfl (by omega) (by omega)
      refine m_goi hH (va_runS (As := [.int ff, .int x_31]) (rest := [.ref (iaB rb_25)]) ⟨hx, hb, hml, hown, hts⟩ (c_X2_itemPlace l G f_23 ff x_31 (by omega)) (va_cwS 2 hts gX3_lay_X2_itemPlace rfl rfl rfl (by decide +kernel) ⟨Nat.le_of_ble_eq_true rfl, Nat.le_of_ble_eq_true rfl⟩) (m_preS hC hH) rfl rfl hl.1 rfl (lv_room (Nat.le_of_ble_eq_true rfl)) dX3_lay_57 ⟨by show _ ≤ 3 * (nld (pLay T σ hd.toNatClampNeg ff.toNatClampNeg y.toNatClampNeg x.toNatClampNeg).2 - nld σ); omega, by show _ ≤ 29 * (nld (pLay T σ hd.toNatClampNeg ff.toNatClampNeg y.toNatClampNeg x.toNatClampNeg).2 - nld σ); omega⟩) (fun r_32 rho_34 f_33 H locs hw hH => ?_)
      obtain ⟨hu, hr_32⟩ := hw
      have hu : f_33 = f_23 := hu
      rw [hu] at hH
      try dsimp only at hr_32
      refine lv_aload_n hx hb dX3_lay_60 rfl (lv_at hl 1 rfl) ?_
      refine m_get (ci := 3) (v := .ref (k (5 + 8 * i + 7))) (C := RX3) (T := TX3) (N := 11) hx hb hC hH hts in_X3_lay_X3 hown F_28 rfl 9 (by decide) (hts (.fieldLink RX3 32 "LazyState$Run" "values" "[J") (by decide +kernel)) rfl dX3_lay_61 ?_
      refine lv_iload hx hb dX3_lay_64 (lv_at hl 5 rfl) ?_
      have hg_35 := hM.r7 i hi
      refine m_lald hx hb hC hH hg_35 (vp_in_iff.mpr ⟨by omega, by omega⟩) dX3_lay_66 ?_
      refine lv_topl (fun y_36 ey_36 => ?_)
      have vy_36 : y_36 = vaS (sTc (sTc ((ask T σ hd.toNatClampNeg ff.toNatClampNeg (3 : Int32).toNatClampNeg).2) (2 * (8 * (hob (ask T σ hd.toNatClampNeg ff.toNatClampNeg (3 : Int32).toNatClampNeg).2 hd.toNatClampNeg) + ff.toNatClampNeg))) (2 * (8 * (hob (ask T σ hd.toNatClampNeg ff.toNatClampNeg (3 : Int32).toNatClampNeg).2 hd.toNatClampNeg) + ff.toNatClampNeg) + 1)) x.toNatClampNeg := by rw [ey_36]; exact hR.2.2.2.2.2.1 x.toNatClampNeg (by have := ic_clN (rfl : x.toInt = _) (by omega); omega)
      refine lv_l2i hx hb dX3_lay_67 rfl ?_
      refine lv_topi (fun x_37 ex_37 => ?_)
      have fv_ : (vaS (ask T σ hd.toNatClampNeg ff.toNatClampNeg (3 : Int32).toNatClampNeg).2 x.toNatClampNeg).toInt32 = x_37 := by rw [ex_37]; exact congrArg Int64.toInt32 (vy_36).symm
      have hg_38 : f_23 (iaB rb_25) = some (.inl (gk G 0, 16, .inl ((cB rb_25).2))) := (hM.bf r2_25).2.2
      refine m_iast hx hb hC hH hg_38 (vp_in_iff.mpr ⟨by omega, by omega⟩) dX3_lay_68 (fun H locs hH => ?_)
      obtain ⟨f_39, ef_39⟩ : ∃ zz_ : mF, zz_ = va_up f_23 (iaB rb_25) (some (.inl (gk G 0, 16, .inl (upd (cB rb_25).2 r_32.toNatClampNeg x_37)))) := ⟨_, rfl⟩
      rw [← ef_39] at hH
      have pi_ : r_32.toNatClampNeg = plc ff.toNatClampNeg (vaS (ask T σ hd.toNatClampNeg ff.toNatClampNeg (3 : Int32).toNatClampNeg).2 y.toNatClampNeg).toInt.toNat := by have := ic_clN (rfl : r_32.toInt = _) (by omega); have := ic_clN (rfl : ff.toInt = _) (by omega); unfold plc; rcases hr_32 with y_ | y_; (rw [if_pos (by omega)]; omega); (rw [if_neg (by omega)]; omega)
      rw [pi_] at ef_39
      have ob_ := hM.ob _ _ r2_25
      have hfr := hfr.up (by rw [ob_.2.2]; exact (by decide : (4 : Nat) ≠ 0)) ef_39
      have hM := hM.setPi (a0 := ra_25) (b0 := rb_25) r2_25 ef_39
      have hR := hR.cel (o := (hob (ask T σ hd.toNatClampNeg ff.toNatClampNeg (3 : Int32).toNatClampNeg).2 hd.toNatClampNeg)) (a := ra_25) (b := rb_25) (c2 := ((cB rb_25).1, upd (cB rb_25).2 (plc ff.toNatClampNeg (vaS (ask T σ hd.toNatClampNeg ff.toNatClampNeg (3 : Int32).toNatClampNeg).2 y.toNatClampNeg).toInt.toNat) x_37)) (cn := setM (bdS (ask T σ hd.toNatClampNeg ff.toNatClampNeg (3 : Int32).toNatClampNeg).2 (hob (ask T σ hd.toNatClampNeg ff.toNatClampNeg (3 : Int32).toNatClampNeg).2 hd.toNatClampNeg)) (plc ff.toNatClampNeg (vaS (ask T σ hd.toNatClampNeg ff.toNatClampNeg (3 : Int32).toNatClampNeg).2 y.toNatClampNeg).toInt.toNat) x_37) au2_ r2_25 r3_25 r4_25 r1_25 al_ (eqB.setM r5_25) (okBd_M (i := (vaS (ask T σ hd.toNatClampNeg ff.toNatClampNeg (3 : Int32).toNatClampNeg).2 y.toNatClampNeg).toInt.toNat) (hT3_ _) (show ff.toNatClampNeg < 8 from by omega) au5_ au3_ (by omega) (by omega))
      have hK := hK.B (b2 := stB rb_25 ((cB rb_25).1, upd (cB rb_25).2 (plc ff.toNatClampNeg (vaS (ask T σ hd.toNatClampNeg ff.toNatClampNeg (3 : Int32).toNatClampNeg).2 y.toNatClampNeg).toInt.toNat) x_37)) r2_25 (by rw [r3_25])
      have hI : RN G k rho_24 n T z i D dn th ta nx (sBd (sTc (sTc ((ask T σ hd.toNatClampNeg ff.toNatClampNeg (3 : Int32).toNatClampNeg).2) (2 * (8 * (hob (ask T σ hd.toNatClampNeg ff.toNatClampNeg (3 : Int32).toNatClampNeg).2 hd.toNatClampNeg) + ff.toNatClampNeg))) (2 * (8 * (hob (ask T σ hd.toNatClampNeg ff.toNatClampNeg (3 : Int32).toNatClampNeg).2 hd.toNatClampNeg) + ff.toNatClampNeg) + 1)) (hob (ask T σ hd.toNatClampNeg ff.toNatClampNeg (3 : Int32).toNatClampNeg).2 hd.toNatClampNeg) (setM (bdS (ask T σ hd.toNatClampNeg ff.toNatClampNeg (3 : Int32).toNatClampNeg).2 (hob (ask T σ hd.toNatClampNeg ff.toNatClampNeg (3 : Int32).toNatClampNeg).2 hd.toNatClampNeg)) (plc ff.toNatClampNeg (vaS (ask T σ hd.toNatClampNeg ff.toNatClampNeg (3 : Int32).toNatClampNeg).2 y.toNatClampNeg).toInt.toNat) x_37)) f_39 := ⟨_, hM, hR, hK⟩
      obtain ⟨D_40, hM, hR, hK⟩ := hI
      have n24_ := hR.1.1
      have hT3_ := hR.1.2
      have ok_ := hR.2.1
      obtain ⟨lb_41, hr_41, hlb_41⟩ := hR.2.2.1
      refine lv_iload hx hb dX3_lay_69 (lv_at hl 0 rfl) ?_
      exact m_iret (v := r_18) hx hb hr hlk hC hH rho_24 (by rw [show (pLay T σ hd.toNatClampNeg ff.toNatClampNeg y.toNatClampNeg x.toNatClampNeg) = (0, (sBd (sTc (sTc ((ask T σ hd.toNatClampNeg ff.toNatClampNeg (3 : Int32).toNatClampNeg).2) (2 * (8 * (hob (ask T σ hd.toNatClampNeg ff.toNatClampNeg (3 : Int32).toNatClampNeg).2 hd.toNatClampNeg) + ff.toNatClampNeg))) (2 * (8 * (hob (ask T σ hd.toNatClampNeg ff.toNatClampNeg (3 : Int32).toNatClampNeg).2 hd.toNatClampNeg) + ff.toNatClampNeg) + 1)) (hob (ask T σ hd.toNatClampNeg ff.toNatClampNeg (3 : Int32).toNatClampNeg).2 hd.toNatClampNeg) (setM (bdS (ask T σ hd.toNatClampNeg ff.toNatClampNeg (3 : Int32).toNatClampNeg).2 (hob (ask T σ hd.toNatClampNeg ff.toNatClampNeg (3 : Int32).toNatClampNeg).2 hd.toNatClampNeg)) (plc ff.toNatClampNeg (vaS (ask T σ hd.toNatClampNeg ff.toNatClampNeg (3 : Int32).toNatClampNeg).2 y.toNatClampNeg).toInt.toNat) x_37))) from (thn_0 a0_).trans ((thn_0 ir_).trans (by rw [← fv_]; rfl))]; exact ⟨⟨_, hM, hR, hK⟩, hfr, by omega⟩) (by omega) (by omega) dX3_lay_71
  · skip
    have ic_8 : (r_2.toInt : Int) ≠ 0 := ic_ne rfl kI_0 c_8
    have a0_ : (ask T σ hd.toNatClampNeg ff.toNatClampNeg (3 : Int32).toNatClampNeg).1 ≠ 0 := by omega
    refine lv_iload hx hb dX3_lay_14 (lv_at hl 0 rfl) ?_
    exact m_iret (v := r_2) hx hb hr hlk hC hH rho_4 (by rw [show (pLay T σ hd.toNatClampNeg ff.toNatClampNeg y.toNatClampNeg x.toNatClampNeg) = (ask T σ hd.toNatClampNeg ff.toNatClampNeg (3 : Int32).toNatClampNeg) from thn_1 a0_]; exact ⟨⟨_, hM, hR, hK⟩, hfr, by omega⟩) (by omega) (by omega) dX3_lay_16
set_option maxHeartbeats 4000000 in
set_option maxRecDepth 100000 in
theorem c_X3_renew (l : Launch) (G : mG) (k : Nat → Nat) (own : tR) (n : Nat) (T z : Nat → Nat) (i : Nat) (hi : i < 3) (D : tD) (dn th ta nx : Int32) (σ : tS) (f : mF) (hM : CM G k own n z D f) (hR : RP n T (k 1) i dn th ta nx σ D) (hd ff : Int32) (v : Int64) (hh4 : 0 ≤ hd.toInt ∧ hd.toInt < 4) (hff : 0 ≤ ff.toInt ∧ ff.toInt < 8) : Met l yX3_renew wsX3_renew ({ frames := 4, cells := 3 * (nld (pRow T σ hd.toNatClampNeg ff.toNatClampNeg v).2 - nld σ), slots := 29 * (nld (pRow T σ hd.toNatClampNeg ff.toNatClampNeg v).2 - nld σ), locals := 127 }) (va_Pc [.ref (k (5 + 8 * i)), .int hd, .int ff, .long v] (mW G f)) (va_Qi (fun (r : Int32) (u : mS) => RN G k u.1 n T z i D dn th ta nx ((pRow T σ hd.toNatClampNeg ff.toNatClampNeg v).2) u.2 ∧ frD own f u.1 u.2 ∧ r.toInt = (((pRow T σ hd.toNatClampNeg ff.toNatClampNeg v).1 : Nat) : Int)) (fun (u : mS) t => mW G u.2 t) (mA G)) (3 * (nld (pRow T σ hd.toNatClampNeg ff.toNatClampNeg v).2 - nld σ)) (29 * (nld (pRow T σ hd.toNatClampNeg ff.toNatClampNeg v).2 - nld σ)) (mA G) := by
  refine mMet [.ref (k (5 + 8 * i)), .int hd, .int ff, .long v] (cc := cX3_renew) (maxL := 6) (ret := (some .int)) (by decide) rfl (Nat.le_of_ble_eq_true rfl) ?_
  intro p e s m below meth c ls hx hb hr hml hts hown hlk hnm hC hH hl
  have hl : lv_has ls 6 [(0, .ref (k (5 + 8 * i))), (1, .int hd), (2, .int ff), (3, .long v)] := hl
  have hK : KP i D D := KP.rf
  have hfr : frD own f own f := frD.rf
  have cl_hd := ic_clN (rfl : hd.toInt = _) (by omega)
  have cl_ff := ic_clN (rfl : ff.toInt = _) (by omega)
  have k0_ := kJ_0
  have k8_ := kJ_8
  have nq_ : nld (pRow T σ hd.toNatClampNeg ff.toNatClampNeg v).2 = nld (ask T σ hd.toNatClampNeg ff.toNatClampNeg (3 : Int32).toNatClampNeg).2 := nl_pRow
  have n24_ := hR.1.1
  have hT3_ := hR.1.2
  have ok_ := hR.2.1
  obtain ⟨lb_1, hr_1, hlb_1⟩ := hR.2.2.1
  refine lv_aload_n hx hb dX3_renew_0 rfl (lv_at hl 0 rfl) ?_
  refine lv_iload_n hx hb dX3_renew_1 rfl (lv_at hl 1 rfl) ?_
  refine lv_iload_n hx hb dX3_renew_2 rfl (lv_at hl 2 rfl) ?_
  refine lv_iconst (v := 3) hx hb dX3_renew_3 (by decide) ?_
  have okb_ := ok_
  have nm_ := ask_nlm (j := ff.toNatClampNeg) (st := (3 : Int32).toNatClampNeg) n24_ ok_ (show hd.toNatClampNeg < 4 from by have := ic_clN (rfl : hd.toInt = _) (by omega); omega)
  have F_5 : f (k (5 + 8 * i)) = some (.inr (3, [.ref (k (5 + 8 * i + 1)), .int lb_1, .int dn, .long (gfS σ), .int th, .int ta, .ref (k 1), .ref (k (5 + 8 * i + 5)), .ref (k (5 + 8 * i + 6)), .ref (k (5 + 8 * i + 7)), .int nx])) := by have w_ := hM.r0 i hi; rw [hr_1] at w_; exact w_
  refine m_goi hH (va_runV (As := [.int hd, .int ff, .int 3]) (rest := []) ⟨hx, hb, hml, hown, hts⟩ (c_X3_ask l G k own n T z i hi D dn th ta nx σ f hM hR hd ff 3 (by have := kI_3; omega) (by have := kI_3; omega) (by have := kI_3; omega)) (cwV 3 hts gX3_renew_X3_ask rfl rfl rfl (by decide +kernel) ⟨Nat.le_of_ble_eq_true rfl, Nat.le_of_ble_eq_true rfl⟩) (m_preV (ci := 3) hC hH F_5 rfl) rfl rfl hl.1 rfl (lv_room (Nat.le_of_ble_eq_true rfl)) dX3_renew_4 ⟨by show _ ≤ 3 * (nld (pRow T σ hd.toNatClampNeg ff.toNatClampNeg v).2 - nld σ); omega, by show _ ≤ 29 * (nld (pRow T σ hd.toNatClampNeg ff.toNatClampNeg v).2 - nld σ); omega⟩) (fun r_2 rho_4 f_3 H locs hw hH => ?_)
  obtain ⟨hI, hfr1, hr_2⟩ := hw
  have hI : RN G k rho_4 n T z i D dn th ta nx ((ask T σ hd.toNatClampNeg ff.toNatClampNeg (3 : Int32).toNatClampNeg).2) f_3 := hI
  have hfr1 : frD own f rho_4 f_3 := hfr1
  have hfr := hfr.trans hfr1
  try dsimp only at hr_2
  obtain ⟨D_6, hM, hR, hK1_6⟩ := hI
  have hK := hK.trans hK1_6
  have n24_ := hR.1.1
  have hT3_ := hR.1.2
  have ok_ := hR.2.1
  obtain ⟨lb_7, hr_7, hlb_7⟩ := hR.2.2.1
  refine lv_istore (lv' := [(5, .int r_2), (0, .ref (k (5 + 8 * i))), (1, .int hd), (2, .int ff), (3, .long v)]) hx hb dX3_renew_7 hl (by decide) rfl (fun ls hl => ?_)
  refine lv_iload hx hb dX3_renew_9 (lv_at hl 0 rfl) ?_
  refine lv_if_eq (tgt := 17) hx hb dX3_renew_11 (by decide) (fun c_8 => ?_) (fun c_8 => ?_)
  · skip
    have ic_8 : (r_2.toInt : Int) = 0 := ic_eq rfl kI_0 c_8
    have a0_ : (ask T σ hd.toNatClampNeg ff.toNatClampNeg (3 : Int32).toNatClampNeg).1 = 0 := by omega
    obtain ⟨au1_, au2_, au3_, au4_, au5_⟩ := ask_use okb_ (show hd.toNatClampNeg < 4 from by omega) a0_
    have al_ := ask_ld a0_
    have an_ := ask_nh a0_
    refine lv_lload_n hx hb dX3_renew_17 rfl (lv_at hl 4 rfl) ?_
    refine lv_lconst (v := 0) hx hb dX3_renew_18 (by decide) ?_
    refine W.lcmp hx hb dX3_renew_19 ?_
    refine lv_if_ge (tgt := 25) hx hb dX3_renew_20 (by decide) (fun c_9 => ?_) (fun c_9 => ?_)
    · skip
      have ic_9 : (0 : Int) ≤ v.toInt := lc_le kJ_0 rfl ((lg_cmp_ge _ _).mp c_9)
      refine lv_lload_n hx hb dX3_renew_25 rfl (lv_at hl 4 rfl) ?_
      refine lv_ldc2 (v := 8) hx hb hown (hts (.constantLong RX3 206 (8)) (by decide +kernel)) dX3_renew_26 ?_
      refine W.lcmp hx hb dX3_renew_29 ?_
      refine lv_if_le (tgt := 36) hx hb dX3_renew_30 (by decide) (fun c_10 => ?_) (fun c_10 => ?_)
      · skip
        have ic_10 : (v.toInt : Int) ≤ 8 := lc_le rfl kJ_8 ((lg_cmp_le _ _).mp c_10)
        refine lv_aload_n hx hb dX3_renew_36 rfl (lv_at hl 1 rfl) ?_
        refine lv_iload_n hx hb dX3_renew_37 rfl (lv_at hl 2 rfl) ?_
        refine lv_iload_n hx hb dX3_renew_38 rfl (lv_at hl 3 rfl) ?_
        have F_14 : f_3 (k (5 + 8 * i)) = some (.inr (3, [.ref (k (5 + 8 * i + 1)), .int lb_7, .int dn, .long (gfS ((ask T σ hd.toNatClampNeg ff.toNatClampNeg (3 : Int32).toNatClampNeg).2)), .int th, .int ta, .ref (k 1), .ref (k (5 + 8 * i + 5)), .ref (k (5 + 8 * i + 6)), .ref (k (5 + 8 * i + 7)), .int nx])) := by have w_ := hM.r0 i hi; rw [hr_7] at w_; exact w_
        refine m_goq hH (va_runV (As := [.int hd, .int ff]) (rest := []) ⟨hx, hb, hml, hown, hts⟩ (c_X3_change l G k rho_4 n T z i hi D_6 dn th ta nx ((ask T σ hd.toNatClampNeg ff.toNatClampNeg (3 : Int32).toNatClampNeg).2) f_3 hM hR hd ff (by omega) (by omega) (hob (ask T σ hd.toNatClampNeg ff.toNatClampNeg (3 : Int32).toNatClampNeg).2 hd.toNatClampNeg) rfl au2_ an_ al_) (cwV 2 hts gX3_renew_X3_change rfl rfl rfl (by decide +kernel) ⟨Nat.le_of_ble_eq_true rfl, Nat.le_of_ble_eq_true rfl⟩) (m_preV (ci := 3) hC hH F_14 rfl) rfl rfl hl.1 rfl (lv_room (Nat.le_of_ble_eq_true rfl)) dX3_renew_39 ⟨by show _ ≤ 3 * (nld (pRow T σ hd.toNatClampNeg ff.toNatClampNeg v).2 - nld σ); omega, by show _ ≤ 29 * (nld (pRow T σ hd.toNatClampNeg ff.toNatClampNeg v).2 - nld σ); omega⟩) (fun r_11 rho_13 f_12 H locs hw hH => ?_)
        obtain ⟨D_15, ra_15, rb_15, hM, hR, hK1_15, hfr1, hu_, r1_15, r2_15, r3_15, r4_15, r5_15⟩ := hw
        have hM : CM G k rho_13 n z D_15 f_12 := hM
        have hfr1 : frD rho_4 f_3 rho_13 f_12 := hfr1
        have hfr := hfr.trans hfr1
        have hK := hK.trans hK1_15
        have hu_ : r_11 = some ra_15 := hu_
        rw [hu_]
        have n24_ := hR.1.1
        have hT3_ := hR.1.2
        have ok_ := hR.2.1
        obtain ⟨lb_16, hr_16, hlb_16⟩ := hR.2.2.1
        refine lv_iload_n hx hb dX3_renew_42 rfl (lv_at hl 3 rfl) ?_
        refine lv_lload_n hx hb dX3_renew_43 rfl (lv_at hl 4 rfl) ?_
        refine lv_l2i hx hb dX3_renew_44 rfl ?_
        refine lv_topi (fun x_17 ex_17 => ?_)
        have ix_17 : x_17.toInt = v.toInt := ic_l2i ex_17 rfl (by omega) (by omega)
        have ob_ := hM.ob _ _ r2_15
        have F_21 : f_12 ra_15 = some (.inr (2, [.int (nI (yB rb_15)), .ref (caB rb_15), .ref (iaB rb_15), .int (siB rb_15), va_rf (bfB rb_15)])) := (hM.bf r2_15).1
        have tI_21 : (nI (yB rb_15)).toInt = ((yB rb_15 : Nat) : Int) := nI_toInt (by rw [r4_15]; have := hT3_ (hob (ask T σ hd.toNatClampNeg ff.toNatClampNeg (3 : Int32).toNatClampNeg).2 hd.toNatClampNeg); omega)
        refine m_gov hH (va_runV (As := [.int ff, .int x_17]) (rest := []) ⟨hx, hb, hml, hown, hts⟩ (c_X2_renewRow l G f_12 ra_15 rb_15 (hM.bf r2_15) (by rw [r4_15]; have := hT3_ (hob (ask T σ hd.toNatClampNeg ff.toNatClampNeg (3 : Int32).toNatClampNeg).2 hd.toNatClampNeg); omega) (ow_ne ob_.1 ob_.2.1 (Or.inl (show (2 : Nat) ≠ 3 from by decide))) (ow_ne ob_.1 ob_.2.2 (Or.inl (show (2 : Nat) ≠ 4 from by decide))) (ow_ne ob_.2.1 ob_.2.2 (Or.inl (show (3 : Nat) ≠ 4 from by decide))) ff x_17 (by omega)) (cwV 2 hts gX3_renew_X2_renewRow rfl rfl rfl (by decide +kernel) ⟨Nat.le_of_ble_eq_true rfl, Nat.le_of_ble_eq_true rfl⟩) (m_preV (ci := 2) hC hH F_21 rfl) rfl rfl hl.1 rfl (lv_room (Nat.le_of_ble_eq_true rfl)) dX3_renew_45 ⟨by show _ ≤ 3 * (nld (pRow T σ hd.toNatClampNeg ff.toNatClampNeg v).2 - nld σ); omega, by show _ ≤ 29 * (nld (pRow T σ hd.toNatClampNeg ff.toNatClampNeg v).2 - nld σ); omega⟩) (fun rho_20 f_19 H locs hw hH => ?_)
        have eu_ : f_19 = va_up (va_up f_12 (caB rb_15) (some (.inl (gk G 1, 8, .inr (.inl ((renB (cB rb_15) ff.toNatClampNeg x_17.toInt64).1)))))) (iaB rb_15) (some (.inl (gk G 0, 16, .inl ((renB (cB rb_15) ff.toNatClampNeg x_17.toInt64).2)))) := hw
        have hfr := (hfr.up (x := caB rb_15) (e := .inl (gk G 1, 8, .inr (.inl ((renB (cB rb_15) ff.toNatClampNeg x_17.toInt64).1)))) (by rw [ob_.2.1]; exact (by decide : (3 : Nat) ≠ 0)) rfl).up (x := iaB rb_15) (by rw [ob_.2.2]; exact (by decide : (4 : Nat) ≠ 0)) eu_
        have hM := (hM.setPc (a0 := ra_15) (b0 := rb_15) r2_15 (g := (renB (cB rb_15) ff.toNatClampNeg x_17.toInt64).1) rfl).setPi (a0 := ra_15) (b0 := stB rb_15 ((renB (cB rb_15) ff.toNatClampNeg x_17.toInt64).1, (cB rb_15).2)) (va_up_self _ _ _) (g := (renB (cB rb_15) ff.toNatClampNeg x_17.toInt64).2) eu_
        have vz_ : x_17.toInt64 = v := Int64.toInt_inj.mp (by rw [Int32.toInt_toInt64]; omega)
        have hB2_ : ∀ d_ : tD, dB (dB d_ ra_15 (stB rb_15 ((renB (cB rb_15) ff.toNatClampNeg x_17.toInt64).1, (cB rb_15).2))) ra_15 (stB (stB rb_15 ((renB (cB rb_15) ff.toNatClampNeg x_17.toInt64).1, (cB rb_15).2)) ((cB (stB rb_15 ((renB (cB rb_15) ff.toNatClampNeg x_17.toInt64).1, (cB rb_15).2))).1, (renB (cB rb_15) ff.toNatClampNeg x_17.toInt64).2)) = dB d_ ra_15 (stB rb_15 (renB (cB rb_15) ff.toNatClampNeg x_17.toInt64)) := fun d_ => by show (va_up (va_up (BD d_) ra_15 _) ra_15 _, AD d_, lD d_, rD d_, eD d_, ID d_, JD d_, QD d_) = _; rw [bx_uu]; rfl
        rw [hB2_] at hM
        have hR := hR.cel (o := (hob (ask T σ hd.toNatClampNeg ff.toNatClampNeg (3 : Int32).toNatClampNeg).2 hd.toNatClampNeg)) (a := ra_15) (b := rb_15) (c2 := (renB (cB rb_15) ff.toNatClampNeg x_17.toInt64)) (cn := renB (bdS (ask T σ hd.toNatClampNeg ff.toNatClampNeg (3 : Int32).toNatClampNeg).2 (hob (ask T σ hd.toNatClampNeg ff.toNatClampNeg (3 : Int32).toNatClampNeg).2 hd.toNatClampNeg)) ff.toNatClampNeg v) au2_ r2_15 r3_15 r4_15 r1_15 al_ (by rw [vz_]; exact eqB.ren r5_15) (okBd_ren (hT3_ _) (show ff.toNatClampNeg < 8 from by omega) au5_ au3_ (by omega))
        have hK := hK.B (b2 := stB rb_15 (renB (cB rb_15) ff.toNatClampNeg x_17.toInt64)) r2_15 (by rw [r3_15])
        have hI : RN G k rho_13 n T z i D dn th ta nx (sBd (sTc ((ask T σ hd.toNatClampNeg ff.toNatClampNeg (3 : Int32).toNatClampNeg).2) (2 * (8 * (hob (ask T σ hd.toNatClampNeg ff.toNatClampNeg (3 : Int32).toNatClampNeg).2 hd.toNatClampNeg) + ff.toNatClampNeg) + 1)) (hob (ask T σ hd.toNatClampNeg ff.toNatClampNeg (3 : Int32).toNatClampNeg).2 hd.toNatClampNeg) (renB (bdS (ask T σ hd.toNatClampNeg ff.toNatClampNeg (3 : Int32).toNatClampNeg).2 (hob (ask T σ hd.toNatClampNeg ff.toNatClampNeg (3 : Int32).toNatClampNeg).2 hd.toNatClampNeg)) ff.toNatClampNeg v)) f_19 := ⟨_, hM, hR, hK⟩
        obtain ⟨D_22, hM, hR, hK⟩ := hI
        have n24_ := hR.1.1
        have hT3_ := hR.1.2
        have ok_ := hR.2.1
        obtain ⟨lb_23, hr_23, hlb_23⟩ := hR.2.2.1
        refine lv_iconst (v := 0) hx hb dX3_renew_48 (by decide) ?_
        exact m_iret (v := 0) hx hb hr hlk hC hH rho_13 (by rw [show (pRow T σ hd.toNatClampNeg ff.toNatClampNeg v) = (0, (sBd (sTc ((ask T σ hd.toNatClampNeg ff.toNatClampNeg (3 : Int32).toNatClampNeg).2) (2 * (8 * (hob (ask T σ hd.toNatClampNeg ff.toNatClampNeg (3 : Int32).toNatClampNeg).2 hd.toNatClampNeg) + ff.toNatClampNeg) + 1)) (hob (ask T σ hd.toNatClampNeg ff.toNatClampNeg (3 : Int32).toNatClampNeg).2 hd.toNatClampNeg) (renB (bdS (ask T σ hd.toNatClampNeg ff.toNatClampNeg (3 : Int32).toNatClampNeg).2 (hob (ask T σ hd.toNatClampNeg ff.toNatClampNeg (3 : Int32).toNatClampNeg).2 hd.toNatClampNeg)) ff.toNatClampNeg v))) from (thn_0 a0_).trans ((if_neg (by omega)).trans (if_neg (by omega)))]; exact ⟨⟨_, hM, hR, hK⟩, hfr, kI_0⟩) (by omega) (by omega) dX3_renew_49
      · skip
        have ic_10 : (v.toInt : Int) > 8 := lc_nle rfl kJ_8 (fun q_ => c_10 ((lg_cmp_le _ _).mpr q_))
        refine lv_bipush (v := 8) hx hb dX3_renew_33 (by decide) ?_
        exact m_iret (v := 8) hx hb hr hlk hC hH rho_4 (by rw [show (pRow T σ hd.toNatClampNeg ff.toNatClampNeg v) = (8, (ask T σ hd.toNatClampNeg ff.toNatClampNeg (3 : Int32).toNatClampNeg).2) from (thn_0 a0_).trans ((if_neg (by omega)).trans (if_pos (by omega)))]; exact ⟨⟨_, hM, hR, hK⟩, hfr, kI_8⟩) (by omega) (by omega) dX3_renew_35
    · skip
      have ic_9 : (0 : Int) > v.toInt := lc_nle kJ_0 rfl (fun q_ => c_9 ((lg_cmp_ge _ _).mpr q_))
      refine lv_iconst (v := 4) hx hb dX3_renew_23 (by decide) ?_
      exact m_iret (v := 4) hx hb hr hlk hC hH rho_4 (by rw [show (pRow T σ hd.toNatClampNeg ff.toNatClampNeg v) = (4, (ask T σ hd.toNatClampNeg ff.toNatClampNeg (3 : Int32).toNatClampNeg).2) from (thn_0 a0_).trans (if_pos (by omega))]; exact ⟨⟨_, hM, hR, hK⟩, hfr, kI_4⟩) (by omega) (by omega) dX3_renew_24
  · skip
    have ic_8 : (r_2.toInt : Int) ≠ 0 := ic_ne rfl kI_0 c_8
    have a0_ : (ask T σ hd.toNatClampNeg ff.toNatClampNeg (3 : Int32).toNatClampNeg).1 ≠ 0 := by omega
    refine lv_iload hx hb dX3_renew_14 (lv_at hl 0 rfl) ?_
    exact m_iret (v := r_2) hx hb hr hlk hC hH rho_4 (by rw [show (pRow T σ hd.toNatClampNeg ff.toNatClampNeg v) = (ask T σ hd.toNatClampNeg ff.toNatClampNeg (3 : Int32).toNatClampNeg) from thn_1 a0_]; exact ⟨⟨_, hM, hR, hK⟩, hfr, by omega⟩) (by omega) (by omega) dX3_renew_16
