set_option maxHeartbeats 4000000 in
set_option maxRecDepth 100000 in
theorem c_X3_shift (l : Launch) (G : mG) (k : Nat → Nat) (own : tR) (n : Nat) (T z : Nat → Nat) (i : Nat) (hi : i < 3) (D : tD) (dn th ta nx : Int32) (σ : tS) (f : mF) (hM : CM G k own n z D f) (hR : RP n T (k 1) i dn th ta nx σ D) (q : Nat) (kd aa : Int32) (bb : Int64) (cc dd ee : Int32) (hq : AD D q = some (kd, aa, bb, cc, dd, ee)) (ha4 : 0 ≤ aa.toInt ∧ aa.toInt < 4) (hb8 : 0 ≤ bb.toInt ∧ bb.toInt < 8) (hc4 : 0 ≤ cc.toInt ∧ cc.toInt < 4) (hd8 : 0 ≤ dd.toInt ∧ dd.toInt < 8) (he4 : 0 ≤ ee.toInt ∧ ee.toInt < 4) : Met l yX3_shift wsX3_shift ({ frames := 4, cells := 3 * (nld (pShf T σ aa.toNatClampNeg bb.toInt.toNat cc.toNatClampNeg dd.toNatClampNeg ee.toNatClampNeg).2 - nld σ), slots := 29 * (nld (pShf T σ aa.toNatClampNeg bb.toInt.toNat cc.toNatClampNeg dd.toNatClampNeg ee.toNatClampNeg).2 - nld σ), locals := 127 }) (va_Pc [.ref (k (5 + 8 * i)), .ref q] (mW G f)) (va_Qi (fun (r : Int32) (u : mS) => RN G k u.1 n T z i D dn th ta nx ((pShf T σ aa.toNatClampNeg bb.toInt.toNat cc.toNatClampNeg dd.toNatClampNeg ee.toNatClampNeg).2) u.2 ∧ frD own f u.1 u.2 ∧ r.toInt = (((pShf T σ aa.toNatClampNeg bb.toInt.toNat cc.toNatClampNeg dd.toNatClampNeg ee.toNatClampNeg).1 : Nat) : Int)) (fun (u : mS) t => mW G u.2 t) (mA G)) (3 * (nld (pShf T σ aa.toNatClampNeg bb.toInt.toNat cc.toNatClampNeg dd.toNatClampNeg ee.toNatClampNeg).2 - nld σ)) (29 * (nld (pShf T σ aa.toNatClampNeg bb.toInt.toNat cc.toNatClampNeg dd.toNatClampNeg ee.toNatClampNeg).2 - nld σ)) (mA G) := by
  refine mMet [.ref (k (5 + 8 * i)), .ref q] (cc := cX3_shift) (maxL := 9) (ret := (some .int)) (by decide) rfl (Nat.le_of_ble_eq_true rfl) ?_
  intro p e s m below meth c ls hx hb hr hml hts hown hlk hnm hC hH hl
  have hl : lv_has ls 9 [(0, .ref (k (5 + 8 * i))), (1, .ref q)] := hl
  have hK : KP i D D := KP.rf
  have hfr : frD own f own f := frD.rf
  have nA_ : aa.toNatClampNeg < 4 := (show aa.toInt.toNat < 4 from by omega)
  have nC_ : cc.toNatClampNeg < 4 := (show cc.toInt.toNat < 4 from by omega)
  have nD_ : dd.toNatClampNeg < 8 := (show dd.toInt.toNat < 8 from by omega)
  have nE_ : ee.toNatClampNeg < 4 := (show ee.toInt.toNat < 4 from by omega)
  have cA_ := ic_clN (rfl : aa.toInt = _) (by omega)
  have cC_ := ic_clN (rfl : cc.toInt = _) (by omega)
  have cD_ := ic_clN (rfl : dd.toInt = _) (by omega)
  have n24_ := hR.1.1
  have hT3_ := hR.1.2
  have ok_ := hR.2.1
  obtain ⟨lb_1, hr_1, hlb_1⟩ := hR.2.2.1
  refine lv_aload_n hx hb dX3_shift_0 rfl (lv_at hl 1 rfl) ?_
  have F_2 : f q = some (.inr (0, [.int kd, .int aa, .long bb, .int cc, .int dd, .int ee])) := hM.a0 q _ (by rw [hK.2.1]; exact hq)
  refine m_get (ci := 0) (v := .long bb) (C := RX0) (T := TX0) (N := 6) hx hb hC hH hts in_X3_shift_X0 hown F_2 rfl 2 (by decide) (hts (.fieldLink RX3 115 "LazyState$Act" "b" "J") (by decide +kernel)) rfl dX3_shift_1 ?_
  refine lv_l2i hx hb dX3_shift_4 rfl ?_
  refine lv_topi (fun x_3 ex_3 => ?_)
  have ix_3 : x_3.toInt = bb.toInt := ic_l2i ex_3 rfl (by omega) (by omega)
  have bx_ : bb.toInt.toNat = x_3.toNatClampNeg := (show bb.toInt.toNat = x_3.toInt.toNat from by omega)
  have c1_ := ic_clN (rfl : x_3.toInt = _) (by omega)
  refine lv_istore_n (lv' := [(2, .int x_3), (0, .ref (k (5 + 8 * i))), (1, .ref q)]) hx hb dX3_shift_5 rfl hl (by decide) rfl (fun ls hl => ?_)
  refine lv_aload_n hx hb dX3_shift_6 rfl (lv_at hl 1 rfl) ?_
  refine lv_aload_n hx hb dX3_shift_7 rfl (lv_at hl 2 rfl) ?_
  refine m_get (ci := 0) (v := .int aa) (C := RX0) (T := TX0) (N := 6) hx hb hC hH hts in_X3_shift_X0 hown F_2 rfl 1 (by decide) (hts (.fieldLink RX3 110 "LazyState$Act" "a" "I") (by decide +kernel)) rfl dX3_shift_8 ?_
  refine lv_iload_n hx hb dX3_shift_11 rfl (lv_at hl 0 rfl) ?_
  refine lv_iconst (v := 3) hx hb dX3_shift_12 (by decide) ?_
  have nr_ : nld (ask T σ aa.toNatClampNeg x_3.toNatClampNeg (3 : Int32).toNatClampNeg).2 ≤ nld (pShf T σ aa.toNatClampNeg bb.toInt.toNat cc.toNatClampNeg dd.toNatClampNeg ee.toNatClampNeg).2 := by rw [bx_, show (3 : Int32).toNatClampNeg = 3 from rfl]; exact nl_pShfm n24_ ok_ (by omega) (by omega) (by omega)
  have okb1_ := ok_
  have nm1_ := ask_nlm (j := x_3.toNatClampNeg) (st := (3 : Int32).toNatClampNeg) n24_ ok_ (show aa.toNatClampNeg < 4 from by have := ic_clN (rfl : aa.toInt = _) (by omega); omega)
  have F_7 : f (k (5 + 8 * i)) = some (.inr (3, [.ref (k (5 + 8 * i + 1)), .int lb_1, .int dn, .long (gfS σ), .int th, .int ta, .ref (k 1), .ref (k (5 + 8 * i + 5)), .ref (k (5 + 8 * i + 6)), .ref (k (5 + 8 * i + 7)), .int nx])) := by have w_ := hM.r0 i hi; rw [hr_1] at w_; exact w_
  refine m_goi hH (va_runV (As := [.int aa, .int x_3, .int 3]) (rest := []) ⟨hx, hb, hml, hown, hts⟩ (c_X3_ask l G k own n T z i hi D dn th ta nx σ f hM hR aa x_3 3 (by have := kI_3; omega) (by have := kI_3; omega) (by have := kI_3; omega)) (cwV 3 hts gX3_shift_X3_ask rfl rfl rfl (by decide +kernel) ⟨Nat.le_of_ble_eq_true rfl, Nat.le_of_ble_eq_true rfl⟩) (m_preV (ci := 3) hC hH F_7 rfl) rfl rfl hl.1 rfl (lv_room (Nat.le_of_ble_eq_true rfl)) dX3_shift_13 ⟨by show _ ≤ 3 * (nld (pShf T σ aa.toNatClampNeg bb.toInt.toNat cc.toNatClampNeg dd.toNatClampNeg ee.toNatClampNeg).2 - nld σ); omega, by show _ ≤ 29 * (nld (pShf T σ aa.toNatClampNeg bb.toInt.toNat cc.toNatClampNeg dd.toNatClampNeg ee.toNatClampNeg).2 - nld σ); omega⟩) (fun r_4 rho_6 f_5 H locs hw hH => ?_)
  obtain ⟨hI, hfr1, hr_4⟩ := hw
  have hI : RN G k rho_6 n T z i D dn th ta nx ((ask T σ aa.toNatClampNeg x_3.toNatClampNeg (3 : Int32).toNatClampNeg).2) f_5 := hI
  have hfr1 : frD own f rho_6 f_5 := hfr1
  have hfr := hfr.trans hfr1
  try dsimp only at hr_4
  obtain ⟨D_8, hM, hR, hK1_8⟩ := hI
  have hK := hK.trans hK1_8
  have n24_ := hR.1.1
  have hT3_ := hR.1.2
  have ok_ := hR.2.1
  obtain ⟨lb_9, hr_9, hlb_9⟩ := hR.2.2.1
  refine lv_istore_n (lv' := [(3, .int r_4), (2, .int x_3), (0, .ref (k (5 + 8 * i))), (1, .ref q)]) hx hb dX3_shift_16 rfl hl (by decide) rfl (fun ls hl => ?_)
  refine lv_iload_n hx hb dX3_shift_17 rfl (lv_at hl 0 rfl) ?_
  refine lv_if_eq (tgt := 23) hx hb dX3_shift_18 (by decide) (fun c_10 => ?_) (fun c_10 => ?_)
  · skip
    have ic_10 : (r_4.toInt : Int) = 0 := ic_eq rfl kI_0 c_10
    have a01_ : (ask T σ aa.toNatClampNeg x_3.toNatClampNeg (3 : Int32).toNatClampNeg).1 = 0 := by omega
    obtain ⟨au11_, au21_, au31_, au41_, au51_⟩ := ask_use okb1_ (show aa.toNatClampNeg < 4 from by omega) a01_
    have al1_ := ask_ld a01_
    have an1_ := ask_nh a01_
    have nq_ := nl_pShf2x (T := T) (s := σ) (h1 := aa.toNatClampNeg) (j1 := x_3.toNatClampNeg) (h2 := cc.toNatClampNeg) (j2 := dd.toNatClampNeg) (y := ee.toNatClampNeg) a01_
    have nq2_ : nld (pShf T σ aa.toNatClampNeg bb.toInt.toNat cc.toNatClampNeg dd.toNatClampNeg ee.toNatClampNeg).2 = nld (pShf T σ aa.toNatClampNeg x_3.toNatClampNeg cc.toNatClampNeg dd.toNatClampNeg ee.toNatClampNeg).2 := by rw [bx_]
    obtain ⟨s1_, es1_⟩ : ∃ s_, (ask T σ aa.toNatClampNeg x_3.toNatClampNeg (3 : Int32).toNatClampNeg).2 = s_ := ⟨_, rfl⟩
    have en1_ : nld (ask T σ aa.toNatClampNeg x_3.toNatClampNeg (3 : Int32).toNatClampNeg).2 = nld s1_ := by rw [es1_]
    rw [es1_] at hR au11_ au21_ au31_ au41_ au51_ nm1_ al1_ an1_ nq_
    obtain ⟨o1_, eo1_⟩ : ∃ o_, hob s1_ aa.toNatClampNeg = o_ := ⟨_, rfl⟩
    rw [eo1_] at au21_ au31_ au41_ au51_ al1_
    have n24_ := hR.1.1
    have hT3_ := hR.1.2
    have ok_ := hR.2.1
    obtain ⟨lb_11, hr_11, hlb_11⟩ := hR.2.2.1
    rw [eo1_] at nq_
    have nt1_ : nld (sTc s1_ (2 * (8 * o1_ + x_3.toNatClampNeg))) = nld s1_ := nl_tc
    refine lv_aload_n hx hb dX3_shift_23 rfl (lv_at hl 2 rfl) ?_
    refine lv_aload_n hx hb dX3_shift_24 rfl (lv_at hl 3 rfl) ?_
    have F_12 : f_5 q = some (.inr (0, [.int kd, .int aa, .long bb, .int cc, .int dd, .int ee])) := hM.a0 q _ (by rw [hK.2.1]; exact hq)
    refine m_get (ci := 0) (v := .int aa) (C := RX0) (T := TX0) (N := 6) hx hb hC hH hts in_X3_shift_X0 hown F_12 rfl 1 (by decide) (hts (.fieldLink RX3 110 "LazyState$Act" "a" "I") (by decide +kernel)) rfl dX3_shift_25 ?_
    refine lv_iload_n hx hb dX3_shift_28 rfl (lv_at hl 1 rfl) ?_
    have F_16 : f_5 (k (5 + 8 * i)) = some (.inr (3, [.ref (k (5 + 8 * i + 1)), .int lb_11, .int dn, .long (gfS s1_), .int th, .int ta, .ref (k 1), .ref (k (5 + 8 * i + 5)), .ref (k (5 + 8 * i + 6)), .ref (k (5 + 8 * i + 7)), .int nx])) := by have w_ := hM.r0 i hi; rw [hr_11] at w_; exact w_
    refine m_goq hH (va_runV (As := [.int aa, .int x_3]) (rest := []) ⟨hx, hb, hml, hown, hts⟩ (c_X3_read l G k rho_6 n T z i hi D_8 dn th ta nx s1_ f_5 hM hR aa x_3 (by omega) (by omega) o1_ eo1_ au21_ an1_ al1_) (cwV 2 hts gX3_shift_X3_read rfl rfl rfl (by decide +kernel) ⟨Nat.le_of_ble_eq_true rfl, Nat.le_of_ble_eq_true rfl⟩) (m_preV (ci := 3) hC hH F_16 rfl) rfl rfl hl.1 rfl (lv_room (Nat.le_of_ble_eq_true rfl)) dX3_shift_29 ⟨by show _ ≤ 3 * (nld (pShf T σ aa.toNatClampNeg bb.toInt.toNat cc.toNatClampNeg dd.toNatClampNeg ee.toNatClampNeg).2 - nld σ); omega, by show _ ≤ 29 * (nld (pShf T σ aa.toNatClampNeg bb.toInt.toNat cc.toNatClampNeg dd.toNatClampNeg ee.toNatClampNeg).2 - nld σ); omega⟩) (fun r_13 rho_15 f_14 H locs hw hH => ?_)
    obtain ⟨D_17, ra_17, rb_17, hM, hR, hK1_17, hfr1, hu_, r1_17, r2_17, r3_17, r4_17, r5_17⟩ := hw
    have hM : CM G k rho_15 n z D_17 f_14 := hM
    have hfr1 : frD rho_6 f_5 rho_15 f_14 := hfr1
    have hfr := hfr.trans hfr1
    have hK := hK.trans hK1_17
    have hu_ : r_13 = some ra_17 := hu_
    rw [hu_]
    have n24_ := hR.1.1
    have hT3_ := hR.1.2
    have ok_ := hR.2.1
    obtain ⟨lb_18, hr_18, hlb_18⟩ := hR.2.2.1
    refine lv_astore (lv' := [(4, .ref ra_17), (3, .int r_4), (2, .int x_3), (0, .ref (k (5 + 8 * i))), (1, .ref q)]) hx hb dX3_shift_32 hl (by decide) rfl (fun ls hl => ?_)
    refine lv_aload_n hx hb dX3_shift_34 rfl (lv_at hl 4 rfl) ?_
    have F_19 : f_14 q = some (.inr (0, [.int kd, .int aa, .long bb, .int cc, .int dd, .int ee])) := hM.a0 q _ (by rw [hK.2.1]; exact hq)
    refine m_get (ci := 0) (v := .int dd) (C := RX0) (T := TX0) (N := 6) hx hb hC hH hts in_X3_shift_X0 hown F_19 rfl 4 (by decide) (hts (.fieldLink RX3 139 "LazyState$Act" "d" "I") (by decide +kernel)) rfl dX3_shift_35 ?_
    refine lv_istore (lv' := [(5, .int dd), (4, .ref ra_17), (3, .int r_4), (2, .int x_3), (0, .ref (k (5 + 8 * i))), (1, .ref q)]) hx hb dX3_shift_38 hl (by decide) rfl (fun ls hl => ?_)
    refine lv_aload_n hx hb dX3_shift_40 rfl (lv_at hl 4 rfl) ?_
    refine lv_aload_n hx hb dX3_shift_41 rfl (lv_at hl 5 rfl) ?_
    refine m_get (ci := 0) (v := .int cc) (C := RX0) (T := TX0) (N := 6) hx hb hC hH hts in_X3_shift_X0 hown F_19 rfl 3 (by decide) (hts (.fieldLink RX3 118 "LazyState$Act" "c" "I") (by decide +kernel)) rfl dX3_shift_42 ?_
    refine lv_iload hx hb dX3_shift_45 (lv_at hl 0 rfl) ?_
    refine lv_iconst (v := 3) hx hb dX3_shift_47 (by decide) ?_
    have okb2_ := ok_
    have nm2_ := ask_nlm (j := dd.toNatClampNeg) (st := (3 : Int32).toNatClampNeg) n24_ ok_ (show cc.toNatClampNeg < 4 from by have := ic_clN (rfl : cc.toInt = _) (by omega); omega)
    have F_23 : f_14 (k (5 + 8 * i)) = some (.inr (3, [.ref (k (5 + 8 * i + 1)), .int lb_18, .int dn, .long (gfS (sTc s1_ (2 * (8 * o1_ + x_3.toNatClampNeg)))), .int th, .int ta, .ref (k 1), .ref (k (5 + 8 * i + 5)), .ref (k (5 + 8 * i + 6)), .ref (k (5 + 8 * i + 7)), .int nx])) := by have w_ := hM.r0 i hi; rw [hr_18] at w_; exact w_
    refine m_goi hH (va_runV (As := [.int cc, .int dd, .int 3]) (rest := []) ⟨hx, hb, hml, hown, hts⟩ (c_X3_ask l G k rho_15 n T z i hi D_17 dn th ta nx (sTc s1_ (2 * (8 * o1_ + x_3.toNatClampNeg))) f_14 hM hR cc dd 3 (by have := kI_3; omega) (by have := kI_3; omega) (by have := kI_3; omega)) (cwV 3 hts gX3_shift_X3_ask rfl rfl rfl (by decide +kernel) ⟨Nat.le_of_ble_eq_true rfl, Nat.le_of_ble_eq_true rfl⟩) (m_preV (ci := 3) hC hH F_23 rfl) rfl rfl hl.1 rfl (lv_room (Nat.le_of_ble_eq_true rfl)) dX3_shift_48 ⟨by show _ ≤ 3 * (nld (pShf T σ aa.toNatClampNeg bb.toInt.toNat cc.toNatClampNeg dd.toNatClampNeg ee.toNatClampNeg).2 - nld σ); omega, by show _ ≤ 29 * (nld (pShf T σ aa.toNatClampNeg bb.toInt.toNat cc.toNatClampNeg dd.toNatClampNeg ee.toNatClampNeg).2 - nld σ); omega⟩) (fun r_20 rho_22 f_21 H locs hw hH => ?_)
    obtain ⟨hI, hfr1, hr_20⟩ := hw
    have hI : RN G k rho_22 n T z i D_17 dn th ta nx ((ask T (sTc s1_ (2 * (8 * o1_ + x_3.toNatClampNeg))) cc.toNatClampNeg dd.toNatClampNeg (3 : Int32).toNatClampNeg).2) f_21 := hI
    have hfr1 : frD rho_15 f_14 rho_22 f_21 := hfr1
    have hfr := hfr.trans hfr1
    try dsimp only at hr_20
    obtain ⟨D_24, hM, hR, hK1_24⟩ := hI
    have hK := hK.trans hK1_24
    have n24_ := hR.1.1
    have hT3_ := hR.1.2
    have ok_ := hR.2.1
    obtain ⟨lb_25, hr_25, hlb_25⟩ := hR.2.2.1
    obtain ⟨a_26, b_26, p1_26, p2_26, p3_26, p4_26, p5_26⟩ := (hR.2.2.2.2.2.2.2.2 o1_ (by omega)).1 (ask_ldm al1_)
    have ea_26 : a_26 = ra_17 := Option.some.inj (p1_26.symm.trans (hK1_24.2.2.2.2.2 _ _ r1_17))
    subst ea_26
    have hl : lv_has ls 9 [(5, .int dd), (4, .ref a_26), (3, .int r_4), (2, .int x_3), (0, .ref (k (5 + 8 * i))), (1, .ref q)] := hl
    refine lv_istore_n (lv' := [(3, .int r_20), (5, .int dd), (4, .ref a_26), (2, .int x_3), (0, .ref (k (5 + 8 * i))), (1, .ref q)]) hx hb dX3_shift_51 rfl hl (by decide) rfl (fun ls hl => ?_)
    refine lv_iload_n hx hb dX3_shift_52 rfl (lv_at hl 0 rfl) ?_
    refine lv_if_eq (tgt := 58) hx hb dX3_shift_53 (by decide) (fun c_27 => ?_) (fun c_27 => ?_)
    · skip
      have ic_27 : (r_20.toInt : Int) = 0 := ic_eq rfl kI_0 c_27
      have a02_ : (ask T (sTc s1_ (2 * (8 * o1_ + x_3.toNatClampNeg))) cc.toNatClampNeg dd.toNatClampNeg (3 : Int32).toNatClampNeg).1 = 0 := by omega
      obtain ⟨au12_, au22_, au32_, au42_, au52_⟩ := ask_use okb2_ (show cc.toNatClampNeg < 4 from by omega) a02_
      have al2_ := ask_ld a02_
      have an2_ := ask_nh a02_
      obtain ⟨s2_, es2_⟩ : ∃ s_, (ask T (sTc s1_ (2 * (8 * o1_ + x_3.toNatClampNeg))) cc.toNatClampNeg dd.toNatClampNeg (3 : Int32).toNatClampNeg).2 = s_ := ⟨_, rfl⟩
      have en2_ : nld (ask T (sTc s1_ (2 * (8 * o1_ + x_3.toNatClampNeg))) cc.toNatClampNeg dd.toNatClampNeg (3 : Int32).toNatClampNeg).2 = nld s2_ := by rw [es2_]
      rw [es2_] at hR au12_ au22_ au32_ au42_ au52_ nm2_ al2_ an2_ nq_ p5_26
      obtain ⟨o2_, eo2_⟩ : ∃ o_, hob s2_ cc.toNatClampNeg = o_ := ⟨_, rfl⟩
      rw [eo2_] at au22_ au32_ au42_ au52_ al2_
      have n24_ := hR.1.1
      have hT3_ := hR.1.2
      have ok_ := hR.2.1
      obtain ⟨lb_28, hr_28, hlb_28⟩ := hR.2.2.1
      have al12_ : ldS s2_ o1_ = true := by rw [← es2_]; exact ask_ldm al1_
      have t31_ := au31_
      refine lv_aload_n hx hb dX3_shift_58 rfl (lv_at hl 4 rfl) ?_
      refine lv_aload_n hx hb dX3_shift_59 rfl (lv_at hl 5 rfl) ?_
      have F_29 : f_21 q = some (.inr (0, [.int kd, .int aa, .long bb, .int cc, .int dd, .int ee])) := hM.a0 q _ (by rw [hK.2.1]; exact hq)
      refine m_get (ci := 0) (v := .int cc) (C := RX0) (T := TX0) (N := 6) hx hb hC hH hts in_X3_shift_X0 hown F_29 rfl 3 (by decide) (hts (.fieldLink RX3 118 "LazyState$Act" "c" "I") (by decide +kernel)) rfl dX3_shift_60 ?_
      refine lv_iload hx hb dX3_shift_63 (lv_at hl 1 rfl) ?_
      have F_33 : f_21 (k (5 + 8 * i)) = some (.inr (3, [.ref (k (5 + 8 * i + 1)), .int lb_28, .int dn, .long (gfS s2_), .int th, .int ta, .ref (k 1), .ref (k (5 + 8 * i + 5)), .ref (k (5 + 8 * i + 6)), .ref (k (5 + 8 * i + 7)), .int nx])) := by have w_ := hM.r0 i hi; rw [hr_28] at w_; exact w_
      refine m_goq hH (va_runV (As := [.int cc, .int dd]) (rest := []) ⟨hx, hb, hml, hown, hts⟩ (c_X3_read l G k rho_22 n T z i hi D_24 dn th ta nx s2_ f_21 hM hR cc dd (by omega) (by omega) o2_ eo2_ au22_ an2_ al2_) (cwV 2 hts gX3_shift_X3_read rfl rfl rfl (by decide +kernel) ⟨Nat.le_of_ble_eq_true rfl, Nat.le_of_ble_eq_true rfl⟩) (m_preV (ci := 3) hC hH F_33 rfl) rfl rfl hl.1 rfl (lv_room (Nat.le_of_ble_eq_true rfl)) dX3_shift_65 ⟨by show _ ≤ 3 * (nld (pShf T σ aa.toNatClampNeg bb.toInt.toNat cc.toNatClampNeg dd.toNatClampNeg ee.toNatClampNeg).2 - nld σ); omega, by show _ ≤ 29 * (nld (pShf T σ aa.toNatClampNeg bb.toInt.toNat cc.toNatClampNeg dd.toNatClampNeg ee.toNatClampNeg).2 - nld σ); omega⟩) (fun r_30 rho_32 f_31 H locs hw hH => ?_)
      obtain ⟨D_34, ra_34, rb_34, hM, hR, hK1_34, hfr1, hu_, r1_34, r2_34, r3_34, r4_34, r5_34⟩ := hw
      have hM : CM G k rho_32 n z D_34 f_31 := hM
      have hfr1 : frD rho_22 f_21 rho_32 f_31 := hfr1
      have hfr := hfr.trans hfr1
      have hK := hK.trans hK1_34
      have hu_ : r_30 = some ra_34 := hu_
      rw [hu_]
      have n24_ := hR.1.1
      have hT3_ := hR.1.2
      have ok_ := hR.2.1
      obtain ⟨lb_35, hr_35, hlb_35⟩ := hR.2.2.1
      obtain ⟨a_36, b_36, p1_36, p2_36, p3_36, p4_36, p5_36⟩ := (hR.2.2.2.2.2.2.2.2 o1_ (by omega)).1 al12_
      have ea_36 : a_36 = a_26 := Option.some.inj (p1_36.symm.trans (hK1_34.2.2.2.2.2 _ _ p1_26))
      subst ea_36
      have hl : lv_has ls 9 [(3, .int r_20), (5, .int dd), (4, .ref a_36), (2, .int x_3), (0, .ref (k (5 + 8 * i))), (1, .ref q)] := hl
      refine lv_astore (lv' := [(6, .ref ra_34), (3, .int r_20), (5, .int dd), (4, .ref a_36), (2, .int x_3), (0, .ref (k (5 + 8 * i))), (1, .ref q)]) hx hb dX3_shift_68 hl (by decide) rfl (fun ls hl => ?_)
      have km_ := kJ_m3
      have ok2_ := ok_
      have b1_ := ((au12_.1 o1_ (by omega) x_3.toNatClampNeg (by omega)).2.2 t31_).1
      have b2_ := ((au52_ dd.toNatClampNeg (by omega)).2.2 au32_).1
      refine lv_aload hx hb dX3_shift_70 (lv_at hl 3 rfl) ?_
      have F_37 : f_31 a_36 = some (.inr (2, [.int (nI (yB b_36)), .ref (caB b_36), .ref (iaB b_36), .int (siB b_36), va_rf (bfB b_36)])) := (hM.bf p2_36).1
      have tI_37 : (nI (yB b_36)).toInt = ((yB b_36 : Nat) : Int) := nI_toInt (by rw [p4_36]; have := hT3_ o1_; omega)
      refine m_get (ci := 2) (v := .ref (caB b_36)) (C := RX2) (T := TX2) (N := 5) hx hb hC hH hts in_X3_shift_X2 hown F_37 rfl 1 (by decide) (hts (.fieldLink RX3 184 "LazyState$Body" "cells" "[J") (by decide +kernel)) rfl dX3_shift_72 ?_
      refine lv_iload_n hx hb dX3_shift_75 rfl (lv_at hl 4 rfl) ?_
      have hg_38 : f_31 (caB b_36) = some (.inl (gk G 1, 8, .inr (.inl ((cB b_36).1)))) := (hM.bf p2_36).2.1
      refine m_lald hx hb hC hH hg_38 (vp_in_iff.mpr ⟨by omega, by omega⟩) dX3_shift_76 ?_
      refine lv_topl (fun y_39 ey_39 => ?_)
      have cf_y_39 : y_39 = (bdS s2_ o1_).1 x_3.toNatClampNeg := by rw [ey_39]; exact eqB_1 p5_36 (by omega)
      have if_y_39 : y_39.toInt = ((bdS s2_ o1_).1 x_3.toNatClampNeg).toInt := by rw [cf_y_39]
      refine lv_ldc2 (v := (-3)) hx hb hown (hts (.constantLong RX3 200 (-3)) (by decide +kernel)) dX3_shift_77 ?_
      refine W.lcmp hx hb dX3_shift_80 ?_
      refine lv_if_eq (tgt := 99) hx hb dX3_shift_81 (by decide) (fun c_40 => ?_) (fun c_40 => ?_)
      · skip
        have ic_40 : (y_39.toInt : Int) = (-3) := lc_eq rfl kJ_m3 ((lg_cmp_eq _ _).mp c_40)
        have sr_ : (shR (bdS s2_ o1_) (bdS s2_ o2_) x_3.toNatClampNeg dd.toNatClampNeg (vaS s2_ ee.toNatClampNeg)) = 1 := shR_1 (by omega)
        refine lv_iconst (v := 1) hx hb dX3_shift_99 (by decide) ?_
        exact m_iret (v := 1) hx hb hr hlk hC hH rho_32 (by rw [bx_, show (pShf T σ aa.toNatClampNeg x_3.toNatClampNeg cc.toNatClampNeg dd.toNatClampNeg ee.toNatClampNeg) = _ from pShf_3 a01_ es1_ eo1_ a02_ es2_ eo2_ sr_ (by decide)]; exact ⟨⟨_, hM, hR, hK⟩, hfr, kI_1⟩) (by omega) (by omega) dX3_shift_100
      · skip
        have ic_40 : (y_39.toInt : Int) ≠ (-3) := lc_ne rfl kJ_m3 (fun q_ => c_40 ((lg_cmp_eq _ _).mpr q_))
        refine lv_aload hx hb dX3_shift_84 (lv_at hl 0 rfl) ?_
        have F_41 : f_31 ra_34 = some (.inr (2, [.int (nI (yB rb_34)), .ref (caB rb_34), .ref (iaB rb_34), .int (siB rb_34), va_rf (bfB rb_34)])) := (hM.bf r2_34).1
        have tI_41 : (nI (yB rb_34)).toInt = ((yB rb_34 : Nat) : Int) := nI_toInt (by rw [r4_34]; have := hT3_ o2_; omega)
        refine m_get (ci := 2) (v := .ref (caB rb_34)) (C := RX2) (T := TX2) (N := 5) hx hb hC hH hts in_X3_shift_X2 hown F_41 rfl 1 (by decide) (hts (.fieldLink RX3 184 "LazyState$Body" "cells" "[J") (by decide +kernel)) rfl dX3_shift_86 ?_
        refine lv_iload hx hb dX3_shift_89 (lv_at hl 2 rfl) ?_
        have hg_42 : f_31 (caB rb_34) = some (.inl (gk G 1, 8, .inr (.inl ((cB rb_34).1)))) := (hM.bf r2_34).2.1
        refine m_lald hx hb hC hH hg_42 (vp_in_iff.mpr ⟨by omega, by omega⟩) dX3_shift_91 ?_
        refine lv_topl (fun y_43 ey_43 => ?_)
        have ct_y_43 : y_43 = (bdS s2_ o2_).1 dd.toNatClampNeg := by rw [ey_43]; exact eqB_1 r5_34 (by omega)
        have it_y_43 : y_43.toInt = ((bdS s2_ o2_).1 dd.toNatClampNeg).toInt := by rw [ct_y_43]
        refine lv_ldc2 (v := (-3)) hx hb hown (hts (.constantLong RX3 200 (-3)) (by decide +kernel)) dX3_shift_92 ?_
        refine W.lcmp hx hb dX3_shift_95 ?_
        refine lv_if_ne (tgt := 101) hx hb dX3_shift_96 (by decide) (fun c_44 => ?_) (fun c_44 => ?_)
        · skip
          have ic_44 : (y_43.toInt : Int) ≠ (-3) := lc_ne rfl kJ_m3 (fun q_ => c_44 ((lg_cmp_eq _ _).mpr q_))
          refine lv_aload_n hx hb dX3_shift_101 rfl (lv_at hl 5 rfl) ?_
          have F_45 : f_31 (k (5 + 8 * i)) = some (.inr (3, [.ref (k (5 + 8 * i + 1)), .int lb_35, .int dn, .long (gfS (sTc s2_ (2 * (8 * o2_ + dd.toNatClampNeg)))), .int th, .int ta, .ref (k 1), .ref (k (5 + 8 * i + 5)), .ref (k (5 + 8 * i + 6)), .ref (k (5 + 8 * i + 7)), .int nx])) := by have w_ := hM.r0 i hi; rw [hr_35] at w_; exact w_
          refine m_get (ci := 3) (v := .ref (k (5 + 8 * i + 7))) (C := RX3) (T := TX3) (N := 11) hx hb hC hH hts in_X3_shift_X3 hown F_45 rfl 9 (by decide) (hts (.fieldLink RX3 32 "LazyState$Run" "values" "[J") (by decide +kernel)) rfl dX3_shift_102 ?_
          refine lv_aload_n hx hb dX3_shift_105 rfl (lv_at hl 6 rfl) ?_
          have F_46 : f_31 q = some (.inr (0, [.int kd, .int aa, .long bb, .int cc, .int dd, .int ee])) := hM.a0 q _ (by rw [hK.2.1]; exact hq)
          refine m_get (ci := 0) (v := .int ee) (C := RX0) (T := TX0) (N := 6) hx hb hC hH hts in_X3_shift_X0 hown F_46 rfl 5 (by decide) (hts (.fieldLink RX3 211 "LazyState$Act" "e" "I") (by decide +kernel)) rfl dX3_shift_106 ?_
          have hg_47 := hM.r7 i hi
          refine m_lald hx hb hC hH hg_47 (vp_in_iff.mpr ⟨by omega, by omega⟩) dX3_shift_109 ?_
          refine lv_topl (fun y_48 ey_48 => ?_)
          have vy_48 : y_48 = vaS s2_ ee.toNatClampNeg := by rw [ey_48]; exact hR.2.2.2.2.2.1 ee.toNatClampNeg (show ee.toInt.toNat < 4 from by omega)
          have iv_ : y_48.toInt = (vaS s2_ ee.toNatClampNeg).toInt := by rw [vy_48]
          refine lv_lstore (lv' := [(7, .long y_48), (6, .ref ra_34), (3, .int r_20), (5, .int dd), (4, .ref a_36), (2, .int x_3), (0, .ref (k (5 + 8 * i))), (1, .ref q)]) hx hb dX3_shift_110 hl (by decide) rfl (fun ls hl => ?_)
          refine lv_lload hx hb dX3_shift_112 (lv_at hl 0 rfl) ?_
          refine lv_lconst (v := 0) hx hb dX3_shift_114 (by decide) ?_
          refine W.lcmp hx hb dX3_shift_115 ?_
          refine lv_if_lt (tgt := 146) hx hb dX3_shift_116 (by decide) (fun c_49 => ?_) (fun c_49 => ?_)
          · skip
            have ic_49 : (y_48.toInt : Int) < 0 := lc_lt rfl kJ_0 ((lg_cmp_lt _ _).mp c_49)
            have sr_ : (shR (bdS s2_ o1_) (bdS s2_ o2_) x_3.toNatClampNeg dd.toNatClampNeg (vaS s2_ ee.toNatClampNeg)) = 3 := shR_n (by omega) (by omega) (by omega)
            refine lv_iconst (v := 3) hx hb dX3_shift_146 (by decide) ?_
            exact m_iret (v := 3) hx hb hr hlk hC hH rho_32 (by rw [bx_, show (pShf T σ aa.toNatClampNeg x_3.toNatClampNeg cc.toNatClampNeg dd.toNatClampNeg ee.toNatClampNeg) = _ from pShf_3 a01_ es1_ eo1_ a02_ es2_ eo2_ sr_ (by decide)]; exact ⟨⟨_, hM, hR, hK⟩, hfr, kI_3⟩) (by omega) (by omega) dX3_shift_147
          · skip
            have ic_49 : (y_48.toInt : Int) ≥ 0 := lc_nlt rfl kJ_0 (fun q_ => c_49 ((lg_cmp_lt _ _).mpr q_))
            refine lv_lload hx hb dX3_shift_119 (lv_at hl 0 rfl) ?_
            refine lv_aload hx hb dX3_shift_121 (lv_at hl 4 rfl) ?_
            refine m_get (ci := 2) (v := .ref (caB b_36)) (C := RX2) (T := TX2) (N := 5) hx hb hC hH hts in_X3_shift_X2 hown F_37 rfl 1 (by decide) (hts (.fieldLink RX3 184 "LazyState$Body" "cells" "[J") (by decide +kernel)) rfl dX3_shift_123 ?_
            refine lv_iload_n hx hb dX3_shift_126 rfl (lv_at hl 5 rfl) ?_
            refine m_lald hx hb hC hH hg_38 (vp_in_iff.mpr ⟨by omega, by omega⟩) dX3_shift_127 ?_
            refine lv_topl (fun y_50 ey_50 => ?_)
            have cf_y_50 : y_50 = (bdS s2_ o1_).1 x_3.toNatClampNeg := by rw [ey_50]; exact eqB_1 p5_36 (by omega)
            have if_y_50 : y_50.toInt = ((bdS s2_ o1_).1 x_3.toNatClampNeg).toInt := by rw [cf_y_50]
            refine W.lcmp hx hb dX3_shift_128 ?_
            refine lv_if_gt (tgt := 146) hx hb dX3_shift_129 (by decide) (fun c_51 => ?_) (fun c_51 => ?_)
            · skip
              have ic_51 : (y_50.toInt : Int) < y_48.toInt := lc_lt rfl rfl ((lg_cmp_gt _ _).mp c_51)
              have sr_ : (shR (bdS s2_ o1_) (bdS s2_ o2_) x_3.toNatClampNeg dd.toNatClampNeg (vaS s2_ ee.toNatClampNeg)) = 3 := shR_n (by omega) (by omega) (by omega)
              refine lv_iconst (v := 3) hx hb dX3_shift_146 (by decide) ?_
              exact m_iret (v := 3) hx hb hr hlk hC hH rho_32 (by rw [bx_, show (pShf T σ aa.toNatClampNeg x_3.toNatClampNeg cc.toNatClampNeg dd.toNatClampNeg ee.toNatClampNeg) = _ from pShf_3 a01_ es1_ eo1_ a02_ es2_ eo2_ sr_ (by decide)]; exact ⟨⟨_, hM, hR, hK⟩, hfr, kI_3⟩) (by omega) (by omega) dX3_shift_147
            · skip
              have ic_51 : (y_50.toInt : Int) ≥ y_48.toInt := lc_nlt rfl rfl (fun q_ => c_51 ((lg_cmp_gt _ _).mpr q_))
              refine lv_lload hx hb dX3_shift_132 (lv_at hl 0 rfl) ?_
              refine lv_aload hx hb dX3_shift_134 (lv_at hl 1 rfl) ?_
              refine m_get (ci := 2) (v := .ref (caB rb_34)) (C := RX2) (T := TX2) (N := 5) hx hb hC hH hts in_X3_shift_X2 hown F_41 rfl 1 (by decide) (hts (.fieldLink RX3 184 "LazyState$Body" "cells" "[J") (by decide +kernel)) rfl dX3_shift_136 ?_
              refine lv_iload hx hb dX3_shift_139 (lv_at hl 3 rfl) ?_
              refine m_lald hx hb hC hH hg_42 (vp_in_iff.mpr ⟨by omega, by omega⟩) dX3_shift_141 ?_
              refine lv_topl (fun y_52 ey_52 => ?_)
              have ct_y_52 : y_52 = (bdS s2_ o2_).1 dd.toNatClampNeg := by rw [ey_52]; exact eqB_1 r5_34 (by omega)
              have it_y_52 : y_52.toInt = ((bdS s2_ o2_).1 dd.toNatClampNeg).toInt := by rw [ct_y_52]
              refine W.lcmp hx hb dX3_shift_142 ?_
              refine lv_if_le (tgt := 148) hx hb dX3_shift_143 (by decide) (fun c_53 => ?_) (fun c_53 => ?_)
              · skip
                have ic_53 : (y_48.toInt : Int) ≤ y_52.toInt := lc_le rfl rfl ((lg_cmp_le _ _).mp c_53)
                have sr_ : (shR (bdS s2_ o1_) (bdS s2_ o2_) x_3.toNatClampNeg dd.toNatClampNeg (vaS s2_ ee.toNatClampNeg)) = 0 := shR_y (by omega) (by omega) (by omega)
                refine lv_aload_n hx hb dX3_shift_148 rfl (lv_at hl 6 rfl) ?_
                refine lv_aload_n hx hb dX3_shift_149 rfl (lv_at hl 7 rfl) ?_
                refine m_get (ci := 0) (v := .int cc) (C := RX0) (T := TX0) (N := 6) hx hb hC hH hts in_X3_shift_X0 hown F_46 rfl 3 (by decide) (hts (.fieldLink RX3 118 "LazyState$Act" "c" "I") (by decide +kernel)) rfl dX3_shift_150 ?_
                refine lv_iload hx hb dX3_shift_153 (lv_at hl 3 rfl) ?_
                refine m_goq hH (va_runV (As := [.int cc, .int dd]) (rest := []) ⟨hx, hb, hml, hown, hts⟩ (c_X3_change l G k rho_32 n T z i hi D_34 dn th ta nx (sTc s2_ (2 * (8 * o2_ + dd.toNatClampNeg))) f_31 hM hR cc dd (by omega) (by omega) o2_ eo2_ au22_ an2_ al2_) (cwV 2 hts gX3_shift_X3_change rfl rfl rfl (by decide +kernel) ⟨Nat.le_of_ble_eq_true rfl, Nat.le_of_ble_eq_true rfl⟩) (m_preV (ci := 3) hC hH F_45 rfl) rfl rfl hl.1 rfl (lv_room (Nat.le_of_ble_eq_true rfl)) dX3_shift_155 ⟨by show _ ≤ 3 * (nld (pShf T σ aa.toNatClampNeg bb.toInt.toNat cc.toNatClampNeg dd.toNatClampNeg ee.toNatClampNeg).2 - nld σ); omega, by show _ ≤ 29 * (nld (pShf T σ aa.toNatClampNeg bb.toInt.toNat cc.toNatClampNeg dd.toNatClampNeg ee.toNatClampNeg).2 - nld σ); omega⟩) (fun r_54 rho_56 f_55 H locs hw hH => ?_)
                obtain ⟨D_57, ra_57, rb_57, hM, hR, hK1_57, hfr1, hu_, r1_57, r2_57, r3_57, r4_57, r5_57⟩ := hw
                have hM : CM G k rho_56 n z D_57 f_55 := hM
                have hfr1 : frD rho_32 f_31 rho_56 f_55 := hfr1
                have hfr := hfr.trans hfr1
                have hK := hK.trans hK1_57
                have hu_ : r_54 = some ra_57 := hu_
                rw [hu_]
                have n24_ := hR.1.1
                have hT3_ := hR.1.2
                have ok_ := hR.2.1
                obtain ⟨lb_58, hr_58, hlb_58⟩ := hR.2.2.1
                obtain ⟨a_59, b_59, p1_59, p2_59, p3_59, p4_59, p5_59⟩ := (hR.2.2.2.2.2.2.2.2 o1_ (by omega)).1 al12_
                have ea_59 : a_59 = a_36 := Option.some.inj (p1_59.symm.trans (hK1_57.2.2.2.2.2 _ _ p1_36))
                subst ea_59
                have hl : lv_has ls 9 [(7, .long y_48), (6, .ref ra_34), (3, .int r_20), (5, .int dd), (4, .ref a_59), (2, .int x_3), (0, .ref (k (5 + 8 * i))), (1, .ref q)] := hl
                obtain ⟨a_60, b_60, p1_60, p2_60, p3_60, p4_60, p5_60⟩ := (hR.2.2.2.2.2.2.2.2 o2_ (by omega)).1 al2_
                have ea_60 : a_60 = ra_34 := Option.some.inj (p1_60.symm.trans (hK1_57.2.2.2.2.2 _ _ r1_34))
                subst ea_60
                have hl : lv_has ls 9 [(7, .long y_48), (6, .ref a_60), (3, .int r_20), (5, .int dd), (4, .ref a_59), (2, .int x_3), (0, .ref (k (5 + 8 * i))), (1, .ref q)] := hl
                refine lv_pop hx hb dX3_shift_158 rfl ?_
                refine lv_aload hx hb dX3_shift_159 (lv_at hl 4 rfl) ?_
                have F_61 : f_55 a_59 = some (.inr (2, [.int (nI (yB b_59)), .ref (caB b_59), .ref (iaB b_59), .int (siB b_59), va_rf (bfB b_59)])) := (hM.bf p2_59).1
                have tI_61 : (nI (yB b_59)).toInt = ((yB b_59 : Nat) : Int) := nI_toInt (by rw [p4_59]; have := hT3_ o1_; omega)
                refine m_get (ci := 2) (v := .ref (iaB b_59)) (C := RX2) (T := TX2) (N := 5) hx hb hC hH hts in_X3_shift_X2 hown F_61 rfl 2 (by decide) (hts (.fieldLink RX3 194 "LazyState$Body" "items" "[I") (by decide +kernel)) rfl dX3_shift_161 ?_
                refine lv_iload_n hx hb dX3_shift_164 rfl (lv_at hl 5 rfl) ?_
                refine lv_iconst (v := 0) hx hb dX3_shift_165 (by decide) ?_
                refine m_goi hH (va_runS (As := [.int x_3, .int 0]) (rest := [.ref (iaB b_59)]) ⟨hx, hb, hml, hown, hts⟩ (c_X2_itemPlace l G f_55 x_3 0 (by have := kI_0; omega)) (va_cwS 2 hts gX3_shift_X2_itemPlace rfl rfl rfl (by decide +kernel) ⟨Nat.le_of_ble_eq_true rfl, Nat.le_of_ble_eq_true rfl⟩) (m_preS hC hH) rfl rfl hl.1 rfl (lv_room (Nat.le_of_ble_eq_true rfl)) dX3_shift_166 ⟨by show _ ≤ 3 * (nld (pShf T σ aa.toNatClampNeg bb.toInt.toNat cc.toNatClampNeg dd.toNatClampNeg ee.toNatClampNeg).2 - nld σ); omega, by show _ ≤ 29 * (nld (pShf T σ aa.toNatClampNeg bb.toInt.toNat cc.toNatClampNeg dd.toNatClampNeg ee.toNatClampNeg).2 - nld σ); omega⟩) (fun r_62 rho_64 f_63 H locs hw hH => ?_)
                obtain ⟨hu, hr_62⟩ := hw
                have hu : f_63 = f_55 := hu
                rw [hu] at hH
                try dsimp only at hr_62
                refine lv_aload hx hb dX3_shift_169 (lv_at hl 1 rfl) ?_
                have F_65 : f_55 a_60 = some (.inr (2, [.int (nI (yB b_60)), .ref (caB b_60), .ref (iaB b_60), .int (siB b_60), va_rf (bfB b_60)])) := (hM.bf p2_60).1
                have tI_65 : (nI (yB b_60)).toInt = ((yB b_60 : Nat) : Int) := nI_toInt (by rw [p4_60]; have := hT3_ o2_; omega)
                refine m_get (ci := 2) (v := .ref (iaB b_60)) (C := RX2) (T := TX2) (N := 5) hx hb hC hH hts in_X3_shift_X2 hown F_65 rfl 2 (by decide) (hts (.fieldLink RX3 194 "LazyState$Body" "items" "[I") (by decide +kernel)) rfl dX3_shift_171 ?_
                refine lv_iload hx hb dX3_shift_174 (lv_at hl 3 rfl) ?_
                refine lv_iconst (v := 0) hx hb dX3_shift_176 (by decide) ?_
                refine m_goi hH (va_runS (As := [.int dd, .int 0]) (rest := [.ref (iaB b_60), .int r_62, .ref (iaB b_59)]) ⟨hx, hb, hml, hown, hts⟩ (c_X2_itemPlace l G f_55 dd 0 (by have := kI_0; omega)) (va_cwS 2 hts gX3_shift_X2_itemPlace rfl rfl rfl (by decide +kernel) ⟨Nat.le_of_ble_eq_true rfl, Nat.le_of_ble_eq_true rfl⟩) (m_preS hC hH) rfl rfl hl.1 rfl (lv_room (Nat.le_of_ble_eq_true rfl)) dX3_shift_177 ⟨by show _ ≤ 3 * (nld (pShf T σ aa.toNatClampNeg bb.toInt.toNat cc.toNatClampNeg dd.toNatClampNeg ee.toNatClampNeg).2 - nld σ); omega, by show _ ≤ 29 * (nld (pShf T σ aa.toNatClampNeg bb.toInt.toNat cc.toNatClampNeg dd.toNatClampNeg ee.toNatClampNeg).2 - nld σ); omega⟩) (fun r_66 rho_68 f_67 H locs hw hH => ?_)
                obtain ⟨hu, hr_66⟩ := hw
                have hu : f_67 = f_55 := hu
                rw [hu] at hH
                try dsimp only at hr_66
                refine lv_lload hx hb dX3_shift_180 (lv_at hl 0 rfl) ?_
                refine lv_l2i hx hb dX3_shift_182 rfl ?_
                refine lv_topi (fun x_69 ex_69 => ?_)
                have ix_69 : x_69.toInt = y_48.toInt := ic_l2i ex_69 rfl (by omega) (by omega)
                have hg_70 : f_55 (iaB b_59) = some (.inl (gk G 0, 16, .inl ((cB b_59).2))) := (hM.bf p2_59).2.2
                have hg_71 : f_55 (iaB b_60) = some (.inl (gk G 0, 16, .inl ((cB b_60).2))) := (hM.bf p2_60).2.2
                have z0_ := kI_0
                refine m_copyi (rest := []) (sp := r_62) (dp := r_66) (n := x_69) hx hb (hml.trans hl.1.symm) hC hH hown (hts (.methodLink RX3 214 arraycopyName) (by decide +kernel)) (hts (.native arraycopyName) (by decide +kernel)) (hts (.static arraycopyName) (by decide +kernel)) (hts (.initialized "java/lang/System") (by decide +kernel)) hg_70 hg_71 (fun q_ => by have := ic_lt (rfl : r_62.toInt = _) kI_0 q_; omega) (fun q_ => by have := ic_lt (rfl : r_66.toInt = _) kI_0 q_; omega) (fun q_ => by have := ic_lt (rfl : x_69.toInt = _) kI_0 q_; omega) (by have := ic_clN (rfl : r_62.toInt = _) (by omega); have := ic_clN (rfl : x_69.toInt = _) (by omega); omega) (by have := ic_clN (rfl : r_66.toInt = _) (by omega); have := ic_clN (rfl : x_69.toInt = _) (by omega); omega) (Nat.le_of_ble_eq_true rfl) (Nat.le_of_ble_eq_true rfl) dX3_shift_183 (fun H locs hH => ?_)
                obtain ⟨f_72, ef_72⟩ : ∃ zz_ : mF, zz_ = va_up f_55 (iaB b_60) (some (.inl (gk G 0, 16, .inl (va_cpy ((cB b_59).2) ((cB b_60).2) r_62.toNatClampNeg r_66.toNatClampNeg x_69.toNatClampNeg)))) := ⟨_, rfl⟩
                rw [← ef_72] at hH
                have pl_r_62 : r_62.toNatClampNeg = plc x_3.toNatClampNeg 0 := by have := ic_clN (rfl : r_62.toInt = _) (by omega); unfold plc; rcases hr_62 with y_ | y_; (rw [if_pos (by omega)]; omega); (rw [if_neg (by omega)]; omega)
                have pl_r_66 : r_66.toNatClampNeg = plc dd.toNatClampNeg 0 := by have := ic_clN (rfl : r_66.toInt = _) (by omega); unfold plc; rcases hr_66 with y_ | y_; (rw [if_pos (by omega)]; omega); (rw [if_neg (by omega)]; omega)
                have nv_ : x_69.toNatClampNeg = (vaS s2_ ee.toNatClampNeg).toInt.toNat := by have := ic_clN (rfl : x_69.toInt = _) (by omega); omega
                rw [pl_r_62, pl_r_66, nv_] at ef_72
                have ob_ := hM.ob _ _ p2_60
                have hfr := hfr.up (by rw [ob_.2.2]; exact (by decide : (4 : Nat) ≠ 0)) ef_72
                have hM := hM.setPi (a0 := a_60) (b0 := b_60) p2_60 ef_72
                have hR := hR.cel (o := o2_) (a := a_60) (b := b_60) (c2 := ((cB b_60).1, va_cpy (cB b_59).2 (cB b_60).2 (plc x_3.toNatClampNeg 0) (plc dd.toNatClampNeg 0) (vaS s2_ ee.toNatClampNeg).toInt.toNat)) (cn := cpyM (bdS s2_ o1_) (bdS s2_ o2_) x_3.toNatClampNeg dd.toNatClampNeg (vaS s2_ ee.toNatClampNeg).toInt.toNat) au22_ p2_60 p3_60 p4_60 p1_60 al2_ (eqB.cpyM (by omega) p5_59 t31_ p5_60 (by omega)) (okBd_cpy (t1 := 0) (hT3_ _) (show dd.toNatClampNeg < 8 from by omega) au52_ au32_ (by omega))
                have hK := hK.B (b2 := stB b_60 ((cB b_60).1, va_cpy (cB b_59).2 (cB b_60).2 (plc x_3.toNatClampNeg 0) (plc dd.toNatClampNeg 0) (vaS s2_ ee.toNatClampNeg).toInt.toNat)) p2_60 (by rw [p3_60])
                have hI : RN G k rho_56 n T z i D dn th ta nx (sBd (sTc (sTc s2_ (2 * (8 * o2_ + dd.toNatClampNeg))) (2 * (8 * o2_ + dd.toNatClampNeg) + 1)) o2_ (cpyM (bdS s2_ o1_) (bdS s2_ o2_) x_3.toNatClampNeg dd.toNatClampNeg (vaS s2_ ee.toNatClampNeg).toInt.toNat)) f_72 := ⟨_, hM, hR, hK⟩
                obtain ⟨D_73, hM, hR, hK⟩ := hI
                have n24_ := hR.1.1
                have hT3_ := hR.1.2
                have ok_ := hR.2.1
                obtain ⟨lb_74, hr_74, hlb_74⟩ := hR.2.2.1
                refine lv_iconst (v := 0) hx hb dX3_shift_186 (by decide) ?_
                exact m_iret (v := 0) hx hb hr hlk hC hH rho_56 (by rw [bx_, show (pShf T σ aa.toNatClampNeg x_3.toNatClampNeg cc.toNatClampNeg dd.toNatClampNeg ee.toNatClampNeg) = _ from pShf_4 a01_ es1_ eo1_ a02_ es2_ eo2_ sr_]; exact ⟨⟨_, hM, hR, hK⟩, hfr, kI_0⟩) (by omega) (by omega) dX3_shift_187
              · skip
                have ic_53 : (y_48.toInt : Int) > y_52.toInt := lc_nle rfl rfl (fun q_ => c_53 ((lg_cmp_le _ _).mpr q_))
                have sr_ : (shR (bdS s2_ o1_) (bdS s2_ o2_) x_3.toNatClampNeg dd.toNatClampNeg (vaS s2_ ee.toNatClampNeg)) = 3 := shR_n (by omega) (by omega) (by omega)
                refine lv_iconst (v := 3) hx hb dX3_shift_146 (by decide) ?_
                exact m_iret (v := 3) hx hb hr hlk hC hH rho_32 (by rw [bx_, show (pShf T σ aa.toNatClampNeg x_3.toNatClampNeg cc.toNatClampNeg dd.toNatClampNeg ee.toNatClampNeg) = _ from pShf_3 a01_ es1_ eo1_ a02_ es2_ eo2_ sr_ (by decide)]; exact ⟨⟨_, hM, hR, hK⟩, hfr, kI_3⟩) (by omega) (by omega) dX3_shift_147
        · skip
          have ic_44 : (y_43.toInt : Int) = (-3) := lc_eq rfl kJ_m3 ((lg_cmp_eq _ _).mp c_44)
          have sr_ : (shR (bdS s2_ o1_) (bdS s2_ o2_) x_3.toNatClampNeg dd.toNatClampNeg (vaS s2_ ee.toNatClampNeg)) = 1 := shR_1 (by omega)
          refine lv_iconst (v := 1) hx hb dX3_shift_99 (by decide) ?_
          exact m_iret (v := 1) hx hb hr hlk hC hH rho_32 (by rw [bx_, show (pShf T σ aa.toNatClampNeg x_3.toNatClampNeg cc.toNatClampNeg dd.toNatClampNeg ee.toNatClampNeg) = _ from pShf_3 a01_ es1_ eo1_ a02_ es2_ eo2_ sr_ (by decide)]; exact ⟨⟨_, hM, hR, hK⟩, hfr, kI_1⟩) (by omega) (by omega) dX3_shift_100
    · skip
      have ic_27 : (r_20.toInt : Int) ≠ 0 := ic_ne rfl kI_0 c_27
      have a02_ : (ask T (sTc s1_ (2 * (8 * o1_ + x_3.toNatClampNeg))) cc.toNatClampNeg dd.toNatClampNeg (3 : Int32).toNatClampNeg).1 ≠ 0 := by omega
      refine lv_iload_n hx hb dX3_shift_56 rfl (lv_at hl 0 rfl) ?_
      exact m_iret (v := r_20) hx hb hr hlk hC hH rho_22 (by rw [bx_, show (pShf T σ aa.toNatClampNeg x_3.toNatClampNeg cc.toNatClampNeg dd.toNatClampNeg ee.toNatClampNeg) = _ from pShf_2 a01_ es1_ eo1_ a02_]; exact ⟨⟨_, hM, hR, hK⟩, hfr, by omega⟩) (by omega) (by omega) dX3_shift_57
  · skip
    have ic_10 : (r_4.toInt : Int) ≠ 0 := ic_ne rfl kI_0 c_10
    have a01_ : (ask T σ aa.toNatClampNeg x_3.toNatClampNeg (3 : Int32).toNatClampNeg).1 ≠ 0 := by omega
    refine lv_iload_n hx hb dX3_shift_21 rfl (lv_at hl 0 rfl) ?_
    exact m_iret (v := r_4) hx hb hr hlk hC hH rho_6 (by rw [bx_, show (pShf T σ aa.toNatClampNeg x_3.toNatClampNeg cc.toNatClampNeg dd.toNatClampNeg ee.toNatClampNeg) = _ from pShf_1 a01_]; exact ⟨⟨_, hM, hR, hK⟩, hfr, by omega⟩) (by omega) (by omega) dX3_shift_22
