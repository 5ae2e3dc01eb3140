set_option maxHeartbeats 4000000 in
set_option maxRecDepth 100000 in
theorem c_X3_ask (l : Launch) (G : mG) (k : Nat → Nat) (own : tR) (n : Nat) (T z : Nat → Nat) (i : Nat) (hi : i < 3) (D : tD) (dn th ta nx : Int32) (σ : tS) (f : mF) (hM : CM G k own n z D f) (hR : RP n T (k 1) i dn th ta nx σ D) (hd ff sr : Int32) (hh4 : 0 ≤ hd.toInt ∧ hd.toInt < 4) (hff : 0 ≤ ff.toInt ∧ ff.toInt < 8) (hsr : 1 ≤ sr.toInt ∧ sr.toInt ≤ 3) : Met l yX3_ask wsX3_ask ({ frames := 3, cells := 3 * (nld (ask T σ hd.toNatClampNeg ff.toNatClampNeg sr.toNatClampNeg).2 - nld σ), slots := 29 * (nld (ask T σ hd.toNatClampNeg ff.toNatClampNeg sr.toNatClampNeg).2 - nld σ), locals := 102 }) (va_Pc [.ref (k (5 + 8 * i)), .int hd, .int ff, .int sr] (mW G f)) (va_Qi (fun (r : Int32) (u : mS) => RN G k u.1 n T z i D dn th ta nx ((ask T σ hd.toNatClampNeg ff.toNatClampNeg sr.toNatClampNeg).2) u.2 ∧ frD own f u.1 u.2 ∧ r.toInt = (((ask T σ hd.toNatClampNeg ff.toNatClampNeg sr.toNatClampNeg).1 : Nat) : Int)) (fun (u : mS) t => mW G u.2 t) (mA G)) (3 * (nld (ask T σ hd.toNatClampNeg ff.toNatClampNeg sr.toNatClampNeg).2 - nld σ)) (29 * (nld (ask T σ hd.toNatClampNeg ff.toNatClampNeg sr.toNatClampNeg).2 - nld σ)) (mA G) := by
  refine mMet [.ref (k (5 + 8 * i)), .int hd, .int ff, .int sr] (cc := cX3_ask) (maxL := 6) (ret := (some .int)) (by decide) rfl (Nat.le_of_ble_eq_true rfl) ?_
  intro p e s m below meth c ls hx hb hr hml hts hown hlk hnm hC hH hl
  have hl : lv_has ls 6 [(0, .ref (k (5 + 8 * i))), (1, .int hd), (2, .int ff), (3, .int sr)] := hl
  have hK : KP i D D := KP.rf
  have hfr : frD own f own f := frD.rf
  have cl_hd := ic_clN (rfl : hd.toInt = _) (by omega)
  have cl_ff := ic_clN (rfl : ff.toInt = _) (by omega)
  have cl_sr := ic_clN (rfl : sr.toInt = _) (by omega)
  have n24_ := hR.1.1
  have hT3_ := hR.1.2
  have ok_ := hR.2.1
  obtain ⟨lb_1, hr_1, hlb_1⟩ := hR.2.2.1
  refine lv_aload_n hx hb dX3_ask_0 rfl (lv_at hl 0 rfl) ?_
  have F_2 : f (k (5 + 8 * i)) = some (.inr (3, [.ref (k (5 + 8 * i + 1)), .int lb_1, .int dn, .long (gfS σ), .int th, .int ta, .ref (k 1), .ref (k (5 + 8 * i + 5)), .ref (k (5 + 8 * i + 6)), .ref (k (5 + 8 * i + 7)), .int nx])) := by have w_ := hM.r0 i hi; rw [hr_1] at w_; exact w_
  refine m_get (ci := 3) (v := .ref (k (5 + 8 * i + 6))) (C := RX3) (T := TX3) (N := 11) hx hb hC hH hts in_X3_ask_X3 hown F_2 rfl 8 (by decide) (hts (.fieldLink RX3 28 "LazyState$Run" "handles" "[I") (by decide +kernel)) rfl dX3_ask_1 ?_
  refine lv_iload_n hx hb dX3_ask_4 rfl (lv_at hl 1 rfl) ?_
  have hg_3 := hM.r6 i hi
  refine m_iald hx hb hC hH hg_3 (vp_in_iff.mpr ⟨by omega, by omega⟩) dX3_ask_5 ?_
  refine lv_topi (fun x_4 ex_4 => ?_)
  have vx_4 : x_4 = haS σ hd.toNatClampNeg := by rw [ex_4]; exact hR.2.2.2.2.1 hd.toNatClampNeg (by have := ic_clN (rfl : hd.toInt = _) (by omega); omega)
  have okx_4 : okHa n x_4 := by rw [vx_4]; exact ok_.2.1 hd.toNatClampNeg (by have := ic_clN (rfl : hd.toInt = _) (by omega); omega)
  refine lv_istore (lv' := [(4, .int x_4), (0, .ref (k (5 + 8 * i))), (1, .int hd), (2, .int ff), (3, .int sr)]) hx hb dX3_ask_6 hl (by decide) rfl (fun ls hl => ?_)
  refine lv_iload hx hb dX3_ask_8 (lv_at hl 0 rfl) ?_
  refine lv_bipush (v := (-3)) hx hb dX3_ask_10 (by decide) ?_
  refine lv_icmp_ne (tgt := 17) hx hb dX3_ask_12 (by decide) (fun c_5 => ?_) (fun c_5 => ?_)
  · skip
    have ic_5 : (x_4.toInt : Int) ≠ (-3) := ic_ne rfl kI_m3 c_5
    have nh_ : haS σ hd.toNatClampNeg ≠ -3 := fun z_ => by rw [← vx_4] at z_; exact c_5 z_
    have ob_ : hob σ hd.toNatClampNeg = x_4.toNatClampNeg := by unfold hob; rw [vx_4]
    have on_ := okHa_ob okx_4 c_5
    have nl_ := ask_nl (T := T) (j := ff.toNatClampNeg) (st := sr.toNatClampNeg) nh_ (by rw [ob_]; omega)
    rw [ob_] at nl_
    refine lv_aload_n hx hb dX3_ask_17 rfl (lv_at hl 1 rfl) ?_
    refine lv_iload hx hb dX3_ask_18 (lv_at hl 0 rfl) ?_
    refine m_gov hH (va_runV (As := [.int x_4]) (rest := []) ⟨hx, hb, hml, hown, hts⟩ (c_X3_load l G k own n T z i hi D dn th ta nx σ f hM hR x_4 (by omega)) (cwV 1 hts gX3_ask_X3_load rfl rfl rfl (by decide +kernel) ⟨Nat.le_of_ble_eq_true rfl, Nat.le_of_ble_eq_true rfl⟩) (m_preV (ci := 3) hC hH F_2 rfl) rfl rfl hl.1 rfl (lv_room (Nat.le_of_ble_eq_true rfl)) dX3_ask_20 ⟨by show _ ≤ 3 * (nld (ask T σ hd.toNatClampNeg ff.toNatClampNeg sr.toNatClampNeg).2 - nld σ); omega, by show _ ≤ 29 * (nld (ask T σ hd.toNatClampNeg ff.toNatClampNeg sr.toNatClampNeg).2 - nld σ); omega⟩) (fun rho_8 f_7 H locs hw hH => ?_)
    obtain ⟨hI, hfr1⟩ := hw
    have hI : RN G k rho_8 n T z i D dn th ta nx (sLd σ x_4.toNatClampNeg) f_7 := hI
    have hfr1 : frD own f rho_8 f_7 := hfr1
    have hfr := hfr.trans hfr1
    obtain ⟨D_9, hM, hR, hK1_9⟩ := hI
    have hK := hK.trans hK1_9
    have n24_ := hR.1.1
    have hT3_ := hR.1.2
    have ok_ := hR.2.1
    obtain ⟨lb_10, hr_10, hlb_10⟩ := hR.2.2.1
    refine lv_aload_n hx hb dX3_ask_23 rfl (lv_at hl 1 rfl) ?_
    have F_11 : f_7 (k (5 + 8 * i)) = some (.inr (3, [.ref (k (5 + 8 * i + 1)), .int lb_10, .int dn, .long (gfS (sLd σ x_4.toNatClampNeg)), .int th, .int ta, .ref (k 1), .ref (k (5 + 8 * i + 5)), .ref (k (5 + 8 * i + 6)), .ref (k (5 + 8 * i + 7)), .int nx])) := by have w_ := hM.r0 i hi; rw [hr_10] at w_; exact w_
    refine m_get (ci := 3) (v := .ref (k (5 + 8 * i + 5))) (C := RX3) (T := TX3) (N := 11) hx hb hC hH hts in_X3_ask_X3 hown F_11 rfl 7 (by decide) (hts (.fieldLink RX3 24 "LazyState$Run" "copies" "[LLazyState$Body;") (by decide +kernel)) rfl dX3_ask_24 ?_
    refine lv_iload hx hb dX3_ask_27 (lv_at hl 0 rfl) ?_
    have hg_12 := hM.r5 i hi
    refine m_aald hx hb hC hH 3 rfl hg_12 (vp_in_iff.mpr ⟨by omega, by omega⟩) dX3_ask_29 ?_
    obtain ⟨cp_13, bcp_13, p1cp_13, p2cp_13, p3cp_13, p4cp_13, p5cp_13⟩ := (hR.2.2.2.2.2.2.2.2 x_4.toNatClampNeg (by omega)).1 sLd_s
    rw [p1cp_13]
    refine lv_iload_n hx hb dX3_ask_30 rfl (lv_at hl 3 rfl) ?_
    have F_17 : f_7 cp_13 = some (.inr (2, [.int (nI (yB bcp_13)), .ref (caB bcp_13), .ref (iaB bcp_13), .int (siB bcp_13), va_rf (bfB bcp_13)])) := (hM.bf p2cp_13).1
    have tI_17 : (nI (yB bcp_13)).toInt = ((yB bcp_13 : Nat) : Int) := nI_toInt (by rw [p4cp_13]; have := hT3_ x_4.toNatClampNeg; omega)
    refine m_goi hH (va_runV (As := [.int ff]) (rest := []) ⟨hx, hb, hml, hown, hts⟩ (c_X2_sortOf l G f_7 cp_13 bcp_13 (hM.bf p2cp_13) (by rw [p4cp_13]; have := hT3_ x_4.toNatClampNeg; omega) ff) (cwV 1 hts gX3_ask_X2_sortOf rfl rfl rfl (by decide +kernel) ⟨Nat.le_of_ble_eq_true rfl, Nat.le_of_ble_eq_true rfl⟩) (m_preV (ci := 2) hC hH F_17 rfl) rfl rfl hl.1 rfl (lv_room (Nat.le_of_ble_eq_true rfl)) dX3_ask_31 ⟨by show _ ≤ 3 * (nld (ask T σ hd.toNatClampNeg ff.toNatClampNeg sr.toNatClampNeg).2 - nld σ); omega, by show _ ≤ 29 * (nld (ask T σ hd.toNatClampNeg ff.toNatClampNeg sr.toNatClampNeg).2 - nld σ); omega⟩) (fun r_14 rho_16 f_15 H locs hw hH => ?_)
    obtain ⟨hu, hr_14⟩ := hw
    have hu : f_15 = f_7 := hu
    rw [hu] at hH
    try dsimp only at hr_14
    have so_ := (hr_14.resolve_right (fun z_ => by omega)).2.2
    rw [p4cp_13] at so_
    have sb_ := srt_b (T x_4.toNatClampNeg) (hT3_ _) ff.toNatClampNeg (by omega)
    have soI_ : r_14.toInt = ((srt (T x_4.toNatClampNeg) ff.toNatClampNeg : Nat) : Int) := by rw [so_]; exact nI_toInt (by omega)
    refine lv_istore (lv' := [(5, .int r_14), (4, .int x_4), (0, .ref (k (5 + 8 * i))), (1, .int hd), (2, .int ff), (3, .int sr)]) hx hb dX3_ask_34 hl (by decide) rfl (fun ls hl => ?_)
    refine lv_iload hx hb dX3_ask_36 (lv_at hl 0 rfl) ?_
    refine lv_if_ne (tgt := 43) hx hb dX3_ask_38 (by decide) (fun c_18 => ?_) (fun c_18 => ?_)
    · skip
      have ic_18 : (r_14.toInt : Int) ≠ 0 := ic_ne rfl kI_0 c_18
      refine lv_iload hx hb dX3_ask_43 (lv_at hl 0 rfl) ?_
      refine lv_iload_n hx hb dX3_ask_45 rfl (lv_at hl 5 rfl) ?_
      refine lv_icmp_ne (tgt := 53) hx hb dX3_ask_46 (by decide) (fun c_19 => ?_) (fun c_19 => ?_)
      · skip
        have ic_19 : (r_14.toInt : Int) ≠ sr.toInt := ic_ne rfl rfl c_19
        refine lv_iconst (v := 2) hx hb dX3_ask_53 (by decide) ?_
        exact m_iret (v := 2) hx hb hr hlk hC hH rho_8 (by rw [show (ask T σ hd.toNatClampNeg ff.toNatClampNeg sr.toNatClampNeg) = (2, sLd σ (hob σ hd.toNatClampNeg)) from ask_cast nh_ (by rw [ob_]; omega) (by rw [ob_]; omega), ob_]; exact ⟨⟨_, hM, hR, hK⟩, hfr, kI_2⟩) (by omega) (by omega) dX3_ask_54
      · skip
        have ic_19 : (r_14.toInt : Int) = sr.toInt := ic_eq rfl rfl c_19
        refine lv_iconst (v := 0) hx hb dX3_ask_49 (by decide) ?_
        refine lv_goto (tgt := 54) hx hb dX3_ask_50 (by decide) ?_
        exact m_iret (v := 0) hx hb hr hlk hC hH rho_8 (by rw [show (ask T σ hd.toNatClampNeg ff.toNatClampNeg sr.toNatClampNeg) = (0, sLd σ (hob σ hd.toNatClampNeg)) from ask_yes nh_ (by rw [ob_]; omega) (by rw [ob_]; omega), ob_]; exact ⟨⟨_, hM, hR, hK⟩, hfr, kI_0⟩) (by omega) (by omega) dX3_ask_54
    · skip
      have ic_18 : (r_14.toInt : Int) = 0 := ic_eq rfl kI_0 c_18
      refine lv_iconst (v := 3) hx hb dX3_ask_41 (by decide) ?_
      exact m_iret (v := 3) hx hb hr hlk hC hH rho_8 (by rw [show (ask T σ hd.toNatClampNeg ff.toNatClampNeg sr.toNatClampNeg) = (3, sLd σ (hob σ hd.toNatClampNeg)) from ask_abs nh_ (by rw [ob_]; omega), ob_]; exact ⟨⟨_, hM, hR, hK⟩, hfr, kI_3⟩) (by omega) (by omega) dX3_ask_42
  · skip
    have ic_5 : (x_4.toInt : Int) = (-3) := ic_eq rfl kI_m3 c_5
    have ng_ : haS σ hd.toNatClampNeg = -3 := by rw [← vx_4]; exact Int32.toInt_inj.mp ic_5
    refine lv_iconst (v := 1) hx hb dX3_ask_15 (by decide) ?_
    exact m_iret (v := 1) hx hb hr hlk hC hH own (by rw [show (ask T σ hd.toNatClampNeg ff.toNatClampNeg sr.toNatClampNeg) = (1, σ) from ask_neg ng_]; exact ⟨⟨_, hM, hR, hK⟩, hfr, kI_1⟩) (by omega) (by omega) dX3_ask_16
set_option maxHeartbeats 4000000 in
set_option maxRecDepth 100000 in
theorem c_X3_read (l : Launch) (G : mG) (k : Nat → Nat) (own : tR) (n : Nat) (T z : Nat → Nat) (i : Nat) (hi : i < 3) (D : tD) (dn th ta nx : Int32) (σ : tS) (f : mF) (hM : CM G k own n z D f) (hR : RP n T (k 1) i dn th ta nx σ D) (hd ff : Int32) (hh4 : 0 ≤ hd.toInt ∧ hd.toInt < 4) (hff : 0 ≤ ff.toInt ∧ ff.toInt < 8) (o : Nat) (ho : hob σ hd.toNatClampNeg = o) (hon : o < n) (hnh : haS σ hd.toNatClampNeg ≠ -3) (hld : ldS σ o = true) : Met l yX3_read wsX3_read ({ frames := 1, cells := 0, slots := 0, locals := 22 }) (va_Pc [.ref (k (5 + 8 * i)), .int hd, .int ff] (mW G f)) (va_Qq (fun (r : Option Nat) (u : mS) => ∃ D2 a b, CM G k u.1 n z D2 u.2 ∧ RP n T (k 1) i dn th ta nx (sTc σ (2 * (8 * o + ff.toNatClampNeg))) D2 ∧ KP i D D2 ∧ frD own f u.1 u.2 ∧ r = some a ∧ QD D2 (5 + 8 * i + 5) o = some a ∧ BD D2 a = some b ∧ gB b = (i + 1, o) ∧ yB b = T o ∧ eqB (T o) (cB b) (bdS σ o)) (fun (u : mS) t => mW G u.2 t) (mA G)) 0 0 (mA G) := by
  refine mMet [.ref (k (5 + 8 * i)), .int hd, .int ff] (cc := cX3_read) (maxL := 3) (ret := (some (.object "LazyState$Body"))) (by decide) rfl (Nat.le_of_ble_eq_true rfl) ?_
  intro p e s m below meth c ls hx hb hr hml hts hown hlk hnm hC hH hl
  have hl : lv_has ls 3 [(0, .ref (k (5 + 8 * i))), (1, .int hd), (2, .int ff)] := hl
  have hK : KP i D D := KP.rf
  have hfr : frD own f own f := frD.rf
  have cl_hd := ic_clN (rfl : hd.toInt = _) (by omega)
  have cl_ff := ic_clN (rfl : ff.toInt = _) (by omega)
  have n24_ := hR.1.1
  have hT3_ := hR.1.2
  have ok_ := hR.2.1
  obtain ⟨lb_1, hr_1, hlb_1⟩ := hR.2.2.1
  refine lv_aload_n hx hb dX3_read_0 rfl (lv_at hl 0 rfl) ?_
  have F_2 : f (k (5 + 8 * i)) = some (.inr (3, [.ref (k (5 + 8 * i + 1)), .int lb_1, .int dn, .long (gfS σ), .int th, .int ta, .ref (k 1), .ref (k (5 + 8 * i + 5)), .ref (k (5 + 8 * i + 6)), .ref (k (5 + 8 * i + 7)), .int nx])) := by have w_ := hM.r0 i hi; rw [hr_1] at w_; exact w_
  refine m_get (ci := 3) (v := .ref (k (5 + 8 * i + 1))) (C := RX3) (T := TX3) (N := 11) hx hb hC hH hts in_X3_read_X3 hown F_2 rfl 0 (by decide) (hts (.fieldLink RX3 12 "LazyState$Run" "trace" "LLazyState$Trace;") (by decide +kernel)) rfl dX3_read_1 ?_
  refine lv_aload_n hx hb dX3_read_4 rfl (lv_at hl 0 rfl) ?_
  refine m_get (ci := 3) (v := .ref (k (5 + 8 * i + 6))) (C := RX3) (T := TX3) (N := 11) hx hb hC hH hts in_X3_read_X3 hown F_2 rfl 8 (by decide) (hts (.fieldLink RX3 28 "LazyState$Run" "handles" "[I") (by decide +kernel)) rfl dX3_read_5 ?_
  refine lv_iload_n hx hb dX3_read_8 rfl (lv_at hl 1 rfl) ?_
  have hg_3 := hM.r6 i hi
  refine m_iald hx hb hC hH hg_3 (vp_in_iff.mpr ⟨by omega, by omega⟩) dX3_read_9 ?_
  refine lv_topi (fun x_4 ex_4 => ?_)
  have vx_4 : x_4 = haS σ hd.toNatClampNeg := by rw [ex_4]; exact hR.2.2.2.2.1 hd.toNatClampNeg (by have := ic_clN (rfl : hd.toInt = _) (by omega); omega)
  have okx_4 : okHa n x_4 := by rw [vx_4]; exact ok_.2.1 hd.toNatClampNeg (by have := ic_clN (rfl : hd.toInt = _) (by omega); omega)
  have on_ := okHa_ob okx_4 (fun z_ => hnh (by rw [← vx_4]; exact z_))
  refine lv_iload_n hx hb dX3_read_10 rfl (lv_at hl 2 rfl) ?_
  have F_8 := hM.r1 i hi
  refine m_gov hH (va_runV (As := [.int x_4, .int ff]) (rest := []) ⟨hx, hb, hml, hown, hts⟩ (c_X4_noteRead l G k f i hi hM.kne (trS σ) (tq_of hM hi hR) x_4 ff (by omega) (by omega)) (cwV 2 hts gX3_read_X4_noteRead rfl rfl rfl (by decide +kernel) ⟨Nat.le_of_ble_eq_true rfl, Nat.le_of_ble_eq_true rfl⟩) (m_preV (ci := 4) hC hH F_8 rfl) rfl rfl hl.1 rfl (lv_room (Nat.le_of_ble_eq_true rfl)) dX3_read_11 ⟨Nat.le_of_ble_eq_true rfl, Nat.le_of_ble_eq_true rfl⟩) (fun rho_7 f_6 H locs hw hH => ?_)
  obtain ⟨hT2_, hf2_⟩ := hw
  have hT2_ : TQ G k i (tchL (2 * (8 * x_4.toNatClampNeg + ff.toNatClampNeg)) (trS σ)) f_6 := hT2_
  have hf2_ : ∀ a, (∀ c, 1 ≤ c → c ≤ 4 → a ≠ k (5 + 8 * i + c)) → f_6 a = f a := hf2_
  have hfr := hfr.trans (frD.tq hM hi hT2_ hf2_)
  obtain ⟨D_9, hM, hR, hK1_9, hBq_9, hQq_9⟩ := tq_in hM hi hR (c := (2 * (8 * x_4.toNatClampNeg + ff.toNatClampNeg))) (by have := ic_clN (rfl : x_4.toInt = _) (by omega); have := ic_clN (rfl : ff.toInt = _) (by omega); omega) hT2_ hf2_
  have hK := hK.trans hK1_9
  have n24_ := hR.1.1
  have hT3_ := hR.1.2
  have ok_ := hR.2.1
  obtain ⟨lb_10, hr_10, hlb_10⟩ := hR.2.2.1
  have ox_ : x_4.toNatClampNeg = o := by rw [vx_4]; exact ho
  rw [ox_] at hR
  refine lv_aload_n hx hb dX3_read_14 rfl (lv_at hl 0 rfl) ?_
  have F_11 : f_6 (k (5 + 8 * i)) = some (.inr (3, [.ref (k (5 + 8 * i + 1)), .int lb_10, .int dn, .long (gfS (sTc σ (2 * (8 * o + ff.toNatClampNeg)))), .int th, .int ta, .ref (k 1), .ref (k (5 + 8 * i + 5)), .ref (k (5 + 8 * i + 6)), .ref (k (5 + 8 * i + 7)), .int nx])) := by have w_ := hM.r0 i hi; rw [hr_10] at w_; exact w_
  refine m_get (ci := 3) (v := .ref (k (5 + 8 * i + 5))) (C := RX3) (T := TX3) (N := 11) hx hb hC hH hts in_X3_read_X3 hown F_11 rfl 7 (by decide) (hts (.fieldLink RX3 24 "LazyState$Run" "copies" "[LLazyState$Body;") (by decide +kernel)) rfl dX3_read_15 ?_
  refine lv_aload_n hx hb dX3_read_18 rfl (lv_at hl 0 rfl) ?_
  refine m_get (ci := 3) (v := .ref (k (5 + 8 * i + 6))) (C := RX3) (T := TX3) (N := 11) hx hb hC hH hts in_X3_read_X3 hown F_11 rfl 8 (by decide) (hts (.fieldLink RX3 28 "LazyState$Run" "handles" "[I") (by decide +kernel)) rfl dX3_read_19 ?_
  refine lv_iload_n hx hb dX3_read_22 rfl (lv_at hl 1 rfl) ?_
  have hg_12 := hM.r6 i hi
  refine m_iald hx hb hC hH hg_12 (vp_in_iff.mpr ⟨by omega, by omega⟩) dX3_read_23 ?_
  refine lv_topi (fun x_13 ex_13 => ?_)
  have vx_13 : x_13 = haS (sTc σ (2 * (8 * o + ff.toNatClampNeg))) hd.toNatClampNeg := by rw [ex_13]; exact hR.2.2.2.2.1 hd.toNatClampNeg (by have := ic_clN (rfl : hd.toInt = _) (by omega); omega)
  have okx_13 : okHa n x_13 := by rw [vx_13]; exact ok_.2.1 hd.toNatClampNeg (by have := ic_clN (rfl : hd.toInt = _) (by omega); omega)
  have on2_ := okHa_ob okx_13 (fun z_ => hnh (by have w_ := vx_13; rw [z_] at w_; exact w_.symm))
  have hg_14 := hM.r5 i hi
  refine m_aald hx hb hC hH 3 rfl hg_14 (vp_in_iff.mpr ⟨by omega, by omega⟩) dX3_read_24 ?_
  rw [show x_13.toNatClampNeg = o from by rw [vx_13]; exact ho]
  obtain ⟨cp_15, bcp_15, p1cp_15, p2cp_15, p3cp_15, p4cp_15, p5cp_15⟩ := (hR.2.2.2.2.2.2.2.2 o (by omega)).1 hld
  rw [p1cp_15]
  exact m_aret (v := some cp_15) hx hb hr hlk hC hH own ⟨_, _, _, hM, hR, hK, hfr, rfl, p1cp_15, p2cp_15, p3cp_15, p4cp_15, p5cp_15⟩ (Nat.le_of_ble_eq_true rfl) (Nat.le_of_ble_eq_true rfl) dX3_read_25
set_option maxHeartbeats 4000000 in
set_option maxRecDepth 100000 in
theorem c_X3_change (l : Launch) (G : mG) (k : Nat → Nat) (own : tR) (n : Nat) (T z : Nat → Nat) (i : Nat) (hi : i < 3) (D : tD) (dn th ta nx : Int32) (σ : tS) (f : mF) (hM : CM G k own n z D f) (hR : RP n T (k 1) i dn th ta nx σ D) (hd ff : Int32) (hh4 : 0 ≤ hd.toInt ∧ hd.toInt < 4) (hff : 0 ≤ ff.toInt ∧ ff.toInt < 8) (o : Nat) (ho : hob σ hd.toNatClampNeg = o) (hon : o < n) (hnh : haS σ hd.toNatClampNeg ≠ -3) (hld : ldS σ o = true) : Met l yX3_change wsX3_change ({ frames := 1, cells := 0, slots := 0, locals := 22 }) (va_Pc [.ref (k (5 + 8 * i)), .int hd, .int ff] (mW G f)) (va_Qq (fun (r : Option Nat) (u : mS) => ∃ D2 a b, CM G k u.1 n z D2 u.2 ∧ RP n T (k 1) i dn th ta nx (sTc σ (2 * (8 * o + ff.toNatClampNeg) + 1)) D2 ∧ KP i D D2 ∧ frD own f u.1 u.2 ∧ r = some a ∧ QD D2 (5 + 8 * i + 5) o = some a ∧ BD D2 a = some b ∧ gB b = (i + 1, o) ∧ yB b = T o ∧ eqB (T o) (cB b) (bdS σ o)) (fun (u : mS) t => mW G u.2 t) (mA G)) 0 0 (mA G) := by
  refine mMet [.ref (k (5 + 8 * i)), .int hd, .int ff] (cc := cX3_change) (maxL := 3) (ret := (some (.object "LazyState$Body"))) (by decide) rfl (Nat.le_of_ble_eq_true rfl) ?_
  intro p e s m below meth c ls hx hb hr hml hts hown hlk hnm hC hH hl
  have hl : lv_has ls 3 [(0, .ref (k (5 + 8 * i))), (1, .int hd), (2, .int ff)] := hl
  have hK : KP i D D := KP.rf
  have hfr : frD own f own f := frD.rf
  have cl_hd := ic_clN (rfl : hd.toInt = _) (by omega)
  have cl_ff := ic_clN (rfl : ff.toInt = _) (by omega)
  have n24_ := hR.1.1
  have hT3_ := hR.1.2
  have ok_ := hR.2.1
  obtain ⟨lb_1, hr_1, hlb_1⟩ := hR.2.2.1
  refine lv_aload_n hx hb dX3_change_0 rfl (lv_at hl 0 rfl) ?_
  have F_2 : f (k (5 + 8 * i)) = some (.inr (3, [.ref (k (5 + 8 * i + 1)), .int lb_1, .int dn, .long (gfS σ), .int th, .int ta, .ref (k 1), .ref (k (5 + 8 * i + 5)), .ref (k (5 + 8 * i + 6)), .ref (k (5 + 8 * i + 7)), .int nx])) := by have w_ := hM.r0 i hi; rw [hr_1] at w_; exact w_
  refine m_get (ci := 3) (v := .ref (k (5 + 8 * i + 1))) (C := RX3) (T := TX3) (N := 11) hx hb hC hH hts in_X3_change_X3 hown F_2 rfl 0 (by decide) (hts (.fieldLink RX3 12 "LazyState$Run" "trace" "LLazyState$Trace;") (by decide +kernel)) rfl dX3_change_1 ?_
  refine lv_aload_n hx hb dX3_change_4 rfl (lv_at hl 0 rfl) ?_
  refine m_get (ci := 3) (v := .ref (k (5 + 8 * i + 6))) (C := RX3) (T := TX3) (N := 11) hx hb hC hH hts in_X3_change_X3 hown F_2 rfl 8 (by decide) (hts (.fieldLink RX3 28 "LazyState$Run" "handles" "[I") (by decide +kernel)) rfl dX3_change_5 ?_
  refine lv_iload_n hx hb dX3_change_8 rfl (lv_at hl 1 rfl) ?_
  have hg_3 := hM.r6 i hi
  refine m_iald hx hb hC hH hg_3 (vp_in_iff.mpr ⟨by omega, by omega⟩) dX3_change_9 ?_
  refine lv_topi (fun x_4 ex_4 => ?_)
  have vx_4 : x_4 = haS σ hd.toNatClampNeg := by rw [ex_4]; exact hR.2.2.2.2.1 hd.toNatClampNeg (by have := ic_clN (rfl : hd.toInt = _) (by omega); omega)
  have okx_4 : okHa n x_4 := by rw [vx_4]; exact ok_.2.1 hd.toNatClampNeg (by have := ic_clN (rfl : hd.toInt = _) (by omega); omega)
  have on_ := okHa_ob okx_4 (fun z_ => hnh (by rw [← vx_4]; exact z_))
  refine lv_iload_n hx hb dX3_change_10 rfl (lv_at hl 2 rfl) ?_
  have F_8 := hM.r1 i hi
  refine m_gov hH (va_runV (As := [.int x_4, .int ff]) (rest := []) ⟨hx, hb, hml, hown, hts⟩ (c_X4_noteChanged l G k f i hi hM.kne (trS σ) (tq_of hM hi hR) x_4 ff (by omega) (by omega)) (cwV 2 hts gX3_change_X4_noteChanged rfl rfl rfl (by decide +kernel) ⟨Nat.le_of_ble_eq_true rfl, Nat.le_of_ble_eq_true rfl⟩) (m_preV (ci := 4) hC hH F_8 rfl) rfl rfl hl.1 rfl (lv_room (Nat.le_of_ble_eq_true rfl)) dX3_change_11 ⟨Nat.le_of_ble_eq_true rfl, Nat.le_of_ble_eq_true rfl⟩) (fun rho_7 f_6 H locs hw hH => ?_)
  obtain ⟨hT2_, hf2_⟩ := hw
  have hT2_ : TQ G k i (tchL (2 * (8 * x_4.toNatClampNeg + ff.toNatClampNeg) + 1) (trS σ)) f_6 := hT2_
  have hf2_ : ∀ a, (∀ c, 1 ≤ c → c ≤ 4 → a ≠ k (5 + 8 * i + c)) → f_6 a = f a := hf2_
  have hfr := hfr.trans (frD.tq hM hi hT2_ hf2_)
  obtain ⟨D_9, hM, hR, hK1_9, hBq_9, hQq_9⟩ := tq_in hM hi hR (c := (2 * (8 * x_4.toNatClampNeg + ff.toNatClampNeg) + 1)) (by have := ic_clN (rfl : x_4.toInt = _) (by omega); have := ic_clN (rfl : ff.toInt = _) (by omega); omega) hT2_ hf2_
  have hK := hK.trans hK1_9
  have n24_ := hR.1.1
  have hT3_ := hR.1.2
  have ok_ := hR.2.1
  obtain ⟨lb_10, hr_10, hlb_10⟩ := hR.2.2.1
  have ox_ : x_4.toNatClampNeg = o := by rw [vx_4]; exact ho
  rw [ox_] at hR
  refine lv_aload_n hx hb dX3_change_14 rfl (lv_at hl 0 rfl) ?_
  have F_11 : f_6 (k (5 + 8 * i)) = some (.inr (3, [.ref (k (5 + 8 * i + 1)), .int lb_10, .int dn, .long (gfS (sTc σ (2 * (8 * o + ff.toNatClampNeg) + 1))), .int th, .int ta, .ref (k 1), .ref (k (5 + 8 * i + 5)), .ref (k (5 + 8 * i + 6)), .ref (k (5 + 8 * i + 7)), .int nx])) := by have w_ := hM.r0 i hi; rw [hr_10] at w_; exact w_
  refine m_get (ci := 3) (v := .ref (k (5 + 8 * i + 5))) (C := RX3) (T := TX3) (N := 11) hx hb hC hH hts in_X3_change_X3 hown F_11 rfl 7 (by decide) (hts (.fieldLink RX3 24 "LazyState$Run" "copies" "[LLazyState$Body;") (by decide +kernel)) rfl dX3_change_15 ?_
  refine lv_aload_n hx hb dX3_change_18 rfl (lv_at hl 0 rfl) ?_
  refine m_get (ci := 3) (v := .ref (k (5 + 8 * i + 6))) (C := RX3) (T := TX3) (N := 11) hx hb hC hH hts in_X3_change_X3 hown F_11 rfl 8 (by decide) (hts (.fieldLink RX3 28 "LazyState$Run" "handles" "[I") (by decide +kernel)) rfl dX3_change_19 ?_
  refine lv_iload_n hx hb dX3_change_22 rfl (lv_at hl 1 rfl) ?_
  have hg_12 := hM.r6 i hi
  refine m_iald hx hb hC hH hg_12 (vp_in_iff.mpr ⟨by omega, by omega⟩) dX3_change_23 ?_
  refine lv_topi (fun x_13 ex_13 => ?_)
  have vx_13 : x_13 = haS (sTc σ (2 * (8 * o + ff.toNatClampNeg) + 1)) hd.toNatClampNeg := by rw [ex_13]; exact hR.2.2.2.2.1 hd.toNatClampNeg (by have := ic_clN (rfl : hd.toInt = _) (by omega); omega)
  have okx_13 : okHa n x_13 := by rw [vx_13]; exact ok_.2.1 hd.toNatClampNeg (by have := ic_clN (rfl : hd.toInt = _) (by omega); omega)
  have on2_ := okHa_ob okx_13 (fun z_ => hnh (by have w_ := vx_13; rw [z_] at w_; exact w_.symm))
  have hg_14 := hM.r5 i hi
  refine m_aald hx hb hC hH 3 rfl hg_14 (vp_in_iff.mpr ⟨by omega, by omega⟩) dX3_change_24 ?_
  rw [show x_13.toNatClampNeg = o from by rw [vx_13]; exact ho]
  obtain ⟨cp_15, bcp_15, p1cp_15, p2cp_15, p3cp_15, p4cp_15, p5cp_15⟩ := (hR.2.2.2.2.2.2.2.2 o (by omega)).1 hld
  rw [p1cp_15]
  exact m_aret (v := some cp_15) hx hb hr hlk hC hH own ⟨_, _, _, hM, hR, hK, hfr, rfl, p1cp_15, p2cp_15, p3cp_15, p4cp_15, p5cp_15⟩ (Nat.le_of_ble_eq_true rfl) (Nat.le_of_ble_eq_true rfl) dX3_change_25
set_option maxHeartbeats 4000000 in
set_option maxRecDepth 100000 in
theorem c_X3_get (l : Launch) (G : mG) (k : Nat → Nat) (own : tR) (n : Nat) (T z : Nat → Nat) (i : Nat) (hi : i < 3) (D : tD) (dn th ta nx : Int32) (σ : tS) (f : mF) (hM : CM G k own n z D f) (hR : RP n T (k 1) i dn th ta nx σ D) (x hd ff : Int32) (hx4 : 0 ≤ x.toInt ∧ x.toInt < 4) (hh4 : 0 ≤ hd.toInt ∧ hd.toInt < 4) (hff : 0 ≤ ff.toInt ∧ ff.toInt < 8) : Met l yX3_get wsX3_get ({ frames := 4, cells := 3 * (nld (pGet T σ x.toNatClampNeg hd.toNatClampNeg ff.toNatClampNeg).2 - nld σ), slots := 29 * (nld (pGet T σ x.toNatClampNeg hd.toNatClampNeg ff.toNatClampNeg).2 - nld σ), locals := 127 }) (va_Pc [.ref (k (5 + 8 * i)), .int x, .int hd, .int ff] (mW G f)) (va_Qi (fun (r : Int32) (u : mS) => RN G k u.1 n T z i D dn th ta nx ((pGet T σ x.toNatClampNeg hd.toNatClampNeg ff.toNatClampNeg).2) u.2 ∧ frD own f u.1 u.2 ∧ r.toInt = (((pGet T σ x.toNatClampNeg hd.toNatClampNeg ff.toNatClampNeg).1 : Nat) : Int)) (fun (u : mS) t => mW G u.2 t) (mA G)) (3 * (nld (pGet T σ x.toNatClampNeg hd.toNatClampNeg ff.toNatClampNeg).2 - nld σ)) (29 * (nld (pGet T σ x.toNatClampNeg hd.toNatClampNeg ff.toNatClampNeg).2 - nld σ)) (mA G) := by
  refine mMet [.ref (k (5 + 8 * i)), .int x, .int hd, .int ff] (cc := cX3_get) (maxL := 5) (ret := (some .int)) (by decide) rfl (Nat.le_of_ble_eq_true rfl) ?_
  intro p e s m below meth c ls hx hb hr hml hts hown hlk hnm hC hH hl
  have hl : lv_has ls 5 [(0, .ref (k (5 + 8 * i))), (1, .int x), (2, .int hd), (3, .int ff)] := hl
  have hK : KP i D D := KP.rf
  have hfr : frD own f own f := frD.rf
  have cl_x := ic_clN (rfl : x.toInt = _) (by omega)
  have cl_hd := ic_clN (rfl : hd.toInt = _) (by omega)
  have cl_ff := ic_clN (rfl : ff.toInt = _) (by omega)
  have nq_ : nld (pGet T σ x.toNatClampNeg hd.toNatClampNeg ff.toNatClampNeg).2 = nld (ask T σ hd.toNatClampNeg ff.toNatClampNeg (1 : Int32).toNatClampNeg).2 := nl_pGet
  have n24_ := hR.1.1
  have hT3_ := hR.1.2
  have ok_ := hR.2.1
  obtain ⟨lb_1, hr_1, hlb_1⟩ := hR.2.2.1
  refine lv_aload_n hx hb dX3_get_0 rfl (lv_at hl 0 rfl) ?_
  refine lv_iload_n hx hb dX3_get_1 rfl (lv_at hl 2 rfl) ?_
  refine lv_iload_n hx hb dX3_get_2 rfl (lv_at hl 3 rfl) ?_
  refine lv_iconst (v := 1) hx hb dX3_get_3 (by decide) ?_
  have okb_ := ok_
  have nm_ := ask_nlm (j := ff.toNatClampNeg) (st := (1 : Int32).toNatClampNeg) n24_ ok_ (show hd.toNatClampNeg < 4 from by have := ic_clN (rfl : hd.toInt = _) (by omega); omega)
  have F_5 : f (k (5 + 8 * i)) = some (.inr (3, [.ref (k (5 + 8 * i + 1)), .int lb_1, .int dn, .long (gfS σ), .int th, .int ta, .ref (k 1), .ref (k (5 + 8 * i + 5)), .ref (k (5 + 8 * i + 6)), .ref (k (5 + 8 * i + 7)), .int nx])) := by have w_ := hM.r0 i hi; rw [hr_1] at w_; exact w_
  refine m_goi hH (va_runV (As := [.int hd, .int ff, .int 1]) (rest := []) ⟨hx, hb, hml, hown, hts⟩ (c_X3_ask l G k own n T z i hi D dn th ta nx σ f hM hR hd ff 1 (by have := kI_1; omega) (by have := kI_1; omega) (by have := kI_1; omega)) (cwV 3 hts gX3_get_X3_ask rfl rfl rfl (by decide +kernel) ⟨Nat.le_of_ble_eq_true rfl, Nat.le_of_ble_eq_true rfl⟩) (m_preV (ci := 3) hC hH F_5 rfl) rfl rfl hl.1 rfl (lv_room (Nat.le_of_ble_eq_true rfl)) dX3_get_4 ⟨by show _ ≤ 3 * (nld (pGet T σ x.toNatClampNeg hd.toNatClampNeg ff.toNatClampNeg).2 - nld σ); omega, by show _ ≤ 29 * (nld (pGet T σ x.toNatClampNeg hd.toNatClampNeg ff.toNatClampNeg).2 - nld σ); omega⟩) (fun r_2 rho_4 f_3 H locs hw hH => ?_)
  obtain ⟨hI, hfr1, hr_2⟩ := hw
  have hI : RN G k rho_4 n T z i D dn th ta nx ((ask T σ hd.toNatClampNeg ff.toNatClampNeg (1 : Int32).toNatClampNeg).2) f_3 := hI
  have hfr1 : frD own f rho_4 f_3 := hfr1
  have hfr := hfr.trans hfr1
  try dsimp only at hr_2
  obtain ⟨D_6, hM, hR, hK1_6⟩ := hI
  have hK := hK.trans hK1_6
  have n24_ := hR.1.1
  have hT3_ := hR.1.2
  have ok_ := hR.2.1
  obtain ⟨lb_7, hr_7, hlb_7⟩ := hR.2.2.1
  refine lv_istore (lv' := [(4, .int r_2), (0, .ref (k (5 + 8 * i))), (1, .int x), (2, .int hd), (3, .int ff)]) hx hb dX3_get_7 hl (by decide) rfl (fun ls hl => ?_)
  refine lv_iload hx hb dX3_get_9 (lv_at hl 0 rfl) ?_
  refine lv_if_eq (tgt := 19) hx hb dX3_get_11 (by decide) (fun c_8 => ?_) (fun c_8 => ?_)
  · skip
    have ic_8 : (r_2.toInt : Int) = 0 := ic_eq rfl kI_0 c_8
    have a0_ : (ask T σ hd.toNatClampNeg ff.toNatClampNeg (1 : Int32).toNatClampNeg).1 = 0 := by omega
    obtain ⟨au1_, au2_, au3_, au4_, au5_⟩ := ask_use okb_ (show hd.toNatClampNeg < 4 from by omega) a0_
    have al_ := ask_ld a0_
    have an_ := ask_nh a0_
    refine lv_aload_n hx hb dX3_get_19 rfl (lv_at hl 1 rfl) ?_
    refine lv_iload_n hx hb dX3_get_20 rfl (lv_at hl 2 rfl) ?_
    refine lv_aload_n hx hb dX3_get_21 rfl (lv_at hl 1 rfl) ?_
    refine lv_iload_n hx hb dX3_get_22 rfl (lv_at hl 3 rfl) ?_
    refine lv_iload_n hx hb dX3_get_23 rfl (lv_at hl 4 rfl) ?_
    have F_12 : f_3 (k (5 + 8 * i)) = some (.inr (3, [.ref (k (5 + 8 * i + 1)), .int lb_7, .int dn, .long (gfS ((ask T σ hd.toNatClampNeg ff.toNatClampNeg (1 : Int32).toNatClampNeg).2)), .int th, .int ta, .ref (k 1), .ref (k (5 + 8 * i + 5)), .ref (k (5 + 8 * i + 6)), .ref (k (5 + 8 * i + 7)), .int nx])) := by have w_ := hM.r0 i hi; rw [hr_7] at w_; exact w_
    refine m_goq hH (va_runV (As := [.int hd, .int ff]) (rest := [.int x, .ref (k (5 + 8 * i))]) ⟨hx, hb, hml, hown, hts⟩ (c_X3_read l G k rho_4 n T z i hi D_6 dn th ta nx ((ask T σ hd.toNatClampNeg ff.toNatClampNeg (1 : Int32).toNatClampNeg).2) f_3 hM hR hd ff (by omega) (by omega) (hob (ask T σ hd.toNatClampNeg ff.toNatClampNeg (1 : Int32).toNatClampNeg).2 hd.toNatClampNeg) rfl au2_ an_ al_) (cwV 2 hts gX3_get_X3_read rfl rfl rfl (by decide +kernel) ⟨Nat.le_of_ble_eq_true rfl, Nat.le_of_ble_eq_true rfl⟩) (m_preV (ci := 3) hC hH F_12 rfl) rfl rfl hl.1 rfl (lv_room (Nat.le_of_ble_eq_true rfl)) dX3_get_24 ⟨by show _ ≤ 3 * (nld (pGet T σ x.toNatClampNeg hd.toNatClampNeg ff.toNatClampNeg).2 - nld σ); omega, by show _ ≤ 29 * (nld (pGet T σ x.toNatClampNeg hd.toNatClampNeg ff.toNatClampNeg).2 - nld σ); omega⟩) (fun r_9 rho_11 f_10 H locs hw hH => ?_)
    obtain ⟨D_13, ra_13, rb_13, hM, hR, hK1_13, hfr1, hu_, r1_13, r2_13, r3_13, r4_13, r5_13⟩ := hw
    have hM : CM G k rho_11 n z D_13 f_10 := hM
    have hfr1 : frD rho_4 f_3 rho_11 f_10 := hfr1
    have hfr := hfr.trans hfr1
    have hK := hK.trans hK1_13
    have hu_ : r_9 = some ra_13 := hu_
    rw [hu_]
    have n24_ := hR.1.1
    have hT3_ := hR.1.2
    have ok_ := hR.2.1
    obtain ⟨lb_14, hr_14, hlb_14⟩ := hR.2.2.1
    have F_15 : f_10 ra_13 = some (.inr (2, [.int (nI (yB rb_13)), .ref (caB rb_13), .ref (iaB rb_13), .int (siB rb_13), va_rf (bfB rb_13)])) := (hM.bf r2_13).1
    have tI_15 : (nI (yB rb_13)).toInt = ((yB rb_13 : Nat) : Int) := nI_toInt (by rw [r4_13]; have := hT3_ (hob (ask T σ hd.toNatClampNeg ff.toNatClampNeg (1 : Int32).toNatClampNeg).2 hd.toNatClampNeg); omega)
    refine m_get (ci := 2) (v := .ref (caB rb_13)) (C := RX2) (T := TX2) (N := 5) hx hb hC hH hts in_X3_get_X2 hown F_15 rfl 1 (by decide) (hts (.fieldLink RX3 184 "LazyState$Body" "cells" "[J") (by decide +kernel)) rfl dX3_get_27 ?_
    refine lv_iload_n hx hb dX3_get_30 rfl (lv_at hl 4 rfl) ?_
    have hg_16 : f_10 (caB rb_13) = some (.inl (gk G 1, 8, .inr (.inl ((cB rb_13).1)))) := (hM.bf r2_13).2.1
    refine m_lald hx hb hC hH hg_16 (vp_in_iff.mpr ⟨by omega, by omega⟩) dX3_get_31 ?_
    refine lv_topl (fun y_17 ey_17 => ?_)
    have cv_ : y_17 = (bdS (ask T σ hd.toNatClampNeg ff.toNatClampNeg (1 : Int32).toNatClampNeg).2 (hob (ask T σ hd.toNatClampNeg ff.toNatClampNeg (1 : Int32).toNatClampNeg).2 hd.toNatClampNeg)).1 ff.toNatClampNeg := by rw [ey_17]; exact eqB_1 r5_13 (by omega)
    have F_21 : f_10 (k (5 + 8 * i)) = some (.inr (3, [.ref (k (5 + 8 * i + 1)), .int lb_14, .int dn, .long (gfS (sTc ((ask T σ hd.toNatClampNeg ff.toNatClampNeg (1 : Int32).toNatClampNeg).2) (2 * (8 * (hob (ask T σ hd.toNatClampNeg ff.toNatClampNeg (1 : Int32).toNatClampNeg).2 hd.toNatClampNeg) + ff.toNatClampNeg)))), .int th, .int ta, .ref (k 1), .ref (k (5 + 8 * i + 5)), .ref (k (5 + 8 * i + 6)), .ref (k (5 + 8 * i + 7)), .int nx])) := by have w_ := hM.r0 i hi; rw [hr_14] at w_; exact w_
    refine m_goi hH (va_runV (As := [.int x, .long y_17]) (rest := []) ⟨hx, hb, hml, hown, hts⟩ (c_X3_setValue l G k rho_11 n T z i hi D_13 dn th ta nx (sTc ((ask T σ hd.toNatClampNeg ff.toNatClampNeg (1 : Int32).toNatClampNeg).2) (2 * (8 * (hob (ask T σ hd.toNatClampNeg ff.toNatClampNeg (1 : Int32).toNatClampNeg).2 hd.toNatClampNeg) + ff.toNatClampNeg))) f_10 hM hR x y_17 (by omega)) (cwV 2 hts gX3_get_X3_setValue rfl rfl rfl (by decide +kernel) ⟨Nat.le_of_ble_eq_true rfl, Nat.le_of_ble_eq_true rfl⟩) (m_preV (ci := 3) hC hH F_21 rfl) rfl rfl hl.1 rfl (lv_room (Nat.le_of_ble_eq_true rfl)) dX3_get_32 ⟨by show _ ≤ 3 * (nld (pGet T σ x.toNatClampNeg hd.toNatClampNeg ff.toNatClampNeg).2 - nld σ); omega, by show _ ≤ 29 * (nld (pGet T σ x.toNatClampNeg hd.toNatClampNeg ff.toNatClampNeg).2 - nld σ); omega⟩) (fun r_18 rho_20 f_19 H locs hw hH => ?_)
    obtain ⟨hI, hfr1, hr_18⟩ := hw
    have hI : RN G k rho_20 n T z i D_13 dn th ta nx (sVa (sTc ((ask T σ hd.toNatClampNeg ff.toNatClampNeg (1 : Int32).toNatClampNeg).2) (2 * (8 * (hob (ask T σ hd.toNatClampNeg ff.toNatClampNeg (1 : Int32).toNatClampNeg).2 hd.toNatClampNeg) + ff.toNatClampNeg))) x.toNatClampNeg y_17) f_19 := hI
    have hfr1 : frD rho_11 f_10 rho_20 f_19 := hfr1
    have hfr := hfr.trans hfr1
    try dsimp only at hr_18
    obtain ⟨D_22, hM, hR, hK1_22⟩ := hI
    have hK := hK.trans hK1_22
    have n24_ := hR.1.1
    have hT3_ := hR.1.2
    have ok_ := hR.2.1
    obtain ⟨lb_23, hr_23, hlb_23⟩ := hR.2.2.1
    exact m_iret (v := r_18) hx hb hr hlk hC hH rho_20 (by rw [show (pGet T σ x.toNatClampNeg hd.toNatClampNeg ff.toNatClampNeg) = (0, (sVa (sTc ((ask T σ hd.toNatClampNeg ff.toNatClampNeg (1 : Int32).toNatClampNeg).2) (2 * (8 * (hob (ask T σ hd.toNatClampNeg ff.toNatClampNeg (1 : Int32).toNatClampNeg).2 hd.toNatClampNeg) + ff.toNatClampNeg))) x.toNatClampNeg y_17)) from (thn_0 a0_).trans (by rw [cv_]; rfl)]; exact ⟨⟨_, hM, hR, hK⟩, hfr, by omega⟩) (by omega) (by omega) dX3_get_35
  · skip
    have ic_8 : (r_2.toInt : Int) ≠ 0 := ic_ne rfl kI_0 c_8
    have a0_ : (ask T σ hd.toNatClampNeg ff.toNatClampNeg (1 : Int32).toNatClampNeg).1 ≠ 0 := by omega
    refine lv_iload hx hb dX3_get_14 (lv_at hl 0 rfl) ?_
    refine lv_goto (tgt := 35) hx hb dX3_get_16 (by decide) ?_
    exact m_iret (v := r_2) hx hb hr hlk hC hH rho_4 (by rw [show (pGet T σ x.toNatClampNeg hd.toNatClampNeg ff.toNatClampNeg) = (ask T σ hd.toNatClampNeg ff.toNatClampNeg (1 : Int32).toNatClampNeg) from thn_1 a0_]; exact ⟨⟨_, hM, hR, hK⟩, hfr, by omega⟩) (by omega) (by omega) dX3_get_35
set_option maxHeartbeats 4000000 in
set_option maxRecDepth 100000 in
theorem c_X3_follow (l : Launch) (G : mG) (k : Nat → Nat) (own : tR) (n : Nat) (T z : Nat → Nat) (i : Nat) (hi : i < 3) (D : tD) (dn th ta nx : Int32) (σ : tS) (f : mF) (hM : CM G k own n z D f) (hR : RP n T (k 1) i dn th ta nx σ D) (x hd ff : Int32) (hx4 : 0 ≤ x.toInt ∧ x.toInt < 4) (hh4 : 0 ≤ hd.toInt ∧ hd.toInt < 4) (hff : 0 ≤ ff.toInt ∧ ff.toInt < 8) : Met l yX3_follow wsX3_follow ({ frames := 4, cells := 3 * (nld (pFol T σ x.toNatClampNeg hd.toNatClampNeg ff.toNatClampNeg).2 - nld σ), slots := 29 * (nld (pFol T σ x.toNatClampNeg hd.toNatClampNeg ff.toNatClampNeg).2 - nld σ), locals := 127 }) (va_Pc [.ref (k (5 + 8 * i)), .int x, .int hd, .int ff] (mW G f)) (va_Qi (fun (r : Int32) (u : mS) => RN G k u.1 n T z i D dn th ta nx ((pFol T σ x.toNatClampNeg hd.toNatClampNeg ff.toNatClampNeg).2) u.2 ∧ frD own f u.1 u.2 ∧ r.toInt = (((pFol T σ x.toNatClampNeg hd.toNatClampNeg ff.toNatClampNeg).1 : Nat) : Int)) (fun (u : mS) t => mW G u.2 t) (mA G)) (3 * (nld (pFol T σ x.toNatClampNeg hd.toNatClampNeg ff.toNatClampNeg).2 - nld σ)) (29 * (nld (pFol T σ x.toNatClampNeg hd.toNatClampNeg ff.toNatClampNeg).2 - nld σ)) (mA G) := by
  refine mMet [.ref (k (5 + 8 * i)), .int x, .int hd, .int ff] (cc := cX3_follow) (maxL := 5) (ret := (some .int)) (by decide) rfl (Nat.le_of_ble_eq_true rfl) ?_
  intro p e s m below meth c ls hx hb hr hml hts hown hlk hnm hC hH hl
  have hl : lv_has ls 5 [(0, .ref (k (5 + 8 * i))), (1, .int x), (2, .int hd), (3, .int ff)] := hl
  have hK : KP i D D := KP.rf
  have hfr : frD own f own f := frD.rf
  have cl_x := ic_clN (rfl : x.toInt = _) (by omega)
  have cl_hd := ic_clN (rfl : hd.toInt = _) (by omega)
  have cl_ff := ic_clN (rfl : ff.toInt = _) (by omega)
  have nq_ : nld (pFol T σ x.toNatClampNeg hd.toNatClampNeg ff.toNatClampNeg).2 = nld (ask T σ hd.toNatClampNeg ff.toNatClampNeg (2 : Int32).toNatClampNeg).2 := nl_pFol
  have n24_ := hR.1.1
  have hT3_ := hR.1.2
  have ok_ := hR.2.1
  obtain ⟨lb_1, hr_1, hlb_1⟩ := hR.2.2.1
  refine lv_aload_n hx hb dX3_follow_0 rfl (lv_at hl 0 rfl) ?_
  refine lv_iload_n hx hb dX3_follow_1 rfl (lv_at hl 2 rfl) ?_
  refine lv_iload_n hx hb dX3_follow_2 rfl (lv_at hl 3 rfl) ?_
  refine lv_iconst (v := 2) hx hb dX3_follow_3 (by decide) ?_
  have okb_ := ok_
  have nm_ := ask_nlm (j := ff.toNatClampNeg) (st := (2 : Int32).toNatClampNeg) n24_ ok_ (show hd.toNatClampNeg < 4 from by have := ic_clN (rfl : hd.toInt = _) (by omega); omega)
  have F_5 : f (k (5 + 8 * i)) = some (.inr (3, [.ref (k (5 + 8 * i + 1)), .int lb_1, .int dn, .long (gfS σ), .int th, .int ta, .ref (k 1), .ref (k (5 + 8 * i + 5)), .ref (k (5 + 8 * i + 6)), .ref (k (5 + 8 * i + 7)), .int nx])) := by have w_ := hM.r0 i hi; rw [hr_1] at w_; exact w_
  refine m_goi hH (va_runV (As := [.int hd, .int ff, .int 2]) (rest := []) ⟨hx, hb, hml, hown, hts⟩ (c_X3_ask l G k own n T z i hi D dn th ta nx σ f hM hR hd ff 2 (by have := kI_2; omega) (by have := kI_2; omega) (by have := kI_2; omega)) (cwV 3 hts gX3_follow_X3_ask rfl rfl rfl (by decide +kernel) ⟨Nat.le_of_ble_eq_true rfl, Nat.le_of_ble_eq_true rfl⟩) (m_preV (ci := 3) hC hH F_5 rfl) rfl rfl hl.1 rfl (lv_room (Nat.le_of_ble_eq_true rfl)) dX3_follow_4 ⟨by show _ ≤ 3 * (nld (pFol T σ x.toNatClampNeg hd.toNatClampNeg ff.toNatClampNeg).2 - nld σ); omega, by show _ ≤ 29 * (nld (pFol T σ x.toNatClampNeg hd.toNatClampNeg ff.toNatClampNeg).2 - nld σ); omega⟩) (fun r_2 rho_4 f_3 H locs hw hH => ?_)
  obtain ⟨hI, hfr1, hr_2⟩ := hw
  have hI : RN G k rho_4 n T z i D dn th ta nx ((ask T σ hd.toNatClampNeg ff.toNatClampNeg (2 : Int32).toNatClampNeg).2) f_3 := hI
  have hfr1 : frD own f rho_4 f_3 := hfr1
  have hfr := hfr.trans hfr1
  try dsimp only at hr_2
  obtain ⟨D_6, hM, hR, hK1_6⟩ := hI
  have hK := hK.trans hK1_6
  have n24_ := hR.1.1
  have hT3_ := hR.1.2
  have ok_ := hR.2.1
  obtain ⟨lb_7, hr_7, hlb_7⟩ := hR.2.2.1
  refine lv_istore (lv' := [(4, .int r_2), (0, .ref (k (5 + 8 * i))), (1, .int x), (2, .int hd), (3, .int ff)]) hx hb dX3_follow_7 hl (by decide) rfl (fun ls hl => ?_)
  refine lv_iload hx hb dX3_follow_9 (lv_at hl 0 rfl) ?_
  refine lv_if_ne (tgt := 32) hx hb dX3_follow_11 (by decide) (fun c_8 => ?_) (fun c_8 => ?_)
  · skip
    have ic_8 : (r_2.toInt : Int) ≠ 0 := ic_ne rfl kI_0 c_8
    have a0_ : (ask T σ hd.toNatClampNeg ff.toNatClampNeg (2 : Int32).toNatClampNeg).1 ≠ 0 := by omega
    refine lv_iload hx hb dX3_follow_32 (lv_at hl 0 rfl) ?_
    exact m_iret (v := r_2) hx hb hr hlk hC hH rho_4 (by rw [show (pFol T σ x.toNatClampNeg hd.toNatClampNeg ff.toNatClampNeg) = (ask T σ hd.toNatClampNeg ff.toNatClampNeg (2 : Int32).toNatClampNeg) from thn_1 a0_]; exact ⟨⟨_, hM, hR, hK⟩, hfr, by omega⟩) (by omega) (by omega) dX3_follow_34
  · skip
    have ic_8 : (r_2.toInt : Int) = 0 := ic_eq rfl kI_0 c_8
    have a0_ : (ask T σ hd.toNatClampNeg ff.toNatClampNeg (2 : Int32).toNatClampNeg).1 = 0 := by omega
    obtain ⟨au1_, au2_, au3_, au4_, au5_⟩ := ask_use okb_ (show hd.toNatClampNeg < 4 from by omega) a0_
    have al_ := ask_ld a0_
    have an_ := ask_nh a0_
    refine lv_aload_n hx hb dX3_follow_14 rfl (lv_at hl 1 rfl) ?_
    have F_9 : f_3 (k (5 + 8 * i)) = some (.inr (3, [.ref (k (5 + 8 * i + 1)), .int lb_7, .int dn, .long (gfS ((ask T σ hd.toNatClampNeg ff.toNatClampNeg (2 : Int32).toNatClampNeg).2)), .int th, .int ta, .ref (k 1), .ref (k (5 + 8 * i + 5)), .ref (k (5 + 8 * i + 6)), .ref (k (5 + 8 * i + 7)), .int nx])) := by have w_ := hM.r0 i hi; rw [hr_7] at w_; exact w_
    refine m_get (ci := 3) (v := .ref (k (5 + 8 * i + 6))) (C := RX3) (T := TX3) (N := 11) hx hb hC hH hts in_X3_follow_X3 hown F_9 rfl 8 (by decide) (hts (.fieldLink RX3 28 "LazyState$Run" "handles" "[I") (by decide +kernel)) rfl dX3_follow_15 ?_
    refine lv_iload_n hx hb dX3_follow_18 rfl (lv_at hl 2 rfl) ?_
    refine lv_aload_n hx hb dX3_follow_19 rfl (lv_at hl 1 rfl) ?_
    refine lv_iload_n hx hb dX3_follow_20 rfl (lv_at hl 3 rfl) ?_
    refine lv_iload_n hx hb dX3_follow_21 rfl (lv_at hl 4 rfl) ?_
    refine m_goq hH (va_runV (As := [.int hd, .int ff]) (rest := [.int x, .ref (k (5 + 8 * i + 6))]) ⟨hx, hb, hml, hown, hts⟩ (c_X3_read l G k rho_4 n T z i hi D_6 dn th ta nx ((ask T σ hd.toNatClampNeg ff.toNatClampNeg (2 : Int32).toNatClampNeg).2) f_3 hM hR hd ff (by omega) (by omega) (hob (ask T σ hd.toNatClampNeg ff.toNatClampNeg (2 : Int32).toNatClampNeg).2 hd.toNatClampNeg) rfl au2_ an_ al_) (cwV 2 hts gX3_follow_X3_read rfl rfl rfl (by decide +kernel) ⟨Nat.le_of_ble_eq_true rfl, Nat.le_of_ble_eq_true rfl⟩) (m_preV (ci := 3) hC hH F_9 rfl) rfl rfl hl.1 rfl (lv_room (Nat.le_of_ble_eq_true rfl)) dX3_follow_22 ⟨by show _ ≤ 3 * (nld (pFol T σ x.toNatClampNeg hd.toNatClampNeg ff.toNatClampNeg).2 - nld σ); omega, by show _ ≤ 29 * (nld (pFol T σ x.toNatClampNeg hd.toNatClampNeg ff.toNatClampNeg).2 - nld σ); omega⟩) (fun r_10 rho_12 f_11 H locs hw hH => ?_)
    obtain ⟨D_13, ra_13, rb_13, hM, hR, hK1_13, hfr1, hu_, r1_13, r2_13, r3_13, r4_13, r5_13⟩ := hw
    have hM : CM G k rho_12 n z D_13 f_11 := hM
    have hfr1 : frD rho_4 f_3 rho_12 f_11 := hfr1
    have hfr := hfr.trans hfr1
    have hK := hK.trans hK1_13
    have hu_ : r_10 = some ra_13 := hu_
    rw [hu_]
    have n24_ := hR.1.1
    have hT3_ := hR.1.2
    have ok_ := hR.2.1
    obtain ⟨lb_14, hr_14, hlb_14⟩ := hR.2.2.1
    have F_15 : f_11 ra_13 = some (.inr (2, [.int (nI (yB rb_13)), .ref (caB rb_13), .ref (iaB rb_13), .int (siB rb_13), va_rf (bfB rb_13)])) := (hM.bf r2_13).1
    have tI_15 : (nI (yB rb_13)).toInt = ((yB rb_13 : Nat) : Int) := nI_toInt (by rw [r4_13]; have := hT3_ (hob (ask T σ hd.toNatClampNeg ff.toNatClampNeg (2 : Int32).toNatClampNeg).2 hd.toNatClampNeg); omega)
    refine m_get (ci := 2) (v := .ref (caB rb_13)) (C := RX2) (T := TX2) (N := 5) hx hb hC hH hts in_X3_follow_X2 hown F_15 rfl 1 (by decide) (hts (.fieldLink RX3 184 "LazyState$Body" "cells" "[J") (by decide +kernel)) rfl dX3_follow_25 ?_
    refine lv_iload_n hx hb dX3_follow_28 rfl (lv_at hl 4 rfl) ?_
    have hg_16 : f_11 (caB rb_13) = some (.inl (gk G 1, 8, .inr (.inl ((cB rb_13).1)))) := (hM.bf r2_13).2.1
    refine m_lald hx hb hC hH hg_16 (vp_in_iff.mpr ⟨by omega, by omega⟩) dX3_follow_29 ?_
    refine lv_topl (fun y_17 ey_17 => ?_)
    have cv_ : y_17 = (bdS (ask T σ hd.toNatClampNeg ff.toNatClampNeg (2 : Int32).toNatClampNeg).2 (hob (ask T σ hd.toNatClampNeg ff.toNatClampNeg (2 : Int32).toNatClampNeg).2 hd.toNatClampNeg)).1 ff.toNatClampNeg := by rw [ey_17]; exact eqB_1 r5_13 (by omega)
    refine lv_l2i hx hb dX3_follow_30 rfl ?_
    refine lv_topi (fun x_18 ex_18 => ?_)
    have fv_ : x_18 = ((bdS (ask T σ hd.toNatClampNeg ff.toNatClampNeg (2 : Int32).toNatClampNeg).2 (hob (ask T σ hd.toNatClampNeg ff.toNatClampNeg (2 : Int32).toNatClampNeg).2 hd.toNatClampNeg)).1 ff.toNatClampNeg).toInt32 := by rw [ex_18, cv_]
    have lk_ := (au5_ ff.toNatClampNeg (by omega)).2.1 au3_
    rw [← cv_] at lk_
    have hok_ : okHa n x_18 := by unfold okHa; have q_ : x_18.toInt = y_17.toInt := ic_l2i ex_18 rfl (by omega) (by omega); omega
    have hg_19 := hM.r6 i hi
    refine m_iast hx hb hC hH hg_19 (vp_in_iff.mpr ⟨by omega, by omega⟩) dX3_follow_31 (fun H locs hH => ?_)
    obtain ⟨f_20, ef_20⟩ : ∃ zz_ : mF, zz_ = va_up f_11 (k (5 + 8 * i + 6)) (some (.inl (gk G 0, 4, .inl (upd (ID D_13 (5 + 8 * i + 6)) x.toNatClampNeg x_18)))) := ⟨_, rfl⟩
    rw [← ef_20] at hH
    have hM := hM.setI6 (i0 := i) hi ef_20
    have hR := hR.hnd x.toNatClampNeg (v := x_18) hok_
    have hK := hK.I (c := 6) (g := upd (ID D_13 (5 + 8 * i + 6)) x.toNatClampNeg x_18) (by decide)
    have hfr := hfr.up (by rw [hM.ok (5 + 8 * i + 6) (by omega)]; exact (by decide : (1 : Nat) ≠ 0)) ef_20
    have hI : RN G k rho_12 n T z i D dn th ta nx (sHa (sTc ((ask T σ hd.toNatClampNeg ff.toNatClampNeg (2 : Int32).toNatClampNeg).2) (2 * (8 * (hob (ask T σ hd.toNatClampNeg ff.toNatClampNeg (2 : Int32).toNatClampNeg).2 hd.toNatClampNeg) + ff.toNatClampNeg))) x.toNatClampNeg x_18) f_20 := ⟨_, hM, hR, hK⟩
    obtain ⟨D_21, hM, hR, hK⟩ := hI
    have n24_ := hR.1.1
    have hT3_ := hR.1.2
    have ok_ := hR.2.1
    obtain ⟨lb_22, hr_22, hlb_22⟩ := hR.2.2.1
    refine lv_iload hx hb dX3_follow_32 (lv_at hl 0 rfl) ?_
    exact m_iret (v := r_2) hx hb hr hlk hC hH rho_12 (by rw [show (pFol T σ x.toNatClampNeg hd.toNatClampNeg ff.toNatClampNeg) = (0, (sHa (sTc ((ask T σ hd.toNatClampNeg ff.toNatClampNeg (2 : Int32).toNatClampNeg).2) (2 * (8 * (hob (ask T σ hd.toNatClampNeg ff.toNatClampNeg (2 : Int32).toNatClampNeg).2 hd.toNatClampNeg) + ff.toNatClampNeg))) x.toNatClampNeg x_18)) from (thn_0 a0_).trans (by rw [fv_]; rfl)]; exact ⟨⟨_, hM, hR, hK⟩, hfr, by omega⟩) (by omega) (by omega) dX3_follow_34
