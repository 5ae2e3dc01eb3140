set_option maxHeartbeats 4000000 in
set_option maxRecDepth 100000 in
theorem c_X3_bodyOf (l : Launch) (G : mG) (k : Nat → Nat) (own : tR) (n : Nat) (T z : Nat → Nat) (i : Nat) (hi : i < 3) (D : tD) (dn th ta nx : Int32) (σ : tS) (f : mF) (hM : CM G k own n z D f) (hR : RP n T (k 1) i dn th ta nx σ D) (o : Int32) (ho : 0 ≤ o.toInt ∧ o.toInt < n) : Met l yX3_bodyOf wsX3_bodyOf ({ frames := 1, cells := 0, slots := 0, locals := 21 }) (va_Pc [.ref (k (5 + 8 * i)), .int o] (mW G f)) (va_Qq (fun (r : Option Nat) (u : mS) => u.2 = f ∧ ∃ a_ b_, r = some a_ ∧ BD D a_ = some b_ ∧ yB b_ = T o.toNatClampNeg ∧ eqB (T o.toNatClampNeg) (cB b_) (bdS σ o.toNatClampNeg)) (fun (u : mS) t => mW G u.2 t) (mA G)) 0 0 (mA G) := by
  refine mMet [.ref (k (5 + 8 * i)), .int o] (cc := cX3_bodyOf) (maxL := 2) (ret := (some (.object "LazyState$Body"))) (by decide) rfl (Nat.le_of_ble_eq_true rfl) ?_
  intro p e s m below meth c ls hx hb hr hml hts hown hlk hnm hC hH hl
  have hl : lv_has ls 2 [(0, .ref (k (5 + 8 * i))), (1, .int o)] := hl
  have hK : KP i D D := KP.rf
  have hfr : frD own f own f := frD.rf
  have cl_o := ic_clN (rfl : o.toInt = _) (by omega)
  have n24_ := hR.1.1
  have hT3_ := hR.1.2
  have ok_ := hR.2.1
  obtain ⟨lb_1, hr_1, hlb_1⟩ := hR.2.2.1
  refine lv_aload_n hx hb dX3_bodyOf_0 rfl (lv_at hl 0 rfl) ?_
  have F_2 : f (k (5 + 8 * i)) = some (.inr (3, [.ref (k (5 + 8 * i + 1)), .int lb_1, .int dn, .long (gfS σ), .int th, .int ta, .ref (k 1), .ref (k (5 + 8 * i + 5)), .ref (k (5 + 8 * i + 6)), .ref (k (5 + 8 * i + 7)), .int nx])) := by have w_ := hM.r0 i hi; rw [hr_1] at w_; exact w_
  refine m_get (ci := 3) (v := .int lb_1) (C := RX3) (T := TX3) (N := 11) hx hb hC hH hts in_X3_bodyOf_X3 hown F_2 rfl 1 (by decide) (hts (.fieldLink RX3 42 "LazyState$Run" "loadedBits" "I") (by decide +kernel)) rfl dX3_bodyOf_1 ?_
  refine lv_iload_n hx hb dX3_bodyOf_4 rfl (lv_at hl 1 rfl) ?_
  refine m_goi hH (va_runSN (As := [.int lb_1, .int o]) (rest := []) ⟨hx, hb, hml, hown, hts⟩ (c_X5_bitOf l G f lb_1 o) ⟨va_cnB 2 hts gX3_bodyOf_X5_bitOf_n97 rfl rfl rfl hC.2.1.2.2.2.2.1 (hts (.initialized RX5) (by decide +kernel)) (by decide +kernel) ⟨Nat.le_of_ble_eq_true rfl, Nat.le_of_ble_eq_true rfl⟩, (hts (.static yX5_bitOf) (by decide +kernel)), trivial⟩ (m_preS hC hH) rfl rfl hl.1 rfl (lv_room (Nat.le_of_ble_eq_true rfl)) dX3_bodyOf_5 ⟨Nat.le_of_ble_eq_true rfl, Nat.le_of_ble_eq_true rfl⟩) (fun r_3 rho_5 f_4 H locs hw hH => ?_)
  obtain ⟨hu, hr_3⟩ := hw
  have hu : f_4 = f := hu
  rw [hu] at hH
  try dsimp only at hr_3
  have bq_ : r_3 = b2i (ldS σ o.toNatClampNeg) := by have w_ := bt_get (x := lb_1) (j := o.toNatClampNeg) (by have := ic_clN (rfl : o.toInt = _) (by omega); omega); rw [nI_ofC (by omega)] at w_; rw [hr_3, w_, hlb_1 o.toNatClampNeg (by have := ic_clN (rfl : o.toInt = _) (by omega); omega)]
  refine lv_iconst (v := 1) hx hb dX3_bodyOf_8 (by decide) ?_
  refine lv_icmp_ne (tgt := 21) hx hb dX3_bodyOf_9 (by decide) (fun c_6 => ?_) (fun c_6 => ?_)
  · skip
    have ic_6 : (r_3.toInt : Int) ≠ 1 := ic_ne rfl kI_1 c_6
    have lf_ : ldS σ o.toNatClampNeg = false := b2i_n1 (by rw [← bq_]; exact c_6)
    have ln_ := ldn_0 lf_
    refine lv_aload_n hx hb dX3_bodyOf_21 rfl (lv_at hl 0 rfl) ?_
    refine m_get (ci := 3) (v := .ref (k 1)) (C := RX3) (T := TX3) (N := 11) hx hb hC hH hts in_X3_bodyOf_X3 hown F_2 rfl 6 (by decide) (hts (.fieldLink RX3 36 "LazyState$Run" "state" "[LLazyState$Body;") (by decide +kernel)) rfl dX3_bodyOf_22 ?_
    refine lv_iload_n hx hb dX3_bodyOf_25 rfl (lv_at hl 1 rfl) ?_
    have hg_7 := hM.c1
    refine m_aald hx hb hC hH 3 rfl hg_7 (vp_in_iff.mpr ⟨by omega, by omega⟩) dX3_bodyOf_26 ?_
    obtain ⟨so_, bo_, h1_, h2_, h3_, h4_, h5_⟩ := (hR.2.2.2.2.2.2.2.2 o.toNatClampNeg (by omega)).2 lf_
    rw [h1_]
    exact m_aret (v := some so_) hx hb hr hlk hC hH own ⟨rfl, so_, bo_, rfl, h2_, h4_, h5_⟩ (Nat.le_of_ble_eq_true rfl) (Nat.le_of_ble_eq_true rfl) dX3_bodyOf_27
  · skip
    have ic_6 : (r_3.toInt : Int) = 1 := ic_eq rfl kI_1 c_6
    have lt_ : ldS σ o.toNatClampNeg = true := b2i_1 (by rw [← bq_]; exact Int32.toInt_inj.mp ic_6)
    refine lv_aload_n hx hb dX3_bodyOf_12 rfl (lv_at hl 0 rfl) ?_
    refine m_get (ci := 3) (v := .ref (k (5 + 8 * i + 5))) (C := RX3) (T := TX3) (N := 11) hx hb hC hH hts in_X3_bodyOf_X3 hown F_2 rfl 7 (by decide) (hts (.fieldLink RX3 24 "LazyState$Run" "copies" "[LLazyState$Body;") (by decide +kernel)) rfl dX3_bodyOf_13 ?_
    refine lv_iload_n hx hb dX3_bodyOf_16 rfl (lv_at hl 1 rfl) ?_
    have hg_8 := hM.r5 i hi
    refine m_aald hx hb hC hH 3 rfl hg_8 (vp_in_iff.mpr ⟨by omega, by omega⟩) dX3_bodyOf_17 ?_
    obtain ⟨cp_9, bcp_9, p1cp_9, p2cp_9, p3cp_9, p4cp_9, p5cp_9⟩ := (hR.2.2.2.2.2.2.2.2 o.toNatClampNeg (by omega)).1 lt_
    rw [p1cp_9]
    refine lv_goto (tgt := 27) hx hb dX3_bodyOf_18 (by decide) ?_
    exact m_aret (v := some cp_9) hx hb hr hlk hC hH own ⟨rfl, cp_9, bcp_9, rfl, p2cp_9, p4cp_9, p5cp_9⟩ (Nat.le_of_ble_eq_true rfl) (Nat.le_of_ble_eq_true rfl) dX3_bodyOf_27
set_option maxHeartbeats 4000000 in
set_option maxRecDepth 100000 in
theorem c_X3_endsLike (l : Launch) (G : mG) (k : Nat → Nat) (own : tR) (n : Nat) (T z : Nat → Nat) (i : Nat) (hi : i < 3) (D : tD) (dn th ta nx : Int32) (σ : tS) (f : mF) (hM : CM G k own n z D f) (hR : RP n T (k 1) i dn th ta nx σ D) (i2 : Nat) (hi2 : i2 < 3) (dn2 th2 ta2 nx2 : Int32) (σ2 : tS) (hR2 : RP n T (k 1) i2 dn2 th2 ta2 nx2 σ2 D) : Met l yX3_endsLike wsX3_endsLike ({ frames := 1, cells := 0, slots := 0, locals := 22 }) (va_Pc [.ref (k (5 + 8 * i)), .ref (k (5 + 8 * i2))] (mW G f)) (va_Qi (fun (r : Int32) (u : mS) => u.2 = f ∧ ((r.toInt = 1 ∧ (th = th2 ∧ ta = ta2 ∧ gfS σ = gfS σ2 ∧ trS σ = trS σ2)) ∨ (r.toInt = 0 ∧ ¬ (th = th2 ∧ ta = ta2 ∧ gfS σ = gfS σ2 ∧ trS σ = trS σ2)))) (fun (u : mS) t => mW G u.2 t) (mA G)) 0 0 (mA G) := by
  refine mMet [.ref (k (5 + 8 * i)), .ref (k (5 + 8 * i2))] (cc := cX3_endsLike) (maxL := 2) (ret := (some .boolean)) (by decide) rfl (Nat.le_of_ble_eq_true rfl) ?_
  intro p e s m below meth c ls hx hb hr hml hts hown hlk hnm hC hH hl
  have hl : lv_has ls 2 [(0, .ref (k (5 + 8 * i))), (1, .ref (k (5 + 8 * i2)))] := hl
  have hK : KP i D D := KP.rf
  have hfr : frD own f own f := frD.rf
  obtain ⟨lb2_, hr2_, hlb2_⟩ := hR2.2.2.1
  have n24_ := hR.1.1
  have hT3_ := hR.1.2
  have ok_ := hR.2.1
  obtain ⟨lb_1, hr_1, hlb_1⟩ := hR.2.2.1
  refine lv_aload_n hx hb dX3_endsLike_0 rfl (lv_at hl 0 rfl) ?_
  have F_2 : f (k (5 + 8 * i)) = some (.inr (3, [.ref (k (5 + 8 * i + 1)), .int lb_1, .int dn, .long (gfS σ), .int th, .int ta, .ref (k 1), .ref (k (5 + 8 * i + 5)), .ref (k (5 + 8 * i + 6)), .ref (k (5 + 8 * i + 7)), .int nx])) := by have w_ := hM.r0 i hi; rw [hr_1] at w_; exact w_
  refine m_get (ci := 3) (v := .int th) (C := RX3) (T := TX3) (N := 11) hx hb hC hH hts in_X3_endsLike_X3 hown F_2 rfl 4 (by decide) (hts (.fieldLink RX3 52 "LazyState$Run" "thrown" "I") (by decide +kernel)) rfl dX3_endsLike_1 ?_
  refine lv_aload_n hx hb dX3_endsLike_4 rfl (lv_at hl 1 rfl) ?_
  have F_3 : f (k (5 + 8 * i2)) = some (.inr (3, [.ref (k (5 + 8 * i2 + 1)), .int lb2_, .int dn2, .long (gfS σ2), .int th2, .int ta2, .ref (k 1), .ref (k (5 + 8 * i2 + 5)), .ref (k (5 + 8 * i2 + 6)), .ref (k (5 + 8 * i2 + 7)), .int nx2])) := by have w_ := hM.r0 i2 hi2; rw [hr2_] at w_; exact w_
  refine m_get (ci := 3) (v := .int th2) (C := RX3) (T := TX3) (N := 11) hx hb hC hH hts in_X3_endsLike_X3 hown F_3 rfl 4 (by decide) (hts (.fieldLink RX3 52 "LazyState$Run" "thrown" "I") (by decide +kernel)) rfl dX3_endsLike_5 ?_
  refine lv_icmp_ne (tgt := 52) hx hb dX3_endsLike_8 (by decide) (fun c_4 => ?_) (fun c_4 => ?_)
  · skip
    have ic_4 : (th.toInt : Int) ≠ th2.toInt := ic_ne rfl rfl c_4
    have ne_ : ¬ (th = th2 ∧ ta = ta2 ∧ gfS σ = gfS σ2 ∧ trS σ = trS σ2) := fun z_ => c_4 z_.1
    refine lv_iconst (v := 0) hx hb dX3_endsLike_52 (by decide) ?_
    exact m_zret (v := 0) hx hb hr (by rfl) hlk hC hH own ⟨rfl, Or.inr ⟨kI_0, ne_⟩⟩ (Nat.le_of_ble_eq_true rfl) (Nat.le_of_ble_eq_true rfl) dX3_endsLike_53
  · skip
    have ic_4 : (th.toInt : Int) = th2.toInt := ic_eq rfl rfl c_4
    have e1_ := c_4
    refine lv_aload_n hx hb dX3_endsLike_11 rfl (lv_at hl 0 rfl) ?_
    refine m_get (ci := 3) (v := .int ta) (C := RX3) (T := TX3) (N := 11) hx hb hC hH hts in_X3_endsLike_X3 hown F_2 rfl 5 (by decide) (hts (.fieldLink RX3 18 "LazyState$Run" "thrownAt" "I") (by decide +kernel)) rfl dX3_endsLike_12 ?_
    refine lv_aload_n hx hb dX3_endsLike_15 rfl (lv_at hl 1 rfl) ?_
    refine m_get (ci := 3) (v := .int ta2) (C := RX3) (T := TX3) (N := 11) hx hb hC hH hts in_X3_endsLike_X3 hown F_3 rfl 5 (by decide) (hts (.fieldLink RX3 18 "LazyState$Run" "thrownAt" "I") (by decide +kernel)) rfl dX3_endsLike_16 ?_
    refine lv_icmp_ne (tgt := 52) hx hb dX3_endsLike_19 (by decide) (fun c_5 => ?_) (fun c_5 => ?_)
    · skip
      have ic_5 : (ta.toInt : Int) ≠ ta2.toInt := ic_ne rfl rfl c_5
      have ne_ : ¬ (th = th2 ∧ ta = ta2 ∧ gfS σ = gfS σ2 ∧ trS σ = trS σ2) := fun z_ => c_5 z_.2.1
      refine lv_iconst (v := 0) hx hb dX3_endsLike_52 (by decide) ?_
      exact m_zret (v := 0) hx hb hr (by rfl) hlk hC hH own ⟨rfl, Or.inr ⟨kI_0, ne_⟩⟩ (Nat.le_of_ble_eq_true rfl) (Nat.le_of_ble_eq_true rfl) dX3_endsLike_53
    · skip
      have ic_5 : (ta.toInt : Int) = ta2.toInt := ic_eq rfl rfl c_5
      have e2_ := c_5
      refine lv_aload_n hx hb dX3_endsLike_22 rfl (lv_at hl 0 rfl) ?_
      refine m_get (ci := 3) (v := .long (gfS σ)) (C := RX3) (T := TX3) (N := 11) hx hb hC hH hts in_X3_endsLike_X3 hown F_2 rfl 3 (by decide) (hts (.fieldLink RX3 48 "LazyState$Run" "gift" "J") (by decide +kernel)) rfl dX3_endsLike_23 ?_
      refine lv_aload_n hx hb dX3_endsLike_26 rfl (lv_at hl 1 rfl) ?_
      refine m_get (ci := 3) (v := .long (gfS σ2)) (C := RX3) (T := TX3) (N := 11) hx hb hC hH hts in_X3_endsLike_X3 hown F_3 rfl 3 (by decide) (hts (.fieldLink RX3 48 "LazyState$Run" "gift" "J") (by decide +kernel)) rfl dX3_endsLike_27 ?_
      refine W.lcmp hx hb dX3_endsLike_30 ?_
      refine lv_if_ne (tgt := 52) hx hb dX3_endsLike_31 (by decide) (fun c_6 => ?_) (fun c_6 => ?_)
      · skip
        have ic_6 : ((gfS σ).toInt : Int) ≠ (gfS σ2).toInt := lc_ne rfl rfl (fun q_ => c_6 ((lg_cmp_eq _ _).mpr q_))
        have ne_ : ¬ (th = th2 ∧ ta = ta2 ∧ gfS σ = gfS σ2 ∧ trS σ = trS σ2) := fun z_ => (by have w_ := congrArg Int64.toInt z_.2.2.1; omega)
        refine lv_iconst (v := 0) hx hb dX3_endsLike_52 (by decide) ?_
        exact m_zret (v := 0) hx hb hr (by rfl) hlk hC hH own ⟨rfl, Or.inr ⟨kI_0, ne_⟩⟩ (Nat.le_of_ble_eq_true rfl) (Nat.le_of_ble_eq_true rfl) dX3_endsLike_53
      · skip
        have ic_6 : ((gfS σ).toInt : Int) = (gfS σ2).toInt := lc_eq rfl rfl ((lg_cmp_eq _ _).mp c_6)
        have e3_ : gfS σ = gfS σ2 := Int64.toInt_inj.mp (by omega)
        refine lv_aload_n hx hb dX3_endsLike_34 rfl (lv_at hl 0 rfl) ?_
        refine m_get (ci := 3) (v := .ref (k (5 + 8 * i + 1))) (C := RX3) (T := TX3) (N := 11) hx hb hC hH hts in_X3_endsLike_X3 hown F_2 rfl 0 (by decide) (hts (.fieldLink RX3 12 "LazyState$Run" "trace" "LLazyState$Trace;") (by decide +kernel)) rfl dX3_endsLike_35 ?_
        refine lv_aload_n hx hb dX3_endsLike_38 rfl (lv_at hl 1 rfl) ?_
        refine m_get (ci := 3) (v := .ref (k (5 + 8 * i2 + 1))) (C := RX3) (T := TX3) (N := 11) hx hb hC hH hts in_X3_endsLike_X3 hown F_3 rfl 0 (by decide) (hts (.fieldLink RX3 12 "LazyState$Run" "trace" "LLazyState$Trace;") (by decide +kernel)) rfl dX3_endsLike_39 ?_
        have F_10 := hM.r1 i hi
        refine m_goi hH (va_runV (As := [.ref (k (5 + 8 * i2 + 1))]) (rest := []) ⟨hx, hb, hml, hown, hts⟩ (c_X4_isSameAs l G k f i i2 (trS σ) (trS σ2) (tq_of hM hi hR) (tq_of hM hi2 hR2)) (cwV 1 hts gX3_endsLike_X4_isSameAs rfl rfl rfl (by decide +kernel) ⟨Nat.le_of_ble_eq_true rfl, Nat.le_of_ble_eq_true rfl⟩) (m_preV (ci := 4) hC hH F_10 rfl) rfl rfl hl.1 rfl (lv_room (Nat.le_of_ble_eq_true rfl)) dX3_endsLike_42 ⟨Nat.le_of_ble_eq_true rfl, Nat.le_of_ble_eq_true rfl⟩) (fun r_7 rho_9 f_8 H locs hw hH => ?_)
        obtain ⟨hu, hr_7⟩ := hw
        have hu : f_8 = f := hu
        rw [hu] at hH
        try dsimp only at hr_7
        refine lv_if_eq (tgt := 52) hx hb dX3_endsLike_45 (by decide) (fun c_11 => ?_) (fun c_11 => ?_)
        · skip
          have ic_11 : (r_7.toInt : Int) = 0 := ic_eq rfl kI_0 c_11
          have ne_ : ¬ (th = th2 ∧ ta = ta2 ∧ gfS σ = gfS σ2 ∧ trS σ = trS σ2) := fun z_ => (hr_7.resolve_left (fun y_ => by omega)).2 z_.2.2.2
          refine lv_iconst (v := 0) hx hb dX3_endsLike_52 (by decide) ?_
          exact m_zret (v := 0) hx hb hr (by rfl) hlk hC hH own ⟨rfl, Or.inr ⟨kI_0, ne_⟩⟩ (Nat.le_of_ble_eq_true rfl) (Nat.le_of_ble_eq_true rfl) dX3_endsLike_53
        · skip
          have ic_11 : (r_7.toInt : Int) ≠ 0 := ic_ne rfl kI_0 c_11
          refine lv_iconst (v := 1) hx hb dX3_endsLike_48 (by decide) ?_
          refine lv_goto (tgt := 53) hx hb dX3_endsLike_49 (by decide) ?_
          exact m_zret (v := 1) hx hb hr (by rfl) hlk hC hH own ⟨rfl, Or.inl ⟨kI_1, e1_, e2_, e3_, (hr_7.resolve_right (fun y_ => by omega)).2⟩⟩ (Nat.le_of_ble_eq_true rfl) (Nat.le_of_ble_eq_true rfl) dX3_endsLike_53
