set_option maxHeartbeats 4000000 in
set_option maxRecDepth 100000 in
theorem c_X3_setValue (l : Launch) (G : mG) (k : Nat → Nat) (own : tR) (n : Nat) (T z : Nat → Nat) (i : Nat) (hi : i < 3) (D : tD) (dn th ta nx : Int32) (σ : tS) (f : mF) (hM : CM G k own n z D f) (hR : RP n T (k 1) i dn th ta nx σ D) (x : Int32) (v : Int64) (hx4 : 0 ≤ x.toInt ∧ x.toInt < 4) : Met l yX3_setValue wsX3_setValue ({ frames := 0, cells := 0, slots := 0, locals := 0 }) (va_Pc [.ref (k (5 + 8 * i)), .int x, .long v] (mW G f)) (va_Qi (fun (r : Int32) (u : mS) => RN G k u.1 n T z i D dn th ta nx (sVa σ x.toNatClampNeg v) u.2 ∧ frD own f u.1 u.2 ∧ r.toInt = 0) (fun (u : mS) t => mW G u.2 t) (mA G)) 0 0 (mA G) := by
  refine mMet [.ref (k (5 + 8 * i)), .int x, .long v] (cc := cX3_setValue) (maxL := 4) (ret := (some .int)) (by decide) rfl (Nat.le_of_ble_eq_true rfl) ?_
  intro p e s m below meth c ls hx hb hr hml hts hown hlk hnm hC hH hl
  have hl : lv_has ls 4 [(0, .ref (k (5 + 8 * i))), (1, .int x), (2, .long v)] := hl
  have hK : KP i D D := KP.rf
  have hfr : frD own f own f := frD.rf
  have n24_ := hR.1.1
  have hT3_ := hR.1.2
  have ok_ := hR.2.1
  obtain ⟨lb_1, hr_1, hlb_1⟩ := hR.2.2.1
  refine lv_aload_n hx hb dX3_setValue_0 rfl (lv_at hl 0 rfl) ?_
  have F_2 : f (k (5 + 8 * i)) = some (.inr (3, [.ref (k (5 + 8 * i + 1)), .int lb_1, .int dn, .long (gfS σ), .int th, .int ta, .ref (k 1), .ref (k (5 + 8 * i + 5)), .ref (k (5 + 8 * i + 6)), .ref (k (5 + 8 * i + 7)), .int nx])) := by have w_ := hM.r0 i hi; rw [hr_1] at w_; exact w_
  refine m_get (ci := 3) (v := .ref (k (5 + 8 * i + 7))) (C := RX3) (T := TX3) (N := 11) hx hb hC hH hts in_X3_setValue_X3 hown F_2 rfl 9 (by decide) (hts (.fieldLink RX3 32 "LazyState$Run" "values" "[J") (by decide +kernel)) rfl dX3_setValue_1 ?_
  refine lv_iload_n hx hb dX3_setValue_4 rfl (lv_at hl 1 rfl) ?_
  refine lv_lload_n hx hb dX3_setValue_5 rfl (lv_at hl 2 rfl) ?_
  have hg_3 := hM.r7 i hi
  refine m_last hx hb hC hH hg_3 (vp_in_iff.mpr ⟨by omega, by omega⟩) dX3_setValue_6 (fun H locs hH => ?_)
  obtain ⟨f_4, ef_4⟩ : ∃ zz_ : mF, zz_ = va_up f (k (5 + 8 * i + 7)) (some (.inl (gk G 1, 4, .inr (.inl (vp_updL (JD D (5 + 8 * i + 7)) x.toNatClampNeg v))))) := ⟨_, rfl⟩
  rw [← ef_4] at hH
  have hM := hM.setJ (i0 := i) hi ef_4
  have hR := hR.val x.toNatClampNeg v
  have hK := hK.J (c := 7) (g := vp_updL (JD D (5 + 8 * i + 7)) x.toNatClampNeg v) (by decide)
  have hfr := hfr.up (by rw [hM.ok (5 + 8 * i + 7) (by omega)]; exact (by decide : (1 : Nat) ≠ 0)) ef_4
  have hI : RN G k own n T z i D dn th ta nx (sVa σ x.toNatClampNeg v) f_4 := ⟨_, hM, hR, hK⟩
  obtain ⟨D_5, hM, hR, hK⟩ := hI
  have n24_ := hR.1.1
  have hT3_ := hR.1.2
  have ok_ := hR.2.1
  obtain ⟨lb_6, hr_6, hlb_6⟩ := hR.2.2.1
  refine lv_iconst (v := 0) hx hb dX3_setValue_7 (by decide) ?_
  exact m_iret (v := 0) hx hb hr hlk hC hH own ⟨⟨_, hM, hR, hK⟩, hfr, kI_0⟩ (Nat.le_of_ble_eq_true rfl) (Nat.le_of_ble_eq_true rfl) dX3_setValue_8
set_option maxHeartbeats 4000000 in
set_option maxRecDepth 100000 in
theorem c_X3_goOnAt (l : Launch) (G : mG) (k : Nat → Nat) (own : tR) (n : Nat) (T z : Nat → Nat) (i : Nat) (hi : i < 3) (D : tD) (dn th ta nx : Int32) (σ : tS) (f : mF) (hM : CM G k own n z D f) (hR : RP n T (k 1) i dn th ta nx σ D) (a : Int32) : Met l yX3_goOnAt wsX3_goOnAt ({ frames := 0, cells := 0, slots := 0, locals := 0 }) (va_Pc [.ref (k (5 + 8 * i)), .int a] (mW G f)) (va_Qi (fun (r : Int32) (u : mS) => RN G k u.1 n T z i D dn th ta a σ u.2 ∧ frD own f u.1 u.2 ∧ r.toInt = 0) (fun (u : mS) t => mW G u.2 t) (mA G)) 0 0 (mA G) := by
  refine mMet [.ref (k (5 + 8 * i)), .int a] (cc := cX3_goOnAt) (maxL := 2) (ret := (some .int)) (by decide) rfl (Nat.le_of_ble_eq_true rfl) ?_
  intro p e s m below meth c ls hx hb hr hml hts hown hlk hnm hC hH hl
  have hl : lv_has ls 2 [(0, .ref (k (5 + 8 * i))), (1, .int a)] := hl
  have hK : KP i D D := KP.rf
  have hfr : frD own f own f := frD.rf
  have n24_ := hR.1.1
  have hT3_ := hR.1.2
  have ok_ := hR.2.1
  obtain ⟨lb_1, hr_1, hlb_1⟩ := hR.2.2.1
  refine lv_aload_n hx hb dX3_goOnAt_0 rfl (lv_at hl 0 rfl) ?_
  refine lv_iload_n hx hb dX3_goOnAt_1 rfl (lv_at hl 1 rfl) ?_
  have F_2 : f (k (5 + 8 * i)) = some (.inr (3, [.ref (k (5 + 8 * i + 1)), .int lb_1, .int dn, .long (gfS σ), .int th, .int ta, .ref (k 1), .ref (k (5 + 8 * i + 5)), .ref (k (5 + 8 * i + 6)), .ref (k (5 + 8 * i + 7)), .int nx])) := by have w_ := hM.r0 i hi; rw [hr_1] at w_; exact w_
  refine m_put (ci := 3) (v := .int a) (C := RX3) (T := TX3) (N := 11) hx hb hC hH hts in_X3_goOnAt_X3 tyX3 tyX3_ok nmX3 hown F_2 rfl 10 (by decide) (hts (.fieldLink RX3 78 "LazyState$Run" "next" "I") (by decide +kernel)) rfl rfl rfl (Nat.le_of_ble_eq_true rfl) dX3_goOnAt_2 (fun H locs hH => ?_)
  have hH : mH G s (va_up f (k (5 + 8 * i)) (some (.inr (3, [.ref (k (5 + 8 * i + 1)), .int lb_1, .int dn, .long (gfS σ), .int th, .int ta, .ref (k 1), .ref (k (5 + 8 * i + 5)), .ref (k (5 + 8 * i + 6)), .ref (k (5 + 8 * i + 7)), .int a])))) H locs := hH
  obtain ⟨f_3, ef_3⟩ : ∃ zz_ : mF, zz_ = va_up f (k (5 + 8 * i)) (some (.inr (3, [.ref (k (5 + 8 * i + 1)), .int lb_1, .int dn, .long (gfS σ), .int th, .int ta, .ref (k 1), .ref (k (5 + 8 * i + 5)), .ref (k (5 + 8 * i + 6)), .ref (k (5 + 8 * i + 7)), .int a]))) := ⟨_, rfl⟩
  rw [← ef_3] at hH
  have hM := hM.setR (i0 := i) hi (q := (lb_1, dn, gfS σ, th, ta, some (k 1), a)) ef_3
  have hR := hR.fld (lb := lb_1) (by rw [hr_1]) (dn2 := dn) (th2 := th) (ta2 := ta) (nx2 := a) (gf2 := gfS σ)
  have hK := hK.R (q := (lb_1, dn, gfS σ, th, ta, some (k 1), a))
  have hfr := hfr.up (by rw [hM.ok (5 + 8 * i) (by omega)]; exact (by decide : (1 : Nat) ≠ 0)) ef_3
  have hI : RN G k own n T z i D dn th ta a σ f_3 := ⟨_, hM, hR, hK⟩
  obtain ⟨D_4, hM, hR, hK⟩ := hI
  have n24_ := hR.1.1
  have hT3_ := hR.1.2
  have ok_ := hR.2.1
  obtain ⟨lb_5, hr_5, hlb_5⟩ := hR.2.2.1
  refine lv_iconst (v := 0) hx hb dX3_goOnAt_5 (by decide) ?_
  exact m_iret (v := 0) hx hb hr hlk hC hH own ⟨⟨_, hM, hR, hK⟩, hfr, kI_0⟩ (Nat.le_of_ble_eq_true rfl) (Nat.le_of_ble_eq_true rfl) dX3_goOnAt_6
set_option maxHeartbeats 4000000 in
set_option maxRecDepth 100000 in
theorem c_X3_end (l : Launch) (G : mG) (k : Nat → Nat) (own : tR) (n : Nat) (T z : Nat → Nat) (i : Nat) (hi : i < 3) (D : tD) (dn th ta nx : Int32) (σ : tS) (f : mF) (hM : CM G k own n z D f) (hR : RP n T (k 1) i dn th ta nx σ D) (v : Int64) : Met l yX3_end wsX3_end ({ frames := 1, cells := 0, slots := 0, locals := 21 }) (va_Pc [.ref (k (5 + 8 * i)), .long v] (mW G f)) (va_Qi (fun (r : Int32) (u : mS) => RN G k u.1 n T z i D dn th ta 32 (sGf σ v) u.2 ∧ frD own f u.1 u.2 ∧ r.toInt = 0) (fun (u : mS) t => mW G u.2 t) (mA G)) 0 0 (mA G) := by
  refine mMet [.ref (k (5 + 8 * i)), .long v] (cc := cX3_end) (maxL := 3) (ret := (some .int)) (by decide) rfl (Nat.le_of_ble_eq_true rfl) ?_
  intro p e s m below meth c ls hx hb hr hml hts hown hlk hnm hC hH hl
  have hl : lv_has ls 3 [(0, .ref (k (5 + 8 * i))), (1, .long v)] := hl
  have hK : KP i D D := KP.rf
  have hfr : frD own f own f := frD.rf
  have n24_ := hR.1.1
  have hT3_ := hR.1.2
  have ok_ := hR.2.1
  obtain ⟨lb_1, hr_1, hlb_1⟩ := hR.2.2.1
  refine lv_aload_n hx hb dX3_end_0 rfl (lv_at hl 0 rfl) ?_
  refine lv_lload_n hx hb dX3_end_1 rfl (lv_at hl 1 rfl) ?_
  have F_2 : f (k (5 + 8 * i)) = some (.inr (3, [.ref (k (5 + 8 * i + 1)), .int lb_1, .int dn, .long (gfS σ), .int th, .int ta, .ref (k 1), .ref (k (5 + 8 * i + 5)), .ref (k (5 + 8 * i + 6)), .ref (k (5 + 8 * i + 7)), .int nx])) := by have w_ := hM.r0 i hi; rw [hr_1] at w_; exact w_
  refine m_put (ci := 3) (v := .long v) (C := RX3) (T := TX3) (N := 11) hx hb hC hH hts in_X3_end_X3 tyX3 tyX3_ok nmX3 hown F_2 rfl 3 (by decide) (hts (.fieldLink RX3 48 "LazyState$Run" "gift" "J") (by decide +kernel)) rfl rfl rfl (Nat.le_of_ble_eq_true rfl) dX3_end_2 (fun H locs hH => ?_)
  have hH : mH G s (va_up f (k (5 + 8 * i)) (some (.inr (3, [.ref (k (5 + 8 * i + 1)), .int lb_1, .int dn, .long v, .int th, .int ta, .ref (k 1), .ref (k (5 + 8 * i + 5)), .ref (k (5 + 8 * i + 6)), .ref (k (5 + 8 * i + 7)), .int nx])))) H locs := hH
  obtain ⟨f_3, ef_3⟩ : ∃ zz_ : mF, zz_ = va_up f (k (5 + 8 * i)) (some (.inr (3, [.ref (k (5 + 8 * i + 1)), .int lb_1, .int dn, .long v, .int th, .int ta, .ref (k 1), .ref (k (5 + 8 * i + 5)), .ref (k (5 + 8 * i + 6)), .ref (k (5 + 8 * i + 7)), .int nx]))) := ⟨_, rfl⟩
  rw [← ef_3] at hH
  have hM := hM.setR (i0 := i) hi (q := (lb_1, dn, v, th, ta, some (k 1), nx)) ef_3
  have hR := hR.fld (lb := lb_1) (by rw [hr_1]) (dn2 := dn) (th2 := th) (ta2 := ta) (nx2 := nx) (gf2 := v)
  have hK := hK.R (q := (lb_1, dn, v, th, ta, some (k 1), nx))
  have hfr := hfr.up (by rw [hM.ok (5 + 8 * i) (by omega)]; exact (by decide : (1 : Nat) ≠ 0)) ef_3
  have hI : RN G k own n T z i D dn th ta nx (sGf σ v) f_3 := ⟨_, hM, hR, hK⟩
  obtain ⟨D_4, hM, hR, hK⟩ := hI
  have n24_ := hR.1.1
  have hT3_ := hR.1.2
  have ok_ := hR.2.1
  obtain ⟨lb_5, hr_5, hlb_5⟩ := hR.2.2.1
  refine lv_aload_n hx hb dX3_end_5 rfl (lv_at hl 0 rfl) ?_
  refine lv_bipush (v := 32) hx hb dX3_end_6 (by decide) ?_
  have F_9 : f_3 (k (5 + 8 * i)) = some (.inr (3, [.ref (k (5 + 8 * i + 1)), .int lb_5, .int dn, .long (gfS (sGf σ v)), .int th, .int ta, .ref (k 1), .ref (k (5 + 8 * i + 5)), .ref (k (5 + 8 * i + 6)), .ref (k (5 + 8 * i + 7)), .int nx])) := by have w_ := hM.r0 i hi; rw [hr_5] at w_; exact w_
  refine m_goi hH (va_runV (As := [.int 32]) (rest := []) ⟨hx, hb, hml, hown, hts⟩ (c_X3_goOnAt l G k own n T z i hi D_4 dn th ta nx (sGf σ v) f_3 hM hR 32) (cwV 1 hts gX3_end_X3_goOnAt rfl rfl rfl (by decide +kernel) ⟨Nat.le_of_ble_eq_true rfl, Nat.le_of_ble_eq_true rfl⟩) (m_preV (ci := 3) hC hH F_9 rfl) rfl rfl hl.1 rfl (lv_room (Nat.le_of_ble_eq_true rfl)) dX3_end_8 ⟨Nat.le_of_ble_eq_true rfl, Nat.le_of_ble_eq_true rfl⟩) (fun r_6 rho_8 f_7 H locs hw hH => ?_)
  obtain ⟨hI, hfr1, hr_6⟩ := hw
  have hI : RN G k rho_8 n T z i D_4 dn th ta 32 (sGf σ v) f_7 := hI
  have hfr1 : frD own f_3 rho_8 f_7 := hfr1
  have hfr := hfr.trans hfr1
  try dsimp only at hr_6
  obtain ⟨D_10, hM, hR, hK1_10⟩ := hI
  have hK := hK.trans hK1_10
  have n24_ := hR.1.1
  have hT3_ := hR.1.2
  have ok_ := hR.2.1
  obtain ⟨lb_11, hr_11, hlb_11⟩ := hR.2.2.1
  exact m_iret (v := r_6) hx hb hr hlk hC hH rho_8 ⟨⟨_, hM, hR, hK⟩, hfr, by omega⟩ (Nat.le_of_ble_eq_true rfl) (Nat.le_of_ble_eq_true rfl) dX3_end_11
set_option maxHeartbeats 4000000 in
set_option maxRecDepth 100000 in
theorem c_X3_fail (l : Launch) (G : mG) (k : Nat → Nat) (own : tR) (n : Nat) (T z : Nat → Nat) (i : Nat) (hi : i < 3) (D : tD) (dn th ta nx : Int32) (σ : tS) (f : mF) (hM : CM G k own n z D f) (hR : RP n T (k 1) i dn th ta nx σ D) (a b : Int32) : Met l yX3_fail wsX3_fail ({ frames := 0, cells := 0, slots := 0, locals := 0 }) (va_Pc [.ref (k (5 + 8 * i)), .int a, .int b] (mW G f)) (va_Qv (fun (u : mS) => RN G k u.1 n T z i D dn a b nx σ u.2 ∧ frD own f u.1 u.2) (fun (u : mS) t => mW G u.2 t) (mA G)) 0 0 (mA G) := by
  refine mMet [.ref (k (5 + 8 * i)), .int a, .int b] (cc := cX3_fail) (maxL := 3) (ret := none) (by decide) rfl (Nat.le_of_ble_eq_true rfl) ?_
  intro p e s m below meth c ls hx hb hr hml hts hown hlk hnm hC hH hl
  have hl : lv_has ls 3 [(0, .ref (k (5 + 8 * i))), (1, .int a), (2, .int b)] := hl
  have hK : KP i D D := KP.rf
  have hfr : frD own f own f := frD.rf
  have n24_ := hR.1.1
  have hT3_ := hR.1.2
  have ok_ := hR.2.1
  obtain ⟨lb_1, hr_1, hlb_1⟩ := hR.2.2.1
  refine lv_aload_n hx hb dX3_fail_0 rfl (lv_at hl 0 rfl) ?_
  refine lv_iload_n hx hb dX3_fail_1 rfl (lv_at hl 1 rfl) ?_
  have F_2 : f (k (5 + 8 * i)) = some (.inr (3, [.ref (k (5 + 8 * i + 1)), .int lb_1, .int dn, .long (gfS σ), .int th, .int ta, .ref (k 1), .ref (k (5 + 8 * i + 5)), .ref (k (5 + 8 * i + 6)), .ref (k (5 + 8 * i + 7)), .int nx])) := by have w_ := hM.r0 i hi; rw [hr_1] at w_; exact w_
  refine m_put (ci := 3) (v := .int a) (C := RX3) (T := TX3) (N := 11) hx hb hC hH hts in_X3_fail_X3 tyX3 tyX3_ok nmX3 hown F_2 rfl 4 (by decide) (hts (.fieldLink RX3 52 "LazyState$Run" "thrown" "I") (by decide +kernel)) rfl rfl rfl (Nat.le_of_ble_eq_true rfl) dX3_fail_2 (fun H locs hH => ?_)
  have hH : mH G s (va_up f (k (5 + 8 * i)) (some (.inr (3, [.ref (k (5 + 8 * i + 1)), .int lb_1, .int dn, .long (gfS σ), .int a, .int ta, .ref (k 1), .ref (k (5 + 8 * i + 5)), .ref (k (5 + 8 * i + 6)), .ref (k (5 + 8 * i + 7)), .int nx])))) H locs := hH
  obtain ⟨f_3, ef_3⟩ : ∃ zz_ : mF, zz_ = va_up f (k (5 + 8 * i)) (some (.inr (3, [.ref (k (5 + 8 * i + 1)), .int lb_1, .int dn, .long (gfS σ), .int a, .int ta, .ref (k 1), .ref (k (5 + 8 * i + 5)), .ref (k (5 + 8 * i + 6)), .ref (k (5 + 8 * i + 7)), .int nx]))) := ⟨_, rfl⟩
  rw [← ef_3] at hH
  have hM := hM.setR (i0 := i) hi (q := (lb_1, dn, gfS σ, a, ta, some (k 1), nx)) ef_3
  have hR := hR.fld (lb := lb_1) (by rw [hr_1]) (dn2 := dn) (th2 := a) (ta2 := ta) (nx2 := nx) (gf2 := gfS σ)
  have hK := hK.R (q := (lb_1, dn, gfS σ, a, ta, some (k 1), nx))
  have hfr := hfr.up (by rw [hM.ok (5 + 8 * i) (by omega)]; exact (by decide : (1 : Nat) ≠ 0)) ef_3
  have hI : RN G k own n T z i D dn a ta nx σ f_3 := ⟨_, hM, hR, hK⟩
  obtain ⟨D_4, hM, hR, hK⟩ := hI
  have n24_ := hR.1.1
  have hT3_ := hR.1.2
  have ok_ := hR.2.1
  obtain ⟨lb_5, hr_5, hlb_5⟩ := hR.2.2.1
  refine lv_aload_n hx hb dX3_fail_5 rfl (lv_at hl 0 rfl) ?_
  refine lv_iload_n hx hb dX3_fail_6 rfl (lv_at hl 2 rfl) ?_
  have F_6 : f_3 (k (5 + 8 * i)) = some (.inr (3, [.ref (k (5 + 8 * i + 1)), .int lb_5, .int dn, .long (gfS σ), .int a, .int ta, .ref (k 1), .ref (k (5 + 8 * i + 5)), .ref (k (5 + 8 * i + 6)), .ref (k (5 + 8 * i + 7)), .int nx])) := by have w_ := hM.r0 i hi; rw [hr_5] at w_; exact w_
  refine m_put (ci := 3) (v := .int b) (C := RX3) (T := TX3) (N := 11) hx hb hC hH hts in_X3_fail_X3 tyX3 tyX3_ok nmX3 hown F_6 rfl 5 (by decide) (hts (.fieldLink RX3 18 "LazyState$Run" "thrownAt" "I") (by decide +kernel)) rfl rfl rfl (Nat.le_of_ble_eq_true rfl) dX3_fail_7 (fun H locs hH => ?_)
  have hH : mH G s (va_up f_3 (k (5 + 8 * i)) (some (.inr (3, [.ref (k (5 + 8 * i + 1)), .int lb_5, .int dn, .long (gfS σ), .int a, .int b, .ref (k 1), .ref (k (5 + 8 * i + 5)), .ref (k (5 + 8 * i + 6)), .ref (k (5 + 8 * i + 7)), .int nx])))) H locs := hH
  obtain ⟨f_7, ef_7⟩ : ∃ zz_ : mF, zz_ = va_up f_3 (k (5 + 8 * i)) (some (.inr (3, [.ref (k (5 + 8 * i + 1)), .int lb_5, .int dn, .long (gfS σ), .int a, .int b, .ref (k 1), .ref (k (5 + 8 * i + 5)), .ref (k (5 + 8 * i + 6)), .ref (k (5 + 8 * i + 7)), .int nx]))) := ⟨_, rfl⟩
  rw [← ef_7] at hH
  have hM := hM.setR (i0 := i) hi (q := (lb_5, dn, gfS σ, a, b, some (k 1), nx)) ef_7
  have hR := hR.fld (lb := lb_5) (by rw [hr_5]) (dn2 := dn) (th2 := a) (ta2 := b) (nx2 := nx) (gf2 := gfS σ)
  have hK := hK.R (q := (lb_5, dn, gfS σ, a, b, some (k 1), nx))
  have hfr := hfr.up (by rw [hM.ok (5 + 8 * i) (by omega)]; exact (by decide : (1 : Nat) ≠ 0)) ef_7
  have hI : RN G k own n T z i D dn a b nx σ f_7 := ⟨_, hM, hR, hK⟩
  obtain ⟨D_8, hM, hR, hK⟩ := hI
  have n24_ := hR.1.1
  have hT3_ := hR.1.2
  have ok_ := hR.2.1
  obtain ⟨lb_9, hr_9, hlb_9⟩ := hR.2.2.1
  exact m_vret hx hb hr hlk hC hH own ⟨⟨_, hM, hR, hK⟩, hfr⟩ (Nat.le_of_ble_eq_true rfl) (Nat.le_of_ble_eq_true rfl) dX3_fail_10
set_option maxHeartbeats 4000000 in
set_option maxRecDepth 100000 in
theorem c_X3_load (l : Launch) (G : mG) (k : Nat → Nat) (own : tR) (n : Nat) (T z : Nat → Nat) (i : Nat) (hi : i < 3) (D : tD) (dn th ta nx : Int32) (σ : tS) (f : mF) (hM : CM G k own n z D f) (hR : RP n T (k 1) i dn th ta nx σ D) (o : Int32) (ho : 0 ≤ o.toInt ∧ o.toInt < n) : Met l yX3_load wsX3_load ({ frames := 2, cells := 3 * ldn σ o.toNatClampNeg, slots := 29 * ldn σ o.toNatClampNeg, locals := 81 }) (va_Pc [.ref (k (5 + 8 * i)), .int o] (mW G f)) (va_Qv (fun (u : mS) => RN G k u.1 n T z i D dn th ta nx (sLd σ o.toNatClampNeg) u.2 ∧ frD own f u.1 u.2) (fun (u : mS) t => mW G u.2 t) (mA G)) (3 * ldn σ o.toNatClampNeg) (29 * ldn σ o.toNatClampNeg) (mA G) := by
  refine mMet [.ref (k (5 + 8 * i)), .int o] (cc := cX3_load) (maxL := 2) (ret := none) (by decide) rfl (Nat.le_of_ble_eq_true rfl) ?_
  intro p e s m below meth c ls hx hb hr hml hts hown hlk hnm hC hH hl
  have hl : lv_has ls 2 [(0, .ref (k (5 + 8 * i))), (1, .int o)] := hl
  have hK : KP i D D := KP.rf
  have hfr : frD own f own f := frD.rf
  have cl_o := ic_clN (rfl : o.toInt = _) (by omega)
  have n24_ := hR.1.1
  have hT3_ := hR.1.2
  have ok_ := hR.2.1
  obtain ⟨lb_1, hr_1, hlb_1⟩ := hR.2.2.1
  refine lv_aload_n hx hb dX3_load_0 rfl (lv_at hl 0 rfl) ?_
  have F_2 : f (k (5 + 8 * i)) = some (.inr (3, [.ref (k (5 + 8 * i + 1)), .int lb_1, .int dn, .long (gfS σ), .int th, .int ta, .ref (k 1), .ref (k (5 + 8 * i + 5)), .ref (k (5 + 8 * i + 6)), .ref (k (5 + 8 * i + 7)), .int nx])) := by have w_ := hM.r0 i hi; rw [hr_1] at w_; exact w_
  refine m_get (ci := 3) (v := .int lb_1) (C := RX3) (T := TX3) (N := 11) hx hb hC hH hts in_X3_load_X3 hown F_2 rfl 1 (by decide) (hts (.fieldLink RX3 42 "LazyState$Run" "loadedBits" "I") (by decide +kernel)) rfl dX3_load_1 ?_
  refine lv_iload_n hx hb dX3_load_4 rfl (lv_at hl 1 rfl) ?_
  refine m_goi hH (va_runSN (As := [.int lb_1, .int o]) (rest := []) ⟨hx, hb, hml, hown, hts⟩ (c_X5_bitOf l G f lb_1 o) ⟨va_cnB 2 hts gX3_load_X5_bitOf_n97 rfl rfl rfl hC.2.1.2.2.2.2.1 (hts (.initialized RX5) (by decide +kernel)) (by decide +kernel) ⟨Nat.le_of_ble_eq_true rfl, Nat.le_of_ble_eq_true rfl⟩, (hts (.static yX5_bitOf) (by decide +kernel)), trivial⟩ (m_preS hC hH) rfl rfl hl.1 rfl (lv_room (Nat.le_of_ble_eq_true rfl)) dX3_load_5 ⟨by show _ ≤ 3 * ldn σ o.toNatClampNeg; omega, by show _ ≤ 29 * ldn σ o.toNatClampNeg; omega⟩) (fun r_3 rho_5 f_4 H locs hw hH => ?_)
  obtain ⟨hu, hr_3⟩ := hw
  have hu : f_4 = f := hu
  rw [hu] at hH
  try dsimp only at hr_3
  have bq_ : r_3 = b2i (ldS σ o.toNatClampNeg) := by have w_ := bt_get (x := lb_1) (j := o.toNatClampNeg) (by have := ic_clN (rfl : o.toInt = _) (by omega); omega); rw [nI_ofC (by omega)] at w_; rw [hr_3, w_, hlb_1 o.toNatClampNeg (by have := ic_clN (rfl : o.toInt = _) (by omega); omega)]
  refine lv_iconst (v := 1) hx hb dX3_load_8 (by decide) ?_
  refine lv_icmp_ne (tgt := 13) hx hb dX3_load_9 (by decide) (fun c_6 => ?_) (fun c_6 => ?_)
  · skip
    have ic_6 : (r_3.toInt : Int) ≠ 1 := ic_ne rfl kI_1 c_6
    have lf_ : ldS σ o.toNatClampNeg = false := b2i_n1 (by rw [← bq_]; exact c_6)
    have ln_ := ldn_0 lf_
    refine lv_aload_n hx hb dX3_load_13 rfl (lv_at hl 0 rfl) ?_
    refine m_get (ci := 3) (v := .ref (k (5 + 8 * i + 5))) (C := RX3) (T := TX3) (N := 11) hx hb hC hH hts in_X3_load_X3 hown F_2 rfl 7 (by decide) (hts (.fieldLink RX3 24 "LazyState$Run" "copies" "[LLazyState$Body;") (by decide +kernel)) rfl dX3_load_14 ?_
    refine lv_iload_n hx hb dX3_load_17 rfl (lv_at hl 1 rfl) ?_
    have hg_7 := hM.r5 i hi
    refine m_aald hx hb hC hH 3 rfl hg_7 (vp_in_iff.mpr ⟨by omega, by omega⟩) dX3_load_18 ?_
    cases hq_8 : QD D (5 + 8 * i + 5) o.toNatClampNeg with
    | none =>
      refine lv_ifnonnullN hx hb dX3_load_19 ?_
      refine lv_aload_n hx hb dX3_load_22 rfl (lv_at hl 0 rfl) ?_
      refine m_get (ci := 3) (v := .ref (k (5 + 8 * i + 5))) (C := RX3) (T := TX3) (N := 11) hx hb hC hH hts in_X3_load_X3 hown F_2 rfl 7 (by decide) (hts (.fieldLink RX3 24 "LazyState$Run" "copies" "[LLazyState$Body;") (by decide +kernel)) rfl dX3_load_23 ?_
      refine lv_iload_n hx hb dX3_load_26 rfl (lv_at hl 1 rfl) ?_
      have hfro_ := hfr
      refine m_new (ci := 2) (fs := [.int 0, .null, .null, .int 0, .null]) hx hb hC hH hts in_X3_load_X2 tyX2 tyX2_ok hown (hts (.classLink RX3 22 RX2) (by decide +kernel)) (hts (.instantiable RX2 5) (by decide +kernel)) (hts (.initialized RX2) (by decide +kernel)) rfl (by decide) (by show _ ≤ 3 * ldn σ o.toNatClampNeg; omega) (by show _ ≤ 29 * ldn σ o.toNatClampNeg; omega) dX3_load_27 (fun q_9 H hlt_q_9 hge_q_9 hno_q_9 hH => ?_)
      obtain ⟨f_10, ef_10⟩ : ∃ zz_ : mF, zz_ = va_up f q_9 (some (.inr (2, [.int 0, .null, .null, .int 0, .null]))) := ⟨_, rfl⟩
      rw [← ef_10] at hH
      have hMo_ := hM
      have hM := hM.fresh hno_q_9 ef_10 (fun _ _ => rfl)
      have hfr := hfr.fresh hno_q_9 ef_10 (fun _ _ => rfl)
      have Fn_ : f_10 q_9 = some (.inr (2, [.int 0, .null, .null, .int 0, .null])) := by rw [ef_10]; exact va_up_self _ _ _
      refine lv_dup hx hb dX3_load_30 rfl ?_
      refine lv_aload_n hx hb dX3_load_31 rfl (lv_at hl 0 rfl) ?_
      have F_11 : f_10 (k (5 + 8 * i)) = some (.inr (3, [.ref (k (5 + 8 * i + 1)), .int lb_1, .int dn, .long (gfS σ), .int th, .int ta, .ref (k 1), .ref (k (5 + 8 * i + 5)), .ref (k (5 + 8 * i + 6)), .ref (k (5 + 8 * i + 7)), .int nx])) := by have w_ := hM.r0 i hi; rw [hr_1] at w_; exact w_
      refine m_get (ci := 3) (v := .ref (k 1)) (C := RX3) (T := TX3) (N := 11) hx hb hC hH hts in_X3_load_X3 hown F_11 rfl 6 (by decide) (hts (.fieldLink RX3 36 "LazyState$Run" "state" "[LLazyState$Body;") (by decide +kernel)) rfl dX3_load_32 ?_
      refine lv_iload_n hx hb dX3_load_35 rfl (lv_at hl 1 rfl) ?_
      have hg_12 := hM.c1
      refine m_aald hx hb hC hH 3 rfl hg_12 (vp_in_iff.mpr ⟨by omega, by omega⟩) dX3_load_36 ?_
      obtain ⟨ctso_13, so_13, boso_13, h1so_13, h2so_13, h3so_13, h4so_13, h5so_13⟩ : ∃ c_, obO T D o.toNatClampNeg c_ := hR.2.2.2.2.2.2.2.1 o.toNatClampNeg (by have := ic_clN (rfl : o.toInt = _) (by omega); omega)
      rw [h1so_13]
      have F_14 : f_10 so_13 = some (.inr (2, [.int (nI (yB boso_13)), .ref (caB boso_13), .ref (iaB boso_13), .int (siB boso_13), va_rf (bfB boso_13)])) := (hM.bf h2so_13).1
      have tI_14 : (nI (yB boso_13)).toInt = ((yB boso_13 : Nat) : Int) := nI_toInt (by rw [h4so_13]; have := hT3_ o.toNatClampNeg; omega)
      refine m_get (ci := 2) (v := .int (nI (yB boso_13))) (C := RX2) (T := TX2) (N := 5) hx hb hC hH hts in_X3_load_X2 hown F_14 rfl 0 (by decide) (hts (.fieldLink RX3 101 "LazyState$Body" "type" "I") (by decide +kernel)) rfl dX3_load_37 ?_
      have hyo_ : (nI (yB boso_13)).toInt = ((T o.toNatClampNeg : Nat) : Int) := (tI_14).trans (congrArg (fun x_ : Nat => (x_ : Int)) h4so_13)
      refine m_gov hH (va_runI (As := [.int (nI (yB boso_13))]) (rest := [.ref q_9, .int o, .ref (k (5 + 8 * i + 5))]) ⟨hx, hb, hml, hown, hts⟩ (c_X2_init l G f_10 q_9 (T o.toNatClampNeg) Fn_ (hT3_ _) (nI (yB boso_13)) hyo_) (cwI 1 hts gX3_load_X2_init rfl rfl rfl (hts (.initialized RX2) (by decide +kernel)) (hts (.methodLink RX3 104 yX2_init) (by decide +kernel)) (hts (.instanceMethod yX2_init) (by decide +kernel)) rfl (by decide +kernel) ⟨Nat.le_of_ble_eq_true rfl, Nat.le_of_ble_eq_true rfl⟩) (m_preS hC hH) rfl rfl hl.1 rfl (lv_room (Nat.le_of_ble_eq_true rfl)) dX3_load_40 ⟨by show _ ≤ 3 * ldn σ o.toNatClampNeg; omega, by show _ ≤ 29 * ldn σ o.toNatClampNeg; omega⟩) (fun rho_17 f_16 H locs hw hH => ?_)
      obtain ⟨ca_, ia_, gn_, B0_, B1_, B2_, B3_, B4_, B5_, B6_, B7_, hex_⟩ := hw
      have hex_ : ∀ (a : Nat) (e : va_E), a ≠ q_9 → f_10 a = some e → f_16 a = some e := hex_
      have B0_ : f_16 q_9 = some (.inr (2, [.int (nI (yB boso_13)), .ref ca_, .ref ia_, .int 0, .null])) := B0_
      obtain ⟨own_n, eo_⟩ : ∃ w_ : tR, w_ = va_up (va_up (va_up own ca_ (3, q_9)) ia_ (4, q_9)) q_9 (2, q_9) := ⟨_, rfl⟩
      have on_ : ∀ a e_, f_10 a = some e_ → a ≠ q_9 → own_n a = own a := fun a e_ h1 h2 => by rw [eo_, va_up_ne _ _ h2, va_up_ne _ _ (fun z_ => by rw [z_, B5_] at h1; cases h1), va_up_ne _ _ (fun z_ => by rw [z_, B4_] at h1; cases h1)]
      have hnq_ : ∀ a e_, f a = some e_ → a ≠ q_9 := fun a e_ h1 z_ => by rw [z_, hno_q_9] at h1; cases h1
      have hM : CM G k own_n n z D f_16 := hMo_.mono (fun a e_ h1 _ => ⟨hex_ a e_ (hnq_ a e_ h1) (upk h1 ef_10 (hnq_ a e_ h1)), on_ a e_ (upk h1 ef_10 (hnq_ a e_ h1)) (hnq_ a e_ h1)⟩)
      have oq_ : own_n q_9 = (2, q_9) := by rw [eo_]; exact va_up_self _ _ _
      have oc_ : own_n ca_ = (3, q_9) := by rw [eo_, va_up_ne _ _ (Nat.ne_of_gt B6_), va_up_ne _ _ (Nat.ne_of_lt B7_)]; exact va_up_self _ _ _
      have oi_ : own_n ia_ = (4, q_9) := by rw [eo_, va_up_ne _ _ (Nat.ne_of_gt (Nat.lt_trans B6_ B7_))]; exact va_up_self _ _ _
      have bn_ : BD D q_9 = none := by cases hq_ : BD D q_9 with | none => rfl | some b_ => exact absurd rfl (hnq_ _ _ (hMo_.p0 _ _ hq_))
      have hM := hM.newB (q := q_9) (b0 := ((i + 1, o.toNatClampNeg), (T o.toNatClampNeg), ca_, ia_, 0, none, (gn_, fun _ => 0))) (by rw [B0_]; exact (by rw [show (nI (yB boso_13)) = nI (T o.toNatClampNeg) from ic_inj hyo_ (by have := hT3_ o.toNatClampNeg; omega)]; rfl)) B1_ B2_ oq_ oc_ oi_
      have hfr : frD own f own_n f_16 := hfro_.trans (fun a e_ h1 => ⟨⟨e_, hex_ a e_ (hnq_ a e_ h1) (upk h1 ef_10 (hnq_ a e_ h1))⟩, on_ a e_ (upk h1 ef_10 (hnq_ a e_ h1)) (hnq_ a e_ h1), fun _ => hex_ a e_ (hnq_ a e_ h1) (upk h1 ef_10 (hnq_ a e_ h1))⟩)
      have hg_18 := hM.r5 i hi
      refine m_aast (ci := 2) hx hb hC hH 3 rfl hg_18 B0_ rfl (vp_in_iff.mpr ⟨by omega, by omega⟩) dX3_load_43 (fun H locs hH => ?_)
      obtain ⟨f_19, ef_19⟩ : ∃ zz_ : mF, zz_ = va_up f_16 (k (5 + 8 * i + 5)) (some (.inl (gk G 3, 24, .inr (.inr (.inr (.inr (va_up (QD (dB D q_9 ((i + 1, o.toNatClampNeg), (T o.toNatClampNeg), ca_, ia_, 0, none, (gn_, fun _ => 0))) (5 + 8 * i + 5)) o.toNatClampNeg (some q_9)))))))) := ⟨_, rfl⟩
      rw [← ef_19] at hH
      have hM := hM.setQ5 (i0 := i) hi ef_19
      have hfr := hfr.up (by rw [hM.ok (5 + 8 * i + 5) (by omega)]; exact (by decide : (1 : Nat) ≠ 0)) ef_19
      obtain ⟨D1_, eD1_⟩ : ∃ d_ : tD, d_ = (dQ (dB D q_9 ((i + 1, o.toNatClampNeg), (T o.toNatClampNeg), ca_, ia_, 0, none, (gn_, fun _ => 0))) (5 + 8 * i + 5) (va_up (QD D (5 + 8 * i + 5)) o.toNatClampNeg (some q_9))) := ⟨_, rfl⟩
      have hM : CM G k own_n n z D1_ f_19 := by rw [eD1_]; exact hM
      have q2_ : BD D1_ q_9 = some ((i + 1, o.toNatClampNeg), (T o.toNatClampNeg), ca_, ia_, 0, none, (gn_, fun _ => 0)) := by rw [eD1_]; exact va_up_self _ _ _
      have q1_ : QD D1_ (5 + 8 * i + 5) o.toNatClampNeg = some q_9 := by rw [eD1_]; show va_up (QD D) (5 + 8 * i + 5) _ (5 + 8 * i + 5) o.toNatClampNeg = _; rw [va_up_self, va_up_self]
      have hr1_ : rD D1_ i = (lb_1, dn, gfS σ, th, ta, some (k 1), nx) := by rw [eD1_]; exact hr_1
      refine lv_aload_n hx hb dX3_load_44 rfl (lv_at hl 0 rfl) ?_
      have F_20 : f_19 (k (5 + 8 * i)) = some (.inr (3, [.ref (k (5 + 8 * i + 1)), .int lb_1, .int dn, .long (gfS σ), .int th, .int ta, .ref (k 1), .ref (k (5 + 8 * i + 5)), .ref (k (5 + 8 * i + 6)), .ref (k (5 + 8 * i + 7)), .int nx])) := by have w_ := hM.r0 i hi; rw [hr1_] at w_; exact w_
      refine m_get (ci := 3) (v := .ref (k (5 + 8 * i + 5))) (C := RX3) (T := TX3) (N := 11) hx hb hC hH hts in_X3_load_X3 hown F_20 rfl 7 (by decide) (hts (.fieldLink RX3 24 "LazyState$Run" "copies" "[LLazyState$Body;") (by decide +kernel)) rfl dX3_load_45 ?_
      refine lv_iload_n hx hb dX3_load_48 rfl (lv_at hl 1 rfl) ?_
      have hg_21 := hM.r5 i hi
      refine m_aald hx hb hC hH 3 rfl hg_21 (vp_in_iff.mpr ⟨by omega, by omega⟩) dX3_load_49 ?_
      rw [q1_]
      refine lv_aload_n hx hb dX3_load_50 rfl (lv_at hl 0 rfl) ?_
      refine m_get (ci := 3) (v := .ref (k 1)) (C := RX3) (T := TX3) (N := 11) hx hb hC hH hts in_X3_load_X3 hown F_20 rfl 6 (by decide) (hts (.fieldLink RX3 36 "LazyState$Run" "state" "[LLazyState$Body;") (by decide +kernel)) rfl dX3_load_51 ?_
      refine lv_iload_n hx hb dX3_load_54 rfl (lv_at hl 1 rfl) ?_
      have hg_22 := hM.c1
      refine m_aald hx hb hC hH 3 rfl hg_22 (vp_in_iff.mpr ⟨by omega, by omega⟩) dX3_load_55 ?_
      obtain ⟨so_, bo_, h1_, h2_, h3_, h4_, h5_⟩ := (hR.2.2.2.2.2.2.2.2 o.toNatClampNeg (by omega)).2 lf_
      have h2_ : BD D1_ so_ = some bo_ := by rw [eD1_]; exact (va_up_ne _ _ (fun z_ => by rw [z_, bn_] at h2_; cases h2_)).trans h2_
      have h1_ : QD D1_ 1 o.toNatClampNeg = some so_ := by rw [eD1_, QD_n (by omega)]; exact h1_
      rw [h1_]
      have o1_ := hM.ob _ _ q2_
      have o2_ := hM.ob _ _ h2_
      have F_26 : f_19 q_9 = some (.inr (2, [.int (nI (yB ((i + 1, o.toNatClampNeg), (T o.toNatClampNeg), ca_, ia_, 0, none, (gn_, fun _ => 0)))), .ref (caB ((i + 1, o.toNatClampNeg), (T o.toNatClampNeg), ca_, ia_, 0, none, (gn_, fun _ => 0))), .ref (iaB ((i + 1, o.toNatClampNeg), (T o.toNatClampNeg), ca_, ia_, 0, none, (gn_, fun _ => 0))), .int (siB ((i + 1, o.toNatClampNeg), (T o.toNatClampNeg), ca_, ia_, 0, none, (gn_, fun _ => 0))), va_rf (bfB ((i + 1, o.toNatClampNeg), (T o.toNatClampNeg), ca_, ia_, 0, none, (gn_, fun _ => 0)))])) := (hM.bf q2_).1
      have tI_26 : (nI (yB ((i + 1, o.toNatClampNeg), (T o.toNatClampNeg), ca_, ia_, 0, none, (gn_, fun _ => 0)))).toInt = ((yB ((i + 1, o.toNatClampNeg), (T o.toNatClampNeg), ca_, ia_, 0, none, (gn_, fun _ => 0)) : Nat) : Int) := nI_toInt (by rw [show yB ((i + 1, o.toNatClampNeg), (T o.toNatClampNeg), ca_, ia_, 0, none, (gn_, fun _ => 0)) = T o.toNatClampNeg from (rfl : yB ((i + 1, o.toNatClampNeg), (T o.toNatClampNeg), ca_, ia_, 0, none, (gn_, fun _ => 0)) = T o.toNatClampNeg)]; have := hT3_ o.toNatClampNeg; omega)
      refine m_gov hH (va_runV (As := [.ref so_]) (rest := []) ⟨hx, hb, hml, hown, hts⟩ (c_X2_copyFrom l G f_19 q_9 ((i + 1, o.toNatClampNeg), (T o.toNatClampNeg), ca_, ia_, 0, none, (gn_, fun _ => 0)) (hM.bf q2_) (by rw [show yB ((i + 1, o.toNatClampNeg), (T o.toNatClampNeg), ca_, ia_, 0, none, (gn_, fun _ => 0)) = T o.toNatClampNeg from (rfl : yB ((i + 1, o.toNatClampNeg), (T o.toNatClampNeg), ca_, ia_, 0, none, (gn_, fun _ => 0)) = T o.toNatClampNeg)]; have := hT3_ o.toNatClampNeg; omega) so_ bo_ (hM.bf h2_) (by rw [h4_]; have := hT3_ o.toNatClampNeg; omega) (ow_ne o1_.1 o1_.2.1 (Or.inl (show (2 : Nat) ≠ 3 from by decide))) (ow_ne o1_.1 o1_.2.2 (Or.inl (show (2 : Nat) ≠ 4 from by decide))) (ow_ne o1_.2.1 o1_.2.2 (Or.inl (show (3 : Nat) ≠ 4 from by decide))) (ow_ne o2_.1 o1_.2.1 (Or.inl (show (2 : Nat) ≠ 3 from by decide))) (ow_ne o2_.2.2 o1_.2.1 (Or.inl (show (4 : Nat) ≠ 3 from by decide)))) (cwV 1 hts gX3_load_X2_copyFrom rfl rfl rfl (by decide +kernel) ⟨Nat.le_of_ble_eq_true rfl, Nat.le_of_ble_eq_true rfl⟩) (m_preV (ci := 2) hC hH F_26 rfl) rfl rfl hl.1 rfl (lv_room (Nat.le_of_ble_eq_true rfl)) dX3_load_56 ⟨by show _ ≤ 3 * ldn σ o.toNatClampNeg; omega, by show _ ≤ 29 * ldn σ o.toNatClampNeg; omega⟩) (fun rho_25 f_24 H locs hw hH => ?_)
      have eu_ : f_24 = va_up (va_up f_19 (caB ((i + 1, o.toNatClampNeg), (T o.toNatClampNeg), ca_, ia_, 0, none, (gn_, fun _ => 0))) (some (.inl (gk G 1, 8, .inr (.inl ((va_cpy (cB bo_).1 (cB ((i + 1, o.toNatClampNeg), (T o.toNatClampNeg), ca_, ia_, 0, none, (gn_, fun _ => 0))).1 0 0 8, va_cpy (cB bo_).2 (cB ((i + 1, o.toNatClampNeg), (T o.toNatClampNeg), ca_, ia_, 0, none, (gn_, fun _ => 0))).2 0 0 16).1)))))) (iaB ((i + 1, o.toNatClampNeg), (T o.toNatClampNeg), ca_, ia_, 0, none, (gn_, fun _ => 0))) (some (.inl (gk G 0, 16, .inl ((va_cpy (cB bo_).1 (cB ((i + 1, o.toNatClampNeg), (T o.toNatClampNeg), ca_, ia_, 0, none, (gn_, fun _ => 0))).1 0 0 8, va_cpy (cB bo_).2 (cB ((i + 1, o.toNatClampNeg), (T o.toNatClampNeg), ca_, ia_, 0, none, (gn_, fun _ => 0))).2 0 0 16).2)))) := hw
      have hM := hM.setPc (a0 := q_9) (b0 := ((i + 1, o.toNatClampNeg), (T o.toNatClampNeg), ca_, ia_, 0, none, (gn_, fun _ => 0))) q2_ (g := (va_cpy (cB bo_).1 (cB ((i + 1, o.toNatClampNeg), (T o.toNatClampNeg), ca_, ia_, 0, none, (gn_, fun _ => 0))).1 0 0 8, va_cpy (cB bo_).2 (cB ((i + 1, o.toNatClampNeg), (T o.toNatClampNeg), ca_, ia_, 0, none, (gn_, fun _ => 0))).2 0 0 16).1) rfl
      have hM := hM.setPi (a0 := q_9) (b0 := stB ((i + 1, o.toNatClampNeg), (T o.toNatClampNeg), ca_, ia_, 0, none, (gn_, fun _ => 0)) ((va_cpy (cB bo_).1 (cB ((i + 1, o.toNatClampNeg), (T o.toNatClampNeg), ca_, ia_, 0, none, (gn_, fun _ => 0))).1 0 0 8, va_cpy (cB bo_).2 (cB ((i + 1, o.toNatClampNeg), (T o.toNatClampNeg), ca_, ia_, 0, none, (gn_, fun _ => 0))).2 0 0 16).1, (cB ((i + 1, o.toNatClampNeg), (T o.toNatClampNeg), ca_, ia_, 0, none, (gn_, fun _ => 0))).2)) (va_up_self _ _ _) (g := (va_cpy (cB bo_).1 (cB ((i + 1, o.toNatClampNeg), (T o.toNatClampNeg), ca_, ia_, 0, none, (gn_, fun _ => 0))).1 0 0 8, va_cpy (cB bo_).2 (cB ((i + 1, o.toNatClampNeg), (T o.toNatClampNeg), ca_, ia_, 0, none, (gn_, fun _ => 0))).2 0 0 16).2) eu_
      have hfr := (hfr.up (x := caB ((i + 1, o.toNatClampNeg), (T o.toNatClampNeg), ca_, ia_, 0, none, (gn_, fun _ => 0))) (e := .inl (gk G 1, 8, .inr (.inl ((va_cpy (cB bo_).1 (cB ((i + 1, o.toNatClampNeg), (T o.toNatClampNeg), ca_, ia_, 0, none, (gn_, fun _ => 0))).1 0 0 8, va_cpy (cB bo_).2 (cB ((i + 1, o.toNatClampNeg), (T o.toNatClampNeg), ca_, ia_, 0, none, (gn_, fun _ => 0))).2 0 0 16).1)))) (by rw [o1_.2.1]; exact (by decide : (3 : Nat) ≠ 0)) rfl).up (x := iaB ((i + 1, o.toNatClampNeg), (T o.toNatClampNeg), ca_, ia_, 0, none, (gn_, fun _ => 0))) (by rw [o1_.2.2]; exact (by decide : (4 : Nat) ≠ 0)) eu_
      obtain ⟨D2_, eD2_⟩ : ∃ d_ : tD, d_ = dB (dB D1_ q_9 (stB ((i + 1, o.toNatClampNeg), (T o.toNatClampNeg), ca_, ia_, 0, none, (gn_, fun _ => 0)) ((va_cpy (cB bo_).1 (cB ((i + 1, o.toNatClampNeg), (T o.toNatClampNeg), ca_, ia_, 0, none, (gn_, fun _ => 0))).1 0 0 8, va_cpy (cB bo_).2 (cB ((i + 1, o.toNatClampNeg), (T o.toNatClampNeg), ca_, ia_, 0, none, (gn_, fun _ => 0))).2 0 0 16).1, (cB ((i + 1, o.toNatClampNeg), (T o.toNatClampNeg), ca_, ia_, 0, none, (gn_, fun _ => 0))).2))) q_9 (stB (stB ((i + 1, o.toNatClampNeg), (T o.toNatClampNeg), ca_, ia_, 0, none, (gn_, fun _ => 0)) ((va_cpy (cB bo_).1 (cB ((i + 1, o.toNatClampNeg), (T o.toNatClampNeg), ca_, ia_, 0, none, (gn_, fun _ => 0))).1 0 0 8, va_cpy (cB bo_).2 (cB ((i + 1, o.toNatClampNeg), (T o.toNatClampNeg), ca_, ia_, 0, none, (gn_, fun _ => 0))).2 0 0 16).1, (cB ((i + 1, o.toNatClampNeg), (T o.toNatClampNeg), ca_, ia_, 0, none, (gn_, fun _ => 0))).2)) ((cB (stB ((i + 1, o.toNatClampNeg), (T o.toNatClampNeg), ca_, ia_, 0, none, (gn_, fun _ => 0)) ((va_cpy (cB bo_).1 (cB ((i + 1, o.toNatClampNeg), (T o.toNatClampNeg), ca_, ia_, 0, none, (gn_, fun _ => 0))).1 0 0 8, va_cpy (cB bo_).2 (cB ((i + 1, o.toNatClampNeg), (T o.toNatClampNeg), ca_, ia_, 0, none, (gn_, fun _ => 0))).2 0 0 16).1, (cB ((i + 1, o.toNatClampNeg), (T o.toNatClampNeg), ca_, ia_, 0, none, (gn_, fun _ => 0))).2))).1, (va_cpy (cB bo_).1 (cB ((i + 1, o.toNatClampNeg), (T o.toNatClampNeg), ca_, ia_, 0, none, (gn_, fun _ => 0))).1 0 0 8, va_cpy (cB bo_).2 (cB ((i + 1, o.toNatClampNeg), (T o.toNatClampNeg), ca_, ia_, 0, none, (gn_, fun _ => 0))).2 0 0 16).2)) := ⟨_, rfl⟩
      have hM : CM G k own_n n z D2_ f_24 := by rw [eD2_]; exact hM
      have b2_ : BD D2_ q_9 = some (stB ((i + 1, o.toNatClampNeg), (T o.toNatClampNeg), ca_, ia_, 0, none, (gn_, fun _ => 0)) (va_cpy (cB bo_).1 (cB ((i + 1, o.toNatClampNeg), (T o.toNatClampNeg), ca_, ia_, 0, none, (gn_, fun _ => 0))).1 0 0 8, va_cpy (cB bo_).2 (cB ((i + 1, o.toNatClampNeg), (T o.toNatClampNeg), ca_, ia_, 0, none, (gn_, fun _ => 0))).2 0 0 16)) := by rw [eD2_]; exact va_up_self _ _ _
      have bx2_ : ∀ x_ y_, x_ ≠ q_9 → BD D1_ x_ = some y_ → BD D2_ x_ = some y_ := fun x_ y_ hx_ hy_ => by rw [eD2_]; exact (va_up_ne _ _ hx_).trans ((va_up_ne _ _ hx_).trans hy_)
      have ec2_ : eqB (T o.toNatClampNeg) (va_cpy (cB bo_).1 (cB ((i + 1, o.toNatClampNeg), (T o.toNatClampNeg), ca_, ia_, 0, none, (gn_, fun _ => 0))).1 0 0 8, va_cpy (cB bo_).2 (cB ((i + 1, o.toNatClampNeg), (T o.toNatClampNeg), ca_, ia_, 0, none, (gn_, fun _ => 0))).2 0 0 16) (bdS σ o.toNatClampNeg) := eqB.cpy.tr h5_
      have rr_ : rD D2_ i = (lb_1, dn, gfS σ, th, ta, some (k 1), nx) := by rw [eD2_]; exact hr1_
      refine lv_aload_n hx hb dX3_load_59 rfl (lv_at hl 0 rfl) ?_
      refine lv_dup hx hb dX3_load_60 rfl ?_
      have F_27 : f_24 (k (5 + 8 * i)) = some (.inr (3, [.ref (k (5 + 8 * i + 1)), .int lb_1, .int dn, .long (gfS σ), .int th, .int ta, .ref (k 1), .ref (k (5 + 8 * i + 5)), .ref (k (5 + 8 * i + 6)), .ref (k (5 + 8 * i + 7)), .int nx])) := by have w_ := hM.r0 i hi; rw [rr_] at w_; exact w_
      refine m_get (ci := 3) (v := .int lb_1) (C := RX3) (T := TX3) (N := 11) hx hb hC hH hts in_X3_load_X3 hown F_27 rfl 1 (by decide) (hts (.fieldLink RX3 42 "LazyState$Run" "loadedBits" "I") (by decide +kernel)) rfl dX3_load_61 ?_
      refine lv_iconst (v := 1) hx hb dX3_load_64 (by decide) ?_
      refine lv_iload_n hx hb dX3_load_65 rfl (lv_at hl 1 rfl) ?_
      refine lv_ishl hx hb dX3_load_66 ?_
      refine lv_topi (fun x_28 ex_28 => ?_)
      refine lv_ior hx hb dX3_load_67 ?_
      refine lv_topi (fun x_29 ex_29 => ?_)
      refine m_put (ci := 3) (v := .int x_29) (C := RX3) (T := TX3) (N := 11) hx hb hC hH hts in_X3_load_X3 tyX3 tyX3_ok nmX3 hown F_27 rfl 1 (by decide) (hts (.fieldLink RX3 42 "LazyState$Run" "loadedBits" "I") (by decide +kernel)) rfl rfl rfl (Nat.le_of_ble_eq_true rfl) dX3_load_68 (fun H locs hH => ?_)
      have hH : mH G s (va_up f_24 (k (5 + 8 * i)) (some (.inr (3, [.ref (k (5 + 8 * i + 1)), .int x_29, .int dn, .long (gfS σ), .int th, .int ta, .ref (k 1), .ref (k (5 + 8 * i + 5)), .ref (k (5 + 8 * i + 6)), .ref (k (5 + 8 * i + 7)), .int nx])))) H locs := hH
      obtain ⟨f_30, ef_30⟩ : ∃ zz_ : mF, zz_ = va_up f_24 (k (5 + 8 * i)) (some (.inr (3, [.ref (k (5 + 8 * i + 1)), .int x_29, .int dn, .long (gfS σ), .int th, .int ta, .ref (k 1), .ref (k (5 + 8 * i + 5)), .ref (k (5 + 8 * i + 6)), .ref (k (5 + 8 * i + 7)), .int nx]))) := ⟨_, rfl⟩
      rw [← ef_30] at hH
      have ov_ : x_29 = (lb_1 ||| ((1 : Int32) <<< (nI o.toNatClampNeg &&& 31))) := by rw [ex_29, ex_28, nI_ofC (by omega)]
      rw [ov_] at ef_30
      have hM := hM.setR (i0 := i) hi (q := ((lb_1 ||| ((1 : Int32) <<< (nI o.toNatClampNeg &&& 31))), dn, gfS σ, th, ta, some (k 1), nx)) ef_30
      have hfr := hfr.up (by rw [hM.ok (5 + 8 * i) (by omega)]; exact (by decide : (1 : Nat) ≠ 0)) ef_30
      have hB3_ : ∀ x_ y_, BD D x_ = some y_ → gB y_ ≠ (i + 1, o.toNatClampNeg) → BD D2_ x_ = some y_ := fun x_ y_ hy_ hg_ => bx2_ x_ y_ (fun z_ => by rw [z_, bn_] at hy_; cases hy_) (by rw [eD1_]; exact (va_up_ne _ _ (fun z_ => by rw [z_, bn_] at hy_; cases hy_)).trans hy_)
      have hQ3_ : QD D2_ = va_up (QD D) (5 + 8 * i + 5) (va_up (QD D (5 + 8 * i + 5)) o.toNatClampNeg (some q_9)) := by rw [eD2_, eD1_]; rfl
      have hR := hR.ld (D2 := dR D2_ i ((lb_1 ||| ((1 : Int32) <<< (nI o.toNatClampNeg &&& 31))), dn, gfS σ, th, ta, some (k 1), nx)) (o := o.toNatClampNeg) (a := q_9) (b := stB ((i + 1, o.toNatClampNeg), (T o.toNatClampNeg), ca_, ia_, 0, none, (gn_, fun _ => 0)) (va_cpy (cB bo_).1 (cB ((i + 1, o.toNatClampNeg), (T o.toNatClampNeg), ca_, ia_, 0, none, (gn_, fun _ => 0))).1 0 0 8, va_cpy (cB bo_).2 (cB ((i + 1, o.toNatClampNeg), (T o.toNatClampNeg), ca_, ia_, 0, none, (gn_, fun _ => 0))).2 0 0 16)) (by omega) hr_1 b2_ (rfl : gB ((i + 1, o.toNatClampNeg), (T o.toNatClampNeg), ca_, ia_, 0, none, (gn_, fun _ => 0)) = (i + 1, o.toNatClampNeg)) (rfl : yB ((i + 1, o.toNatClampNeg), (T o.toNatClampNeg), ca_, ia_, 0, none, (gn_, fun _ => 0)) = T o.toNatClampNeg) ec2_ hQ3_ hB3_ (va_up_self _ _ _) (by show eD D2_ i = _; rw [eD2_, eD1_]; rfl) (by show ID D2_ = _; rw [eD2_, eD1_]; rfl) (by show JD D2_ = _; rw [eD2_, eD1_]; rfl)
      have hK : KP i D (dR D2_ i ((lb_1 ||| ((1 : Int32) <<< (nI o.toNatClampNeg &&& 31))), dn, gfS σ, th, ta, some (k 1), nx)) := by rw [eD2_, eD1_]; exact (((((hK.Bn bn_).Q5 (o := o.toNatClampNeg) (a := q_9) (Or.inl hq_8)).B (by exact va_up_self _ _ _) rfl).B (va_up_self _ _ _) rfl)).R
      exact m_vret hx hb hr hlk hC hH own_n ⟨⟨_, hM, hR, hK⟩, hfr⟩ (by omega) (by omega) dX3_load_71
    | some q_8 =>
      refine lv_ifnonnull (tgt := 44) hx hb dX3_load_19 (by decide) ?_
      obtain ⟨-, cc_, cb_, cc2_, q1_, q2_, q3_, q4_, -⟩ := (hR.2.2.2.2.2.2.1 o.toNatClampNeg (by omega)).resolve_left (by rw [hq_8]; simp)
      have ez_ : cb_ = q_8 := Option.some.inj (q1_.symm.trans hq_8)
      subst ez_
      have hcp_ : QD D (5 + 8 * i + 5) o.toNatClampNeg = none ∨ QD D (5 + 8 * i + 5) o.toNatClampNeg = some cb_ := Or.inr q1_
      refine lv_aload_n hx hb dX3_load_44 rfl (lv_at hl 0 rfl) ?_
      refine m_get (ci := 3) (v := .ref (k (5 + 8 * i + 5))) (C := RX3) (T := TX3) (N := 11) hx hb hC hH hts in_X3_load_X3 hown F_2 rfl 7 (by decide) (hts (.fieldLink RX3 24 "LazyState$Run" "copies" "[LLazyState$Body;") (by decide +kernel)) rfl dX3_load_45 ?_
      refine lv_iload_n hx hb dX3_load_48 rfl (lv_at hl 1 rfl) ?_
      have hg_31 := hM.r5 i hi
      refine m_aald hx hb hC hH 3 rfl hg_31 (vp_in_iff.mpr ⟨by omega, by omega⟩) dX3_load_49 ?_
      rw [q1_]
      refine lv_aload_n hx hb dX3_load_50 rfl (lv_at hl 0 rfl) ?_
      refine m_get (ci := 3) (v := .ref (k 1)) (C := RX3) (T := TX3) (N := 11) hx hb hC hH hts in_X3_load_X3 hown F_2 rfl 6 (by decide) (hts (.fieldLink RX3 36 "LazyState$Run" "state" "[LLazyState$Body;") (by decide +kernel)) rfl dX3_load_51 ?_
      refine lv_iload_n hx hb dX3_load_54 rfl (lv_at hl 1 rfl) ?_
      have hg_32 := hM.c1
      refine m_aald hx hb hC hH 3 rfl hg_32 (vp_in_iff.mpr ⟨by omega, by omega⟩) dX3_load_55 ?_
      obtain ⟨so_, bo_, h1_, h2_, h3_, h4_, h5_⟩ := (hR.2.2.2.2.2.2.2.2 o.toNatClampNeg (by omega)).2 lf_
      rw [h1_]
      have o1_ := hM.ob _ _ q2_
      have o2_ := hM.ob _ _ h2_
      have F_36 : f cb_ = some (.inr (2, [.int (nI (yB cc2_)), .ref (caB cc2_), .ref (iaB cc2_), .int (siB cc2_), va_rf (bfB cc2_)])) := (hM.bf q2_).1
      have tI_36 : (nI (yB cc2_)).toInt = ((yB cc2_ : Nat) : Int) := nI_toInt (by rw [show yB cc2_ = T o.toNatClampNeg from q4_]; have := hT3_ o.toNatClampNeg; omega)
      refine m_gov hH (va_runV (As := [.ref so_]) (rest := []) ⟨hx, hb, hml, hown, hts⟩ (c_X2_copyFrom l G f cb_ cc2_ (hM.bf q2_) (by rw [show yB cc2_ = T o.toNatClampNeg from q4_]; have := hT3_ o.toNatClampNeg; omega) so_ bo_ (hM.bf h2_) (by rw [h4_]; have := hT3_ o.toNatClampNeg; omega) (ow_ne o1_.1 o1_.2.1 (Or.inl (show (2 : Nat) ≠ 3 from by decide))) (ow_ne o1_.1 o1_.2.2 (Or.inl (show (2 : Nat) ≠ 4 from by decide))) (ow_ne o1_.2.1 o1_.2.2 (Or.inl (show (3 : Nat) ≠ 4 from by decide))) (ow_ne o2_.1 o1_.2.1 (Or.inl (show (2 : Nat) ≠ 3 from by decide))) (ow_ne o2_.2.2 o1_.2.1 (Or.inl (show (4 : Nat) ≠ 3 from by decide)))) (cwV 1 hts gX3_load_X2_copyFrom rfl rfl rfl (by decide +kernel) ⟨Nat.le_of_ble_eq_true rfl, Nat.le_of_ble_eq_true rfl⟩) (m_preV (ci := 2) hC hH F_36 rfl) rfl rfl hl.1 rfl (lv_room (Nat.le_of_ble_eq_true rfl)) dX3_load_56 ⟨by show _ ≤ 3 * ldn σ o.toNatClampNeg; omega, by show _ ≤ 29 * ldn σ o.toNatClampNeg; omega⟩) (fun rho_35 f_34 H locs hw hH => ?_)
      have eu_ : f_34 = va_up (va_up f (caB cc2_) (some (.inl (gk G 1, 8, .inr (.inl ((va_cpy (cB bo_).1 (cB cc2_).1 0 0 8, va_cpy (cB bo_).2 (cB cc2_).2 0 0 16).1)))))) (iaB cc2_) (some (.inl (gk G 0, 16, .inl ((va_cpy (cB bo_).1 (cB cc2_).1 0 0 8, va_cpy (cB bo_).2 (cB cc2_).2 0 0 16).2)))) := hw
      have hM := hM.setPc (a0 := cb_) (b0 := cc2_) q2_ (g := (va_cpy (cB bo_).1 (cB cc2_).1 0 0 8, va_cpy (cB bo_).2 (cB cc2_).2 0 0 16).1) rfl
      have hM := hM.setPi (a0 := cb_) (b0 := stB cc2_ ((va_cpy (cB bo_).1 (cB cc2_).1 0 0 8, va_cpy (cB bo_).2 (cB cc2_).2 0 0 16).1, (cB cc2_).2)) (va_up_self _ _ _) (g := (va_cpy (cB bo_).1 (cB cc2_).1 0 0 8, va_cpy (cB bo_).2 (cB cc2_).2 0 0 16).2) eu_
      have hfr := (hfr.up (x := caB cc2_) (e := .inl (gk G 1, 8, .inr (.inl ((va_cpy (cB bo_).1 (cB cc2_).1 0 0 8, va_cpy (cB bo_).2 (cB cc2_).2 0 0 16).1)))) (by rw [o1_.2.1]; exact (by decide : (3 : Nat) ≠ 0)) rfl).up (x := iaB cc2_) (by rw [o1_.2.2]; exact (by decide : (4 : Nat) ≠ 0)) eu_
      obtain ⟨D2_, eD2_⟩ : ∃ d_ : tD, d_ = dB (dB D cb_ (stB cc2_ ((va_cpy (cB bo_).1 (cB cc2_).1 0 0 8, va_cpy (cB bo_).2 (cB cc2_).2 0 0 16).1, (cB cc2_).2))) cb_ (stB (stB cc2_ ((va_cpy (cB bo_).1 (cB cc2_).1 0 0 8, va_cpy (cB bo_).2 (cB cc2_).2 0 0 16).1, (cB cc2_).2)) ((cB (stB cc2_ ((va_cpy (cB bo_).1 (cB cc2_).1 0 0 8, va_cpy (cB bo_).2 (cB cc2_).2 0 0 16).1, (cB cc2_).2))).1, (va_cpy (cB bo_).1 (cB cc2_).1 0 0 8, va_cpy (cB bo_).2 (cB cc2_).2 0 0 16).2)) := ⟨_, rfl⟩
      have hM : CM G k own n z D2_ f_34 := by rw [eD2_]; exact hM
      have b2_ : BD D2_ cb_ = some (stB cc2_ (va_cpy (cB bo_).1 (cB cc2_).1 0 0 8, va_cpy (cB bo_).2 (cB cc2_).2 0 0 16)) := by rw [eD2_]; exact va_up_self _ _ _
      have bx2_ : ∀ x_ y_, x_ ≠ cb_ → BD D x_ = some y_ → BD D2_ x_ = some y_ := fun x_ y_ hx_ hy_ => by rw [eD2_]; exact (va_up_ne _ _ hx_).trans ((va_up_ne _ _ hx_).trans hy_)
      have ec2_ : eqB (T o.toNatClampNeg) (va_cpy (cB bo_).1 (cB cc2_).1 0 0 8, va_cpy (cB bo_).2 (cB cc2_).2 0 0 16) (bdS σ o.toNatClampNeg) := eqB.cpy.tr h5_
      have rr_ : rD D2_ i = (lb_1, dn, gfS σ, th, ta, some (k 1), nx) := by rw [eD2_]; exact hr_1
      refine lv_aload_n hx hb dX3_load_59 rfl (lv_at hl 0 rfl) ?_
      refine lv_dup hx hb dX3_load_60 rfl ?_
      have F_37 : f_34 (k (5 + 8 * i)) = some (.inr (3, [.ref (k (5 + 8 * i + 1)), .int lb_1, .int dn, .long (gfS σ), .int th, .int ta, .ref (k 1), .ref (k (5 + 8 * i + 5)), .ref (k (5 + 8 * i + 6)), .ref (k (5 + 8 * i + 7)), .int nx])) := by have w_ := hM.r0 i hi; rw [rr_] at w_; exact w_
      refine m_get (ci := 3) (v := .int lb_1) (C := RX3) (T := TX3) (N := 11) hx hb hC hH hts in_X3_load_X3 hown F_37 rfl 1 (by decide) (hts (.fieldLink RX3 42 "LazyState$Run" "loadedBits" "I") (by decide +kernel)) rfl dX3_load_61 ?_
      refine lv_iconst (v := 1) hx hb dX3_load_64 (by decide) ?_
      refine lv_iload_n hx hb dX3_load_65 rfl (lv_at hl 1 rfl) ?_
      refine lv_ishl hx hb dX3_load_66 ?_
      refine lv_topi (fun x_38 ex_38 => ?_)
      refine lv_ior hx hb dX3_load_67 ?_
      refine lv_topi (fun x_39 ex_39 => ?_)
      refine m_put (ci := 3) (v := .int x_39) (C := RX3) (T := TX3) (N := 11) hx hb hC hH hts in_X3_load_X3 tyX3 tyX3_ok nmX3 hown F_37 rfl 1 (by decide) (hts (.fieldLink RX3 42 "LazyState$Run" "loadedBits" "I") (by decide +kernel)) rfl rfl rfl (Nat.le_of_ble_eq_true rfl) dX3_load_68 (fun H locs hH => ?_)
      have hH : mH G s (va_up f_34 (k (5 + 8 * i)) (some (.inr (3, [.ref (k (5 + 8 * i + 1)), .int x_39, .int dn, .long (gfS σ), .int th, .int ta, .ref (k 1), .ref (k (5 + 8 * i + 5)), .ref (k (5 + 8 * i + 6)), .ref (k (5 + 8 * i + 7)), .int nx])))) H locs := hH
      obtain ⟨f_40, ef_40⟩ : ∃ zz_ : mF, zz_ = va_up f_34 (k (5 + 8 * i)) (some (.inr (3, [.ref (k (5 + 8 * i + 1)), .int x_39, .int dn, .long (gfS σ), .int th, .int ta, .ref (k 1), .ref (k (5 + 8 * i + 5)), .ref (k (5 + 8 * i + 6)), .ref (k (5 + 8 * i + 7)), .int nx]))) := ⟨_, rfl⟩
      rw [← ef_40] at hH
      have ov_ : x_39 = (lb_1 ||| ((1 : Int32) <<< (nI o.toNatClampNeg &&& 31))) := by rw [ex_39, ex_38, nI_ofC (by omega)]
      rw [ov_] at ef_40
      have hM := hM.setR (i0 := i) hi (q := ((lb_1 ||| ((1 : Int32) <<< (nI o.toNatClampNeg &&& 31))), dn, gfS σ, th, ta, some (k 1), nx)) ef_40
      have hfr := hfr.up (by rw [hM.ok (5 + 8 * i) (by omega)]; exact (by decide : (1 : Nat) ≠ 0)) ef_40
      have hB3_ : ∀ x_ y_, BD D x_ = some y_ → gB y_ ≠ (i + 1, o.toNatClampNeg) → BD D2_ x_ = some y_ := fun x_ y_ hy_ hg_ => bx2_ x_ y_ (fun z_ => by rw [z_, q2_] at hy_; cases hy_; exact hg_ q3_) hy_
      have hQ3_ : QD D2_ = va_up (QD D) (5 + 8 * i + 5) (va_up (QD D (5 + 8 * i + 5)) o.toNatClampNeg (some cb_)) := by rw [eD2_]; show QD D = _; rw [show va_up (QD D (5 + 8 * i + 5)) o.toNatClampNeg (some cb_) = QD D (5 + 8 * i + 5) from by rw [← q1_]; exact va_up_id _ _]; exact (va_up_id _ _).symm
      have hR := hR.ld (D2 := dR D2_ i ((lb_1 ||| ((1 : Int32) <<< (nI o.toNatClampNeg &&& 31))), dn, gfS σ, th, ta, some (k 1), nx)) (o := o.toNatClampNeg) (a := cb_) (b := stB cc2_ (va_cpy (cB bo_).1 (cB cc2_).1 0 0 8, va_cpy (cB bo_).2 (cB cc2_).2 0 0 16)) (by omega) hr_1 b2_ q3_ q4_ ec2_ hQ3_ hB3_ (va_up_self _ _ _) (by show eD D2_ i = _; rw [eD2_]; rfl) (by show ID D2_ = _; rw [eD2_]; rfl) (by show JD D2_ = _; rw [eD2_]; rfl)
      have hK : KP i D (dR D2_ i ((lb_1 ||| ((1 : Int32) <<< (nI o.toNatClampNeg &&& 31))), dn, gfS σ, th, ta, some (k 1), nx)) := by rw [eD2_]; exact (((hK.B q2_ (by rw [q3_])).B (va_up_self _ _ _) (by show (gB cc2_).1 = i + 1; rw [q3_]))).R
      exact m_vret hx hb hr hlk hC hH own ⟨⟨_, hM, hR, hK⟩, hfr⟩ (by omega) (by omega) dX3_load_71
  · skip
    have ic_6 : (r_3.toInt : Int) = 1 := ic_eq rfl kI_1 c_6
    have lt_ : ldS σ o.toNatClampNeg = true := b2i_1 (by rw [← bq_]; exact Int32.toInt_inj.mp ic_6)
    exact m_vret hx hb hr hlk hC hH own (by rw [sLd_id lt_]; exact ⟨⟨_, hM, hR, hK⟩, hfr⟩) (by omega) (by omega) dX3_load_12
