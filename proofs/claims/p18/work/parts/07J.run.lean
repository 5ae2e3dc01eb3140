set_option maxHeartbeats 4000000 in
set_option maxRecDepth 100000 in
theorem c_X3_perform_9 (l : Launch) (G : mG) (k : Nat → Nat) (own : tR) (n : Nat) (T z : Nat → Nat) (i : Nat) (hi : i < 3) (D : tD) (dn th ta nx : Int32) (σ : tS) (f : mF) (hM : CM G k own n z D f) (hR : RP n T (k 1) i dn th ta nx σ D) (q : Nat) (kd aa : Int32) (bb : Int64) (cc dd ee : Int32) (hq : AD D q = some (kd, aa, bb, cc, dd, ee)) (pp : Nat) (hnx : nx = nI (pp + 1)) (hk_ : kd = nI 9) (h0_ : 0 ≤ aa.toInt ∧ aa.toInt ≤ 3) (h1_ : 0 ≤ bb.toInt ∧ bb.toInt ≤ 7) (h2_ : 0 ≤ cc.toInt ∧ cc.toInt ≤ 3) (h3_ : 0 ≤ dd.toInt ∧ dd.toInt ≤ 3) : Met l yX3_perform wsX3_perform ({ frames := 5, cells := 3 * (nld (prf T (kd, aa, bb, cc, dd, ee) σ).2 - nld σ), slots := 29 * (nld (prf T (kd, aa, bb, cc, dd, ee) σ).2 - nld σ), locals := 155 }) (va_Pc [.ref (k (5 + 8 * i)), .ref q] (mW G f)) (va_Qi (fun (r : Int32) (u : mS) => RN G k u.1 n T z i D dn th ta (nI (nxt (kd, aa, bb, cc, dd, ee) pp σ)) ((prf T (kd, aa, bb, cc, dd, ee) σ).2) u.2 ∧ frD own f u.1 u.2 ∧ r.toInt = (((prf T (kd, aa, bb, cc, dd, ee) σ).1 : Nat) : Int)) (fun (u : mS) t => mW G u.2 t) (mA G)) (3 * (nld (prf T (kd, aa, bb, cc, dd, ee) σ).2 - nld σ)) (29 * (nld (prf T (kd, aa, bb, cc, dd, ee) σ).2 - nld σ)) (mA G) := by
  refine mMet [.ref (k (5 + 8 * i)), .ref q] (cc := cX3_perform) (maxL := 5) (ret := (some .int)) (by decide) rfl (Nat.le_of_ble_eq_true rfl) ?_
  intro p e s m below meth c ls hx hb hr hml hts hown hlk hnm hC hH hl
  have hl : lv_has ls 5 [(0, .ref (k (5 + 8 * i))), (1, .ref q)] := hl
  have hK : KP i D D := KP.rf
  have hfr : frD own f own f := frD.rf
  have hkd : kd.toInt = 9 := by rw [hk_]; decide
  have cl_aa := ic_clN (rfl : aa.toInt = _) (by omega)
  have cl_cc := ic_clN (rfl : cc.toInt = _) (by omega)
  have cl_dd := ic_clN (rfl : dd.toInt = _) (by omega)
  have n24_ := hR.1.1
  have hT3_ := hR.1.2
  have ok_ := hR.2.1
  obtain ⟨lb_1, hr_1, hlb_1⟩ := hR.2.2.1
  refine lv_aload_n hx hb dX3_perform_0 rfl (lv_at hl 1 rfl) ?_
  have F_2 : f q = some (.inr (0, [.int kd, .int aa, .long bb, .int cc, .int dd, .int ee])) := hM.a0 q _ (by rw [hK.2.1]; exact hq)
  refine m_get (ci := 0) (v := .int aa) (C := RX0) (T := TX0) (N := 6) hx hb hC hH hts in_X3_perform_X0 hown F_2 rfl 1 (by decide) (hts (.fieldLink RX3 110 "LazyState$Act" "a" "I") (by decide +kernel)) rfl dX3_perform_1 ?_
  refine lv_istore_n (lv' := [(2, .int aa), (0, .ref (k (5 + 8 * i))), (1, .ref q)]) hx hb dX3_perform_4 rfl hl (by decide) rfl (fun ls hl => ?_)
  refine lv_aload_n hx hb dX3_perform_5 rfl (lv_at hl 2 rfl) ?_
  refine m_get (ci := 0) (v := .long bb) (C := RX0) (T := TX0) (N := 6) hx hb hC hH hts in_X3_perform_X0 hown F_2 rfl 2 (by decide) (hts (.fieldLink RX3 115 "LazyState$Act" "b" "J") (by decide +kernel)) rfl dX3_perform_6 ?_
  refine lv_l2i hx hb dX3_perform_9 rfl ?_
  refine lv_topi (fun x_3 ex_3 => ?_)
  have ix_3 : x_3.toInt = bb.toInt := ic_l2i ex_3 rfl (by omega) (by omega)
  have hB_ : bb.toInt.toNat = x_3.toNatClampNeg := (show bb.toInt.toNat = x_3.toInt.toNat from by omega)
  refine lv_istore_n (lv' := [(3, .int x_3), (2, .int aa), (0, .ref (k (5 + 8 * i))), (1, .ref q)]) hx hb dX3_perform_10 rfl hl (by decide) rfl (fun ls hl => ?_)
  refine lv_aload_n hx hb dX3_perform_11 rfl (lv_at hl 3 rfl) ?_
  refine m_get (ci := 0) (v := .int cc) (C := RX0) (T := TX0) (N := 6) hx hb hC hH hts in_X3_perform_X0 hown F_2 rfl 3 (by decide) (hts (.fieldLink RX3 118 "LazyState$Act" "c" "I") (by decide +kernel)) rfl dX3_perform_12 ?_
  refine lv_istore (lv' := [(4, .int cc), (3, .int x_3), (2, .int aa), (0, .ref (k (5 + 8 * i))), (1, .ref q)]) hx hb dX3_perform_15 hl (by decide) rfl (fun ls hl => ?_)
  refine lv_aload_n hx hb dX3_perform_17 rfl (lv_at hl 4 rfl) ?_
  refine m_get (ci := 0) (v := .int kd) (C := RX0) (T := TX0) (N := 6) hx hb hC hH hts in_X3_perform_X0 hown F_2 rfl 0 (by decide) (hts (.fieldLink RX3 121 "LazyState$Act" "kind" "I") (by decide +kernel)) rfl dX3_perform_18 ?_
  refine lv_tableIn (off := 235) (tgt := 256) hx hb dX3_perform_21 (by rw [hkd]; decide) (by rw [hkd]; decide) (by rw [hkd]; rfl) (by decide) ?_
  refine lv_aload_n hx hb dX3_perform_256 rfl (lv_at hl 3 rfl) ?_
  refine lv_iload_n hx hb dX3_perform_257 rfl (lv_at hl 2 rfl) ?_
  refine lv_iload_n hx hb dX3_perform_258 rfl (lv_at hl 1 rfl) ?_
  refine lv_iload hx hb dX3_perform_259 (lv_at hl 0 rfl) ?_
  refine lv_aload_n hx hb dX3_perform_261 rfl (lv_at hl 4 rfl) ?_
  refine m_get (ci := 0) (v := .int dd) (C := RX0) (T := TX0) (N := 6) hx hb hC hH hts in_X3_perform_X0 hown F_2 rfl 4 (by decide) (hts (.fieldLink RX3 139 "LazyState$Act" "d" "I") (by decide +kernel)) rfl dX3_perform_262 ?_
  have px_ : (prf T (kd, aa, bb, cc, dd, ee) σ) = (pLay T σ aa.toNatClampNeg x_3.toNatClampNeg cc.toNatClampNeg dd.toNatClampNeg) := (prf_9 hk_).trans (by show pLay T σ aa.toNatClampNeg bb.toInt.toNat cc.toNatClampNeg dd.toNatClampNeg = _; rw [hB_])
  have nq_ : nld (prf T (kd, aa, bb, cc, dd, ee) σ).2 = nld (pLay T σ aa.toNatClampNeg x_3.toNatClampNeg cc.toNatClampNeg dd.toNatClampNeg).2 := by rw [px_]
  have F_7 : f (k (5 + 8 * i)) = some (.inr (3, [.ref (k (5 + 8 * i + 1)), .int lb_1, .int dn, .long (gfS σ), .int th, .int ta, .ref (k 1), .ref (k (5 + 8 * i + 5)), .ref (k (5 + 8 * i + 6)), .ref (k (5 + 8 * i + 7)), .int nx])) := by have w_ := hM.r0 i hi; rw [hr_1] at w_; exact w_
  refine m_goi hH (va_runV (As := [.int aa, .int x_3, .int cc, .int dd]) (rest := []) ⟨hx, hb, hml, hown, hts⟩ (c_X3_lay l G k own n T z i hi D dn th ta nx σ f hM hR aa x_3 cc dd (by omega) (by omega) (by omega) (by omega)) (cwV 4 hts gX3_perform_X3_lay rfl rfl rfl (by decide +kernel) ⟨Nat.le_of_ble_eq_true rfl, Nat.le_of_ble_eq_true rfl⟩) (m_preV (ci := 3) hC hH F_7 rfl) rfl rfl hl.1 rfl (lv_room (Nat.le_of_ble_eq_true rfl)) dX3_perform_265 ⟨by show _ ≤ 3 * (nld (prf T (kd, aa, bb, cc, dd, ee) σ).2 - nld σ); omega, by show _ ≤ 29 * (nld (prf T (kd, aa, bb, cc, dd, ee) σ).2 - nld σ); omega⟩) (fun r_4 rho_6 f_5 H locs hw hH => ?_)
  obtain ⟨hI, hfr1, hr_4⟩ := hw
  have hI : RN G k rho_6 n T z i D dn th ta nx ((pLay T σ aa.toNatClampNeg x_3.toNatClampNeg cc.toNatClampNeg dd.toNatClampNeg).2) f_5 := hI
  have hfr1 : frD own f rho_6 f_5 := hfr1
  have hfr := hfr.trans hfr1
  try dsimp only at hr_4
  obtain ⟨D_8, hM, hR, hK1_8⟩ := hI
  have hK := hK.trans hK1_8
  have n24_ := hR.1.1
  have hT3_ := hR.1.2
  have ok_ := hR.2.1
  obtain ⟨lb_9, hr_9, hlb_9⟩ := hR.2.2.1
  exact m_iret (v := r_4) hx hb hr hlk hC hH rho_6 (by rw [px_, show nxt (kd, aa, bb, cc, dd, ee) pp σ = pp + 1 from nxt_9 hk_, ← hnx]; exact ⟨⟨_, hM, hR, hK⟩, hfr, hr_4⟩) (by omega) (by omega) dX3_perform_268
set_option maxHeartbeats 4000000 in
set_option maxRecDepth 100000 in
theorem c_X3_perform_10 (l : Launch) (G : mG) (k : Nat → Nat) (own : tR) (n : Nat) (T z : Nat → Nat) (i : Nat) (hi : i < 3) (D : tD) (dn th ta nx : Int32) (σ : tS) (f : mF) (hM : CM G k own n z D f) (hR : RP n T (k 1) i dn th ta nx σ D) (q : Nat) (kd aa : Int32) (bb : Int64) (cc dd ee : Int32) (hq : AD D q = some (kd, aa, bb, cc, dd, ee)) (pp : Nat) (hnx : nx = nI (pp + 1)) (hk_ : kd = nI 10) (h0_ : 0 ≤ aa.toInt ∧ aa.toInt ≤ 3) (h1_ : 0 ≤ bb.toInt ∧ bb.toInt ≤ 7) (h2_ : 0 ≤ cc.toInt ∧ cc.toInt ≤ 3) : Met l yX3_perform wsX3_perform ({ frames := 5, cells := 3 * (nld (prf T (kd, aa, bb, cc, dd, ee) σ).2 - nld σ), slots := 29 * (nld (prf T (kd, aa, bb, cc, dd, ee) σ).2 - nld σ), locals := 155 }) (va_Pc [.ref (k (5 + 8 * i)), .ref q] (mW G f)) (va_Qi (fun (r : Int32) (u : mS) => RN G k u.1 n T z i D dn th ta (nI (nxt (kd, aa, bb, cc, dd, ee) pp σ)) ((prf T (kd, aa, bb, cc, dd, ee) σ).2) u.2 ∧ frD own f u.1 u.2 ∧ r.toInt = (((prf T (kd, aa, bb, cc, dd, ee) σ).1 : Nat) : Int)) (fun (u : mS) t => mW G u.2 t) (mA G)) (3 * (nld (prf T (kd, aa, bb, cc, dd, ee) σ).2 - nld σ)) (29 * (nld (prf T (kd, aa, bb, cc, dd, ee) σ).2 - nld σ)) (mA G) := by
  refine mMet [.ref (k (5 + 8 * i)), .ref q] (cc := cX3_perform) (maxL := 5) (ret := (some .int)) (by decide) rfl (Nat.le_of_ble_eq_true rfl) ?_
  intro p e s m below meth c ls hx hb hr hml hts hown hlk hnm hC hH hl
  have hl : lv_has ls 5 [(0, .ref (k (5 + 8 * i))), (1, .ref q)] := hl
  have hK : KP i D D := KP.rf
  have hfr : frD own f own f := frD.rf
  have hkd : kd.toInt = 10 := by rw [hk_]; decide
  have cl_aa := ic_clN (rfl : aa.toInt = _) (by omega)
  have cl_cc := ic_clN (rfl : cc.toInt = _) (by omega)
  have n24_ := hR.1.1
  have hT3_ := hR.1.2
  have ok_ := hR.2.1
  obtain ⟨lb_1, hr_1, hlb_1⟩ := hR.2.2.1
  refine lv_aload_n hx hb dX3_perform_0 rfl (lv_at hl 1 rfl) ?_
  have F_2 : f q = some (.inr (0, [.int kd, .int aa, .long bb, .int cc, .int dd, .int ee])) := hM.a0 q _ (by rw [hK.2.1]; exact hq)
  refine m_get (ci := 0) (v := .int aa) (C := RX0) (T := TX0) (N := 6) hx hb hC hH hts in_X3_perform_X0 hown F_2 rfl 1 (by decide) (hts (.fieldLink RX3 110 "LazyState$Act" "a" "I") (by decide +kernel)) rfl dX3_perform_1 ?_
  refine lv_istore_n (lv' := [(2, .int aa), (0, .ref (k (5 + 8 * i))), (1, .ref q)]) hx hb dX3_perform_4 rfl hl (by decide) rfl (fun ls hl => ?_)
  refine lv_aload_n hx hb dX3_perform_5 rfl (lv_at hl 2 rfl) ?_
  refine m_get (ci := 0) (v := .long bb) (C := RX0) (T := TX0) (N := 6) hx hb hC hH hts in_X3_perform_X0 hown F_2 rfl 2 (by decide) (hts (.fieldLink RX3 115 "LazyState$Act" "b" "J") (by decide +kernel)) rfl dX3_perform_6 ?_
  refine lv_l2i hx hb dX3_perform_9 rfl ?_
  refine lv_topi (fun x_3 ex_3 => ?_)
  have ix_3 : x_3.toInt = bb.toInt := ic_l2i ex_3 rfl (by omega) (by omega)
  have hB_ : bb.toInt.toNat = x_3.toNatClampNeg := (show bb.toInt.toNat = x_3.toInt.toNat from by omega)
  refine lv_istore_n (lv' := [(3, .int x_3), (2, .int aa), (0, .ref (k (5 + 8 * i))), (1, .ref q)]) hx hb dX3_perform_10 rfl hl (by decide) rfl (fun ls hl => ?_)
  refine lv_aload_n hx hb dX3_perform_11 rfl (lv_at hl 3 rfl) ?_
  refine m_get (ci := 0) (v := .int cc) (C := RX0) (T := TX0) (N := 6) hx hb hC hH hts in_X3_perform_X0 hown F_2 rfl 3 (by decide) (hts (.fieldLink RX3 118 "LazyState$Act" "c" "I") (by decide +kernel)) rfl dX3_perform_12 ?_
  refine lv_istore (lv' := [(4, .int cc), (3, .int x_3), (2, .int aa), (0, .ref (k (5 + 8 * i))), (1, .ref q)]) hx hb dX3_perform_15 hl (by decide) rfl (fun ls hl => ?_)
  refine lv_aload_n hx hb dX3_perform_17 rfl (lv_at hl 4 rfl) ?_
  refine m_get (ci := 0) (v := .int kd) (C := RX0) (T := TX0) (N := 6) hx hb hC hH hts in_X3_perform_X0 hown F_2 rfl 0 (by decide) (hts (.fieldLink RX3 121 "LazyState$Act" "kind" "I") (by decide +kernel)) rfl dX3_perform_18 ?_
  refine lv_tableIn (off := 248) (tgt := 269) hx hb dX3_perform_21 (by rw [hkd]; decide) (by rw [hkd]; decide) (by rw [hkd]; rfl) (by decide) ?_
  refine lv_aload_n hx hb dX3_perform_269 rfl (lv_at hl 3 rfl) ?_
  refine lv_iload_n hx hb dX3_perform_270 rfl (lv_at hl 2 rfl) ?_
  refine lv_iload_n hx hb dX3_perform_271 rfl (lv_at hl 1 rfl) ?_
  refine lv_aload_n hx hb dX3_perform_272 rfl (lv_at hl 3 rfl) ?_
  have F_4 : f (k (5 + 8 * i)) = some (.inr (3, [.ref (k (5 + 8 * i + 1)), .int lb_1, .int dn, .long (gfS σ), .int th, .int ta, .ref (k 1), .ref (k (5 + 8 * i + 5)), .ref (k (5 + 8 * i + 6)), .ref (k (5 + 8 * i + 7)), .int nx])) := by have w_ := hM.r0 i hi; rw [hr_1] at w_; exact w_
  refine m_get (ci := 3) (v := .ref (k (5 + 8 * i + 7))) (C := RX3) (T := TX3) (N := 11) hx hb hC hH hts in_X3_perform_X3 hown F_4 rfl 9 (by decide) (hts (.fieldLink RX3 32 "LazyState$Run" "values" "[J") (by decide +kernel)) rfl dX3_perform_273 ?_
  refine lv_iload hx hb dX3_perform_276 (lv_at hl 0 rfl) ?_
  have hg_5 := hM.r7 i hi
  refine m_lald hx hb hC hH hg_5 (vp_in_iff.mpr ⟨by omega, by omega⟩) dX3_perform_278 ?_
  refine lv_topl (fun y_6 ey_6 => ?_)
  have vy_6 : y_6 = vaS σ cc.toNatClampNeg := by rw [ey_6]; exact hR.2.2.2.2.2.1 cc.toNatClampNeg (by have := ic_clN (rfl : cc.toInt = _) (by omega); omega)
  have px_ : (prf T (kd, aa, bb, cc, dd, ee) σ) = (pRow T σ aa.toNatClampNeg x_3.toNatClampNeg y_6) := (prf_10 hk_).trans (by show pRow T σ aa.toNatClampNeg bb.toInt.toNat (vaS σ cc.toNatClampNeg) = _; rw [hB_]; exact congrArg (pRow T σ aa.toNatClampNeg x_3.toNatClampNeg) vy_6.symm)
  have nq_ : nld (prf T (kd, aa, bb, cc, dd, ee) σ).2 = nld (pRow T σ aa.toNatClampNeg x_3.toNatClampNeg y_6).2 := by rw [px_]
  refine m_goi hH (va_runV (As := [.int aa, .int x_3, .long y_6]) (rest := []) ⟨hx, hb, hml, hown, hts⟩ (c_X3_renew l G k own n T z i hi D dn th ta nx σ f hM hR aa x_3 y_6 (by omega) (by omega)) (cwV 3 hts gX3_perform_X3_renew rfl rfl rfl (by decide +kernel) ⟨Nat.le_of_ble_eq_true rfl, Nat.le_of_ble_eq_true rfl⟩) (m_preV (ci := 3) hC hH F_4 rfl) rfl rfl hl.1 rfl (lv_room (Nat.le_of_ble_eq_true rfl)) dX3_perform_279 ⟨by show _ ≤ 3 * (nld (prf T (kd, aa, bb, cc, dd, ee) σ).2 - nld σ); omega, by show _ ≤ 29 * (nld (prf T (kd, aa, bb, cc, dd, ee) σ).2 - nld σ); omega⟩) (fun r_7 rho_9 f_8 H locs hw hH => ?_)
  obtain ⟨hI, hfr1, hr_7⟩ := hw
  have hI : RN G k rho_9 n T z i D dn th ta nx ((pRow T σ aa.toNatClampNeg x_3.toNatClampNeg y_6).2) f_8 := hI
  have hfr1 : frD own f rho_9 f_8 := hfr1
  have hfr := hfr.trans hfr1
  try dsimp only at hr_7
  obtain ⟨D_10, hM, hR, hK1_10⟩ := hI
  have hK := hK.trans hK1_10
  have n24_ := hR.1.1
  have hT3_ := hR.1.2
  have ok_ := hR.2.1
  obtain ⟨lb_11, hr_11, hlb_11⟩ := hR.2.2.1
  exact m_iret (v := r_7) hx hb hr hlk hC hH rho_9 (by rw [px_, show nxt (kd, aa, bb, cc, dd, ee) pp σ = pp + 1 from nxt_10 hk_, ← hnx]; exact ⟨⟨_, hM, hR, hK⟩, hfr, hr_7⟩) (by omega) (by omega) dX3_perform_282
set_option maxHeartbeats 4000000 in
set_option maxRecDepth 100000 in
theorem c_X3_perform_11 (l : Launch) (G : mG) (k : Nat → Nat) (own : tR) (n : Nat) (T z : Nat → Nat) (i : Nat) (hi : i < 3) (D : tD) (dn th ta nx : Int32) (σ : tS) (f : mF) (hM : CM G k own n z D f) (hR : RP n T (k 1) i dn th ta nx σ D) (q : Nat) (kd aa : Int32) (bb : Int64) (cc dd ee : Int32) (hq : AD D q = some (kd, aa, bb, cc, dd, ee)) (pp : Nat) (hnx : nx = nI (pp + 1)) (hk_ : kd = nI 11) (h0_ : 0 ≤ aa.toInt ∧ aa.toInt ≤ 3) (h1_ : 0 ≤ bb.toInt ∧ bb.toInt ≤ 7) (h2_ : 0 ≤ cc.toInt ∧ cc.toInt ≤ 3) (h3_ : 0 ≤ dd.toInt ∧ dd.toInt ≤ 7) (h4_ : 0 ≤ ee.toInt ∧ ee.toInt ≤ 3) : Met l yX3_perform wsX3_perform ({ frames := 5, cells := 3 * (nld (prf T (kd, aa, bb, cc, dd, ee) σ).2 - nld σ), slots := 29 * (nld (prf T (kd, aa, bb, cc, dd, ee) σ).2 - nld σ), locals := 155 }) (va_Pc [.ref (k (5 + 8 * i)), .ref q] (mW G f)) (va_Qi (fun (r : Int32) (u : mS) => RN G k u.1 n T z i D dn th ta (nI (nxt (kd, aa, bb, cc, dd, ee) pp σ)) ((prf T (kd, aa, bb, cc, dd, ee) σ).2) u.2 ∧ frD own f u.1 u.2 ∧ r.toInt = (((prf T (kd, aa, bb, cc, dd, ee) σ).1 : Nat) : Int)) (fun (u : mS) t => mW G u.2 t) (mA G)) (3 * (nld (prf T (kd, aa, bb, cc, dd, ee) σ).2 - nld σ)) (29 * (nld (prf T (kd, aa, bb, cc, dd, ee) σ).2 - nld σ)) (mA G) := by
  refine mMet [.ref (k (5 + 8 * i)), .ref q] (cc := cX3_perform) (maxL := 5) (ret := (some .int)) (by decide) rfl (Nat.le_of_ble_eq_true rfl) ?_
  intro p e s m below meth c ls hx hb hr hml hts hown hlk hnm hC hH hl
  have hl : lv_has ls 5 [(0, .ref (k (5 + 8 * i))), (1, .ref q)] := hl
  have hK : KP i D D := KP.rf
  have hfr : frD own f own f := frD.rf
  have hkd : kd.toInt = 11 := by rw [hk_]; decide
  have cl_aa := ic_clN (rfl : aa.toInt = _) (by omega)
  have cl_cc := ic_clN (rfl : cc.toInt = _) (by omega)
  have cl_dd := ic_clN (rfl : dd.toInt = _) (by omega)
  have cl_ee := ic_clN (rfl : ee.toInt = _) (by omega)
  have n24_ := hR.1.1
  have hT3_ := hR.1.2
  have ok_ := hR.2.1
  obtain ⟨lb_1, hr_1, hlb_1⟩ := hR.2.2.1
  refine lv_aload_n hx hb dX3_perform_0 rfl (lv_at hl 1 rfl) ?_
  have F_2 : f q = some (.inr (0, [.int kd, .int aa, .long bb, .int cc, .int dd, .int ee])) := hM.a0 q _ (by rw [hK.2.1]; exact hq)
  refine m_get (ci := 0) (v := .int aa) (C := RX0) (T := TX0) (N := 6) hx hb hC hH hts in_X3_perform_X0 hown F_2 rfl 1 (by decide) (hts (.fieldLink RX3 110 "LazyState$Act" "a" "I") (by decide +kernel)) rfl dX3_perform_1 ?_
  refine lv_istore_n (lv' := [(2, .int aa), (0, .ref (k (5 + 8 * i))), (1, .ref q)]) hx hb dX3_perform_4 rfl hl (by decide) rfl (fun ls hl => ?_)
  refine lv_aload_n hx hb dX3_perform_5 rfl (lv_at hl 2 rfl) ?_
  refine m_get (ci := 0) (v := .long bb) (C := RX0) (T := TX0) (N := 6) hx hb hC hH hts in_X3_perform_X0 hown F_2 rfl 2 (by decide) (hts (.fieldLink RX3 115 "LazyState$Act" "b" "J") (by decide +kernel)) rfl dX3_perform_6 ?_
  refine lv_l2i hx hb dX3_perform_9 rfl ?_
  refine lv_topi (fun x_3 ex_3 => ?_)
  have ix_3 : x_3.toInt = bb.toInt := ic_l2i ex_3 rfl (by omega) (by omega)
  have hB_ : bb.toInt.toNat = x_3.toNatClampNeg := (show bb.toInt.toNat = x_3.toInt.toNat from by omega)
  refine lv_istore_n (lv' := [(3, .int x_3), (2, .int aa), (0, .ref (k (5 + 8 * i))), (1, .ref q)]) hx hb dX3_perform_10 rfl hl (by decide) rfl (fun ls hl => ?_)
  refine lv_aload_n hx hb dX3_perform_11 rfl (lv_at hl 3 rfl) ?_
  refine m_get (ci := 0) (v := .int cc) (C := RX0) (T := TX0) (N := 6) hx hb hC hH hts in_X3_perform_X0 hown F_2 rfl 3 (by decide) (hts (.fieldLink RX3 118 "LazyState$Act" "c" "I") (by decide +kernel)) rfl dX3_perform_12 ?_
  refine lv_istore (lv' := [(4, .int cc), (3, .int x_3), (2, .int aa), (0, .ref (k (5 + 8 * i))), (1, .ref q)]) hx hb dX3_perform_15 hl (by decide) rfl (fun ls hl => ?_)
  refine lv_aload_n hx hb dX3_perform_17 rfl (lv_at hl 4 rfl) ?_
  refine m_get (ci := 0) (v := .int kd) (C := RX0) (T := TX0) (N := 6) hx hb hC hH hts in_X3_perform_X0 hown F_2 rfl 0 (by decide) (hts (.fieldLink RX3 121 "LazyState$Act" "kind" "I") (by decide +kernel)) rfl dX3_perform_18 ?_
  refine lv_tableIn (off := 262) (tgt := 283) hx hb dX3_perform_21 (by rw [hkd]; decide) (by rw [hkd]; decide) (by rw [hkd]; rfl) (by decide) ?_
  refine lv_aload_n hx hb dX3_perform_283 rfl (lv_at hl 3 rfl) ?_
  refine lv_aload_n hx hb dX3_perform_284 rfl (lv_at hl 4 rfl) ?_
  have px_ : (prf T (kd, aa, bb, cc, dd, ee) σ) = (pShf T σ aa.toNatClampNeg bb.toInt.toNat cc.toNatClampNeg dd.toNatClampNeg ee.toNatClampNeg) := (prf_11 hk_).trans (by show pShf T σ aa.toNatClampNeg bb.toInt.toNat cc.toNatClampNeg dd.toNatClampNeg ee.toNatClampNeg = _; rfl)
  have nq_ : nld (prf T (kd, aa, bb, cc, dd, ee) σ).2 = nld (pShf T σ aa.toNatClampNeg bb.toInt.toNat cc.toNatClampNeg dd.toNatClampNeg ee.toNatClampNeg).2 := by rw [px_]
  have F_7 : f (k (5 + 8 * i)) = some (.inr (3, [.ref (k (5 + 8 * i + 1)), .int lb_1, .int dn, .long (gfS σ), .int th, .int ta, .ref (k 1), .ref (k (5 + 8 * i + 5)), .ref (k (5 + 8 * i + 6)), .ref (k (5 + 8 * i + 7)), .int nx])) := by have w_ := hM.r0 i hi; rw [hr_1] at w_; exact w_
  refine m_goi hH (va_runV (As := [.ref q]) (rest := []) ⟨hx, hb, hml, hown, hts⟩ (c_X3_shift l G k own n T z i hi D dn th ta nx σ f hM hR q kd aa bb cc dd ee (by rw [hK.2.1]; exact hq) (by omega) (by omega) (by omega) (by omega) (by omega)) (cwV 1 hts gX3_perform_X3_shift rfl rfl rfl (by decide +kernel) ⟨Nat.le_of_ble_eq_true rfl, Nat.le_of_ble_eq_true rfl⟩) (m_preV (ci := 3) hC hH F_7 rfl) rfl rfl hl.1 rfl (lv_room (Nat.le_of_ble_eq_true rfl)) dX3_perform_285 ⟨by show _ ≤ 3 * (nld (prf T (kd, aa, bb, cc, dd, ee) σ).2 - nld σ); omega, by show _ ≤ 29 * (nld (prf T (kd, aa, bb, cc, dd, ee) σ).2 - nld σ); omega⟩) (fun r_4 rho_6 f_5 H locs hw hH => ?_)
  obtain ⟨hI, hfr1, hr_4⟩ := hw
  have hI : RN G k rho_6 n T z i D dn th ta nx ((pShf T σ aa.toNatClampNeg bb.toInt.toNat cc.toNatClampNeg dd.toNatClampNeg ee.toNatClampNeg).2) f_5 := hI
  have hfr1 : frD own f rho_6 f_5 := hfr1
  have hfr := hfr.trans hfr1
  try dsimp only at hr_4
  obtain ⟨D_8, hM, hR, hK1_8⟩ := hI
  have hK := hK.trans hK1_8
  have n24_ := hR.1.1
  have hT3_ := hR.1.2
  have ok_ := hR.2.1
  obtain ⟨lb_9, hr_9, hlb_9⟩ := hR.2.2.1
  exact m_iret (v := r_4) hx hb hr hlk hC hH rho_6 (by rw [px_, show nxt (kd, aa, bb, cc, dd, ee) pp σ = pp + 1 from nxt_11 hk_, ← hnx]; exact ⟨⟨_, hM, hR, hK⟩, hfr, hr_4⟩) (by omega) (by omega) dX3_perform_288
set_option maxHeartbeats 4000000 in
set_option maxRecDepth 100000 in
theorem c_X3_perform_12 (l : Launch) (G : mG) (k : Nat → Nat) (own : tR) (n : Nat) (T z : Nat → Nat) (i : Nat) (hi : i < 3) (D : tD) (dn th ta nx : Int32) (σ : tS) (f : mF) (hM : CM G k own n z D f) (hR : RP n T (k 1) i dn th ta nx σ D) (q : Nat) (kd aa : Int32) (bb : Int64) (cc dd ee : Int32) (hq : AD D q = some (kd, aa, bb, cc, dd, ee)) (pp : Nat) (hnx : nx = nI (pp + 1)) (hk_ : kd = nI 12) (h0_ : 0 ≤ aa.toInt ∧ aa.toInt ≤ 3) (h1_ : 0 ≤ bb.toInt ∧ bb.toInt ≤ 3) (h2_ : 0 ≤ cc.toInt ∧ cc.toInt ≤ 3) : Met l yX3_perform wsX3_perform ({ frames := 5, cells := 3 * (nld (prf T (kd, aa, bb, cc, dd, ee) σ).2 - nld σ), slots := 29 * (nld (prf T (kd, aa, bb, cc, dd, ee) σ).2 - nld σ), locals := 155 }) (va_Pc [.ref (k (5 + 8 * i)), .ref q] (mW G f)) (va_Qi (fun (r : Int32) (u : mS) => RN G k u.1 n T z i D dn th ta (nI (nxt (kd, aa, bb, cc, dd, ee) pp σ)) ((prf T (kd, aa, bb, cc, dd, ee) σ).2) u.2 ∧ frD own f u.1 u.2 ∧ r.toInt = (((prf T (kd, aa, bb, cc, dd, ee) σ).1 : Nat) : Int)) (fun (u : mS) t => mW G u.2 t) (mA G)) (3 * (nld (prf T (kd, aa, bb, cc, dd, ee) σ).2 - nld σ)) (29 * (nld (prf T (kd, aa, bb, cc, dd, ee) σ).2 - nld σ)) (mA G) := by
  refine mMet [.ref (k (5 + 8 * i)), .ref q] (cc := cX3_perform) (maxL := 5) (ret := (some .int)) (by decide) rfl (Nat.le_of_ble_eq_true rfl) ?_
  intro p e s m below meth c ls hx hb hr hml hts hown hlk hnm hC hH hl
  have hl : lv_has ls 5 [(0, .ref (k (5 + 8 * i))), (1, .ref q)] := hl
  have hK : KP i D D := KP.rf
  have hfr : frD own f own f := frD.rf
  have hkd : kd.toInt = 12 := by rw [hk_]; decide
  have cl_aa := ic_clN (rfl : aa.toInt = _) (by omega)
  have cl_cc := ic_clN (rfl : cc.toInt = _) (by omega)
  have n24_ := hR.1.1
  have hT3_ := hR.1.2
  have ok_ := hR.2.1
  obtain ⟨lb_1, hr_1, hlb_1⟩ := hR.2.2.1
  refine lv_aload_n hx hb dX3_perform_0 rfl (lv_at hl 1 rfl) ?_
  have F_2 : f q = some (.inr (0, [.int kd, .int aa, .long bb, .int cc, .int dd, .int ee])) := hM.a0 q _ (by rw [hK.2.1]; exact hq)
  refine m_get (ci := 0) (v := .int aa) (C := RX0) (T := TX0) (N := 6) hx hb hC hH hts in_X3_perform_X0 hown F_2 rfl 1 (by decide) (hts (.fieldLink RX3 110 "LazyState$Act" "a" "I") (by decide +kernel)) rfl dX3_perform_1 ?_
  refine lv_istore_n (lv' := [(2, .int aa), (0, .ref (k (5 + 8 * i))), (1, .ref q)]) hx hb dX3_perform_4 rfl hl (by decide) rfl (fun ls hl => ?_)
  refine lv_aload_n hx hb dX3_perform_5 rfl (lv_at hl 2 rfl) ?_
  refine m_get (ci := 0) (v := .long bb) (C := RX0) (T := TX0) (N := 6) hx hb hC hH hts in_X3_perform_X0 hown F_2 rfl 2 (by decide) (hts (.fieldLink RX3 115 "LazyState$Act" "b" "J") (by decide +kernel)) rfl dX3_perform_6 ?_
  refine lv_l2i hx hb dX3_perform_9 rfl ?_
  refine lv_topi (fun x_3 ex_3 => ?_)
  have ix_3 : x_3.toInt = bb.toInt := ic_l2i ex_3 rfl (by omega) (by omega)
  have hB_ : bb.toInt.toNat = x_3.toNatClampNeg := (show bb.toInt.toNat = x_3.toInt.toNat from by omega)
  refine lv_istore_n (lv' := [(3, .int x_3), (2, .int aa), (0, .ref (k (5 + 8 * i))), (1, .ref q)]) hx hb dX3_perform_10 rfl hl (by decide) rfl (fun ls hl => ?_)
  refine lv_aload_n hx hb dX3_perform_11 rfl (lv_at hl 3 rfl) ?_
  refine m_get (ci := 0) (v := .int cc) (C := RX0) (T := TX0) (N := 6) hx hb hC hH hts in_X3_perform_X0 hown F_2 rfl 3 (by decide) (hts (.fieldLink RX3 118 "LazyState$Act" "c" "I") (by decide +kernel)) rfl dX3_perform_12 ?_
  refine lv_istore (lv' := [(4, .int cc), (3, .int x_3), (2, .int aa), (0, .ref (k (5 + 8 * i))), (1, .ref q)]) hx hb dX3_perform_15 hl (by decide) rfl (fun ls hl => ?_)
  refine lv_aload_n hx hb dX3_perform_17 rfl (lv_at hl 4 rfl) ?_
  refine m_get (ci := 0) (v := .int kd) (C := RX0) (T := TX0) (N := 6) hx hb hC hH hts in_X3_perform_X0 hown F_2 rfl 0 (by decide) (hts (.fieldLink RX3 121 "LazyState$Act" "kind" "I") (by decide +kernel)) rfl dX3_perform_18 ?_
  refine lv_tableIn (off := 268) (tgt := 289) hx hb dX3_perform_21 (by rw [hkd]; decide) (by rw [hkd]; decide) (by rw [hkd]; rfl) (by decide) ?_
  refine lv_aload_n hx hb dX3_perform_289 rfl (lv_at hl 3 rfl) ?_
  refine lv_iload_n hx hb dX3_perform_290 rfl (lv_at hl 2 rfl) ?_
  refine lv_aload_n hx hb dX3_perform_291 rfl (lv_at hl 3 rfl) ?_
  have F_4 : f (k (5 + 8 * i)) = some (.inr (3, [.ref (k (5 + 8 * i + 1)), .int lb_1, .int dn, .long (gfS σ), .int th, .int ta, .ref (k 1), .ref (k (5 + 8 * i + 5)), .ref (k (5 + 8 * i + 6)), .ref (k (5 + 8 * i + 7)), .int nx])) := by have w_ := hM.r0 i hi; rw [hr_1] at w_; exact w_
  refine m_get (ci := 3) (v := .ref (k (5 + 8 * i + 6))) (C := RX3) (T := TX3) (N := 11) hx hb hC hH hts in_X3_perform_X3 hown F_4 rfl 8 (by decide) (hts (.fieldLink RX3 28 "LazyState$Run" "handles" "[I") (by decide +kernel)) rfl dX3_perform_292 ?_
  refine lv_iload_n hx hb dX3_perform_295 rfl (lv_at hl 1 rfl) ?_
  have hg_5 := hM.r6 i hi
  refine m_iald hx hb hC hH hg_5 (vp_in_iff.mpr ⟨by omega, by omega⟩) dX3_perform_296 ?_
  refine lv_topi (fun x_6 ex_6 => ?_)
  have vx_6 : x_6 = haS σ x_3.toNatClampNeg := by rw [ex_6]; exact hR.2.2.2.2.1 x_3.toNatClampNeg (by have := ic_clN (rfl : x_3.toInt = _) (by omega); omega)
  have okx_6 : okHa n x_6 := by rw [vx_6]; exact ok_.2.1 x_3.toNatClampNeg (by have := ic_clN (rfl : x_3.toInt = _) (by omega); omega)
  refine lv_aload_n hx hb dX3_perform_297 rfl (lv_at hl 3 rfl) ?_
  refine m_get (ci := 3) (v := .ref (k (5 + 8 * i + 6))) (C := RX3) (T := TX3) (N := 11) hx hb hC hH hts in_X3_perform_X3 hown F_4 rfl 8 (by decide) (hts (.fieldLink RX3 28 "LazyState$Run" "handles" "[I") (by decide +kernel)) rfl dX3_perform_298 ?_
  refine lv_iload hx hb dX3_perform_301 (lv_at hl 0 rfl) ?_
  have hg_7 := hM.r6 i hi
  refine m_iald hx hb hC hH hg_7 (vp_in_iff.mpr ⟨by omega, by omega⟩) dX3_perform_303 ?_
  refine lv_topi (fun x_8 ex_8 => ?_)
  have vx_8 : x_8 = haS σ cc.toNatClampNeg := by rw [ex_8]; exact hR.2.2.2.2.1 cc.toNatClampNeg (by have := ic_clN (rfl : cc.toInt = _) (by omega); omega)
  have okx_8 : okHa n x_8 := by rw [vx_8]; exact ok_.2.1 cc.toNatClampNeg (by have := ic_clN (rfl : cc.toInt = _) (by omega); omega)
  refine lv_icmp_ne (tgt := 311) hx hb dX3_perform_304 (by decide) (fun c_9 => ?_) (fun c_9 => ?_)
  · skip
    have ic_9 : (x_6.toInt : Int) ≠ x_8.toInt := ic_ne rfl rfl c_9
    have sm_ : ¬ haS σ x_3.toNatClampNeg = haS σ cc.toNatClampNeg := by rw [← vx_6, ← vx_8]; exact c_9
    refine lv_lconst (v := 0) hx hb dX3_perform_311 (by decide) ?_
    have px_ : (prf T (kd, aa, bb, cc, dd, ee) σ) = (0, sVa σ aa.toNatClampNeg (0 : Int64)) := (prf_12 hk_).trans (by show (0, sVa σ aa.toNatClampNeg (if haS σ bb.toInt.toNat = haS σ cc.toNatClampNeg then 1 else 0)) = _; rw [hB_, if_neg sm_])
    have nq_ : nld (prf T (kd, aa, bb, cc, dd, ee) σ).2 = nld σ := by rw [px_]; rfl
    refine m_goi hH (va_runV (As := [.int aa, .long 0]) (rest := []) ⟨hx, hb, hml, hown, hts⟩ (c_X3_setValue l G k own n T z i hi D dn th ta nx σ f hM hR aa 0 (by omega)) (cwV 2 hts gX3_perform_X3_setValue rfl rfl rfl (by decide +kernel) ⟨Nat.le_of_ble_eq_true rfl, Nat.le_of_ble_eq_true rfl⟩) (m_preV (ci := 3) hC hH F_4 rfl) rfl rfl hl.1 rfl (lv_room (Nat.le_of_ble_eq_true rfl)) dX3_perform_312 ⟨by show _ ≤ 3 * (nld (prf T (kd, aa, bb, cc, dd, ee) σ).2 - nld σ); omega, by show _ ≤ 29 * (nld (prf T (kd, aa, bb, cc, dd, ee) σ).2 - nld σ); omega⟩) (fun r_10 rho_12 f_11 H locs hw hH => ?_)
    obtain ⟨hI, hfr1, hr_10⟩ := hw
    have hI : RN G k rho_12 n T z i D dn th ta nx (sVa σ aa.toNatClampNeg 0) f_11 := hI
    have hfr1 : frD own f rho_12 f_11 := hfr1
    have hfr := hfr.trans hfr1
    try dsimp only at hr_10
    obtain ⟨D_13, hM, hR, hK1_13⟩ := hI
    have hK := hK.trans hK1_13
    have n24_ := hR.1.1
    have hT3_ := hR.1.2
    have ok_ := hR.2.1
    obtain ⟨lb_14, hr_14, hlb_14⟩ := hR.2.2.1
    exact m_iret (v := r_10) hx hb hr hlk hC hH rho_12 (by rw [px_, show nxt (kd, aa, bb, cc, dd, ee) pp σ = pp + 1 from nxt_12 hk_, ← hnx]; exact ⟨⟨_, hM, hR, hK⟩, hfr, hr_10⟩) (by omega) (by omega) dX3_perform_315
  · skip
    have ic_9 : (x_6.toInt : Int) = x_8.toInt := ic_eq rfl rfl c_9
    have sm_ : haS σ x_3.toNatClampNeg = haS σ cc.toNatClampNeg := by rw [← vx_6, ← vx_8]; exact c_9
    refine lv_lconst (v := 1) hx hb dX3_perform_307 (by decide) ?_
    refine lv_goto (tgt := 312) hx hb dX3_perform_308 (by decide) ?_
    have px_ : (prf T (kd, aa, bb, cc, dd, ee) σ) = (0, sVa σ aa.toNatClampNeg (1 : Int64)) := (prf_12 hk_).trans (by show (0, sVa σ aa.toNatClampNeg (if haS σ bb.toInt.toNat = haS σ cc.toNatClampNeg then 1 else 0)) = _; rw [hB_, if_pos sm_])
    have nq_ : nld (prf T (kd, aa, bb, cc, dd, ee) σ).2 = nld σ := by rw [px_]; rfl
    refine m_goi hH (va_runV (As := [.int aa, .long 1]) (rest := []) ⟨hx, hb, hml, hown, hts⟩ (c_X3_setValue l G k own n T z i hi D dn th ta nx σ f hM hR aa 1 (by omega)) (cwV 2 hts gX3_perform_X3_setValue rfl rfl rfl (by decide +kernel) ⟨Nat.le_of_ble_eq_true rfl, Nat.le_of_ble_eq_true rfl⟩) (m_preV (ci := 3) hC hH F_4 rfl) rfl rfl hl.1 rfl (lv_room (Nat.le_of_ble_eq_true rfl)) dX3_perform_312 ⟨by show _ ≤ 3 * (nld (prf T (kd, aa, bb, cc, dd, ee) σ).2 - nld σ); omega, by show _ ≤ 29 * (nld (prf T (kd, aa, bb, cc, dd, ee) σ).2 - nld σ); omega⟩) (fun r_15 rho_17 f_16 H locs hw hH => ?_)
    obtain ⟨hI, hfr1, hr_15⟩ := hw
    have hI : RN G k rho_17 n T z i D dn th ta nx (sVa σ aa.toNatClampNeg 1) f_16 := hI
    have hfr1 : frD own f rho_17 f_16 := hfr1
    have hfr := hfr.trans hfr1
    try dsimp only at hr_15
    obtain ⟨D_18, hM, hR, hK1_18⟩ := hI
    have hK := hK.trans hK1_18
    have n24_ := hR.1.1
    have hT3_ := hR.1.2
    have ok_ := hR.2.1
    obtain ⟨lb_19, hr_19, hlb_19⟩ := hR.2.2.1
    exact m_iret (v := r_15) hx hb hr hlk hC hH rho_17 (by rw [px_, show nxt (kd, aa, bb, cc, dd, ee) pp σ = pp + 1 from nxt_12 hk_, ← hnx]; exact ⟨⟨_, hM, hR, hK⟩, hfr, hr_15⟩) (by omega) (by omega) dX3_perform_315
set_option maxHeartbeats 4000000 in
set_option maxRecDepth 100000 in
theorem c_X3_perform_13 (l : Launch) (G : mG) (k : Nat → Nat) (own : tR) (n : Nat) (T z : Nat → Nat) (i : Nat) (hi : i < 3) (D : tD) (dn th ta nx : Int32) (σ : tS) (f : mF) (hM : CM G k own n z D f) (hR : RP n T (k 1) i dn th ta nx σ D) (q : Nat) (kd aa : Int32) (bb : Int64) (cc dd ee : Int32) (hq : AD D q = some (kd, aa, bb, cc, dd, ee)) (pp : Nat) (hnx : nx = nI (pp + 1)) (hk_ : kd = nI 13) (h0_ : 0 ≤ aa.toInt ∧ aa.toInt ≤ 3) (h1_ : 0 ≤ bb.toInt ∧ bb.toInt ≤ 3) (h2_ : 0 ≤ cc.toInt ∧ cc.toInt ≤ 3) : Met l yX3_perform wsX3_perform ({ frames := 5, cells := 3 * (nld (prf T (kd, aa, bb, cc, dd, ee) σ).2 - nld σ), slots := 29 * (nld (prf T (kd, aa, bb, cc, dd, ee) σ).2 - nld σ), locals := 155 }) (va_Pc [.ref (k (5 + 8 * i)), .ref q] (mW G f)) (va_Qi (fun (r : Int32) (u : mS) => RN G k u.1 n T z i D dn th ta (nI (nxt (kd, aa, bb, cc, dd, ee) pp σ)) ((prf T (kd, aa, bb, cc, dd, ee) σ).2) u.2 ∧ frD own f u.1 u.2 ∧ r.toInt = (((prf T (kd, aa, bb, cc, dd, ee) σ).1 : Nat) : Int)) (fun (u : mS) t => mW G u.2 t) (mA G)) (3 * (nld (prf T (kd, aa, bb, cc, dd, ee) σ).2 - nld σ)) (29 * (nld (prf T (kd, aa, bb, cc, dd, ee) σ).2 - nld σ)) (mA G) := by
  refine mMet [.ref (k (5 + 8 * i)), .ref q] (cc := cX3_perform) (maxL := 5) (ret := (some .int)) (by decide) rfl (Nat.le_of_ble_eq_true rfl) ?_
  intro p e s m below meth c ls hx hb hr hml hts hown hlk hnm hC hH hl
  have hl : lv_has ls 5 [(0, .ref (k (5 + 8 * i))), (1, .ref q)] := hl
  have hK : KP i D D := KP.rf
  have hfr : frD own f own f := frD.rf
  have hkd : kd.toInt = 13 := by rw [hk_]; decide
  have cl_aa := ic_clN (rfl : aa.toInt = _) (by omega)
  have cl_cc := ic_clN (rfl : cc.toInt = _) (by omega)
  have n24_ := hR.1.1
  have hT3_ := hR.1.2
  have ok_ := hR.2.1
  obtain ⟨lb_1, hr_1, hlb_1⟩ := hR.2.2.1
  refine lv_aload_n hx hb dX3_perform_0 rfl (lv_at hl 1 rfl) ?_
  have F_2 : f q = some (.inr (0, [.int kd, .int aa, .long bb, .int cc, .int dd, .int ee])) := hM.a0 q _ (by rw [hK.2.1]; exact hq)
  refine m_get (ci := 0) (v := .int aa) (C := RX0) (T := TX0) (N := 6) hx hb hC hH hts in_X3_perform_X0 hown F_2 rfl 1 (by decide) (hts (.fieldLink RX3 110 "LazyState$Act" "a" "I") (by decide +kernel)) rfl dX3_perform_1 ?_
  refine lv_istore_n (lv' := [(2, .int aa), (0, .ref (k (5 + 8 * i))), (1, .ref q)]) hx hb dX3_perform_4 rfl hl (by decide) rfl (fun ls hl => ?_)
  refine lv_aload_n hx hb dX3_perform_5 rfl (lv_at hl 2 rfl) ?_
  refine m_get (ci := 0) (v := .long bb) (C := RX0) (T := TX0) (N := 6) hx hb hC hH hts in_X3_perform_X0 hown F_2 rfl 2 (by decide) (hts (.fieldLink RX3 115 "LazyState$Act" "b" "J") (by decide +kernel)) rfl dX3_perform_6 ?_
  refine lv_l2i hx hb dX3_perform_9 rfl ?_
  refine lv_topi (fun x_3 ex_3 => ?_)
  have ix_3 : x_3.toInt = bb.toInt := ic_l2i ex_3 rfl (by omega) (by omega)
  have hB_ : bb.toInt.toNat = x_3.toNatClampNeg := (show bb.toInt.toNat = x_3.toInt.toNat from by omega)
  refine lv_istore_n (lv' := [(3, .int x_3), (2, .int aa), (0, .ref (k (5 + 8 * i))), (1, .ref q)]) hx hb dX3_perform_10 rfl hl (by decide) rfl (fun ls hl => ?_)
  refine lv_aload_n hx hb dX3_perform_11 rfl (lv_at hl 3 rfl) ?_
  refine m_get (ci := 0) (v := .int cc) (C := RX0) (T := TX0) (N := 6) hx hb hC hH hts in_X3_perform_X0 hown F_2 rfl 3 (by decide) (hts (.fieldLink RX3 118 "LazyState$Act" "c" "I") (by decide +kernel)) rfl dX3_perform_12 ?_
  refine lv_istore (lv' := [(4, .int cc), (3, .int x_3), (2, .int aa), (0, .ref (k (5 + 8 * i))), (1, .ref q)]) hx hb dX3_perform_15 hl (by decide) rfl (fun ls hl => ?_)
  refine lv_aload_n hx hb dX3_perform_17 rfl (lv_at hl 4 rfl) ?_
  refine m_get (ci := 0) (v := .int kd) (C := RX0) (T := TX0) (N := 6) hx hb hC hH hts in_X3_perform_X0 hown F_2 rfl 0 (by decide) (hts (.fieldLink RX3 121 "LazyState$Act" "kind" "I") (by decide +kernel)) rfl dX3_perform_18 ?_
  refine lv_tableIn (off := 295) (tgt := 316) hx hb dX3_perform_21 (by rw [hkd]; decide) (by rw [hkd]; decide) (by rw [hkd]; rfl) (by decide) ?_
  refine lv_aload_n hx hb dX3_perform_316 rfl (lv_at hl 3 rfl) ?_
  refine lv_iload_n hx hb dX3_perform_317 rfl (lv_at hl 2 rfl) ?_
  refine lv_aload_n hx hb dX3_perform_318 rfl (lv_at hl 3 rfl) ?_
  refine lv_aload_n hx hb dX3_perform_319 rfl (lv_at hl 3 rfl) ?_
  have F_4 : f (k (5 + 8 * i)) = some (.inr (3, [.ref (k (5 + 8 * i + 1)), .int lb_1, .int dn, .long (gfS σ), .int th, .int ta, .ref (k 1), .ref (k (5 + 8 * i + 5)), .ref (k (5 + 8 * i + 6)), .ref (k (5 + 8 * i + 7)), .int nx])) := by have w_ := hM.r0 i hi; rw [hr_1] at w_; exact w_
  refine m_get (ci := 3) (v := .ref (k (5 + 8 * i + 6))) (C := RX3) (T := TX3) (N := 11) hx hb hC hH hts in_X3_perform_X3 hown F_4 rfl 8 (by decide) (hts (.fieldLink RX3 28 "LazyState$Run" "handles" "[I") (by decide +kernel)) rfl dX3_perform_320 ?_
  refine lv_iload_n hx hb dX3_perform_323 rfl (lv_at hl 1 rfl) ?_
  have hg_5 := hM.r6 i hi
  refine m_iald hx hb hC hH hg_5 (vp_in_iff.mpr ⟨by omega, by omega⟩) dX3_perform_324 ?_
  refine lv_topi (fun x_6 ex_6 => ?_)
  have vx_6 : x_6 = haS σ x_3.toNatClampNeg := by rw [ex_6]; exact hR.2.2.2.2.1 x_3.toNatClampNeg (by have := ic_clN (rfl : x_3.toInt = _) (by omega); omega)
  have okx_6 : okHa n x_6 := by rw [vx_6]; exact ok_.2.1 x_3.toNatClampNeg (by have := ic_clN (rfl : x_3.toInt = _) (by omega); omega)
  refine lv_aload_n hx hb dX3_perform_325 rfl (lv_at hl 3 rfl) ?_
  refine m_get (ci := 3) (v := .ref (k (5 + 8 * i + 6))) (C := RX3) (T := TX3) (N := 11) hx hb hC hH hts in_X3_perform_X3 hown F_4 rfl 8 (by decide) (hts (.fieldLink RX3 28 "LazyState$Run" "handles" "[I") (by decide +kernel)) rfl dX3_perform_326 ?_
  refine lv_iload hx hb dX3_perform_329 (lv_at hl 0 rfl) ?_
  have hg_7 := hM.r6 i hi
  refine m_iald hx hb hC hH hg_7 (vp_in_iff.mpr ⟨by omega, by omega⟩) dX3_perform_331 ?_
  refine lv_topi (fun x_8 ex_8 => ?_)
  have vx_8 : x_8 = haS σ cc.toNatClampNeg := by rw [ex_8]; exact hR.2.2.2.2.1 cc.toNatClampNeg (by have := ic_clN (rfl : cc.toInt = _) (by omega); omega)
  have okx_8 : okHa n x_8 := by rw [vx_8]; exact ok_.2.1 cc.toNatClampNeg (by have := ic_clN (rfl : cc.toInt = _) (by omega); omega)
  have nq_ : nld (prf T (kd, aa, bb, cc, dd, ee) σ).2 = nld (lik T σ x_6 x_8).2 := by rw [prf_13 hk_]; show nld (lik T σ (haS σ bb.toInt.toNat) (haS σ cc.toNatClampNeg)).2 = _; rw [hB_, ← vx_6, ← vx_8]
  refine m_goi hH (va_runV (As := [.int x_6, .int x_8]) (rest := [.int aa, .ref (k (5 + 8 * i))]) ⟨hx, hb, hml, hown, hts⟩ (c_X3_areAlike l G k own n T z i hi D dn th ta nx σ f hM hR x_6 x_8 okx_6 okx_8) (cwV 2 hts gX3_perform_X3_areAlike rfl rfl rfl (by decide +kernel) ⟨Nat.le_of_ble_eq_true rfl, Nat.le_of_ble_eq_true rfl⟩) (m_preV (ci := 3) hC hH F_4 rfl) rfl rfl hl.1 rfl (lv_room (Nat.le_of_ble_eq_true rfl)) dX3_perform_332 ⟨by show _ ≤ 3 * (nld (prf T (kd, aa, bb, cc, dd, ee) σ).2 - nld σ); omega, by show _ ≤ 29 * (nld (prf T (kd, aa, bb, cc, dd, ee) σ).2 - nld σ); omega⟩) (fun r_9 rho_11 f_10 H locs hw hH => ?_)
  obtain ⟨hI, hfr1, hr_9⟩ := hw
  have hI : RN G k rho_11 n T z i D dn th ta nx ((lik T σ x_6 x_8).2) f_10 := hI
  have hfr1 : frD own f rho_11 f_10 := hfr1
  have hfr := hfr.trans hfr1
  try dsimp only at hr_9
  obtain ⟨D_12, hM, hR, hK1_12⟩ := hI
  have hK := hK.trans hK1_12
  have n24_ := hR.1.1
  have hT3_ := hR.1.2
  have ok_ := hR.2.1
  obtain ⟨lb_13, hr_13, hlb_13⟩ := hR.2.2.1
  refine lv_if_eq (tgt := 342) hx hb dX3_perform_335 (by decide) (fun c_14 => ?_) (fun c_14 => ?_)
  · skip
    have ic_14 : (r_9.toInt : Int) = 0 := ic_eq rfl kI_0 c_14
    have sm_ : ¬ (lik T σ x_6 x_8).1 = true := fun y_ => by have z_ := (hr_9.resolve_left (fun z_ => by omega)).2; rw [y_] at z_; cases z_
    refine lv_lconst (v := 0) hx hb dX3_perform_342 (by decide) ?_
    have px_ : (prf T (kd, aa, bb, cc, dd, ee) σ) = (0, sVa ((lik T σ x_6 x_8).2) aa.toNatClampNeg (0 : Int64)) := (prf_13 hk_).trans (by show (0, sVa (lik T σ (haS σ bb.toInt.toNat) (haS σ cc.toNatClampNeg)).2 aa.toNatClampNeg (if (lik T σ (haS σ bb.toInt.toNat) (haS σ cc.toNatClampNeg)).1 = true then 1 else 0)) = _; rw [hB_, ← vx_6, ← vx_8, if_neg sm_])
    have F_18 : f_10 (k (5 + 8 * i)) = some (.inr (3, [.ref (k (5 + 8 * i + 1)), .int lb_13, .int dn, .long (gfS ((lik T σ x_6 x_8).2)), .int th, .int ta, .ref (k 1), .ref (k (5 + 8 * i + 5)), .ref (k (5 + 8 * i + 6)), .ref (k (5 + 8 * i + 7)), .int nx])) := by have w_ := hM.r0 i hi; rw [hr_13] at w_; exact w_
    refine m_goi hH (va_runV (As := [.int aa, .long 0]) (rest := []) ⟨hx, hb, hml, hown, hts⟩ (c_X3_setValue l G k rho_11 n T z i hi D_12 dn th ta nx ((lik T σ x_6 x_8).2) f_10 hM hR aa 0 (by omega)) (cwV 2 hts gX3_perform_X3_setValue rfl rfl rfl (by decide +kernel) ⟨Nat.le_of_ble_eq_true rfl, Nat.le_of_ble_eq_true rfl⟩) (m_preV (ci := 3) hC hH F_18 rfl) rfl rfl hl.1 rfl (lv_room (Nat.le_of_ble_eq_true rfl)) dX3_perform_343 ⟨by show _ ≤ 3 * (nld (prf T (kd, aa, bb, cc, dd, ee) σ).2 - nld σ); omega, by show _ ≤ 29 * (nld (prf T (kd, aa, bb, cc, dd, ee) σ).2 - nld σ); omega⟩) (fun r_15 rho_17 f_16 H locs hw hH => ?_)
    obtain ⟨hI, hfr1, hr_15⟩ := hw
    have hI : RN G k rho_17 n T z i D_12 dn th ta nx (sVa ((lik T σ x_6 x_8).2) aa.toNatClampNeg 0) f_16 := hI
    have hfr1 : frD rho_11 f_10 rho_17 f_16 := hfr1
    have hfr := hfr.trans hfr1
    try dsimp only at hr_15
    obtain ⟨D_19, hM, hR, hK1_19⟩ := hI
    have hK := hK.trans hK1_19
    have n24_ := hR.1.1
    have hT3_ := hR.1.2
    have ok_ := hR.2.1
    obtain ⟨lb_20, hr_20, hlb_20⟩ := hR.2.2.1
    exact m_iret (v := r_15) hx hb hr hlk hC hH rho_17 (by rw [px_, show nxt (kd, aa, bb, cc, dd, ee) pp σ = pp + 1 from nxt_13 hk_, ← hnx]; exact ⟨⟨_, hM, hR, hK⟩, hfr, hr_15⟩) (by omega) (by omega) dX3_perform_346
  · skip
    have ic_14 : (r_9.toInt : Int) ≠ 0 := ic_ne rfl kI_0 c_14
    have sm_ : (lik T σ x_6 x_8).1 = true := (hr_9.resolve_right (fun z_ => by omega)).2
    refine lv_lconst (v := 1) hx hb dX3_perform_338 (by decide) ?_
    refine lv_goto (tgt := 343) hx hb dX3_perform_339 (by decide) ?_
    have px_ : (prf T (kd, aa, bb, cc, dd, ee) σ) = (0, sVa ((lik T σ x_6 x_8).2) aa.toNatClampNeg (1 : Int64)) := (prf_13 hk_).trans (by show (0, sVa (lik T σ (haS σ bb.toInt.toNat) (haS σ cc.toNatClampNeg)).2 aa.toNatClampNeg (if (lik T σ (haS σ bb.toInt.toNat) (haS σ cc.toNatClampNeg)).1 = true then 1 else 0)) = _; rw [hB_, ← vx_6, ← vx_8, if_pos sm_])
    have F_24 : f_10 (k (5 + 8 * i)) = some (.inr (3, [.ref (k (5 + 8 * i + 1)), .int lb_13, .int dn, .long (gfS ((lik T σ x_6 x_8).2)), .int th, .int ta, .ref (k 1), .ref (k (5 + 8 * i + 5)), .ref (k (5 + 8 * i + 6)), .ref (k (5 + 8 * i + 7)), .int nx])) := by have w_ := hM.r0 i hi; rw [hr_13] at w_; exact w_
    refine m_goi hH (va_runV (As := [.int aa, .long 1]) (rest := []) ⟨hx, hb, hml, hown, hts⟩ (c_X3_setValue l G k rho_11 n T z i hi D_12 dn th ta nx ((lik T σ x_6 x_8).2) f_10 hM hR aa 1 (by omega)) (cwV 2 hts gX3_perform_X3_setValue rfl rfl rfl (by decide +kernel) ⟨Nat.le_of_ble_eq_true rfl, Nat.le_of_ble_eq_true rfl⟩) (m_preV (ci := 3) hC hH F_24 rfl) rfl rfl hl.1 rfl (lv_room (Nat.le_of_ble_eq_true rfl)) dX3_perform_343 ⟨by show _ ≤ 3 * (nld (prf T (kd, aa, bb, cc, dd, ee) σ).2 - nld σ); omega, by show _ ≤ 29 * (nld (prf T (kd, aa, bb, cc, dd, ee) σ).2 - nld σ); omega⟩) (fun r_21 rho_23 f_22 H locs hw hH => ?_)
    obtain ⟨hI, hfr1, hr_21⟩ := hw
    have hI : RN G k rho_23 n T z i D_12 dn th ta nx (sVa ((lik T σ x_6 x_8).2) aa.toNatClampNeg 1) f_22 := hI
    have hfr1 : frD rho_11 f_10 rho_23 f_22 := hfr1
    have hfr := hfr.trans hfr1
    try dsimp only at hr_21
    obtain ⟨D_25, hM, hR, hK1_25⟩ := hI
    have hK := hK.trans hK1_25
    have n24_ := hR.1.1
    have hT3_ := hR.1.2
    have ok_ := hR.2.1
    obtain ⟨lb_26, hr_26, hlb_26⟩ := hR.2.2.1
    exact m_iret (v := r_21) hx hb hr hlk hC hH rho_23 (by rw [px_, show nxt (kd, aa, bb, cc, dd, ee) pp σ = pp + 1 from nxt_13 hk_, ← hnx]; exact ⟨⟨_, hM, hR, hK⟩, hfr, hr_21⟩) (by omega) (by omega) dX3_perform_346
set_option maxHeartbeats 4000000 in
set_option maxRecDepth 100000 in
theorem c_X3_perform_14 (l : Launch) (G : mG) (k : Nat → Nat) (own : tR) (n : Nat) (T z : Nat → Nat) (i : Nat) (hi : i < 3) (D : tD) (dn th ta nx : Int32) (σ : tS) (f : mF) (hM : CM G k own n z D f) (hR : RP n T (k 1) i dn th ta nx σ D) (q : Nat) (kd aa : Int32) (bb : Int64) (cc dd ee : Int32) (hq : AD D q = some (kd, aa, bb, cc, dd, ee)) (pp : Nat) (hnx : nx = nI (pp + 1)) (hk_ : kd = nI 14) (h1_ : 0 ≤ bb.toInt ∧ bb.toInt ≤ 32) : Met l yX3_perform wsX3_perform ({ frames := 5, cells := 3 * (nld (prf T (kd, aa, bb, cc, dd, ee) σ).2 - nld σ), slots := 29 * (nld (prf T (kd, aa, bb, cc, dd, ee) σ).2 - nld σ), locals := 155 }) (va_Pc [.ref (k (5 + 8 * i)), .ref q] (mW G f)) (va_Qi (fun (r : Int32) (u : mS) => RN G k u.1 n T z i D dn th ta (nI (nxt (kd, aa, bb, cc, dd, ee) pp σ)) ((prf T (kd, aa, bb, cc, dd, ee) σ).2) u.2 ∧ frD own f u.1 u.2 ∧ r.toInt = (((prf T (kd, aa, bb, cc, dd, ee) σ).1 : Nat) : Int)) (fun (u : mS) t => mW G u.2 t) (mA G)) (3 * (nld (prf T (kd, aa, bb, cc, dd, ee) σ).2 - nld σ)) (29 * (nld (prf T (kd, aa, bb, cc, dd, ee) σ).2 - nld σ)) (mA G) := by
  refine mMet [.ref (k (5 + 8 * i)), .ref q] (cc := cX3_perform) (maxL := 5) (ret := (some .int)) (by decide) rfl (Nat.le_of_ble_eq_true rfl) ?_
  intro p e s m below meth c ls hx hb hr hml hts hown hlk hnm hC hH hl
  have hl : lv_has ls 5 [(0, .ref (k (5 + 8 * i))), (1, .ref q)] := hl
  have hK : KP i D D := KP.rf
  have hfr : frD own f own f := frD.rf
  have hkd : kd.toInt = 14 := by rw [hk_]; decide
  have nq_ : nld (prf T (kd, aa, bb, cc, dd, ee) σ).2 = nld σ := by rw [prf_14 hk_]; first | done | rfl
  have n24_ := hR.1.1
  have hT3_ := hR.1.2
  have ok_ := hR.2.1
  obtain ⟨lb_1, hr_1, hlb_1⟩ := hR.2.2.1
  refine lv_aload_n hx hb dX3_perform_0 rfl (lv_at hl 1 rfl) ?_
  have F_2 : f q = some (.inr (0, [.int kd, .int aa, .long bb, .int cc, .int dd, .int ee])) := hM.a0 q _ (by rw [hK.2.1]; exact hq)
  refine m_get (ci := 0) (v := .int aa) (C := RX0) (T := TX0) (N := 6) hx hb hC hH hts in_X3_perform_X0 hown F_2 rfl 1 (by decide) (hts (.fieldLink RX3 110 "LazyState$Act" "a" "I") (by decide +kernel)) rfl dX3_perform_1 ?_
  refine lv_istore_n (lv' := [(2, .int aa), (0, .ref (k (5 + 8 * i))), (1, .ref q)]) hx hb dX3_perform_4 rfl hl (by decide) rfl (fun ls hl => ?_)
  refine lv_aload_n hx hb dX3_perform_5 rfl (lv_at hl 2 rfl) ?_
  refine m_get (ci := 0) (v := .long bb) (C := RX0) (T := TX0) (N := 6) hx hb hC hH hts in_X3_perform_X0 hown F_2 rfl 2 (by decide) (hts (.fieldLink RX3 115 "LazyState$Act" "b" "J") (by decide +kernel)) rfl dX3_perform_6 ?_
  refine lv_l2i hx hb dX3_perform_9 rfl ?_
  refine lv_topi (fun x_3 ex_3 => ?_)
  have ix_3 : x_3.toInt = bb.toInt := ic_l2i ex_3 rfl (by omega) (by omega)
  have hB_ : bb.toInt.toNat = x_3.toNatClampNeg := (show bb.toInt.toNat = x_3.toInt.toNat from by omega)
  refine lv_istore_n (lv' := [(3, .int x_3), (2, .int aa), (0, .ref (k (5 + 8 * i))), (1, .ref q)]) hx hb dX3_perform_10 rfl hl (by decide) rfl (fun ls hl => ?_)
  refine lv_aload_n hx hb dX3_perform_11 rfl (lv_at hl 3 rfl) ?_
  refine m_get (ci := 0) (v := .int cc) (C := RX0) (T := TX0) (N := 6) hx hb hC hH hts in_X3_perform_X0 hown F_2 rfl 3 (by decide) (hts (.fieldLink RX3 118 "LazyState$Act" "c" "I") (by decide +kernel)) rfl dX3_perform_12 ?_
  refine lv_istore (lv' := [(4, .int cc), (3, .int x_3), (2, .int aa), (0, .ref (k (5 + 8 * i))), (1, .ref q)]) hx hb dX3_perform_15 hl (by decide) rfl (fun ls hl => ?_)
  refine lv_aload_n hx hb dX3_perform_17 rfl (lv_at hl 4 rfl) ?_
  refine m_get (ci := 0) (v := .int kd) (C := RX0) (T := TX0) (N := 6) hx hb hC hH hts in_X3_perform_X0 hown F_2 rfl 0 (by decide) (hts (.fieldLink RX3 121 "LazyState$Act" "kind" "I") (by decide +kernel)) rfl dX3_perform_18 ?_
  refine lv_tableIn (off := 326) (tgt := 347) hx hb dX3_perform_21 (by rw [hkd]; decide) (by rw [hkd]; decide) (by rw [hkd]; rfl) (by decide) ?_
  refine lv_aload_n hx hb dX3_perform_347 rfl (lv_at hl 3 rfl) ?_
  refine lv_iload_n hx hb dX3_perform_348 rfl (lv_at hl 1 rfl) ?_
  have F_7 : f (k (5 + 8 * i)) = some (.inr (3, [.ref (k (5 + 8 * i + 1)), .int lb_1, .int dn, .long (gfS σ), .int th, .int ta, .ref (k 1), .ref (k (5 + 8 * i + 5)), .ref (k (5 + 8 * i + 6)), .ref (k (5 + 8 * i + 7)), .int nx])) := by have w_ := hM.r0 i hi; rw [hr_1] at w_; exact w_
  refine m_goi hH (va_runV (As := [.int x_3]) (rest := []) ⟨hx, hb, hml, hown, hts⟩ (c_X3_goOnAt l G k own n T z i hi D dn th ta nx σ f hM hR x_3) (cwV 1 hts gX3_perform_X3_goOnAt rfl rfl rfl (by decide +kernel) ⟨Nat.le_of_ble_eq_true rfl, Nat.le_of_ble_eq_true rfl⟩) (m_preV (ci := 3) hC hH F_7 rfl) rfl rfl hl.1 rfl (lv_room (Nat.le_of_ble_eq_true rfl)) dX3_perform_349 ⟨by show _ ≤ 3 * (nld (prf T (kd, aa, bb, cc, dd, ee) σ).2 - nld σ); omega, by show _ ≤ 29 * (nld (prf T (kd, aa, bb, cc, dd, ee) σ).2 - nld σ); omega⟩) (fun r_4 rho_6 f_5 H locs hw hH => ?_)
  obtain ⟨hI, hfr1, hr_4⟩ := hw
  have hI : RN G k rho_6 n T z i D dn th ta x_3 σ f_5 := hI
  have hfr1 : frD own f rho_6 f_5 := hfr1
  have hfr := hfr.trans hfr1
  try dsimp only at hr_4
  obtain ⟨D_8, hM, hR, hK1_8⟩ := hI
  have hK := hK.trans hK1_8
  have n24_ := hR.1.1
  have hT3_ := hR.1.2
  have ok_ := hR.2.1
  obtain ⟨lb_9, hr_9, hlb_9⟩ := hR.2.2.1
  exact m_iret (v := r_4) hx hb hr hlk hC hH rho_6 (by rw [show (prf T (kd, aa, bb, cc, dd, ee) σ) = (0, σ) from prf_14 hk_, show nxt (kd, aa, bb, cc, dd, ee) pp σ = bb.toInt.toNat from nxt_14 hk_, show nI bb.toInt.toNat = x_3 from Int32.toInt_inj.mp (by rw [nI_toInt (by omega)]; omega)]; exact ⟨⟨_, hM, hR, hK⟩, hfr, hr_4⟩) (by omega) (by omega) dX3_perform_352
set_option maxHeartbeats 4000000 in
set_option maxRecDepth 100000 in
theorem c_X3_perform_15 (l : Launch) (G : mG) (k : Nat → Nat) (own : tR) (n : Nat) (T z : Nat → Nat) (i : Nat) (hi : i < 3) (D : tD) (dn th ta nx : Int32) (σ : tS) (f : mF) (hM : CM G k own n z D f) (hR : RP n T (k 1) i dn th ta nx σ D) (q : Nat) (kd aa : Int32) (bb : Int64) (cc dd ee : Int32) (hq : AD D q = some (kd, aa, bb, cc, dd, ee)) (pp : Nat) (hnx : nx = nI (pp + 1)) (hk_ : kd = nI 15) (h0_ : 0 ≤ aa.toInt ∧ aa.toInt ≤ 3) (h1_ : 0 ≤ bb.toInt ∧ bb.toInt ≤ 32) : Met l yX3_perform wsX3_perform ({ frames := 5, cells := 3 * (nld (prf T (kd, aa, bb, cc, dd, ee) σ).2 - nld σ), slots := 29 * (nld (prf T (kd, aa, bb, cc, dd, ee) σ).2 - nld σ), locals := 155 }) (va_Pc [.ref (k (5 + 8 * i)), .ref q] (mW G f)) (va_Qi (fun (r : Int32) (u : mS) => RN G k u.1 n T z i D dn th ta (nI (nxt (kd, aa, bb, cc, dd, ee) pp σ)) ((prf T (kd, aa, bb, cc, dd, ee) σ).2) u.2 ∧ frD own f u.1 u.2 ∧ r.toInt = (((prf T (kd, aa, bb, cc, dd, ee) σ).1 : Nat) : Int)) (fun (u : mS) t => mW G u.2 t) (mA G)) (3 * (nld (prf T (kd, aa, bb, cc, dd, ee) σ).2 - nld σ)) (29 * (nld (prf T (kd, aa, bb, cc, dd, ee) σ).2 - nld σ)) (mA G) := by
  refine mMet [.ref (k (5 + 8 * i)), .ref q] (cc := cX3_perform) (maxL := 5) (ret := (some .int)) (by decide) rfl (Nat.le_of_ble_eq_true rfl) ?_
  intro p e s m below meth c ls hx hb hr hml hts hown hlk hnm hC hH hl
  have hl : lv_has ls 5 [(0, .ref (k (5 + 8 * i))), (1, .ref q)] := hl
  have hK : KP i D D := KP.rf
  have hfr : frD own f own f := frD.rf
  have hkd : kd.toInt = 15 := by rw [hk_]; decide
  have cl_aa := ic_clN (rfl : aa.toInt = _) (by omega)
  have nq_ : nld (prf T (kd, aa, bb, cc, dd, ee) σ).2 = nld σ := by rw [prf_15 hk_]; first | done | rfl
  have n24_ := hR.1.1
  have hT3_ := hR.1.2
  have ok_ := hR.2.1
  obtain ⟨lb_1, hr_1, hlb_1⟩ := hR.2.2.1
  refine lv_aload_n hx hb dX3_perform_0 rfl (lv_at hl 1 rfl) ?_
  have F_2 : f q = some (.inr (0, [.int kd, .int aa, .long bb, .int cc, .int dd, .int ee])) := hM.a0 q _ (by rw [hK.2.1]; exact hq)
  refine m_get (ci := 0) (v := .int aa) (C := RX0) (T := TX0) (N := 6) hx hb hC hH hts in_X3_perform_X0 hown F_2 rfl 1 (by decide) (hts (.fieldLink RX3 110 "LazyState$Act" "a" "I") (by decide +kernel)) rfl dX3_perform_1 ?_
  refine lv_istore_n (lv' := [(2, .int aa), (0, .ref (k (5 + 8 * i))), (1, .ref q)]) hx hb dX3_perform_4 rfl hl (by decide) rfl (fun ls hl => ?_)
  refine lv_aload_n hx hb dX3_perform_5 rfl (lv_at hl 2 rfl) ?_
  refine m_get (ci := 0) (v := .long bb) (C := RX0) (T := TX0) (N := 6) hx hb hC hH hts in_X3_perform_X0 hown F_2 rfl 2 (by decide) (hts (.fieldLink RX3 115 "LazyState$Act" "b" "J") (by decide +kernel)) rfl dX3_perform_6 ?_
  refine lv_l2i hx hb dX3_perform_9 rfl ?_
  refine lv_topi (fun x_3 ex_3 => ?_)
  have ix_3 : x_3.toInt = bb.toInt := ic_l2i ex_3 rfl (by omega) (by omega)
  have hB_ : bb.toInt.toNat = x_3.toNatClampNeg := (show bb.toInt.toNat = x_3.toInt.toNat from by omega)
  refine lv_istore_n (lv' := [(3, .int x_3), (2, .int aa), (0, .ref (k (5 + 8 * i))), (1, .ref q)]) hx hb dX3_perform_10 rfl hl (by decide) rfl (fun ls hl => ?_)
  refine lv_aload_n hx hb dX3_perform_11 rfl (lv_at hl 3 rfl) ?_
  refine m_get (ci := 0) (v := .int cc) (C := RX0) (T := TX0) (N := 6) hx hb hC hH hts in_X3_perform_X0 hown F_2 rfl 3 (by decide) (hts (.fieldLink RX3 118 "LazyState$Act" "c" "I") (by decide +kernel)) rfl dX3_perform_12 ?_
  refine lv_istore (lv' := [(4, .int cc), (3, .int x_3), (2, .int aa), (0, .ref (k (5 + 8 * i))), (1, .ref q)]) hx hb dX3_perform_15 hl (by decide) rfl (fun ls hl => ?_)
  refine lv_aload_n hx hb dX3_perform_17 rfl (lv_at hl 4 rfl) ?_
  refine m_get (ci := 0) (v := .int kd) (C := RX0) (T := TX0) (N := 6) hx hb hC hH hts in_X3_perform_X0 hown F_2 rfl 0 (by decide) (hts (.fieldLink RX3 121 "LazyState$Act" "kind" "I") (by decide +kernel)) rfl dX3_perform_18 ?_
  refine lv_tableIn (off := 332) (tgt := 353) hx hb dX3_perform_21 (by rw [hkd]; decide) (by rw [hkd]; decide) (by rw [hkd]; rfl) (by decide) ?_
  refine lv_aload_n hx hb dX3_perform_353 rfl (lv_at hl 3 rfl) ?_
  have F_4 : f (k (5 + 8 * i)) = some (.inr (3, [.ref (k (5 + 8 * i + 1)), .int lb_1, .int dn, .long (gfS σ), .int th, .int ta, .ref (k 1), .ref (k (5 + 8 * i + 5)), .ref (k (5 + 8 * i + 6)), .ref (k (5 + 8 * i + 7)), .int nx])) := by have w_ := hM.r0 i hi; rw [hr_1] at w_; exact w_
  refine m_get (ci := 3) (v := .ref (k (5 + 8 * i + 7))) (C := RX3) (T := TX3) (N := 11) hx hb hC hH hts in_X3_perform_X3 hown F_4 rfl 9 (by decide) (hts (.fieldLink RX3 32 "LazyState$Run" "values" "[J") (by decide +kernel)) rfl dX3_perform_354 ?_
  refine lv_iload_n hx hb dX3_perform_357 rfl (lv_at hl 2 rfl) ?_
  have hg_5 := hM.r7 i hi
  refine m_lald hx hb hC hH hg_5 (vp_in_iff.mpr ⟨by omega, by omega⟩) dX3_perform_358 ?_
  refine lv_topl (fun y_6 ey_6 => ?_)
  have vy_6 : y_6 = vaS σ aa.toNatClampNeg := by rw [ey_6]; exact hR.2.2.2.2.2.1 aa.toNatClampNeg (by have := ic_clN (rfl : aa.toInt = _) (by omega); omega)
  refine lv_lconst (v := 0) hx hb dX3_perform_359 (by decide) ?_
  refine W.lcmp hx hb dX3_perform_360 ?_
  refine lv_if_le (tgt := 372) hx hb dX3_perform_361 (by decide) (fun c_7 => ?_) (fun c_7 => ?_)
  · skip
    have ic_7 : (y_6.toInt : Int) ≤ 0 := lc_le rfl kJ_0 ((lg_cmp_le _ _).mp c_7)
    have ip_ : ¬ (0 < (vaS σ aa.toNatClampNeg).toInt) := by rw [← vy_6]; omega
    refine lv_iconst (v := 0) hx hb dX3_perform_372 (by decide) ?_
    exact m_iret (v := 0) hx hb hr hlk hC hH own (by rw [show (prf T (kd, aa, bb, cc, dd, ee) σ) = (0, σ) from prf_15 hk_, show nxt (kd, aa, bb, cc, dd, ee) pp σ = pp + 1 from (nxt_15 hk_).trans (if_neg ip_), ← hnx]; exact ⟨⟨_, hM, hR, hK⟩, hfr, kI_0⟩) (by omega) (by omega) dX3_perform_373
  · skip
    have ic_7 : (y_6.toInt : Int) > 0 := lc_nle rfl kJ_0 (fun q_ => c_7 ((lg_cmp_le _ _).mpr q_))
    have ip_ : (0 < (vaS σ aa.toNatClampNeg).toInt) := by rw [← vy_6]; omega
    refine lv_aload_n hx hb dX3_perform_364 rfl (lv_at hl 3 rfl) ?_
    refine lv_iload_n hx hb dX3_perform_365 rfl (lv_at hl 1 rfl) ?_
    refine m_goi hH (va_runV (As := [.int x_3]) (rest := []) ⟨hx, hb, hml, hown, hts⟩ (c_X3_goOnAt l G k own n T z i hi D dn th ta nx σ f hM hR x_3) (cwV 1 hts gX3_perform_X3_goOnAt rfl rfl rfl (by decide +kernel) ⟨Nat.le_of_ble_eq_true rfl, Nat.le_of_ble_eq_true rfl⟩) (m_preV (ci := 3) hC hH F_4 rfl) rfl rfl hl.1 rfl (lv_room (Nat.le_of_ble_eq_true rfl)) dX3_perform_366 ⟨by show _ ≤ 3 * (nld (prf T (kd, aa, bb, cc, dd, ee) σ).2 - nld σ); omega, by show _ ≤ 29 * (nld (prf T (kd, aa, bb, cc, dd, ee) σ).2 - nld σ); omega⟩) (fun r_8 rho_10 f_9 H locs hw hH => ?_)
    obtain ⟨hI, hfr1, hr_8⟩ := hw
    have hI : RN G k rho_10 n T z i D dn th ta x_3 σ f_9 := hI
    have hfr1 : frD own f rho_10 f_9 := hfr1
    have hfr := hfr.trans hfr1
    try dsimp only at hr_8
    obtain ⟨D_11, hM, hR, hK1_11⟩ := hI
    have hK := hK.trans hK1_11
    have n24_ := hR.1.1
    have hT3_ := hR.1.2
    have ok_ := hR.2.1
    obtain ⟨lb_12, hr_12, hlb_12⟩ := hR.2.2.1
    refine lv_goto (tgt := 373) hx hb dX3_perform_369 (by decide) ?_
    exact m_iret (v := r_8) hx hb hr hlk hC hH rho_10 (by rw [show (prf T (kd, aa, bb, cc, dd, ee) σ) = (0, σ) from prf_15 hk_, show nxt (kd, aa, bb, cc, dd, ee) pp σ = bb.toInt.toNat from (nxt_15 hk_).trans (if_pos ip_), show nI bb.toInt.toNat = x_3 from Int32.toInt_inj.mp (by rw [nI_toInt (by omega)]; omega)]; exact ⟨⟨_, hM, hR, hK⟩, hfr, hr_8⟩) (by omega) (by omega) dX3_perform_373
set_option maxHeartbeats 4000000 in
set_option maxRecDepth 100000 in
theorem c_X3_perform_16 (l : Launch) (G : mG) (k : Nat → Nat) (own : tR) (n : Nat) (T z : Nat → Nat) (i : Nat) (hi : i < 3) (D : tD) (dn th ta nx : Int32) (σ : tS) (f : mF) (hM : CM G k own n z D f) (hR : RP n T (k 1) i dn th ta nx σ D) (q : Nat) (kd aa : Int32) (bb : Int64) (cc dd ee : Int32) (hq : AD D q = some (kd, aa, bb, cc, dd, ee)) (pp : Nat) (hnx : nx = nI (pp + 1)) (hk_ : kd = nI 16) (h0_ : 0 ≤ aa.toInt ∧ aa.toInt ≤ 3) : Met l yX3_perform wsX3_perform ({ frames := 5, cells := 3 * (nld (prf T (kd, aa, bb, cc, dd, ee) σ).2 - nld σ), slots := 29 * (nld (prf T (kd, aa, bb, cc, dd, ee) σ).2 - nld σ), locals := 155 }) (va_Pc [.ref (k (5 + 8 * i)), .ref q] (mW G f)) (va_Qi (fun (r : Int32) (u : mS) => RN G k u.1 n T z i D dn th ta (nI (nxt (kd, aa, bb, cc, dd, ee) pp σ)) ((prf T (kd, aa, bb, cc, dd, ee) σ).2) u.2 ∧ frD own f u.1 u.2 ∧ r.toInt = (((prf T (kd, aa, bb, cc, dd, ee) σ).1 : Nat) : Int)) (fun (u : mS) t => mW G u.2 t) (mA G)) (3 * (nld (prf T (kd, aa, bb, cc, dd, ee) σ).2 - nld σ)) (29 * (nld (prf T (kd, aa, bb, cc, dd, ee) σ).2 - nld σ)) (mA G) := by
  refine mMet [.ref (k (5 + 8 * i)), .ref q] (cc := cX3_perform) (maxL := 5) (ret := (some .int)) (by decide) rfl (Nat.le_of_ble_eq_true rfl) ?_
  intro p e s m below meth c ls hx hb hr hml hts hown hlk hnm hC hH hl
  have hl : lv_has ls 5 [(0, .ref (k (5 + 8 * i))), (1, .ref q)] := hl
  have hK : KP i D D := KP.rf
  have hfr : frD own f own f := frD.rf
  have hkd : kd.toInt = 16 := by rw [hk_]; decide
  have cl_aa := ic_clN (rfl : aa.toInt = _) (by omega)
  have nq_ : nld (prf T (kd, aa, bb, cc, dd, ee) σ).2 = nld σ := by rw [prf_16 hk_]; first | done | rfl
  have n24_ := hR.1.1
  have hT3_ := hR.1.2
  have ok_ := hR.2.1
  obtain ⟨lb_1, hr_1, hlb_1⟩ := hR.2.2.1
  refine lv_aload_n hx hb dX3_perform_0 rfl (lv_at hl 1 rfl) ?_
  have F_2 : f q = some (.inr (0, [.int kd, .int aa, .long bb, .int cc, .int dd, .int ee])) := hM.a0 q _ (by rw [hK.2.1]; exact hq)
  refine m_get (ci := 0) (v := .int aa) (C := RX0) (T := TX0) (N := 6) hx hb hC hH hts in_X3_perform_X0 hown F_2 rfl 1 (by decide) (hts (.fieldLink RX3 110 "LazyState$Act" "a" "I") (by decide +kernel)) rfl dX3_perform_1 ?_
  refine lv_istore_n (lv' := [(2, .int aa), (0, .ref (k (5 + 8 * i))), (1, .ref q)]) hx hb dX3_perform_4 rfl hl (by decide) rfl (fun ls hl => ?_)
  refine lv_aload_n hx hb dX3_perform_5 rfl (lv_at hl 2 rfl) ?_
  refine m_get (ci := 0) (v := .long bb) (C := RX0) (T := TX0) (N := 6) hx hb hC hH hts in_X3_perform_X0 hown F_2 rfl 2 (by decide) (hts (.fieldLink RX3 115 "LazyState$Act" "b" "J") (by decide +kernel)) rfl dX3_perform_6 ?_
  refine lv_l2i hx hb dX3_perform_9 rfl ?_
  refine lv_topi (fun x_3 ex_3 => ?_)
  refine lv_istore_n (lv' := [(3, .int x_3), (2, .int aa), (0, .ref (k (5 + 8 * i))), (1, .ref q)]) hx hb dX3_perform_10 rfl hl (by decide) rfl (fun ls hl => ?_)
  refine lv_aload_n hx hb dX3_perform_11 rfl (lv_at hl 3 rfl) ?_
  refine m_get (ci := 0) (v := .int cc) (C := RX0) (T := TX0) (N := 6) hx hb hC hH hts in_X3_perform_X0 hown F_2 rfl 3 (by decide) (hts (.fieldLink RX3 118 "LazyState$Act" "c" "I") (by decide +kernel)) rfl dX3_perform_12 ?_
  refine lv_istore (lv' := [(4, .int cc), (3, .int x_3), (2, .int aa), (0, .ref (k (5 + 8 * i))), (1, .ref q)]) hx hb dX3_perform_15 hl (by decide) rfl (fun ls hl => ?_)
  refine lv_aload_n hx hb dX3_perform_17 rfl (lv_at hl 4 rfl) ?_
  refine m_get (ci := 0) (v := .int kd) (C := RX0) (T := TX0) (N := 6) hx hb hC hH hts in_X3_perform_X0 hown F_2 rfl 0 (by decide) (hts (.fieldLink RX3 121 "LazyState$Act" "kind" "I") (by decide +kernel)) rfl dX3_perform_18 ?_
  refine lv_tableIn (off := 353) (tgt := 374) hx hb dX3_perform_21 (by rw [hkd]; decide) (by rw [hkd]; decide) (by rw [hkd]; rfl) (by decide) ?_
  refine lv_aload_n hx hb dX3_perform_374 rfl (lv_at hl 3 rfl) ?_
  refine lv_aload_n hx hb dX3_perform_375 rfl (lv_at hl 3 rfl) ?_
  have F_4 : f (k (5 + 8 * i)) = some (.inr (3, [.ref (k (5 + 8 * i + 1)), .int lb_1, .int dn, .long (gfS σ), .int th, .int ta, .ref (k 1), .ref (k (5 + 8 * i + 5)), .ref (k (5 + 8 * i + 6)), .ref (k (5 + 8 * i + 7)), .int nx])) := by have w_ := hM.r0 i hi; rw [hr_1] at w_; exact w_
  refine m_get (ci := 3) (v := .ref (k (5 + 8 * i + 7))) (C := RX3) (T := TX3) (N := 11) hx hb hC hH hts in_X3_perform_X3 hown F_4 rfl 9 (by decide) (hts (.fieldLink RX3 32 "LazyState$Run" "values" "[J") (by decide +kernel)) rfl dX3_perform_376 ?_
  refine lv_iload_n hx hb dX3_perform_379 rfl (lv_at hl 2 rfl) ?_
  have hg_5 := hM.r7 i hi
  refine m_lald hx hb hC hH hg_5 (vp_in_iff.mpr ⟨by omega, by omega⟩) dX3_perform_380 ?_
  refine lv_topl (fun y_6 ey_6 => ?_)
  have vy_6 : y_6 = vaS σ aa.toNatClampNeg := by rw [ey_6]; exact hR.2.2.2.2.2.1 aa.toNatClampNeg (by have := ic_clN (rfl : aa.toInt = _) (by omega); omega)
  refine m_goi hH (va_runV (As := [.long y_6]) (rest := []) ⟨hx, hb, hml, hown, hts⟩ (c_X3_end l G k own n T z i hi D dn th ta nx σ f hM hR y_6) (cwV 1 hts gX3_perform_X3_end rfl rfl rfl (by decide +kernel) ⟨Nat.le_of_ble_eq_true rfl, Nat.le_of_ble_eq_true rfl⟩) (m_preV (ci := 3) hC hH F_4 rfl) rfl rfl hl.1 rfl (lv_room (Nat.le_of_ble_eq_true rfl)) dX3_perform_381 ⟨by show _ ≤ 3 * (nld (prf T (kd, aa, bb, cc, dd, ee) σ).2 - nld σ); omega, by show _ ≤ 29 * (nld (prf T (kd, aa, bb, cc, dd, ee) σ).2 - nld σ); omega⟩) (fun r_7 rho_9 f_8 H locs hw hH => ?_)
  obtain ⟨hI, hfr1, hr_7⟩ := hw
  have hI : RN G k rho_9 n T z i D dn th ta 32 (sGf σ y_6) f_8 := hI
  have hfr1 : frD own f rho_9 f_8 := hfr1
  have hfr := hfr.trans hfr1
  try dsimp only at hr_7
  obtain ⟨D_10, hM, hR, hK1_10⟩ := hI
  have hK := hK.trans hK1_10
  have n24_ := hR.1.1
  have hT3_ := hR.1.2
  have ok_ := hR.2.1
  obtain ⟨lb_11, hr_11, hlb_11⟩ := hR.2.2.1
  exact m_iret (v := r_7) hx hb hr hlk hC hH rho_9 (by rw [show (prf T (kd, aa, bb, cc, dd, ee) σ) = (0, sGf σ (vaS σ aa.toNatClampNeg)) from prf_16 hk_, show nxt (kd, aa, bb, cc, dd, ee) pp σ = 32 from nxt_16 hk_, ← vy_6]; exact ⟨⟨_, hM, hR, hK⟩, hfr, hr_7⟩) (by omega) (by omega) dX3_perform_384
set_option maxHeartbeats 4000000 in
set_option maxRecDepth 100000 in
theorem c_X3_perform_17 (l : Launch) (G : mG) (k : Nat → Nat) (own : tR) (n : Nat) (T z : Nat → Nat) (i : Nat) (hi : i < 3) (D : tD) (dn th ta nx : Int32) (σ : tS) (f : mF) (hM : CM G k own n z D f) (hR : RP n T (k 1) i dn th ta nx σ D) (q : Nat) (kd aa : Int32) (bb : Int64) (cc dd ee : Int32) (hq : AD D q = some (kd, aa, bb, cc, dd, ee)) (pp : Nat) (hnx : nx = nI (pp + 1)) (hk_ : kd = nI 17) : Met l yX3_perform wsX3_perform ({ frames := 5, cells := 3 * (nld (prf T (kd, aa, bb, cc, dd, ee) σ).2 - nld σ), slots := 29 * (nld (prf T (kd, aa, bb, cc, dd, ee) σ).2 - nld σ), locals := 155 }) (va_Pc [.ref (k (5 + 8 * i)), .ref q] (mW G f)) (va_Qi (fun (r : Int32) (u : mS) => RN G k u.1 n T z i D dn th ta (nI (nxt (kd, aa, bb, cc, dd, ee) pp σ)) ((prf T (kd, aa, bb, cc, dd, ee) σ).2) u.2 ∧ frD own f u.1 u.2 ∧ r.toInt = (((prf T (kd, aa, bb, cc, dd, ee) σ).1 : Nat) : Int)) (fun (u : mS) t => mW G u.2 t) (mA G)) (3 * (nld (prf T (kd, aa, bb, cc, dd, ee) σ).2 - nld σ)) (29 * (nld (prf T (kd, aa, bb, cc, dd, ee) σ).2 - nld σ)) (mA G) := by
  refine mMet [.ref (k (5 + 8 * i)), .ref q] (cc := cX3_perform) (maxL := 5) (ret := (some .int)) (by decide) rfl (Nat.le_of_ble_eq_true rfl) ?_
  intro p e s m below meth c ls hx hb hr hml hts hown hlk hnm hC hH hl
  have hl : lv_has ls 5 [(0, .ref (k (5 + 8 * i))), (1, .ref q)] := hl
  have hK : KP i D D := KP.rf
  have hfr : frD own f own f := frD.rf
  have hkd : kd.toInt = 17 := by rw [hk_]; decide
  have nq_ : nld (prf T (kd, aa, bb, cc, dd, ee) σ).2 = nld σ := by rw [prf_17 hk_]; first | done | rfl
  have n24_ := hR.1.1
  have hT3_ := hR.1.2
  have ok_ := hR.2.1
  obtain ⟨lb_1, hr_1, hlb_1⟩ := hR.2.2.1
  refine lv_aload_n hx hb dX3_perform_0 rfl (lv_at hl 1 rfl) ?_
  have F_2 : f q = some (.inr (0, [.int kd, .int aa, .long bb, .int cc, .int dd, .int ee])) := hM.a0 q _ (by rw [hK.2.1]; exact hq)
  refine m_get (ci := 0) (v := .int aa) (C := RX0) (T := TX0) (N := 6) hx hb hC hH hts in_X3_perform_X0 hown F_2 rfl 1 (by decide) (hts (.fieldLink RX3 110 "LazyState$Act" "a" "I") (by decide +kernel)) rfl dX3_perform_1 ?_
  refine lv_istore_n (lv' := [(2, .int aa), (0, .ref (k (5 + 8 * i))), (1, .ref q)]) hx hb dX3_perform_4 rfl hl (by decide) rfl (fun ls hl => ?_)
  refine lv_aload_n hx hb dX3_perform_5 rfl (lv_at hl 2 rfl) ?_
  refine m_get (ci := 0) (v := .long bb) (C := RX0) (T := TX0) (N := 6) hx hb hC hH hts in_X3_perform_X0 hown F_2 rfl 2 (by decide) (hts (.fieldLink RX3 115 "LazyState$Act" "b" "J") (by decide +kernel)) rfl dX3_perform_6 ?_
  refine lv_l2i hx hb dX3_perform_9 rfl ?_
  refine lv_topi (fun x_3 ex_3 => ?_)
  refine lv_istore_n (lv' := [(3, .int x_3), (2, .int aa), (0, .ref (k (5 + 8 * i))), (1, .ref q)]) hx hb dX3_perform_10 rfl hl (by decide) rfl (fun ls hl => ?_)
  refine lv_aload_n hx hb dX3_perform_11 rfl (lv_at hl 3 rfl) ?_
  refine m_get (ci := 0) (v := .int cc) (C := RX0) (T := TX0) (N := 6) hx hb hC hH hts in_X3_perform_X0 hown F_2 rfl 3 (by decide) (hts (.fieldLink RX3 118 "LazyState$Act" "c" "I") (by decide +kernel)) rfl dX3_perform_12 ?_
  refine lv_istore (lv' := [(4, .int cc), (3, .int x_3), (2, .int aa), (0, .ref (k (5 + 8 * i))), (1, .ref q)]) hx hb dX3_perform_15 hl (by decide) rfl (fun ls hl => ?_)
  refine lv_aload_n hx hb dX3_perform_17 rfl (lv_at hl 4 rfl) ?_
  refine m_get (ci := 0) (v := .int kd) (C := RX0) (T := TX0) (N := 6) hx hb hC hH hts in_X3_perform_X0 hown F_2 rfl 0 (by decide) (hts (.fieldLink RX3 121 "LazyState$Act" "kind" "I") (by decide +kernel)) rfl dX3_perform_18 ?_
  refine lv_tableIn (off := 364) (tgt := 385) hx hb dX3_perform_21 (by rw [hkd]; decide) (by rw [hkd]; decide) (by rw [hkd]; rfl) (by decide) ?_
  refine lv_bipush (v := 6) hx hb dX3_perform_385 (by decide) ?_
  exact m_iret (v := 6) hx hb hr hlk hC hH own (by rw [show (prf T (kd, aa, bb, cc, dd, ee) σ) = (6, σ) from prf_17 hk_, show nxt (kd, aa, bb, cc, dd, ee) pp σ = pp + 1 from nxt_17 hk_, ← hnx]; exact ⟨⟨_, hM, hR, hK⟩, hfr, kI_6⟩) (by omega) (by omega) dX3_perform_387
