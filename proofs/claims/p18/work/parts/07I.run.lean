set_option maxHeartbeats 4000000 in
set_option maxRecDepth 100000 in
theorem c_X3_perform_0 (l : Launch) (G : mG) (k : Nat → Nat) (own : tR) (n : Nat) (T z : Nat → Nat) (i : Nat) (hi : i < 3) (D : tD) (dn th ta nx : Int32) (σ : tS) (f : mF) (hM : CM G k own n z D f) (hR : RP n T (k 1) i dn th ta nx σ D) (q : Nat) (kd aa : Int32) (bb : Int64) (cc dd ee : Int32) (hq : AD D q = some (kd, aa, bb, cc, dd, ee)) (pp : Nat) (hnx : nx = nI (pp + 1)) (hk_ : kd = nI 0) (h0_ : 0 ≤ aa.toInt ∧ aa.toInt ≤ 3) : Met l yX3_perform wsX3_perform ({ frames := 5, cells := 3 * (nld (prf T (kd, aa, bb, cc, dd, ee) σ).2 - nld σ), slots := 29 * (nld (prf T (kd, aa, bb, cc, dd, ee) σ).2 - nld σ), locals := 155 }) (va_Pc [.ref (k (5 + 8 * i)), .ref q] (mW G f)) (va_Qi (fun (r : Int32) (u : mS) => RN G k u.1 n T z i D dn th ta (nI (nxt (kd, aa, bb, cc, dd, ee) pp σ)) ((prf T (kd, aa, bb, cc, dd, ee) σ).2) u.2 ∧ frD own f u.1 u.2 ∧ r.toInt = (((prf T (kd, aa, bb, cc, dd, ee) σ).1 : Nat) : Int)) (fun (u : mS) t => mW G u.2 t) (mA G)) (3 * (nld (prf T (kd, aa, bb, cc, dd, ee) σ).2 - nld σ)) (29 * (nld (prf T (kd, aa, bb, cc, dd, ee) σ).2 - nld σ)) (mA G) := by
  refine mMet [.ref (k (5 + 8 * i)), .ref q] (cc := cX3_perform) (maxL := 5) (ret := (some .int)) (by decide) rfl (Nat.le_of_ble_eq_true rfl) ?_
  intro p e s m below meth c ls hx hb hr hml hts hown hlk hnm hC hH hl
  have hl : lv_has ls 5 [(0, .ref (k (5 + 8 * i))), (1, .ref q)] := hl
  have hK : KP i D D := KP.rf
  have hfr : frD own f own f := frD.rf
  have hkd : kd.toInt = 0 := by rw [hk_]; decide
  have cl_aa := ic_clN (rfl : aa.toInt = _) (by omega)
  have n24_ := hR.1.1
  have hT3_ := hR.1.2
  have ok_ := hR.2.1
  obtain ⟨lb_1, hr_1, hlb_1⟩ := hR.2.2.1
  refine lv_aload_n hx hb dX3_perform_0 rfl (lv_at hl 1 rfl) ?_
  have F_2 : f q = some (.inr (0, [.int kd, .int aa, .long bb, .int cc, .int dd, .int ee])) := hM.a0 q _ (by rw [hK.2.1]; exact hq)
  refine m_get (ci := 0) (v := .int aa) (C := RX0) (T := TX0) (N := 6) hx hb hC hH hts in_X3_perform_X0 hown F_2 rfl 1 (by decide) (hts (.fieldLink RX3 110 "LazyState$Act" "a" "I") (by decide +kernel)) rfl dX3_perform_1 ?_
  refine lv_istore_n (lv' := [(2, .int aa), (0, .ref (k (5 + 8 * i))), (1, .ref q)]) hx hb dX3_perform_4 rfl hl (by decide) rfl (fun ls hl => ?_)
  refine lv_aload_n hx hb dX3_perform_5 rfl (lv_at hl 2 rfl) ?_
  refine m_get (ci := 0) (v := .long bb) (C := RX0) (T := TX0) (N := 6) hx hb hC hH hts in_X3_perform_X0 hown F_2 rfl 2 (by decide) (hts (.fieldLink RX3 115 "LazyState$Act" "b" "J") (by decide +kernel)) rfl dX3_perform_6 ?_
  refine lv_l2i hx hb dX3_perform_9 rfl ?_
  refine lv_topi (fun x_3 ex_3 => ?_)
  refine lv_istore_n (lv' := [(3, .int x_3), (2, .int aa), (0, .ref (k (5 + 8 * i))), (1, .ref q)]) hx hb dX3_perform_10 rfl hl (by decide) rfl (fun ls hl => ?_)
  refine lv_aload_n hx hb dX3_perform_11 rfl (lv_at hl 3 rfl) ?_
  refine m_get (ci := 0) (v := .int cc) (C := RX0) (T := TX0) (N := 6) hx hb hC hH hts in_X3_perform_X0 hown F_2 rfl 3 (by decide) (hts (.fieldLink RX3 118 "LazyState$Act" "c" "I") (by decide +kernel)) rfl dX3_perform_12 ?_
  refine lv_istore (lv' := [(4, .int cc), (3, .int x_3), (2, .int aa), (0, .ref (k (5 + 8 * i))), (1, .ref q)]) hx hb dX3_perform_15 hl (by decide) rfl (fun ls hl => ?_)
  refine lv_aload_n hx hb dX3_perform_17 rfl (lv_at hl 4 rfl) ?_
  refine m_get (ci := 0) (v := .int kd) (C := RX0) (T := TX0) (N := 6) hx hb hC hH hts in_X3_perform_X0 hown F_2 rfl 0 (by decide) (hts (.fieldLink RX3 121 "LazyState$Act" "kind" "I") (by decide +kernel)) rfl dX3_perform_18 ?_
  refine lv_tableIn (off := 87) (tgt := 108) hx hb dX3_perform_21 (by rw [hkd]; decide) (by rw [hkd]; decide) (by rw [hkd]; rfl) (by decide) ?_
  refine lv_aload_n hx hb dX3_perform_108 rfl (lv_at hl 3 rfl) ?_
  refine lv_iload_n hx hb dX3_perform_109 rfl (lv_at hl 2 rfl) ?_
  refine lv_aload_n hx hb dX3_perform_110 rfl (lv_at hl 4 rfl) ?_
  refine m_get (ci := 0) (v := .long bb) (C := RX0) (T := TX0) (N := 6) hx hb hC hH hts in_X3_perform_X0 hown F_2 rfl 2 (by decide) (hts (.fieldLink RX3 115 "LazyState$Act" "b" "J") (by decide +kernel)) rfl dX3_perform_111 ?_
  have px_ : (prf T (kd, aa, bb, cc, dd, ee) σ) = (0, sVa σ aa.toNatClampNeg bb) := (prf_0 hk_).trans (by show (0, sVa σ aa.toNatClampNeg bb) = _; rfl)
  have nq_ : nld (prf T (kd, aa, bb, cc, dd, ee) σ).2 = nld σ := by rw [px_]; rfl
  have F_7 : f (k (5 + 8 * i)) = some (.inr (3, [.ref (k (5 + 8 * i + 1)), .int lb_1, .int dn, .long (gfS σ), .int th, .int ta, .ref (k 1), .ref (k (5 + 8 * i + 5)), .ref (k (5 + 8 * i + 6)), .ref (k (5 + 8 * i + 7)), .int nx])) := by have w_ := hM.r0 i hi; rw [hr_1] at w_; exact w_
  refine m_goi hH (va_runV (As := [.int aa, .long bb]) (rest := []) ⟨hx, hb, hml, hown, hts⟩ (c_X3_setValue l G k own n T z i hi D dn th ta nx σ f hM hR aa bb (by omega)) (cwV 2 hts gX3_perform_X3_setValue rfl rfl rfl (by decide +kernel) ⟨Nat.le_of_ble_eq_true rfl, Nat.le_of_ble_eq_true rfl⟩) (m_preV (ci := 3) hC hH F_7 rfl) rfl rfl hl.1 rfl (lv_room (Nat.le_of_ble_eq_true rfl)) dX3_perform_114 ⟨by show _ ≤ 3 * (nld (prf T (kd, aa, bb, cc, dd, ee) σ).2 - nld σ); omega, by show _ ≤ 29 * (nld (prf T (kd, aa, bb, cc, dd, ee) σ).2 - nld σ); omega⟩) (fun r_4 rho_6 f_5 H locs hw hH => ?_)
  obtain ⟨hI, hfr1, hr_4⟩ := hw
  have hI : RN G k rho_6 n T z i D dn th ta nx (sVa σ aa.toNatClampNeg bb) f_5 := hI
  have hfr1 : frD own f rho_6 f_5 := hfr1
  have hfr := hfr.trans hfr1
  try dsimp only at hr_4
  obtain ⟨D_8, hM, hR, hK1_8⟩ := hI
  have hK := hK.trans hK1_8
  have n24_ := hR.1.1
  have hT3_ := hR.1.2
  have ok_ := hR.2.1
  obtain ⟨lb_9, hr_9, hlb_9⟩ := hR.2.2.1
  exact m_iret (v := r_4) hx hb hr hlk hC hH rho_6 (by rw [px_, show nxt (kd, aa, bb, cc, dd, ee) pp σ = pp + 1 from nxt_0 hk_, ← hnx]; exact ⟨⟨_, hM, hR, hK⟩, hfr, hr_4⟩) (by omega) (by omega) dX3_perform_117
set_option maxHeartbeats 4000000 in
set_option maxRecDepth 100000 in
theorem c_X3_perform_1 (l : Launch) (G : mG) (k : Nat → Nat) (own : tR) (n : Nat) (T z : Nat → Nat) (i : Nat) (hi : i < 3) (D : tD) (dn th ta nx : Int32) (σ : tS) (f : mF) (hM : CM G k own n z D f) (hR : RP n T (k 1) i dn th ta nx σ D) (q : Nat) (kd aa : Int32) (bb : Int64) (cc dd ee : Int32) (hq : AD D q = some (kd, aa, bb, cc, dd, ee)) (pp : Nat) (hnx : nx = nI (pp + 1)) (hk_ : kd = nI 1) (h0_ : 0 ≤ aa.toInt ∧ aa.toInt ≤ 3) (h1_ : 0 ≤ bb.toInt ∧ bb.toInt ≤ 3) (h2_ : 0 ≤ cc.toInt ∧ cc.toInt ≤ 3) : Met l yX3_perform wsX3_perform ({ frames := 5, cells := 3 * (nld (prf T (kd, aa, bb, cc, dd, ee) σ).2 - nld σ), slots := 29 * (nld (prf T (kd, aa, bb, cc, dd, ee) σ).2 - nld σ), locals := 155 }) (va_Pc [.ref (k (5 + 8 * i)), .ref q] (mW G f)) (va_Qi (fun (r : Int32) (u : mS) => RN G k u.1 n T z i D dn th ta (nI (nxt (kd, aa, bb, cc, dd, ee) pp σ)) ((prf T (kd, aa, bb, cc, dd, ee) σ).2) u.2 ∧ frD own f u.1 u.2 ∧ r.toInt = (((prf T (kd, aa, bb, cc, dd, ee) σ).1 : Nat) : Int)) (fun (u : mS) t => mW G u.2 t) (mA G)) (3 * (nld (prf T (kd, aa, bb, cc, dd, ee) σ).2 - nld σ)) (29 * (nld (prf T (kd, aa, bb, cc, dd, ee) σ).2 - nld σ)) (mA G) := by
  refine mMet [.ref (k (5 + 8 * i)), .ref q] (cc := cX3_perform) (maxL := 5) (ret := (some .int)) (by decide) rfl (Nat.le_of_ble_eq_true rfl) ?_
  intro p e s m below meth c ls hx hb hr hml hts hown hlk hnm hC hH hl
  have hl : lv_has ls 5 [(0, .ref (k (5 + 8 * i))), (1, .ref q)] := hl
  have hK : KP i D D := KP.rf
  have hfr : frD own f own f := frD.rf
  have hkd : kd.toInt = 1 := by rw [hk_]; decide
  have cl_aa := ic_clN (rfl : aa.toInt = _) (by omega)
  have cl_cc := ic_clN (rfl : cc.toInt = _) (by omega)
  have n24_ := hR.1.1
  have hT3_ := hR.1.2
  have ok_ := hR.2.1
  obtain ⟨lb_1, hr_1, hlb_1⟩ := hR.2.2.1
  refine lv_aload_n hx hb dX3_perform_0 rfl (lv_at hl 1 rfl) ?_
  have F_2 : f q = some (.inr (0, [.int kd, .int aa, .long bb, .int cc, .int dd, .int ee])) := hM.a0 q _ (by rw [hK.2.1]; exact hq)
  refine m_get (ci := 0) (v := .int aa) (C := RX0) (T := TX0) (N := 6) hx hb hC hH hts in_X3_perform_X0 hown F_2 rfl 1 (by decide) (hts (.fieldLink RX3 110 "LazyState$Act" "a" "I") (by decide +kernel)) rfl dX3_perform_1 ?_
  refine lv_istore_n (lv' := [(2, .int aa), (0, .ref (k (5 + 8 * i))), (1, .ref q)]) hx hb dX3_perform_4 rfl hl (by decide) rfl (fun ls hl => ?_)
  refine lv_aload_n hx hb dX3_perform_5 rfl (lv_at hl 2 rfl) ?_
  refine m_get (ci := 0) (v := .long bb) (C := RX0) (T := TX0) (N := 6) hx hb hC hH hts in_X3_perform_X0 hown F_2 rfl 2 (by decide) (hts (.fieldLink RX3 115 "LazyState$Act" "b" "J") (by decide +kernel)) rfl dX3_perform_6 ?_
  refine lv_l2i hx hb dX3_perform_9 rfl ?_
  refine lv_topi (fun x_3 ex_3 => ?_)
  have ix_3 : x_3.toInt = bb.toInt := ic_l2i ex_3 rfl (by omega) (by omega)
  have hB_ : bb.toInt.toNat = x_3.toNatClampNeg := (show bb.toInt.toNat = x_3.toInt.toNat from by omega)
  refine lv_istore_n (lv' := [(3, .int x_3), (2, .int aa), (0, .ref (k (5 + 8 * i))), (1, .ref q)]) hx hb dX3_perform_10 rfl hl (by decide) rfl (fun ls hl => ?_)
  refine lv_aload_n hx hb dX3_perform_11 rfl (lv_at hl 3 rfl) ?_
  refine m_get (ci := 0) (v := .int cc) (C := RX0) (T := TX0) (N := 6) hx hb hC hH hts in_X3_perform_X0 hown F_2 rfl 3 (by decide) (hts (.fieldLink RX3 118 "LazyState$Act" "c" "I") (by decide +kernel)) rfl dX3_perform_12 ?_
  refine lv_istore (lv' := [(4, .int cc), (3, .int x_3), (2, .int aa), (0, .ref (k (5 + 8 * i))), (1, .ref q)]) hx hb dX3_perform_15 hl (by decide) rfl (fun ls hl => ?_)
  refine lv_aload_n hx hb dX3_perform_17 rfl (lv_at hl 4 rfl) ?_
  refine m_get (ci := 0) (v := .int kd) (C := RX0) (T := TX0) (N := 6) hx hb hC hH hts in_X3_perform_X0 hown F_2 rfl 0 (by decide) (hts (.fieldLink RX3 121 "LazyState$Act" "kind" "I") (by decide +kernel)) rfl dX3_perform_18 ?_
  refine lv_tableIn (off := 97) (tgt := 118) hx hb dX3_perform_21 (by rw [hkd]; decide) (by rw [hkd]; decide) (by rw [hkd]; rfl) (by decide) ?_
  refine lv_aload_n hx hb dX3_perform_118 rfl (lv_at hl 3 rfl) ?_
  refine lv_iload_n hx hb dX3_perform_119 rfl (lv_at hl 2 rfl) ?_
  refine lv_aload_n hx hb dX3_perform_120 rfl (lv_at hl 3 rfl) ?_
  have F_4 : f (k (5 + 8 * i)) = some (.inr (3, [.ref (k (5 + 8 * i + 1)), .int lb_1, .int dn, .long (gfS σ), .int th, .int ta, .ref (k 1), .ref (k (5 + 8 * i + 5)), .ref (k (5 + 8 * i + 6)), .ref (k (5 + 8 * i + 7)), .int nx])) := by have w_ := hM.r0 i hi; rw [hr_1] at w_; exact w_
  refine m_get (ci := 3) (v := .ref (k (5 + 8 * i + 7))) (C := RX3) (T := TX3) (N := 11) hx hb hC hH hts in_X3_perform_X3 hown F_4 rfl 9 (by decide) (hts (.fieldLink RX3 32 "LazyState$Run" "values" "[J") (by decide +kernel)) rfl dX3_perform_121 ?_
  refine lv_iload_n hx hb dX3_perform_124 rfl (lv_at hl 1 rfl) ?_
  have hg_5 := hM.r7 i hi
  refine m_lald hx hb hC hH hg_5 (vp_in_iff.mpr ⟨by omega, by omega⟩) dX3_perform_125 ?_
  refine lv_topl (fun y_6 ey_6 => ?_)
  have vy_6 : y_6 = vaS σ x_3.toNatClampNeg := by rw [ey_6]; exact hR.2.2.2.2.2.1 x_3.toNatClampNeg (by have := ic_clN (rfl : x_3.toInt = _) (by omega); omega)
  refine lv_aload_n hx hb dX3_perform_126 rfl (lv_at hl 3 rfl) ?_
  refine m_get (ci := 3) (v := .ref (k (5 + 8 * i + 7))) (C := RX3) (T := TX3) (N := 11) hx hb hC hH hts in_X3_perform_X3 hown F_4 rfl 9 (by decide) (hts (.fieldLink RX3 32 "LazyState$Run" "values" "[J") (by decide +kernel)) rfl dX3_perform_127 ?_
  refine lv_iload hx hb dX3_perform_130 (lv_at hl 0 rfl) ?_
  have hg_7 := hM.r7 i hi
  refine m_lald hx hb hC hH hg_7 (vp_in_iff.mpr ⟨by omega, by omega⟩) dX3_perform_132 ?_
  refine lv_topl (fun y_8 ey_8 => ?_)
  have vy_8 : y_8 = vaS σ cc.toNatClampNeg := by rw [ey_8]; exact hR.2.2.2.2.2.1 cc.toNatClampNeg (by have := ic_clN (rfl : cc.toInt = _) (by omega); omega)
  refine lv_ladd hx hb dX3_perform_133 ?_
  refine lv_topl (fun y_9 ey_9 => ?_)
  have px_ : (prf T (kd, aa, bb, cc, dd, ee) σ) = (0, sVa σ aa.toNatClampNeg y_9) := (prf_1 hk_).trans (by show (0, sVa σ aa.toNatClampNeg (vaS σ bb.toInt.toNat + vaS σ cc.toNatClampNeg)) = _; rw [hB_, ← vy_6, ← vy_8, ← ey_9])
  have nq_ : nld (prf T (kd, aa, bb, cc, dd, ee) σ).2 = nld σ := by rw [px_]; rfl
  refine m_goi hH (va_runV (As := [.int aa, .long y_9]) (rest := []) ⟨hx, hb, hml, hown, hts⟩ (c_X3_setValue l G k own n T z i hi D dn th ta nx σ f hM hR aa y_9 (by omega)) (cwV 2 hts gX3_perform_X3_setValue rfl rfl rfl (by decide +kernel) ⟨Nat.le_of_ble_eq_true rfl, Nat.le_of_ble_eq_true rfl⟩) (m_preV (ci := 3) hC hH F_4 rfl) rfl rfl hl.1 rfl (lv_room (Nat.le_of_ble_eq_true rfl)) dX3_perform_134 ⟨by show _ ≤ 3 * (nld (prf T (kd, aa, bb, cc, dd, ee) σ).2 - nld σ); omega, by show _ ≤ 29 * (nld (prf T (kd, aa, bb, cc, dd, ee) σ).2 - nld σ); omega⟩) (fun r_10 rho_12 f_11 H locs hw hH => ?_)
  obtain ⟨hI, hfr1, hr_10⟩ := hw
  have hI : RN G k rho_12 n T z i D dn th ta nx (sVa σ aa.toNatClampNeg y_9) f_11 := hI
  have hfr1 : frD own f rho_12 f_11 := hfr1
  have hfr := hfr.trans hfr1
  try dsimp only at hr_10
  obtain ⟨D_13, hM, hR, hK1_13⟩ := hI
  have hK := hK.trans hK1_13
  have n24_ := hR.1.1
  have hT3_ := hR.1.2
  have ok_ := hR.2.1
  obtain ⟨lb_14, hr_14, hlb_14⟩ := hR.2.2.1
  exact m_iret (v := r_10) hx hb hr hlk hC hH rho_12 (by rw [px_, show nxt (kd, aa, bb, cc, dd, ee) pp σ = pp + 1 from nxt_1 hk_, ← hnx]; exact ⟨⟨_, hM, hR, hK⟩, hfr, hr_10⟩) (by omega) (by omega) dX3_perform_137
set_option maxHeartbeats 4000000 in
set_option maxRecDepth 100000 in
theorem c_X3_perform_2 (l : Launch) (G : mG) (k : Nat → Nat) (own : tR) (n : Nat) (T z : Nat → Nat) (i : Nat) (hi : i < 3) (D : tD) (dn th ta nx : Int32) (σ : tS) (f : mF) (hM : CM G k own n z D f) (hR : RP n T (k 1) i dn th ta nx σ D) (q : Nat) (kd aa : Int32) (bb : Int64) (cc dd ee : Int32) (hq : AD D q = some (kd, aa, bb, cc, dd, ee)) (pp : Nat) (hnx : nx = nI (pp + 1)) (hk_ : kd = nI 2) (h0_ : 0 ≤ aa.toInt ∧ aa.toInt ≤ 3) (h1_ : 0 ≤ bb.toInt ∧ bb.toInt ≤ 3) (h2_ : 0 ≤ cc.toInt ∧ cc.toInt ≤ 3) : Met l yX3_perform wsX3_perform ({ frames := 5, cells := 3 * (nld (prf T (kd, aa, bb, cc, dd, ee) σ).2 - nld σ), slots := 29 * (nld (prf T (kd, aa, bb, cc, dd, ee) σ).2 - nld σ), locals := 155 }) (va_Pc [.ref (k (5 + 8 * i)), .ref q] (mW G f)) (va_Qi (fun (r : Int32) (u : mS) => RN G k u.1 n T z i D dn th ta (nI (nxt (kd, aa, bb, cc, dd, ee) pp σ)) ((prf T (kd, aa, bb, cc, dd, ee) σ).2) u.2 ∧ frD own f u.1 u.2 ∧ r.toInt = (((prf T (kd, aa, bb, cc, dd, ee) σ).1 : Nat) : Int)) (fun (u : mS) t => mW G u.2 t) (mA G)) (3 * (nld (prf T (kd, aa, bb, cc, dd, ee) σ).2 - nld σ)) (29 * (nld (prf T (kd, aa, bb, cc, dd, ee) σ).2 - nld σ)) (mA G) := by
  refine mMet [.ref (k (5 + 8 * i)), .ref q] (cc := cX3_perform) (maxL := 5) (ret := (some .int)) (by decide) rfl (Nat.le_of_ble_eq_true rfl) ?_
  intro p e s m below meth c ls hx hb hr hml hts hown hlk hnm hC hH hl
  have hl : lv_has ls 5 [(0, .ref (k (5 + 8 * i))), (1, .ref q)] := hl
  have hK : KP i D D := KP.rf
  have hfr : frD own f own f := frD.rf
  have hkd : kd.toInt = 2 := by rw [hk_]; decide
  have cl_aa := ic_clN (rfl : aa.toInt = _) (by omega)
  have cl_cc := ic_clN (rfl : cc.toInt = _) (by omega)
  have n24_ := hR.1.1
  have hT3_ := hR.1.2
  have ok_ := hR.2.1
  obtain ⟨lb_1, hr_1, hlb_1⟩ := hR.2.2.1
  refine lv_aload_n hx hb dX3_perform_0 rfl (lv_at hl 1 rfl) ?_
  have F_2 : f q = some (.inr (0, [.int kd, .int aa, .long bb, .int cc, .int dd, .int ee])) := hM.a0 q _ (by rw [hK.2.1]; exact hq)
  refine m_get (ci := 0) (v := .int aa) (C := RX0) (T := TX0) (N := 6) hx hb hC hH hts in_X3_perform_X0 hown F_2 rfl 1 (by decide) (hts (.fieldLink RX3 110 "LazyState$Act" "a" "I") (by decide +kernel)) rfl dX3_perform_1 ?_
  refine lv_istore_n (lv' := [(2, .int aa), (0, .ref (k (5 + 8 * i))), (1, .ref q)]) hx hb dX3_perform_4 rfl hl (by decide) rfl (fun ls hl => ?_)
  refine lv_aload_n hx hb dX3_perform_5 rfl (lv_at hl 2 rfl) ?_
  refine m_get (ci := 0) (v := .long bb) (C := RX0) (T := TX0) (N := 6) hx hb hC hH hts in_X3_perform_X0 hown F_2 rfl 2 (by decide) (hts (.fieldLink RX3 115 "LazyState$Act" "b" "J") (by decide +kernel)) rfl dX3_perform_6 ?_
  refine lv_l2i hx hb dX3_perform_9 rfl ?_
  refine lv_topi (fun x_3 ex_3 => ?_)
  have ix_3 : x_3.toInt = bb.toInt := ic_l2i ex_3 rfl (by omega) (by omega)
  have hB_ : bb.toInt.toNat = x_3.toNatClampNeg := (show bb.toInt.toNat = x_3.toInt.toNat from by omega)
  refine lv_istore_n (lv' := [(3, .int x_3), (2, .int aa), (0, .ref (k (5 + 8 * i))), (1, .ref q)]) hx hb dX3_perform_10 rfl hl (by decide) rfl (fun ls hl => ?_)
  refine lv_aload_n hx hb dX3_perform_11 rfl (lv_at hl 3 rfl) ?_
  refine m_get (ci := 0) (v := .int cc) (C := RX0) (T := TX0) (N := 6) hx hb hC hH hts in_X3_perform_X0 hown F_2 rfl 3 (by decide) (hts (.fieldLink RX3 118 "LazyState$Act" "c" "I") (by decide +kernel)) rfl dX3_perform_12 ?_
  refine lv_istore (lv' := [(4, .int cc), (3, .int x_3), (2, .int aa), (0, .ref (k (5 + 8 * i))), (1, .ref q)]) hx hb dX3_perform_15 hl (by decide) rfl (fun ls hl => ?_)
  refine lv_aload_n hx hb dX3_perform_17 rfl (lv_at hl 4 rfl) ?_
  refine m_get (ci := 0) (v := .int kd) (C := RX0) (T := TX0) (N := 6) hx hb hC hH hts in_X3_perform_X0 hown F_2 rfl 0 (by decide) (hts (.fieldLink RX3 121 "LazyState$Act" "kind" "I") (by decide +kernel)) rfl dX3_perform_18 ?_
  refine lv_tableIn (off := 117) (tgt := 138) hx hb dX3_perform_21 (by rw [hkd]; decide) (by rw [hkd]; decide) (by rw [hkd]; rfl) (by decide) ?_
  refine lv_aload_n hx hb dX3_perform_138 rfl (lv_at hl 3 rfl) ?_
  refine lv_iload_n hx hb dX3_perform_139 rfl (lv_at hl 2 rfl) ?_
  refine lv_aload_n hx hb dX3_perform_140 rfl (lv_at hl 3 rfl) ?_
  have F_4 : f (k (5 + 8 * i)) = some (.inr (3, [.ref (k (5 + 8 * i + 1)), .int lb_1, .int dn, .long (gfS σ), .int th, .int ta, .ref (k 1), .ref (k (5 + 8 * i + 5)), .ref (k (5 + 8 * i + 6)), .ref (k (5 + 8 * i + 7)), .int nx])) := by have w_ := hM.r0 i hi; rw [hr_1] at w_; exact w_
  refine m_get (ci := 3) (v := .ref (k (5 + 8 * i + 7))) (C := RX3) (T := TX3) (N := 11) hx hb hC hH hts in_X3_perform_X3 hown F_4 rfl 9 (by decide) (hts (.fieldLink RX3 32 "LazyState$Run" "values" "[J") (by decide +kernel)) rfl dX3_perform_141 ?_
  refine lv_iload_n hx hb dX3_perform_144 rfl (lv_at hl 1 rfl) ?_
  have hg_5 := hM.r7 i hi
  refine m_lald hx hb hC hH hg_5 (vp_in_iff.mpr ⟨by omega, by omega⟩) dX3_perform_145 ?_
  refine lv_topl (fun y_6 ey_6 => ?_)
  have vy_6 : y_6 = vaS σ x_3.toNatClampNeg := by rw [ey_6]; exact hR.2.2.2.2.2.1 x_3.toNatClampNeg (by have := ic_clN (rfl : x_3.toInt = _) (by omega); omega)
  refine lv_aload_n hx hb dX3_perform_146 rfl (lv_at hl 3 rfl) ?_
  refine m_get (ci := 3) (v := .ref (k (5 + 8 * i + 7))) (C := RX3) (T := TX3) (N := 11) hx hb hC hH hts in_X3_perform_X3 hown F_4 rfl 9 (by decide) (hts (.fieldLink RX3 32 "LazyState$Run" "values" "[J") (by decide +kernel)) rfl dX3_perform_147 ?_
  refine lv_iload hx hb dX3_perform_150 (lv_at hl 0 rfl) ?_
  have hg_7 := hM.r7 i hi
  refine m_lald hx hb hC hH hg_7 (vp_in_iff.mpr ⟨by omega, by omega⟩) dX3_perform_152 ?_
  refine lv_topl (fun y_8 ey_8 => ?_)
  have vy_8 : y_8 = vaS σ cc.toNatClampNeg := by rw [ey_8]; exact hR.2.2.2.2.2.1 cc.toNatClampNeg (by have := ic_clN (rfl : cc.toInt = _) (by omega); omega)
  refine lv_lsub hx hb dX3_perform_153 ?_
  refine lv_topl (fun y_9 ey_9 => ?_)
  have px_ : (prf T (kd, aa, bb, cc, dd, ee) σ) = (0, sVa σ aa.toNatClampNeg y_9) := (prf_2 hk_).trans (by show (0, sVa σ aa.toNatClampNeg (vaS σ bb.toInt.toNat - vaS σ cc.toNatClampNeg)) = _; rw [hB_, ← vy_6, ← vy_8, ← ey_9])
  have nq_ : nld (prf T (kd, aa, bb, cc, dd, ee) σ).2 = nld σ := by rw [px_]; rfl
  refine m_goi hH (va_runV (As := [.int aa, .long y_9]) (rest := []) ⟨hx, hb, hml, hown, hts⟩ (c_X3_setValue l G k own n T z i hi D dn th ta nx σ f hM hR aa y_9 (by omega)) (cwV 2 hts gX3_perform_X3_setValue rfl rfl rfl (by decide +kernel) ⟨Nat.le_of_ble_eq_true rfl, Nat.le_of_ble_eq_true rfl⟩) (m_preV (ci := 3) hC hH F_4 rfl) rfl rfl hl.1 rfl (lv_room (Nat.le_of_ble_eq_true rfl)) dX3_perform_154 ⟨by show _ ≤ 3 * (nld (prf T (kd, aa, bb, cc, dd, ee) σ).2 - nld σ); omega, by show _ ≤ 29 * (nld (prf T (kd, aa, bb, cc, dd, ee) σ).2 - nld σ); omega⟩) (fun r_10 rho_12 f_11 H locs hw hH => ?_)
  obtain ⟨hI, hfr1, hr_10⟩ := hw
  have hI : RN G k rho_12 n T z i D dn th ta nx (sVa σ aa.toNatClampNeg y_9) f_11 := hI
  have hfr1 : frD own f rho_12 f_11 := hfr1
  have hfr := hfr.trans hfr1
  try dsimp only at hr_10
  obtain ⟨D_13, hM, hR, hK1_13⟩ := hI
  have hK := hK.trans hK1_13
  have n24_ := hR.1.1
  have hT3_ := hR.1.2
  have ok_ := hR.2.1
  obtain ⟨lb_14, hr_14, hlb_14⟩ := hR.2.2.1
  exact m_iret (v := r_10) hx hb hr hlk hC hH rho_12 (by rw [px_, show nxt (kd, aa, bb, cc, dd, ee) pp σ = pp + 1 from nxt_2 hk_, ← hnx]; exact ⟨⟨_, hM, hR, hK⟩, hfr, hr_10⟩) (by omega) (by omega) dX3_perform_157
set_option maxHeartbeats 4000000 in
set_option maxRecDepth 100000 in
theorem c_X3_perform_3 (l : Launch) (G : mG) (k : Nat → Nat) (own : tR) (n : Nat) (T z : Nat → Nat) (i : Nat) (hi : i < 3) (D : tD) (dn th ta nx : Int32) (σ : tS) (f : mF) (hM : CM G k own n z D f) (hR : RP n T (k 1) i dn th ta nx σ D) (q : Nat) (kd aa : Int32) (bb : Int64) (cc dd ee : Int32) (hq : AD D q = some (kd, aa, bb, cc, dd, ee)) (pp : Nat) (hnx : nx = nI (pp + 1)) (hk_ : kd = nI 3) (h0_ : 0 ≤ aa.toInt ∧ aa.toInt ≤ 3) (h1_ : 0 ≤ bb.toInt ∧ bb.toInt ≤ 3) (h2_ : 0 ≤ cc.toInt ∧ cc.toInt ≤ 3) : Met l yX3_perform wsX3_perform ({ frames := 5, cells := 3 * (nld (prf T (kd, aa, bb, cc, dd, ee) σ).2 - nld σ), slots := 29 * (nld (prf T (kd, aa, bb, cc, dd, ee) σ).2 - nld σ), locals := 155 }) (va_Pc [.ref (k (5 + 8 * i)), .ref q] (mW G f)) (va_Qi (fun (r : Int32) (u : mS) => RN G k u.1 n T z i D dn th ta (nI (nxt (kd, aa, bb, cc, dd, ee) pp σ)) ((prf T (kd, aa, bb, cc, dd, ee) σ).2) u.2 ∧ frD own f u.1 u.2 ∧ r.toInt = (((prf T (kd, aa, bb, cc, dd, ee) σ).1 : Nat) : Int)) (fun (u : mS) t => mW G u.2 t) (mA G)) (3 * (nld (prf T (kd, aa, bb, cc, dd, ee) σ).2 - nld σ)) (29 * (nld (prf T (kd, aa, bb, cc, dd, ee) σ).2 - nld σ)) (mA G) := by
  refine mMet [.ref (k (5 + 8 * i)), .ref q] (cc := cX3_perform) (maxL := 5) (ret := (some .int)) (by decide) rfl (Nat.le_of_ble_eq_true rfl) ?_
  intro p e s m below meth c ls hx hb hr hml hts hown hlk hnm hC hH hl
  have hl : lv_has ls 5 [(0, .ref (k (5 + 8 * i))), (1, .ref q)] := hl
  have hK : KP i D D := KP.rf
  have hfr : frD own f own f := frD.rf
  have hkd : kd.toInt = 3 := by rw [hk_]; decide
  have cl_aa := ic_clN (rfl : aa.toInt = _) (by omega)
  have cl_cc := ic_clN (rfl : cc.toInt = _) (by omega)
  have nq_ : nld (prf T (kd, aa, bb, cc, dd, ee) σ).2 = nld σ := by rw [prf_3 hk_]; show nld (if vaS σ cc.toNatClampNeg = 0 then (5, σ) else (0, sVa σ aa.toNatClampNeg (vaS σ bb.toInt.toNat / vaS σ cc.toNatClampNeg)) : Nat × tS).2 = nld σ; split <;> rfl
  have n24_ := hR.1.1
  have hT3_ := hR.1.2
  have ok_ := hR.2.1
  obtain ⟨lb_1, hr_1, hlb_1⟩ := hR.2.2.1
  refine lv_aload_n hx hb dX3_perform_0 rfl (lv_at hl 1 rfl) ?_
  have F_2 : f q = some (.inr (0, [.int kd, .int aa, .long bb, .int cc, .int dd, .int ee])) := hM.a0 q _ (by rw [hK.2.1]; exact hq)
  refine m_get (ci := 0) (v := .int aa) (C := RX0) (T := TX0) (N := 6) hx hb hC hH hts in_X3_perform_X0 hown F_2 rfl 1 (by decide) (hts (.fieldLink RX3 110 "LazyState$Act" "a" "I") (by decide +kernel)) rfl dX3_perform_1 ?_
  refine lv_istore_n (lv' := [(2, .int aa), (0, .ref (k (5 + 8 * i))), (1, .ref q)]) hx hb dX3_perform_4 rfl hl (by decide) rfl (fun ls hl => ?_)
  refine lv_aload_n hx hb dX3_perform_5 rfl (lv_at hl 2 rfl) ?_
  refine m_get (ci := 0) (v := .long bb) (C := RX0) (T := TX0) (N := 6) hx hb hC hH hts in_X3_perform_X0 hown F_2 rfl 2 (by decide) (hts (.fieldLink RX3 115 "LazyState$Act" "b" "J") (by decide +kernel)) rfl dX3_perform_6 ?_
  refine lv_l2i hx hb dX3_perform_9 rfl ?_
  refine lv_topi (fun x_3 ex_3 => ?_)
  have ix_3 : x_3.toInt = bb.toInt := ic_l2i ex_3 rfl (by omega) (by omega)
  have hB_ : bb.toInt.toNat = x_3.toNatClampNeg := (show bb.toInt.toNat = x_3.toInt.toNat from by omega)
  refine lv_istore_n (lv' := [(3, .int x_3), (2, .int aa), (0, .ref (k (5 + 8 * i))), (1, .ref q)]) hx hb dX3_perform_10 rfl hl (by decide) rfl (fun ls hl => ?_)
  refine lv_aload_n hx hb dX3_perform_11 rfl (lv_at hl 3 rfl) ?_
  refine m_get (ci := 0) (v := .int cc) (C := RX0) (T := TX0) (N := 6) hx hb hC hH hts in_X3_perform_X0 hown F_2 rfl 3 (by decide) (hts (.fieldLink RX3 118 "LazyState$Act" "c" "I") (by decide +kernel)) rfl dX3_perform_12 ?_
  refine lv_istore (lv' := [(4, .int cc), (3, .int x_3), (2, .int aa), (0, .ref (k (5 + 8 * i))), (1, .ref q)]) hx hb dX3_perform_15 hl (by decide) rfl (fun ls hl => ?_)
  refine lv_aload_n hx hb dX3_perform_17 rfl (lv_at hl 4 rfl) ?_
  refine m_get (ci := 0) (v := .int kd) (C := RX0) (T := TX0) (N := 6) hx hb hC hH hts in_X3_perform_X0 hown F_2 rfl 0 (by decide) (hts (.fieldLink RX3 121 "LazyState$Act" "kind" "I") (by decide +kernel)) rfl dX3_perform_18 ?_
  refine lv_tableIn (off := 137) (tgt := 158) hx hb dX3_perform_21 (by rw [hkd]; decide) (by rw [hkd]; decide) (by rw [hkd]; rfl) (by decide) ?_
  refine lv_aload_n hx hb dX3_perform_158 rfl (lv_at hl 3 rfl) ?_
  have F_4 : f (k (5 + 8 * i)) = some (.inr (3, [.ref (k (5 + 8 * i + 1)), .int lb_1, .int dn, .long (gfS σ), .int th, .int ta, .ref (k 1), .ref (k (5 + 8 * i + 5)), .ref (k (5 + 8 * i + 6)), .ref (k (5 + 8 * i + 7)), .int nx])) := by have w_ := hM.r0 i hi; rw [hr_1] at w_; exact w_
  refine m_get (ci := 3) (v := .ref (k (5 + 8 * i + 7))) (C := RX3) (T := TX3) (N := 11) hx hb hC hH hts in_X3_perform_X3 hown F_4 rfl 9 (by decide) (hts (.fieldLink RX3 32 "LazyState$Run" "values" "[J") (by decide +kernel)) rfl dX3_perform_159 ?_
  refine lv_iload hx hb dX3_perform_162 (lv_at hl 0 rfl) ?_
  have hg_5 := hM.r7 i hi
  refine m_lald hx hb hC hH hg_5 (vp_in_iff.mpr ⟨by omega, by omega⟩) dX3_perform_164 ?_
  refine lv_topl (fun y_6 ey_6 => ?_)
  have vy_6 : y_6 = vaS σ cc.toNatClampNeg := by rw [ey_6]; exact hR.2.2.2.2.2.1 cc.toNatClampNeg (by have := ic_clN (rfl : cc.toInt = _) (by omega); omega)
  refine lv_lconst (v := 0) hx hb dX3_perform_165 (by decide) ?_
  refine W.lcmp hx hb dX3_perform_166 ?_
  refine lv_if_ne (tgt := 174) hx hb dX3_perform_167 (by decide) (fun c_7 => ?_) (fun c_7 => ?_)
  · skip
    have ic_7 : (y_6.toInt : Int) ≠ 0 := lc_ne rfl kJ_0 (fun q_ => c_7 ((lg_cmp_eq _ _).mpr q_))
    have dz_ : ¬ vaS σ cc.toNatClampNeg = 0 := fun z_ => by rw [← vy_6] at z_; rw [z_] at ic_7; exact ic_7 rfl
    refine lv_aload_n hx hb dX3_perform_174 rfl (lv_at hl 3 rfl) ?_
    refine lv_iload_n hx hb dX3_perform_175 rfl (lv_at hl 2 rfl) ?_
    refine lv_aload_n hx hb dX3_perform_176 rfl (lv_at hl 3 rfl) ?_
    refine m_get (ci := 3) (v := .ref (k (5 + 8 * i + 7))) (C := RX3) (T := TX3) (N := 11) hx hb hC hH hts in_X3_perform_X3 hown F_4 rfl 9 (by decide) (hts (.fieldLink RX3 32 "LazyState$Run" "values" "[J") (by decide +kernel)) rfl dX3_perform_177 ?_
    refine lv_iload_n hx hb dX3_perform_180 rfl (lv_at hl 1 rfl) ?_
    have hg_8 := hM.r7 i hi
    refine m_lald hx hb hC hH hg_8 (vp_in_iff.mpr ⟨by omega, by omega⟩) dX3_perform_181 ?_
    refine lv_topl (fun y_9 ey_9 => ?_)
    have vy_9 : y_9 = vaS σ x_3.toNatClampNeg := by rw [ey_9]; exact hR.2.2.2.2.2.1 x_3.toNatClampNeg (by have := ic_clN (rfl : x_3.toInt = _) (by omega); omega)
    refine lv_aload_n hx hb dX3_perform_182 rfl (lv_at hl 3 rfl) ?_
    refine m_get (ci := 3) (v := .ref (k (5 + 8 * i + 7))) (C := RX3) (T := TX3) (N := 11) hx hb hC hH hts in_X3_perform_X3 hown F_4 rfl 9 (by decide) (hts (.fieldLink RX3 32 "LazyState$Run" "values" "[J") (by decide +kernel)) rfl dX3_perform_183 ?_
    refine lv_iload hx hb dX3_perform_186 (lv_at hl 0 rfl) ?_
    have hg_10 := hM.r7 i hi
    refine m_lald hx hb hC hH hg_10 (vp_in_iff.mpr ⟨by omega, by omega⟩) dX3_perform_188 ?_
    refine lv_topl (fun y_11 ey_11 => ?_)
    have vy_11 : y_11 = vaS σ cc.toNatClampNeg := by rw [ey_11]; exact hR.2.2.2.2.2.1 cc.toNatClampNeg (by have := ic_clN (rfl : cc.toInt = _) (by omega); omega)
    refine lv_ldiv hx hb dX3_perform_189 (fun q_ => by have h_ : y_11 = y_6 := (by rw [vy_11, vy_6]); rw [h_] at q_; have q2_ : y_6.toInt = 0 := (by rw [q_]; rfl); omega) ?_
    refine lv_topl (fun y_12 ey_12 => ?_)
    have px_ : (prf T (kd, aa, bb, cc, dd, ee) σ) = (0, sVa σ aa.toNatClampNeg y_12) := (prf_3 hk_).trans (by show (if vaS σ cc.toNatClampNeg = 0 then (5, σ) else (0, sVa σ aa.toNatClampNeg (vaS σ bb.toInt.toNat / vaS σ cc.toNatClampNeg))) = _; rw [if_neg dz_, hB_, ← vy_9, ← vy_11, ← ey_12])
    have nq_ : nld (prf T (kd, aa, bb, cc, dd, ee) σ).2 = nld σ := by rw [px_]; rfl
    refine m_goi hH (va_runV (As := [.int aa, .long y_12]) (rest := []) ⟨hx, hb, hml, hown, hts⟩ (c_X3_setValue l G k own n T z i hi D dn th ta nx σ f hM hR aa y_12 (by omega)) (cwV 2 hts gX3_perform_X3_setValue rfl rfl rfl (by decide +kernel) ⟨Nat.le_of_ble_eq_true rfl, Nat.le_of_ble_eq_true rfl⟩) (m_preV (ci := 3) hC hH F_4 rfl) rfl rfl hl.1 rfl (lv_room (Nat.le_of_ble_eq_true rfl)) dX3_perform_190 ⟨by show _ ≤ 3 * (nld (prf T (kd, aa, bb, cc, dd, ee) σ).2 - nld σ); omega, by show _ ≤ 29 * (nld (prf T (kd, aa, bb, cc, dd, ee) σ).2 - nld σ); omega⟩) (fun r_13 rho_15 f_14 H locs hw hH => ?_)
    obtain ⟨hI, hfr1, hr_13⟩ := hw
    have hI : RN G k rho_15 n T z i D dn th ta nx (sVa σ aa.toNatClampNeg y_12) f_14 := hI
    have hfr1 : frD own f rho_15 f_14 := hfr1
    have hfr := hfr.trans hfr1
    try dsimp only at hr_13
    obtain ⟨D_16, hM, hR, hK1_16⟩ := hI
    have hK := hK.trans hK1_16
    have n24_ := hR.1.1
    have hT3_ := hR.1.2
    have ok_ := hR.2.1
    obtain ⟨lb_17, hr_17, hlb_17⟩ := hR.2.2.1
    exact m_iret (v := r_13) hx hb hr hlk hC hH rho_15 (by rw [px_, show nxt (kd, aa, bb, cc, dd, ee) pp σ = pp + 1 from nxt_3 hk_, ← hnx]; exact ⟨⟨_, hM, hR, hK⟩, hfr, hr_13⟩) (by omega) (by omega) dX3_perform_193
  · skip
    have ic_7 : (y_6.toInt : Int) = 0 := lc_eq rfl kJ_0 ((lg_cmp_eq _ _).mp c_7)
    have dz_ : vaS σ cc.toNatClampNeg = 0 := by rw [← vy_6]; exact Int64.toInt_inj.mp ic_7
    have px_ : (prf T (kd, aa, bb, cc, dd, ee) σ) = (5, σ) := (prf_3 hk_).trans (by show (if vaS σ cc.toNatClampNeg = 0 then (5, σ) else (0, sVa σ aa.toNatClampNeg (vaS σ bb.toInt.toNat / vaS σ cc.toNatClampNeg))) = _; rw [if_pos dz_])
    refine lv_iconst (v := 5) hx hb dX3_perform_170 (by decide) ?_
    refine lv_goto (tgt := 193) hx hb dX3_perform_171 (by decide) ?_
    exact m_iret (v := 5) hx hb hr hlk hC hH own (by rw [px_, show nxt (kd, aa, bb, cc, dd, ee) pp σ = pp + 1 from nxt_3 hk_, ← hnx]; exact ⟨⟨_, hM, hR, hK⟩, hfr, kI_5⟩) (by omega) (by omega) dX3_perform_193
set_option maxHeartbeats 4000000 in
set_option maxRecDepth 100000 in
theorem c_X3_perform_4 (l : Launch) (G : mG) (k : Nat → Nat) (own : tR) (n : Nat) (T z : Nat → Nat) (i : Nat) (hi : i < 3) (D : tD) (dn th ta nx : Int32) (σ : tS) (f : mF) (hM : CM G k own n z D f) (hR : RP n T (k 1) i dn th ta nx σ D) (q : Nat) (kd aa : Int32) (bb : Int64) (cc dd ee : Int32) (hq : AD D q = some (kd, aa, bb, cc, dd, ee)) (pp : Nat) (hnx : nx = nI (pp + 1)) (hk_ : kd = nI 4) (h0_ : 0 ≤ aa.toInt ∧ aa.toInt ≤ 3) (h1_ : 0 ≤ bb.toInt ∧ bb.toInt ≤ 3) (h2_ : 0 ≤ cc.toInt ∧ cc.toInt ≤ 7) : Met l yX3_perform wsX3_perform ({ frames := 5, cells := 3 * (nld (prf T (kd, aa, bb, cc, dd, ee) σ).2 - nld σ), slots := 29 * (nld (prf T (kd, aa, bb, cc, dd, ee) σ).2 - nld σ), locals := 155 }) (va_Pc [.ref (k (5 + 8 * i)), .ref q] (mW G f)) (va_Qi (fun (r : Int32) (u : mS) => RN G k u.1 n T z i D dn th ta (nI (nxt (kd, aa, bb, cc, dd, ee) pp σ)) ((prf T (kd, aa, bb, cc, dd, ee) σ).2) u.2 ∧ frD own f u.1 u.2 ∧ r.toInt = (((prf T (kd, aa, bb, cc, dd, ee) σ).1 : Nat) : Int)) (fun (u : mS) t => mW G u.2 t) (mA G)) (3 * (nld (prf T (kd, aa, bb, cc, dd, ee) σ).2 - nld σ)) (29 * (nld (prf T (kd, aa, bb, cc, dd, ee) σ).2 - nld σ)) (mA G) := by
  refine mMet [.ref (k (5 + 8 * i)), .ref q] (cc := cX3_perform) (maxL := 5) (ret := (some .int)) (by decide) rfl (Nat.le_of_ble_eq_true rfl) ?_
  intro p e s m below meth c ls hx hb hr hml hts hown hlk hnm hC hH hl
  have hl : lv_has ls 5 [(0, .ref (k (5 + 8 * i))), (1, .ref q)] := hl
  have hK : KP i D D := KP.rf
  have hfr : frD own f own f := frD.rf
  have hkd : kd.toInt = 4 := by rw [hk_]; decide
  have cl_aa := ic_clN (rfl : aa.toInt = _) (by omega)
  have cl_cc := ic_clN (rfl : cc.toInt = _) (by omega)
  have n24_ := hR.1.1
  have hT3_ := hR.1.2
  have ok_ := hR.2.1
  obtain ⟨lb_1, hr_1, hlb_1⟩ := hR.2.2.1
  refine lv_aload_n hx hb dX3_perform_0 rfl (lv_at hl 1 rfl) ?_
  have F_2 : f q = some (.inr (0, [.int kd, .int aa, .long bb, .int cc, .int dd, .int ee])) := hM.a0 q _ (by rw [hK.2.1]; exact hq)
  refine m_get (ci := 0) (v := .int aa) (C := RX0) (T := TX0) (N := 6) hx hb hC hH hts in_X3_perform_X0 hown F_2 rfl 1 (by decide) (hts (.fieldLink RX3 110 "LazyState$Act" "a" "I") (by decide +kernel)) rfl dX3_perform_1 ?_
  refine lv_istore_n (lv' := [(2, .int aa), (0, .ref (k (5 + 8 * i))), (1, .ref q)]) hx hb dX3_perform_4 rfl hl (by decide) rfl (fun ls hl => ?_)
  refine lv_aload_n hx hb dX3_perform_5 rfl (lv_at hl 2 rfl) ?_
  refine m_get (ci := 0) (v := .long bb) (C := RX0) (T := TX0) (N := 6) hx hb hC hH hts in_X3_perform_X0 hown F_2 rfl 2 (by decide) (hts (.fieldLink RX3 115 "LazyState$Act" "b" "J") (by decide +kernel)) rfl dX3_perform_6 ?_
  refine lv_l2i hx hb dX3_perform_9 rfl ?_
  refine lv_topi (fun x_3 ex_3 => ?_)
  have ix_3 : x_3.toInt = bb.toInt := ic_l2i ex_3 rfl (by omega) (by omega)
  have hB_ : bb.toInt.toNat = x_3.toNatClampNeg := (show bb.toInt.toNat = x_3.toInt.toNat from by omega)
  refine lv_istore_n (lv' := [(3, .int x_3), (2, .int aa), (0, .ref (k (5 + 8 * i))), (1, .ref q)]) hx hb dX3_perform_10 rfl hl (by decide) rfl (fun ls hl => ?_)
  refine lv_aload_n hx hb dX3_perform_11 rfl (lv_at hl 3 rfl) ?_
  refine m_get (ci := 0) (v := .int cc) (C := RX0) (T := TX0) (N := 6) hx hb hC hH hts in_X3_perform_X0 hown F_2 rfl 3 (by decide) (hts (.fieldLink RX3 118 "LazyState$Act" "c" "I") (by decide +kernel)) rfl dX3_perform_12 ?_
  refine lv_istore (lv' := [(4, .int cc), (3, .int x_3), (2, .int aa), (0, .ref (k (5 + 8 * i))), (1, .ref q)]) hx hb dX3_perform_15 hl (by decide) rfl (fun ls hl => ?_)
  refine lv_aload_n hx hb dX3_perform_17 rfl (lv_at hl 4 rfl) ?_
  refine m_get (ci := 0) (v := .int kd) (C := RX0) (T := TX0) (N := 6) hx hb hC hH hts in_X3_perform_X0 hown F_2 rfl 0 (by decide) (hts (.fieldLink RX3 121 "LazyState$Act" "kind" "I") (by decide +kernel)) rfl dX3_perform_18 ?_
  refine lv_tableIn (off := 173) (tgt := 194) hx hb dX3_perform_21 (by rw [hkd]; decide) (by rw [hkd]; decide) (by rw [hkd]; rfl) (by decide) ?_
  refine lv_aload_n hx hb dX3_perform_194 rfl (lv_at hl 3 rfl) ?_
  refine lv_iload_n hx hb dX3_perform_195 rfl (lv_at hl 2 rfl) ?_
  refine lv_iload_n hx hb dX3_perform_196 rfl (lv_at hl 1 rfl) ?_
  refine lv_iload hx hb dX3_perform_197 (lv_at hl 0 rfl) ?_
  have px_ : (prf T (kd, aa, bb, cc, dd, ee) σ) = (pGet T σ aa.toNatClampNeg x_3.toNatClampNeg cc.toNatClampNeg) := (prf_4 hk_).trans (by show pGet T σ aa.toNatClampNeg bb.toInt.toNat cc.toNatClampNeg = _; rw [hB_])
  have nq_ : nld (prf T (kd, aa, bb, cc, dd, ee) σ).2 = nld (pGet T σ aa.toNatClampNeg x_3.toNatClampNeg cc.toNatClampNeg).2 := by rw [px_]
  have F_7 : f (k (5 + 8 * i)) = some (.inr (3, [.ref (k (5 + 8 * i + 1)), .int lb_1, .int dn, .long (gfS σ), .int th, .int ta, .ref (k 1), .ref (k (5 + 8 * i + 5)), .ref (k (5 + 8 * i + 6)), .ref (k (5 + 8 * i + 7)), .int nx])) := by have w_ := hM.r0 i hi; rw [hr_1] at w_; exact w_
  refine m_goi hH (va_runV (As := [.int aa, .int x_3, .int cc]) (rest := []) ⟨hx, hb, hml, hown, hts⟩ (c_X3_get l G k own n T z i hi D dn th ta nx σ f hM hR aa x_3 cc (by omega) (by omega) (by omega)) (cwV 3 hts gX3_perform_X3_get rfl rfl rfl (by decide +kernel) ⟨Nat.le_of_ble_eq_true rfl, Nat.le_of_ble_eq_true rfl⟩) (m_preV (ci := 3) hC hH F_7 rfl) rfl rfl hl.1 rfl (lv_room (Nat.le_of_ble_eq_true rfl)) dX3_perform_199 ⟨by show _ ≤ 3 * (nld (prf T (kd, aa, bb, cc, dd, ee) σ).2 - nld σ); omega, by show _ ≤ 29 * (nld (prf T (kd, aa, bb, cc, dd, ee) σ).2 - nld σ); omega⟩) (fun r_4 rho_6 f_5 H locs hw hH => ?_)
  obtain ⟨hI, hfr1, hr_4⟩ := hw
  have hI : RN G k rho_6 n T z i D dn th ta nx ((pGet T σ aa.toNatClampNeg x_3.toNatClampNeg cc.toNatClampNeg).2) f_5 := hI
  have hfr1 : frD own f rho_6 f_5 := hfr1
  have hfr := hfr.trans hfr1
  try dsimp only at hr_4
  obtain ⟨D_8, hM, hR, hK1_8⟩ := hI
  have hK := hK.trans hK1_8
  have n24_ := hR.1.1
  have hT3_ := hR.1.2
  have ok_ := hR.2.1
  obtain ⟨lb_9, hr_9, hlb_9⟩ := hR.2.2.1
  exact m_iret (v := r_4) hx hb hr hlk hC hH rho_6 (by rw [px_, show nxt (kd, aa, bb, cc, dd, ee) pp σ = pp + 1 from nxt_4 hk_, ← hnx]; exact ⟨⟨_, hM, hR, hK⟩, hfr, hr_4⟩) (by omega) (by omega) dX3_perform_202
set_option maxHeartbeats 4000000 in
set_option maxRecDepth 100000 in
theorem c_X3_perform_5 (l : Launch) (G : mG) (k : Nat → Nat) (own : tR) (n : Nat) (T z : Nat → Nat) (i : Nat) (hi : i < 3) (D : tD) (dn th ta nx : Int32) (σ : tS) (f : mF) (hM : CM G k own n z D f) (hR : RP n T (k 1) i dn th ta nx σ D) (q : Nat) (kd aa : Int32) (bb : Int64) (cc dd ee : Int32) (hq : AD D q = some (kd, aa, bb, cc, dd, ee)) (pp : Nat) (hnx : nx = nI (pp + 1)) (hk_ : kd = nI 5) (h0_ : 0 ≤ aa.toInt ∧ aa.toInt ≤ 3) (h1_ : 0 ≤ bb.toInt ∧ bb.toInt ≤ 7) (h2_ : 0 ≤ cc.toInt ∧ cc.toInt ≤ 3) : Met l yX3_perform wsX3_perform ({ frames := 5, cells := 3 * (nld (prf T (kd, aa, bb, cc, dd, ee) σ).2 - nld σ), slots := 29 * (nld (prf T (kd, aa, bb, cc, dd, ee) σ).2 - nld σ), locals := 155 }) (va_Pc [.ref (k (5 + 8 * i)), .ref q] (mW G f)) (va_Qi (fun (r : Int32) (u : mS) => RN G k u.1 n T z i D dn th ta (nI (nxt (kd, aa, bb, cc, dd, ee) pp σ)) ((prf T (kd, aa, bb, cc, dd, ee) σ).2) u.2 ∧ frD own f u.1 u.2 ∧ r.toInt = (((prf T (kd, aa, bb, cc, dd, ee) σ).1 : Nat) : Int)) (fun (u : mS) t => mW G u.2 t) (mA G)) (3 * (nld (prf T (kd, aa, bb, cc, dd, ee) σ).2 - nld σ)) (29 * (nld (prf T (kd, aa, bb, cc, dd, ee) σ).2 - nld σ)) (mA G) := by
  refine mMet [.ref (k (5 + 8 * i)), .ref q] (cc := cX3_perform) (maxL := 5) (ret := (some .int)) (by decide) rfl (Nat.le_of_ble_eq_true rfl) ?_
  intro p e s m below meth c ls hx hb hr hml hts hown hlk hnm hC hH hl
  have hl : lv_has ls 5 [(0, .ref (k (5 + 8 * i))), (1, .ref q)] := hl
  have hK : KP i D D := KP.rf
  have hfr : frD own f own f := frD.rf
  have hkd : kd.toInt = 5 := by rw [hk_]; decide
  have cl_aa := ic_clN (rfl : aa.toInt = _) (by omega)
  have cl_cc := ic_clN (rfl : cc.toInt = _) (by omega)
  have n24_ := hR.1.1
  have hT3_ := hR.1.2
  have ok_ := hR.2.1
  obtain ⟨lb_1, hr_1, hlb_1⟩ := hR.2.2.1
  refine lv_aload_n hx hb dX3_perform_0 rfl (lv_at hl 1 rfl) ?_
  have F_2 : f q = some (.inr (0, [.int kd, .int aa, .long bb, .int cc, .int dd, .int ee])) := hM.a0 q _ (by rw [hK.2.1]; exact hq)
  refine m_get (ci := 0) (v := .int aa) (C := RX0) (T := TX0) (N := 6) hx hb hC hH hts in_X3_perform_X0 hown F_2 rfl 1 (by decide) (hts (.fieldLink RX3 110 "LazyState$Act" "a" "I") (by decide +kernel)) rfl dX3_perform_1 ?_
  refine lv_istore_n (lv' := [(2, .int aa), (0, .ref (k (5 + 8 * i))), (1, .ref q)]) hx hb dX3_perform_4 rfl hl (by decide) rfl (fun ls hl => ?_)
  refine lv_aload_n hx hb dX3_perform_5 rfl (lv_at hl 2 rfl) ?_
  refine m_get (ci := 0) (v := .long bb) (C := RX0) (T := TX0) (N := 6) hx hb hC hH hts in_X3_perform_X0 hown F_2 rfl 2 (by decide) (hts (.fieldLink RX3 115 "LazyState$Act" "b" "J") (by decide +kernel)) rfl dX3_perform_6 ?_
  refine lv_l2i hx hb dX3_perform_9 rfl ?_
  refine lv_topi (fun x_3 ex_3 => ?_)
  have ix_3 : x_3.toInt = bb.toInt := ic_l2i ex_3 rfl (by omega) (by omega)
  have hB_ : bb.toInt.toNat = x_3.toNatClampNeg := (show bb.toInt.toNat = x_3.toInt.toNat from by omega)
  refine lv_istore_n (lv' := [(3, .int x_3), (2, .int aa), (0, .ref (k (5 + 8 * i))), (1, .ref q)]) hx hb dX3_perform_10 rfl hl (by decide) rfl (fun ls hl => ?_)
  refine lv_aload_n hx hb dX3_perform_11 rfl (lv_at hl 3 rfl) ?_
  refine m_get (ci := 0) (v := .int cc) (C := RX0) (T := TX0) (N := 6) hx hb hC hH hts in_X3_perform_X0 hown F_2 rfl 3 (by decide) (hts (.fieldLink RX3 118 "LazyState$Act" "c" "I") (by decide +kernel)) rfl dX3_perform_12 ?_
  refine lv_istore (lv' := [(4, .int cc), (3, .int x_3), (2, .int aa), (0, .ref (k (5 + 8 * i))), (1, .ref q)]) hx hb dX3_perform_15 hl (by decide) rfl (fun ls hl => ?_)
  refine lv_aload_n hx hb dX3_perform_17 rfl (lv_at hl 4 rfl) ?_
  refine m_get (ci := 0) (v := .int kd) (C := RX0) (T := TX0) (N := 6) hx hb hC hH hts in_X3_perform_X0 hown F_2 rfl 0 (by decide) (hts (.fieldLink RX3 121 "LazyState$Act" "kind" "I") (by decide +kernel)) rfl dX3_perform_18 ?_
  refine lv_tableIn (off := 182) (tgt := 203) hx hb dX3_perform_21 (by rw [hkd]; decide) (by rw [hkd]; decide) (by rw [hkd]; rfl) (by decide) ?_
  refine lv_aload_n hx hb dX3_perform_203 rfl (lv_at hl 3 rfl) ?_
  refine lv_iload_n hx hb dX3_perform_204 rfl (lv_at hl 2 rfl) ?_
  refine lv_iload_n hx hb dX3_perform_205 rfl (lv_at hl 1 rfl) ?_
  refine lv_iconst (v := 1) hx hb dX3_perform_206 (by decide) ?_
  refine lv_aload_n hx hb dX3_perform_207 rfl (lv_at hl 3 rfl) ?_
  have F_4 : f (k (5 + 8 * i)) = some (.inr (3, [.ref (k (5 + 8 * i + 1)), .int lb_1, .int dn, .long (gfS σ), .int th, .int ta, .ref (k 1), .ref (k (5 + 8 * i + 5)), .ref (k (5 + 8 * i + 6)), .ref (k (5 + 8 * i + 7)), .int nx])) := by have w_ := hM.r0 i hi; rw [hr_1] at w_; exact w_
  refine m_get (ci := 3) (v := .ref (k (5 + 8 * i + 7))) (C := RX3) (T := TX3) (N := 11) hx hb hC hH hts in_X3_perform_X3 hown F_4 rfl 9 (by decide) (hts (.fieldLink RX3 32 "LazyState$Run" "values" "[J") (by decide +kernel)) rfl dX3_perform_208 ?_
  refine lv_iload hx hb dX3_perform_211 (lv_at hl 0 rfl) ?_
  have hg_5 := hM.r7 i hi
  refine m_lald hx hb hC hH hg_5 (vp_in_iff.mpr ⟨by omega, by omega⟩) dX3_perform_213 ?_
  refine lv_topl (fun y_6 ey_6 => ?_)
  have vy_6 : y_6 = vaS σ cc.toNatClampNeg := by rw [ey_6]; exact hR.2.2.2.2.2.1 cc.toNatClampNeg (by have := ic_clN (rfl : cc.toInt = _) (by omega); omega)
  have px_ : (prf T (kd, aa, bb, cc, dd, ee) σ) = (pPut T σ aa.toNatClampNeg x_3.toNatClampNeg (1 : Int32).toNatClampNeg y_6) := (prf_5 hk_).trans (by show pPut T σ aa.toNatClampNeg bb.toInt.toNat 1 (vaS σ cc.toNatClampNeg) = _; rw [hB_]; exact congrArg (pPut T σ aa.toNatClampNeg x_3.toNatClampNeg 1) vy_6.symm)
  have nq_ : nld (prf T (kd, aa, bb, cc, dd, ee) σ).2 = nld (pPut T σ aa.toNatClampNeg x_3.toNatClampNeg (1 : Int32).toNatClampNeg y_6).2 := by rw [px_]
  refine m_goi hH (va_runV (As := [.int aa, .int x_3, .int 1, .long y_6]) (rest := []) ⟨hx, hb, hml, hown, hts⟩ (c_X3_put l G k own n T z i hi D dn th ta nx σ f hM hR aa x_3 1 y_6 (by omega) (by omega) (by have := kI_1; omega) (fun z_ => by have := kI_1; omega)) (cwV 4 hts gX3_perform_X3_put rfl rfl rfl (by decide +kernel) ⟨Nat.le_of_ble_eq_true rfl, Nat.le_of_ble_eq_true rfl⟩) (m_preV (ci := 3) hC hH F_4 rfl) rfl rfl hl.1 rfl (lv_room (Nat.le_of_ble_eq_true rfl)) dX3_perform_214 ⟨by show _ ≤ 3 * (nld (prf T (kd, aa, bb, cc, dd, ee) σ).2 - nld σ); omega, by show _ ≤ 29 * (nld (prf T (kd, aa, bb, cc, dd, ee) σ).2 - nld σ); omega⟩) (fun r_7 rho_9 f_8 H locs hw hH => ?_)
  obtain ⟨hI, hfr1, hr_7⟩ := hw
  have hI : RN G k rho_9 n T z i D dn th ta nx ((pPut T σ aa.toNatClampNeg x_3.toNatClampNeg (1 : Int32).toNatClampNeg y_6).2) f_8 := hI
  have hfr1 : frD own f rho_9 f_8 := hfr1
  have hfr := hfr.trans hfr1
  try dsimp only at hr_7
  obtain ⟨D_10, hM, hR, hK1_10⟩ := hI
  have hK := hK.trans hK1_10
  have n24_ := hR.1.1
  have hT3_ := hR.1.2
  have ok_ := hR.2.1
  obtain ⟨lb_11, hr_11, hlb_11⟩ := hR.2.2.1
  exact m_iret (v := r_7) hx hb hr hlk hC hH rho_9 (by rw [px_, show nxt (kd, aa, bb, cc, dd, ee) pp σ = pp + 1 from nxt_5 hk_, ← hnx]; exact ⟨⟨_, hM, hR, hK⟩, hfr, hr_7⟩) (by omega) (by omega) dX3_perform_217
set_option maxHeartbeats 4000000 in
set_option maxRecDepth 100000 in
theorem c_X3_perform_6 (l : Launch) (G : mG) (k : Nat → Nat) (own : tR) (n : Nat) (T z : Nat → Nat) (i : Nat) (hi : i < 3) (D : tD) (dn th ta nx : Int32) (σ : tS) (f : mF) (hM : CM G k own n z D f) (hR : RP n T (k 1) i dn th ta nx σ D) (q : Nat) (kd aa : Int32) (bb : Int64) (cc dd ee : Int32) (hq : AD D q = some (kd, aa, bb, cc, dd, ee)) (pp : Nat) (hnx : nx = nI (pp + 1)) (hk_ : kd = nI 6) (h0_ : 0 ≤ aa.toInt ∧ aa.toInt ≤ 3) (h1_ : 0 ≤ bb.toInt ∧ bb.toInt ≤ 3) (h2_ : 0 ≤ cc.toInt ∧ cc.toInt ≤ 7) : Met l yX3_perform wsX3_perform ({ frames := 5, cells := 3 * (nld (prf T (kd, aa, bb, cc, dd, ee) σ).2 - nld σ), slots := 29 * (nld (prf T (kd, aa, bb, cc, dd, ee) σ).2 - nld σ), locals := 155 }) (va_Pc [.ref (k (5 + 8 * i)), .ref q] (mW G f)) (va_Qi (fun (r : Int32) (u : mS) => RN G k u.1 n T z i D dn th ta (nI (nxt (kd, aa, bb, cc, dd, ee) pp σ)) ((prf T (kd, aa, bb, cc, dd, ee) σ).2) u.2 ∧ frD own f u.1 u.2 ∧ r.toInt = (((prf T (kd, aa, bb, cc, dd, ee) σ).1 : Nat) : Int)) (fun (u : mS) t => mW G u.2 t) (mA G)) (3 * (nld (prf T (kd, aa, bb, cc, dd, ee) σ).2 - nld σ)) (29 * (nld (prf T (kd, aa, bb, cc, dd, ee) σ).2 - nld σ)) (mA G) := by
  refine mMet [.ref (k (5 + 8 * i)), .ref q] (cc := cX3_perform) (maxL := 5) (ret := (some .int)) (by decide) rfl (Nat.le_of_ble_eq_true rfl) ?_
  intro p e s m below meth c ls hx hb hr hml hts hown hlk hnm hC hH hl
  have hl : lv_has ls 5 [(0, .ref (k (5 + 8 * i))), (1, .ref q)] := hl
  have hK : KP i D D := KP.rf
  have hfr : frD own f own f := frD.rf
  have hkd : kd.toInt = 6 := by rw [hk_]; decide
  have cl_aa := ic_clN (rfl : aa.toInt = _) (by omega)
  have cl_cc := ic_clN (rfl : cc.toInt = _) (by omega)
  have n24_ := hR.1.1
  have hT3_ := hR.1.2
  have ok_ := hR.2.1
  obtain ⟨lb_1, hr_1, hlb_1⟩ := hR.2.2.1
  refine lv_aload_n hx hb dX3_perform_0 rfl (lv_at hl 1 rfl) ?_
  have F_2 : f q = some (.inr (0, [.int kd, .int aa, .long bb, .int cc, .int dd, .int ee])) := hM.a0 q _ (by rw [hK.2.1]; exact hq)
  refine m_get (ci := 0) (v := .int aa) (C := RX0) (T := TX0) (N := 6) hx hb hC hH hts in_X3_perform_X0 hown F_2 rfl 1 (by decide) (hts (.fieldLink RX3 110 "LazyState$Act" "a" "I") (by decide +kernel)) rfl dX3_perform_1 ?_
  refine lv_istore_n (lv' := [(2, .int aa), (0, .ref (k (5 + 8 * i))), (1, .ref q)]) hx hb dX3_perform_4 rfl hl (by decide) rfl (fun ls hl => ?_)
  refine lv_aload_n hx hb dX3_perform_5 rfl (lv_at hl 2 rfl) ?_
  refine m_get (ci := 0) (v := .long bb) (C := RX0) (T := TX0) (N := 6) hx hb hC hH hts in_X3_perform_X0 hown F_2 rfl 2 (by decide) (hts (.fieldLink RX3 115 "LazyState$Act" "b" "J") (by decide +kernel)) rfl dX3_perform_6 ?_
  refine lv_l2i hx hb dX3_perform_9 rfl ?_
  refine lv_topi (fun x_3 ex_3 => ?_)
  have ix_3 : x_3.toInt = bb.toInt := ic_l2i ex_3 rfl (by omega) (by omega)
  have hB_ : bb.toInt.toNat = x_3.toNatClampNeg := (show bb.toInt.toNat = x_3.toInt.toNat from by omega)
  refine lv_istore_n (lv' := [(3, .int x_3), (2, .int aa), (0, .ref (k (5 + 8 * i))), (1, .ref q)]) hx hb dX3_perform_10 rfl hl (by decide) rfl (fun ls hl => ?_)
  refine lv_aload_n hx hb dX3_perform_11 rfl (lv_at hl 3 rfl) ?_
  refine m_get (ci := 0) (v := .int cc) (C := RX0) (T := TX0) (N := 6) hx hb hC hH hts in_X3_perform_X0 hown F_2 rfl 3 (by decide) (hts (.fieldLink RX3 118 "LazyState$Act" "c" "I") (by decide +kernel)) rfl dX3_perform_12 ?_
  refine lv_istore (lv' := [(4, .int cc), (3, .int x_3), (2, .int aa), (0, .ref (k (5 + 8 * i))), (1, .ref q)]) hx hb dX3_perform_15 hl (by decide) rfl (fun ls hl => ?_)
  refine lv_aload_n hx hb dX3_perform_17 rfl (lv_at hl 4 rfl) ?_
  refine m_get (ci := 0) (v := .int kd) (C := RX0) (T := TX0) (N := 6) hx hb hC hH hts in_X3_perform_X0 hown F_2 rfl 0 (by decide) (hts (.fieldLink RX3 121 "LazyState$Act" "kind" "I") (by decide +kernel)) rfl dX3_perform_18 ?_
  refine lv_tableIn (off := 197) (tgt := 218) hx hb dX3_perform_21 (by rw [hkd]; decide) (by rw [hkd]; decide) (by rw [hkd]; rfl) (by decide) ?_
  refine lv_aload_n hx hb dX3_perform_218 rfl (lv_at hl 3 rfl) ?_
  refine lv_iload_n hx hb dX3_perform_219 rfl (lv_at hl 2 rfl) ?_
  refine lv_iload_n hx hb dX3_perform_220 rfl (lv_at hl 1 rfl) ?_
  refine lv_iload hx hb dX3_perform_221 (lv_at hl 0 rfl) ?_
  have px_ : (prf T (kd, aa, bb, cc, dd, ee) σ) = (pFol T σ aa.toNatClampNeg x_3.toNatClampNeg cc.toNatClampNeg) := (prf_6 hk_).trans (by show pFol T σ aa.toNatClampNeg bb.toInt.toNat cc.toNatClampNeg = _; rw [hB_])
  have nq_ : nld (prf T (kd, aa, bb, cc, dd, ee) σ).2 = nld (pFol T σ aa.toNatClampNeg x_3.toNatClampNeg cc.toNatClampNeg).2 := by rw [px_]
  have F_7 : f (k (5 + 8 * i)) = some (.inr (3, [.ref (k (5 + 8 * i + 1)), .int lb_1, .int dn, .long (gfS σ), .int th, .int ta, .ref (k 1), .ref (k (5 + 8 * i + 5)), .ref (k (5 + 8 * i + 6)), .ref (k (5 + 8 * i + 7)), .int nx])) := by have w_ := hM.r0 i hi; rw [hr_1] at w_; exact w_
  refine m_goi hH (va_runV (As := [.int aa, .int x_3, .int cc]) (rest := []) ⟨hx, hb, hml, hown, hts⟩ (c_X3_follow l G k own n T z i hi D dn th ta nx σ f hM hR aa x_3 cc (by omega) (by omega) (by omega)) (cwV 3 hts gX3_perform_X3_follow rfl rfl rfl (by decide +kernel) ⟨Nat.le_of_ble_eq_true rfl, Nat.le_of_ble_eq_true rfl⟩) (m_preV (ci := 3) hC hH F_7 rfl) rfl rfl hl.1 rfl (lv_room (Nat.le_of_ble_eq_true rfl)) dX3_perform_223 ⟨by show _ ≤ 3 * (nld (prf T (kd, aa, bb, cc, dd, ee) σ).2 - nld σ); omega, by show _ ≤ 29 * (nld (prf T (kd, aa, bb, cc, dd, ee) σ).2 - nld σ); omega⟩) (fun r_4 rho_6 f_5 H locs hw hH => ?_)
  obtain ⟨hI, hfr1, hr_4⟩ := hw
  have hI : RN G k rho_6 n T z i D dn th ta nx ((pFol T σ aa.toNatClampNeg x_3.toNatClampNeg cc.toNatClampNeg).2) f_5 := hI
  have hfr1 : frD own f rho_6 f_5 := hfr1
  have hfr := hfr.trans hfr1
  try dsimp only at hr_4
  obtain ⟨D_8, hM, hR, hK1_8⟩ := hI
  have hK := hK.trans hK1_8
  have n24_ := hR.1.1
  have hT3_ := hR.1.2
  have ok_ := hR.2.1
  obtain ⟨lb_9, hr_9, hlb_9⟩ := hR.2.2.1
  exact m_iret (v := r_4) hx hb hr hlk hC hH rho_6 (by rw [px_, show nxt (kd, aa, bb, cc, dd, ee) pp σ = pp + 1 from nxt_6 hk_, ← hnx]; exact ⟨⟨_, hM, hR, hK⟩, hfr, hr_4⟩) (by omega) (by omega) dX3_perform_226
set_option maxHeartbeats 4000000 in
set_option maxRecDepth 100000 in
theorem c_X3_perform_7 (l : Launch) (G : mG) (k : Nat → Nat) (own : tR) (n : Nat) (T z : Nat → Nat) (i : Nat) (hi : i < 3) (D : tD) (dn th ta nx : Int32) (σ : tS) (f : mF) (hM : CM G k own n z D f) (hR : RP n T (k 1) i dn th ta nx σ D) (q : Nat) (kd aa : Int32) (bb : Int64) (cc dd ee : Int32) (hq : AD D q = some (kd, aa, bb, cc, dd, ee)) (pp : Nat) (hnx : nx = nI (pp + 1)) (hk_ : kd = nI 7) (h0_ : 0 ≤ aa.toInt ∧ aa.toInt ≤ 3) (h1_ : 0 ≤ bb.toInt ∧ bb.toInt ≤ 7) (h2_ : 0 ≤ cc.toInt ∧ cc.toInt ≤ 3) : Met l yX3_perform wsX3_perform ({ frames := 5, cells := 3 * (nld (prf T (kd, aa, bb, cc, dd, ee) σ).2 - nld σ), slots := 29 * (nld (prf T (kd, aa, bb, cc, dd, ee) σ).2 - nld σ), locals := 155 }) (va_Pc [.ref (k (5 + 8 * i)), .ref q] (mW G f)) (va_Qi (fun (r : Int32) (u : mS) => RN G k u.1 n T z i D dn th ta (nI (nxt (kd, aa, bb, cc, dd, ee) pp σ)) ((prf T (kd, aa, bb, cc, dd, ee) σ).2) u.2 ∧ frD own f u.1 u.2 ∧ r.toInt = (((prf T (kd, aa, bb, cc, dd, ee) σ).1 : Nat) : Int)) (fun (u : mS) t => mW G u.2 t) (mA G)) (3 * (nld (prf T (kd, aa, bb, cc, dd, ee) σ).2 - nld σ)) (29 * (nld (prf T (kd, aa, bb, cc, dd, ee) σ).2 - nld σ)) (mA G) := by
  refine mMet [.ref (k (5 + 8 * i)), .ref q] (cc := cX3_perform) (maxL := 5) (ret := (some .int)) (by decide) rfl (Nat.le_of_ble_eq_true rfl) ?_
  intro p e s m below meth c ls hx hb hr hml hts hown hlk hnm hC hH hl
  have hl : lv_has ls 5 [(0, .ref (k (5 + 8 * i))), (1, .ref q)] := hl
  have hK : KP i D D := KP.rf
  have hfr : frD own f own f := frD.rf
  have hkd : kd.toInt = 7 := by rw [hk_]; decide
  have cl_aa := ic_clN (rfl : aa.toInt = _) (by omega)
  have cl_cc := ic_clN (rfl : cc.toInt = _) (by omega)
  have n24_ := hR.1.1
  have hT3_ := hR.1.2
  have ok_ := hR.2.1
  obtain ⟨lb_1, hr_1, hlb_1⟩ := hR.2.2.1
  refine lv_aload_n hx hb dX3_perform_0 rfl (lv_at hl 1 rfl) ?_
  have F_2 : f q = some (.inr (0, [.int kd, .int aa, .long bb, .int cc, .int dd, .int ee])) := hM.a0 q _ (by rw [hK.2.1]; exact hq)
  refine m_get (ci := 0) (v := .int aa) (C := RX0) (T := TX0) (N := 6) hx hb hC hH hts in_X3_perform_X0 hown F_2 rfl 1 (by decide) (hts (.fieldLink RX3 110 "LazyState$Act" "a" "I") (by decide +kernel)) rfl dX3_perform_1 ?_
  refine lv_istore_n (lv' := [(2, .int aa), (0, .ref (k (5 + 8 * i))), (1, .ref q)]) hx hb dX3_perform_4 rfl hl (by decide) rfl (fun ls hl => ?_)
  refine lv_aload_n hx hb dX3_perform_5 rfl (lv_at hl 2 rfl) ?_
  refine m_get (ci := 0) (v := .long bb) (C := RX0) (T := TX0) (N := 6) hx hb hC hH hts in_X3_perform_X0 hown F_2 rfl 2 (by decide) (hts (.fieldLink RX3 115 "LazyState$Act" "b" "J") (by decide +kernel)) rfl dX3_perform_6 ?_
  refine lv_l2i hx hb dX3_perform_9 rfl ?_
  refine lv_topi (fun x_3 ex_3 => ?_)
  have ix_3 : x_3.toInt = bb.toInt := ic_l2i ex_3 rfl (by omega) (by omega)
  have hB_ : bb.toInt.toNat = x_3.toNatClampNeg := (show bb.toInt.toNat = x_3.toInt.toNat from by omega)
  refine lv_istore_n (lv' := [(3, .int x_3), (2, .int aa), (0, .ref (k (5 + 8 * i))), (1, .ref q)]) hx hb dX3_perform_10 rfl hl (by decide) rfl (fun ls hl => ?_)
  refine lv_aload_n hx hb dX3_perform_11 rfl (lv_at hl 3 rfl) ?_
  refine m_get (ci := 0) (v := .int cc) (C := RX0) (T := TX0) (N := 6) hx hb hC hH hts in_X3_perform_X0 hown F_2 rfl 3 (by decide) (hts (.fieldLink RX3 118 "LazyState$Act" "c" "I") (by decide +kernel)) rfl dX3_perform_12 ?_
  refine lv_istore (lv' := [(4, .int cc), (3, .int x_3), (2, .int aa), (0, .ref (k (5 + 8 * i))), (1, .ref q)]) hx hb dX3_perform_15 hl (by decide) rfl (fun ls hl => ?_)
  refine lv_aload_n hx hb dX3_perform_17 rfl (lv_at hl 4 rfl) ?_
  refine m_get (ci := 0) (v := .int kd) (C := RX0) (T := TX0) (N := 6) hx hb hC hH hts in_X3_perform_X0 hown F_2 rfl 0 (by decide) (hts (.fieldLink RX3 121 "LazyState$Act" "kind" "I") (by decide +kernel)) rfl dX3_perform_18 ?_
  refine lv_tableIn (off := 206) (tgt := 227) hx hb dX3_perform_21 (by rw [hkd]; decide) (by rw [hkd]; decide) (by rw [hkd]; rfl) (by decide) ?_
  refine lv_aload_n hx hb dX3_perform_227 rfl (lv_at hl 3 rfl) ?_
  refine lv_iload_n hx hb dX3_perform_228 rfl (lv_at hl 2 rfl) ?_
  refine lv_iload_n hx hb dX3_perform_229 rfl (lv_at hl 1 rfl) ?_
  refine lv_iconst (v := 2) hx hb dX3_perform_230 (by decide) ?_
  refine lv_aload_n hx hb dX3_perform_231 rfl (lv_at hl 3 rfl) ?_
  have F_4 : f (k (5 + 8 * i)) = some (.inr (3, [.ref (k (5 + 8 * i + 1)), .int lb_1, .int dn, .long (gfS σ), .int th, .int ta, .ref (k 1), .ref (k (5 + 8 * i + 5)), .ref (k (5 + 8 * i + 6)), .ref (k (5 + 8 * i + 7)), .int nx])) := by have w_ := hM.r0 i hi; rw [hr_1] at w_; exact w_
  refine m_get (ci := 3) (v := .ref (k (5 + 8 * i + 6))) (C := RX3) (T := TX3) (N := 11) hx hb hC hH hts in_X3_perform_X3 hown F_4 rfl 8 (by decide) (hts (.fieldLink RX3 28 "LazyState$Run" "handles" "[I") (by decide +kernel)) rfl dX3_perform_232 ?_
  refine lv_iload hx hb dX3_perform_235 (lv_at hl 0 rfl) ?_
  have hg_5 := hM.r6 i hi
  refine m_iald hx hb hC hH hg_5 (vp_in_iff.mpr ⟨by omega, by omega⟩) dX3_perform_237 ?_
  refine lv_topi (fun x_6 ex_6 => ?_)
  have vx_6 : x_6 = haS σ cc.toNatClampNeg := by rw [ex_6]; exact hR.2.2.2.2.1 cc.toNatClampNeg (by have := ic_clN (rfl : cc.toInt = _) (by omega); omega)
  have okx_6 : okHa n x_6 := by rw [vx_6]; exact ok_.2.1 cc.toNatClampNeg (by have := ic_clN (rfl : cc.toInt = _) (by omega); omega)
  refine lv_i2l hx hb dX3_perform_238 rfl ?_
  refine lv_topl (fun y_7 ey_7 => ?_)
  have iy_7 : y_7.toInt = x_6.toInt := lc_i2l ey_7 rfl
  have gy_7 := ic_rng x_6
  have px_ : (prf T (kd, aa, bb, cc, dd, ee) σ) = (pPut T σ aa.toNatClampNeg x_3.toNatClampNeg (2 : Int32).toNatClampNeg y_7) := (prf_7 hk_).trans (by show pPut T σ aa.toNatClampNeg bb.toInt.toNat 2 (haS σ cc.toNatClampNeg).toInt64 = _; rw [hB_, ← vx_6, ← ey_7]; first | done | rfl)
  have nq_ : nld (prf T (kd, aa, bb, cc, dd, ee) σ).2 = nld (pPut T σ aa.toNatClampNeg x_3.toNatClampNeg (2 : Int32).toNatClampNeg y_7).2 := by rw [px_]
  refine m_goi hH (va_runV (As := [.int aa, .int x_3, .int 2, .long y_7]) (rest := []) ⟨hx, hb, hml, hown, hts⟩ (c_X3_put l G k own n T z i hi D dn th ta nx σ f hM hR aa x_3 2 y_7 (by omega) (by omega) (by have := kI_2; omega) (fun z_ => by have o_ := okx_6; unfold okHa at o_; omega)) (cwV 4 hts gX3_perform_X3_put rfl rfl rfl (by decide +kernel) ⟨Nat.le_of_ble_eq_true rfl, Nat.le_of_ble_eq_true rfl⟩) (m_preV (ci := 3) hC hH F_4 rfl) rfl rfl hl.1 rfl (lv_room (Nat.le_of_ble_eq_true rfl)) dX3_perform_239 ⟨by show _ ≤ 3 * (nld (prf T (kd, aa, bb, cc, dd, ee) σ).2 - nld σ); omega, by show _ ≤ 29 * (nld (prf T (kd, aa, bb, cc, dd, ee) σ).2 - nld σ); omega⟩) (fun r_8 rho_10 f_9 H locs hw hH => ?_)
  obtain ⟨hI, hfr1, hr_8⟩ := hw
  have hI : RN G k rho_10 n T z i D dn th ta nx ((pPut T σ aa.toNatClampNeg x_3.toNatClampNeg (2 : Int32).toNatClampNeg y_7).2) f_9 := hI
  have hfr1 : frD own f rho_10 f_9 := hfr1
  have hfr := hfr.trans hfr1
  try dsimp only at hr_8
  obtain ⟨D_11, hM, hR, hK1_11⟩ := hI
  have hK := hK.trans hK1_11
  have n24_ := hR.1.1
  have hT3_ := hR.1.2
  have ok_ := hR.2.1
  obtain ⟨lb_12, hr_12, hlb_12⟩ := hR.2.2.1
  exact m_iret (v := r_8) hx hb hr hlk hC hH rho_10 (by rw [px_, show nxt (kd, aa, bb, cc, dd, ee) pp σ = pp + 1 from nxt_7 hk_, ← hnx]; exact ⟨⟨_, hM, hR, hK⟩, hfr, hr_8⟩) (by omega) (by omega) dX3_perform_242
set_option maxHeartbeats 4000000 in
set_option maxRecDepth 100000 in
theorem c_X3_perform_8 (l : Launch) (G : mG) (k : Nat → Nat) (own : tR) (n : Nat) (T z : Nat → Nat) (i : Nat) (hi : i < 3) (D : tD) (dn th ta nx : Int32) (σ : tS) (f : mF) (hM : CM G k own n z D f) (hR : RP n T (k 1) i dn th ta nx σ D) (q : Nat) (kd aa : Int32) (bb : Int64) (cc dd ee : Int32) (hq : AD D q = some (kd, aa, bb, cc, dd, ee)) (pp : Nat) (hnx : nx = nI (pp + 1)) (hk_ : kd = nI 8) (h0_ : 0 ≤ aa.toInt ∧ aa.toInt ≤ 3) (h1_ : 0 ≤ bb.toInt ∧ bb.toInt ≤ 3) (h2_ : 0 ≤ cc.toInt ∧ cc.toInt ≤ 7) (h3_ : 0 ≤ dd.toInt ∧ dd.toInt ≤ 3) : Met l yX3_perform wsX3_perform ({ frames := 5, cells := 3 * (nld (prf T (kd, aa, bb, cc, dd, ee) σ).2 - nld σ), slots := 29 * (nld (prf T (kd, aa, bb, cc, dd, ee) σ).2 - nld σ), locals := 155 }) (va_Pc [.ref (k (5 + 8 * i)), .ref q] (mW G f)) (va_Qi (fun (r : Int32) (u : mS) => RN G k u.1 n T z i D dn th ta (nI (nxt (kd, aa, bb, cc, dd, ee) pp σ)) ((prf T (kd, aa, bb, cc, dd, ee) σ).2) u.2 ∧ frD own f u.1 u.2 ∧ r.toInt = (((prf T (kd, aa, bb, cc, dd, ee) σ).1 : Nat) : Int)) (fun (u : mS) t => mW G u.2 t) (mA G)) (3 * (nld (prf T (kd, aa, bb, cc, dd, ee) σ).2 - nld σ)) (29 * (nld (prf T (kd, aa, bb, cc, dd, ee) σ).2 - nld σ)) (mA G) := by
  refine mMet [.ref (k (5 + 8 * i)), .ref q] (cc := cX3_perform) (maxL := 5) (ret := (some .int)) (by decide) rfl (Nat.le_of_ble_eq_true rfl) ?_
  intro p e s m below meth c ls hx hb hr hml hts hown hlk hnm hC hH hl
  have hl : lv_has ls 5 [(0, .ref (k (5 + 8 * i))), (1, .ref q)] := hl
  have hK : KP i D D := KP.rf
  have hfr : frD own f own f := frD.rf
  have hkd : kd.toInt = 8 := by rw [hk_]; decide
  have cl_aa := ic_clN (rfl : aa.toInt = _) (by omega)
  have cl_cc := ic_clN (rfl : cc.toInt = _) (by omega)
  have cl_dd := ic_clN (rfl : dd.toInt = _) (by omega)
  have n24_ := hR.1.1
  have hT3_ := hR.1.2
  have ok_ := hR.2.1
  obtain ⟨lb_1, hr_1, hlb_1⟩ := hR.2.2.1
  refine lv_aload_n hx hb dX3_perform_0 rfl (lv_at hl 1 rfl) ?_
  have F_2 : f q = some (.inr (0, [.int kd, .int aa, .long bb, .int cc, .int dd, .int ee])) := hM.a0 q _ (by rw [hK.2.1]; exact hq)
  refine m_get (ci := 0) (v := .int aa) (C := RX0) (T := TX0) (N := 6) hx hb hC hH hts in_X3_perform_X0 hown F_2 rfl 1 (by decide) (hts (.fieldLink RX3 110 "LazyState$Act" "a" "I") (by decide +kernel)) rfl dX3_perform_1 ?_
  refine lv_istore_n (lv' := [(2, .int aa), (0, .ref (k (5 + 8 * i))), (1, .ref q)]) hx hb dX3_perform_4 rfl hl (by decide) rfl (fun ls hl => ?_)
  refine lv_aload_n hx hb dX3_perform_5 rfl (lv_at hl 2 rfl) ?_
  refine m_get (ci := 0) (v := .long bb) (C := RX0) (T := TX0) (N := 6) hx hb hC hH hts in_X3_perform_X0 hown F_2 rfl 2 (by decide) (hts (.fieldLink RX3 115 "LazyState$Act" "b" "J") (by decide +kernel)) rfl dX3_perform_6 ?_
  refine lv_l2i hx hb dX3_perform_9 rfl ?_
  refine lv_topi (fun x_3 ex_3 => ?_)
  have ix_3 : x_3.toInt = bb.toInt := ic_l2i ex_3 rfl (by omega) (by omega)
  have hB_ : bb.toInt.toNat = x_3.toNatClampNeg := (show bb.toInt.toNat = x_3.toInt.toNat from by omega)
  refine lv_istore_n (lv' := [(3, .int x_3), (2, .int aa), (0, .ref (k (5 + 8 * i))), (1, .ref q)]) hx hb dX3_perform_10 rfl hl (by decide) rfl (fun ls hl => ?_)
  refine lv_aload_n hx hb dX3_perform_11 rfl (lv_at hl 3 rfl) ?_
  refine m_get (ci := 0) (v := .int cc) (C := RX0) (T := TX0) (N := 6) hx hb hC hH hts in_X3_perform_X0 hown F_2 rfl 3 (by decide) (hts (.fieldLink RX3 118 "LazyState$Act" "c" "I") (by decide +kernel)) rfl dX3_perform_12 ?_
  refine lv_istore (lv' := [(4, .int cc), (3, .int x_3), (2, .int aa), (0, .ref (k (5 + 8 * i))), (1, .ref q)]) hx hb dX3_perform_15 hl (by decide) rfl (fun ls hl => ?_)
  refine lv_aload_n hx hb dX3_perform_17 rfl (lv_at hl 4 rfl) ?_
  refine m_get (ci := 0) (v := .int kd) (C := RX0) (T := TX0) (N := 6) hx hb hC hH hts in_X3_perform_X0 hown F_2 rfl 0 (by decide) (hts (.fieldLink RX3 121 "LazyState$Act" "kind" "I") (by decide +kernel)) rfl dX3_perform_18 ?_
  refine lv_tableIn (off := 222) (tgt := 243) hx hb dX3_perform_21 (by rw [hkd]; decide) (by rw [hkd]; decide) (by rw [hkd]; rfl) (by decide) ?_
  refine lv_aload_n hx hb dX3_perform_243 rfl (lv_at hl 3 rfl) ?_
  refine lv_iload_n hx hb dX3_perform_244 rfl (lv_at hl 2 rfl) ?_
  refine lv_iload_n hx hb dX3_perform_245 rfl (lv_at hl 1 rfl) ?_
  refine lv_iload hx hb dX3_perform_246 (lv_at hl 0 rfl) ?_
  refine lv_aload_n hx hb dX3_perform_248 rfl (lv_at hl 4 rfl) ?_
  refine m_get (ci := 0) (v := .int dd) (C := RX0) (T := TX0) (N := 6) hx hb hC hH hts in_X3_perform_X0 hown F_2 rfl 4 (by decide) (hts (.fieldLink RX3 139 "LazyState$Act" "d" "I") (by decide +kernel)) rfl dX3_perform_249 ?_
  have px_ : (prf T (kd, aa, bb, cc, dd, ee) σ) = (pItm T σ aa.toNatClampNeg x_3.toNatClampNeg cc.toNatClampNeg dd.toNatClampNeg) := (prf_8 hk_).trans (by show pItm T σ aa.toNatClampNeg bb.toInt.toNat cc.toNatClampNeg dd.toNatClampNeg = _; rw [hB_])
  have nq_ : nld (prf T (kd, aa, bb, cc, dd, ee) σ).2 = nld (pItm T σ aa.toNatClampNeg x_3.toNatClampNeg cc.toNatClampNeg dd.toNatClampNeg).2 := by rw [px_]
  have F_7 : f (k (5 + 8 * i)) = some (.inr (3, [.ref (k (5 + 8 * i + 1)), .int lb_1, .int dn, .long (gfS σ), .int th, .int ta, .ref (k 1), .ref (k (5 + 8 * i + 5)), .ref (k (5 + 8 * i + 6)), .ref (k (5 + 8 * i + 7)), .int nx])) := by have w_ := hM.r0 i hi; rw [hr_1] at w_; exact w_
  refine m_goi hH (va_runV (As := [.int aa, .int x_3, .int cc, .int dd]) (rest := []) ⟨hx, hb, hml, hown, hts⟩ (c_X3_getItem l G k own n T z i hi D dn th ta nx σ f hM hR aa x_3 cc dd (by omega) (by omega) (by omega) (by omega)) (cwV 4 hts gX3_perform_X3_getItem rfl rfl rfl (by decide +kernel) ⟨Nat.le_of_ble_eq_true rfl, Nat.le_of_ble_eq_true rfl⟩) (m_preV (ci := 3) hC hH F_7 rfl) rfl rfl hl.1 rfl (lv_room (Nat.le_of_ble_eq_true rfl)) dX3_perform_252 ⟨by show _ ≤ 3 * (nld (prf T (kd, aa, bb, cc, dd, ee) σ).2 - nld σ); omega, by show _ ≤ 29 * (nld (prf T (kd, aa, bb, cc, dd, ee) σ).2 - nld σ); omega⟩) (fun r_4 rho_6 f_5 H locs hw hH => ?_)
  obtain ⟨hI, hfr1, hr_4⟩ := hw
  have hI : RN G k rho_6 n T z i D dn th ta nx ((pItm T σ aa.toNatClampNeg x_3.toNatClampNeg cc.toNatClampNeg dd.toNatClampNeg).2) f_5 := hI
  have hfr1 : frD own f rho_6 f_5 := hfr1
  have hfr := hfr.trans hfr1
  try dsimp only at hr_4
  obtain ⟨D_8, hM, hR, hK1_8⟩ := hI
  have hK := hK.trans hK1_8
  have n24_ := hR.1.1
  have hT3_ := hR.1.2
  have ok_ := hR.2.1
  obtain ⟨lb_9, hr_9, hlb_9⟩ := hR.2.2.1
  exact m_iret (v := r_4) hx hb hr hlk hC hH rho_6 (by rw [px_, show nxt (kd, aa, bb, cc, dd, ee) pp σ = pp + 1 from nxt_8 hk_, ← hnx]; exact ⟨⟨_, hM, hR, hK⟩, hfr, hr_4⟩) (by omega) (by omega) dX3_perform_255
