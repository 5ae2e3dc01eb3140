set_option maxHeartbeats 4000000 in
set_option maxRecDepth 100000 in
theorem c_X3_setValue (l : Launch) (G : mG) (k : Nat → Nat) (rho : tR) (n : Nat) (T z : Nat → Nat) (st : Nat → Bool) (f : mF) (hI : IC G k rho n T z st f) (i : Nat) (hi : i < 3) (hst : st i = true ∧ 0 < n) (x : Int32) (v : Int64) (hx4 : 0 ≤ x.toInt ∧ x.toInt < 4) : Met l yX3_setValue wsX3_setValue ({ frames := 0, cells := 0, slots := 0, locals := 0 }) (va_Pc [.ref (k (5 + 8 * i)), .int x, .long v] (mW G f)) (va_Qi (fun (r : Int32) (u : mS) => u.1 = rho ∧ IC G k rho n T z st u.2 ∧ frC k rho f rho u.2 ∧ u.2 (k (5 + 8 * i + 5)) = f (k (5 + 8 * i + 5)) ∧ r.toInt = 0) (fun (u : mS) t => mW G u.2 t) (mA G)) 0 0 (mA G) := by
  refine mMet [.ref (k (5 + 8 * i)), .int x, .long v] (cc := cX3_setValue) (maxL := 4) (ret := (some .int)) (by decide) rfl (Nat.le_of_ble_eq_true rfl) ?_
  intro p e s m below meth c ls hx hb hr hml hts hown hlk hnm hC hH hl
  have hl : lv_has ls 4 [(0, .ref (k (5 + 8 * i))), (1, .int x), (2, .long v)] := hl
  have hj := hI.2.2.2.2.1
  have hn24 := hI.2.2.2.2.2.2.1
  have hT3 := hI.2.2.2.2.2.2.2.1
  have hz32 := hI.2.2.2.2.2.2.2.2
  have nIn : (nI n).toInt = (n : Int) := nI_toInt (by omega)
  have hfr : frC k rho f rho f := frC.rf
  have hkc : f (k (5 + 8 * i + 5)) = f (k (5 + 8 * i + 5)) := rfl
  have hn0_ := hst.2
  refine lv_aload_n hx hb dX3_setValue_0 rfl (lv_at hl 0 rfl) ?_
  obtain ⟨lb_1, dn_1, gf_1, th_1, ta_1, sr_1, nx_1, F_1, s1_1, s2_1⟩ : okRun k st i (f (k (5 + 8 * i))) := hI.run (i := i) (c := 0) hi (by decide)
  have s3_1 := s2_1 hst.1
  subst s3_1
  refine m_get (ci := 3) (v := .ref (k (5 + 8 * i + 7))) (C := RX3) (T := TX3) (N := 11) hx hb hC hH hts in_X3_setValue_X3 hown F_1 rfl 9 (by decide) (hts (.fieldLink RX3 32 "LazyState$Run" "values" "[J") (by decide +kernel)) rfl dX3_setValue_1 ?_
  refine lv_iload_n hx hb dX3_setValue_4 rfl (lv_at hl 1 rfl) ?_
  refine lv_lload_n hx hb dX3_setValue_5 rfl (lv_at hl 2 rfl) ?_
  obtain ⟨g_2, hg_2, hp_2⟩ : okJ G 4 (fun _ => True) (f (k (5 + 8 * i + 7))) := hI.run (i := i) (c := 7) hi (by decide)
  refine m_last hx hb hC hH hg_2 (vp_in_iff.mpr ⟨by omega, by omega⟩) dX3_setValue_6 (fun H locs hH => ?_)
  obtain ⟨f_3, ef_3⟩ : ∃ zz_ : mF, zz_ = va_up f (k (5 + 8 * i + 7)) (some (.inl (gk G 1, 4, .inr (.inl (vp_updL g_2 x.toNatClampNeg v))))) := ⟨_, rfl⟩
  rw [← ef_3] at hH
  have hkc := (upn ef_3 (neC hj (i := (5 + 8 * i + 5)) (j := (5 + 8 * i + 7)) (by omega) (by omega) (by omega))).trans hkc
  have F_4 := upk F_1 ef_3 (neC hj (i := (5 + 8 * i + 0)) (j := (5 + 8 * i + 7)) (by omega) (by omega) (by omega))
  have hI : IC G k rho n T z st f_3 := hI.set (j := (5 + 8 * i + 7)) (by omega) ef_3 (fun i_ hi_ => by omega) (by rw [okC_R hi (by decide)]; exact ⟨_, rfl, trivial⟩)
  have hfr := hfr.upK (j := (5 + 8 * i + 7)) (by omega) ef_3
  refine lv_iconst (v := 0) hx hb dX3_setValue_7 (by decide) ?_
  exact m_iret (v := 0) hx hb hr hlk hC hH rho ⟨rfl, hI, hfr, hkc, kI_0⟩ (Nat.le_of_ble_eq_true rfl) (Nat.le_of_ble_eq_true rfl) dX3_setValue_8
set_option maxHeartbeats 4000000 in
set_option maxRecDepth 100000 in
theorem c_X3_goOnAt (l : Launch) (G : mG) (k : Nat → Nat) (rho : tR) (n : Nat) (T z : Nat → Nat) (st : Nat → Bool) (f : mF) (hI : IC G k rho n T z st f) (i : Nat) (hi : i < 3) (hst : st i = true ∧ 0 < n) (a : Int32) : Met l yX3_goOnAt wsX3_goOnAt ({ frames := 0, cells := 0, slots := 0, locals := 0 }) (va_Pc [.ref (k (5 + 8 * i)), .int a] (mW G f)) (va_Qi (fun (r : Int32) (u : mS) => u.1 = rho ∧ IC G k rho n T z st u.2 ∧ frC k rho f rho u.2 ∧ u.2 (k (5 + 8 * i + 5)) = f (k (5 + 8 * i + 5)) ∧ r.toInt = 0) (fun (u : mS) t => mW G u.2 t) (mA G)) 0 0 (mA G) := by
  refine mMet [.ref (k (5 + 8 * i)), .int a] (cc := cX3_goOnAt) (maxL := 2) (ret := (some .int)) (by decide) rfl (Nat.le_of_ble_eq_true rfl) ?_
  intro p e s m below meth c ls hx hb hr hml hts hown hlk hnm hC hH hl
  have hl : lv_has ls 2 [(0, .ref (k (5 + 8 * i))), (1, .int a)] := hl
  have hj := hI.2.2.2.2.1
  have hn24 := hI.2.2.2.2.2.2.1
  have hT3 := hI.2.2.2.2.2.2.2.1
  have hz32 := hI.2.2.2.2.2.2.2.2
  have nIn : (nI n).toInt = (n : Int) := nI_toInt (by omega)
  have hfr : frC k rho f rho f := frC.rf
  have hkc : f (k (5 + 8 * i + 5)) = f (k (5 + 8 * i + 5)) := rfl
  have hn0_ := hst.2
  refine lv_aload_n hx hb dX3_goOnAt_0 rfl (lv_at hl 0 rfl) ?_
  refine lv_iload_n hx hb dX3_goOnAt_1 rfl (lv_at hl 1 rfl) ?_
  obtain ⟨lb_1, dn_1, gf_1, th_1, ta_1, sr_1, nx_1, F_1, s1_1, s2_1⟩ : okRun k st i (f (k (5 + 8 * i))) := hI.run (i := i) (c := 0) hi (by decide)
  have s3_1 := s2_1 hst.1
  subst s3_1
  refine m_put (ci := 3) (v := .int a) (C := RX3) (T := TX3) (N := 11) hx hb hC hH hts in_X3_goOnAt_X3 tyX3 tyX3_ok nmX3 hown F_1 rfl 10 (by decide) (hts (.fieldLink RX3 78 "LazyState$Run" "next" "I") (by decide +kernel)) rfl rfl rfl (Nat.le_of_ble_eq_true rfl) dX3_goOnAt_2 (fun H locs hH => ?_)
  have hH : mH G s (va_up f (k (5 + 8 * i)) (some (.inr (3, [.ref (k (5 + 8 * i + 1)), .int lb_1, .int dn_1, .long gf_1, .int th_1, .int ta_1, .ref (k 1), .ref (k (5 + 8 * i + 5)), .ref (k (5 + 8 * i + 6)), .ref (k (5 + 8 * i + 7)), .int a])))) H locs := hH
  obtain ⟨f_2, ef_2⟩ : ∃ zz_ : mF, zz_ = va_up f (k (5 + 8 * i)) (some (.inr (3, [.ref (k (5 + 8 * i + 1)), .int lb_1, .int dn_1, .long gf_1, .int th_1, .int ta_1, .ref (k 1), .ref (k (5 + 8 * i + 5)), .ref (k (5 + 8 * i + 6)), .ref (k (5 + 8 * i + 7)), .int a]))) := ⟨_, rfl⟩
  rw [← ef_2] at hH
  have hkc := (upn ef_2 (neC hj (i := (5 + 8 * i + 5)) (j := (5 + 8 * i + 0)) (by omega) (by omega) (by omega))).trans hkc
  have F_3 : f_2 (k (5 + 8 * i)) = some (.inr (3, [.ref (k (5 + 8 * i + 1)), .int lb_1, .int dn_1, .long gf_1, .int th_1, .int ta_1, .ref (k 1), .ref (k (5 + 8 * i + 5)), .ref (k (5 + 8 * i + 6)), .ref (k (5 + 8 * i + 7)), .int a])) := by rw [ef_2]; exact va_up_self _ _ _
  have hI : IC G k rho n T z st f_2 := hI.setRun hi F_1 ef_2 rfl ⟨_, _, _, _, _, some (k 1), _, rfl, Or.inr rfl, fun _ => rfl⟩
  have hfr := hfr.upK (j := (5 + 8 * i + 0)) (by omega) ef_2
  refine lv_iconst (v := 0) hx hb dX3_goOnAt_5 (by decide) ?_
  exact m_iret (v := 0) hx hb hr hlk hC hH rho ⟨rfl, hI, hfr, hkc, kI_0⟩ (Nat.le_of_ble_eq_true rfl) (Nat.le_of_ble_eq_true rfl) dX3_goOnAt_6
set_option maxHeartbeats 4000000 in
set_option maxRecDepth 100000 in
theorem c_X3_end (l : Launch) (G : mG) (k : Nat → Nat) (rho : tR) (n : Nat) (T z : Nat → Nat) (st : Nat → Bool) (f : mF) (hI : IC G k rho n T z st f) (i : Nat) (hi : i < 3) (hst : st i = true ∧ 0 < n) (v : Int64) : Met l yX3_end wsX3_end ({ frames := 1, cells := 0, slots := 0, locals := 21 }) (va_Pc [.ref (k (5 + 8 * i)), .long v] (mW G f)) (va_Qi (fun (r : Int32) (u : mS) => u.1 = rho ∧ IC G k rho n T z st u.2 ∧ frC k rho f rho u.2 ∧ u.2 (k (5 + 8 * i + 5)) = f (k (5 + 8 * i + 5)) ∧ r.toInt = 0) (fun (u : mS) t => mW G u.2 t) (mA G)) 0 0 (mA G) := by
  refine mMet [.ref (k (5 + 8 * i)), .long v] (cc := cX3_end) (maxL := 3) (ret := (some .int)) (by decide) rfl (Nat.le_of_ble_eq_true rfl) ?_
  intro p e s m below meth c ls hx hb hr hml hts hown hlk hnm hC hH hl
  have hl : lv_has ls 3 [(0, .ref (k (5 + 8 * i))), (1, .long v)] := hl
  have hj := hI.2.2.2.2.1
  have hn24 := hI.2.2.2.2.2.2.1
  have hT3 := hI.2.2.2.2.2.2.2.1
  have hz32 := hI.2.2.2.2.2.2.2.2
  have nIn : (nI n).toInt = (n : Int) := nI_toInt (by omega)
  have hfr : frC k rho f rho f := frC.rf
  have hkc : f (k (5 + 8 * i + 5)) = f (k (5 + 8 * i + 5)) := rfl
  have hn0_ := hst.2
  refine lv_aload_n hx hb dX3_end_0 rfl (lv_at hl 0 rfl) ?_
  refine lv_lload_n hx hb dX3_end_1 rfl (lv_at hl 1 rfl) ?_
  obtain ⟨lb_1, dn_1, gf_1, th_1, ta_1, sr_1, nx_1, F_1, s1_1, s2_1⟩ : okRun k st i (f (k (5 + 8 * i))) := hI.run (i := i) (c := 0) hi (by decide)
  have s3_1 := s2_1 hst.1
  subst s3_1
  refine m_put (ci := 3) (v := .long v) (C := RX3) (T := TX3) (N := 11) hx hb hC hH hts in_X3_end_X3 tyX3 tyX3_ok nmX3 hown F_1 rfl 3 (by decide) (hts (.fieldLink RX3 48 "LazyState$Run" "gift" "J") (by decide +kernel)) rfl rfl rfl (Nat.le_of_ble_eq_true rfl) dX3_end_2 (fun H locs hH => ?_)
  have hH : mH G s (va_up f (k (5 + 8 * i)) (some (.inr (3, [.ref (k (5 + 8 * i + 1)), .int lb_1, .int dn_1, .long v, .int th_1, .int ta_1, .ref (k 1), .ref (k (5 + 8 * i + 5)), .ref (k (5 + 8 * i + 6)), .ref (k (5 + 8 * i + 7)), .int nx_1])))) H locs := hH
  obtain ⟨f_2, ef_2⟩ : ∃ zz_ : mF, zz_ = va_up f (k (5 + 8 * i)) (some (.inr (3, [.ref (k (5 + 8 * i + 1)), .int lb_1, .int dn_1, .long v, .int th_1, .int ta_1, .ref (k 1), .ref (k (5 + 8 * i + 5)), .ref (k (5 + 8 * i + 6)), .ref (k (5 + 8 * i + 7)), .int nx_1]))) := ⟨_, rfl⟩
  rw [← ef_2] at hH
  have hkc := (upn ef_2 (neC hj (i := (5 + 8 * i + 5)) (j := (5 + 8 * i + 0)) (by omega) (by omega) (by omega))).trans hkc
  have F_3 : f_2 (k (5 + 8 * i)) = some (.inr (3, [.ref (k (5 + 8 * i + 1)), .int lb_1, .int dn_1, .long v, .int th_1, .int ta_1, .ref (k 1), .ref (k (5 + 8 * i + 5)), .ref (k (5 + 8 * i + 6)), .ref (k (5 + 8 * i + 7)), .int nx_1])) := by rw [ef_2]; exact va_up_self _ _ _
  have hI : IC G k rho n T z st f_2 := hI.setRun hi F_1 ef_2 rfl ⟨_, _, _, _, _, some (k 1), _, rfl, Or.inr rfl, fun _ => rfl⟩
  have hfr := hfr.upK (j := (5 + 8 * i + 0)) (by omega) ef_2
  refine lv_aload_n hx hb dX3_end_5 rfl (lv_at hl 0 rfl) ?_
  refine lv_bipush (v := 32) hx hb dX3_end_6 (by decide) ?_
  refine m_goi hH (va_runV (As := [.int 32]) (rest := []) ⟨hx, hb, hml, hown, hts⟩ (c_X3_goOnAt l G k rho n T z st f_2 hI i hi hst 32) (cwV 1 hts gX3_end_X3_goOnAt rfl rfl rfl (by decide +kernel) ⟨Nat.le_of_ble_eq_true rfl, Nat.le_of_ble_eq_true rfl⟩) (m_preV (ci := 3) hC hH F_3 rfl) rfl rfl hl.1 rfl (lv_room (Nat.le_of_ble_eq_true rfl)) dX3_end_8 ⟨Nat.le_of_ble_eq_true rfl, Nat.le_of_ble_eq_true rfl⟩) (fun r_4 rho_6 f_5 H locs hw hH => ?_)
  obtain ⟨hu, hI, hfr1, hkc1, hr_4⟩ := hw
  have hI : IC G k rho n T z st f_5 := hI
  have hfr1 : frC k rho f_2 rho f_5 := hfr1
  have hfr := hfr.trans hfr1
  have hkc := hkc1.trans hkc
  try dsimp only at hr_4
  exact m_iret (v := r_4) hx hb hr hlk hC hH rho ⟨rfl, hI, hfr, hkc, by omega⟩ (Nat.le_of_ble_eq_true rfl) (Nat.le_of_ble_eq_true rfl) dX3_end_11
set_option maxHeartbeats 4000000 in
set_option maxRecDepth 100000 in
theorem c_X3_fail (l : Launch) (G : mG) (k : Nat → Nat) (rho : tR) (n : Nat) (T z : Nat → Nat) (st : Nat → Bool) (f : mF) (hI : IC G k rho n T z st f) (i : Nat) (hi : i < 3) (hst : st i = true ∧ 0 < n) (a b : Int32) : Met l yX3_fail wsX3_fail ({ frames := 0, cells := 0, slots := 0, locals := 0 }) (va_Pc [.ref (k (5 + 8 * i)), .int a, .int b] (mW G f)) (va_Qv (fun (u : mS) => u.1 = rho ∧ IC G k rho n T z st u.2 ∧ frC k rho f rho u.2 ∧ u.2 (k (5 + 8 * i + 5)) = f (k (5 + 8 * i + 5))) (fun (u : mS) t => mW G u.2 t) (mA G)) 0 0 (mA G) := by
  refine mMet [.ref (k (5 + 8 * i)), .int a, .int b] (cc := cX3_fail) (maxL := 3) (ret := none) (by decide) rfl (Nat.le_of_ble_eq_true rfl) ?_
  intro p e s m below meth c ls hx hb hr hml hts hown hlk hnm hC hH hl
  have hl : lv_has ls 3 [(0, .ref (k (5 + 8 * i))), (1, .int a), (2, .int b)] := hl
  have hj := hI.2.2.2.2.1
  have hn24 := hI.2.2.2.2.2.2.1
  have hT3 := hI.2.2.2.2.2.2.2.1
  have hz32 := hI.2.2.2.2.2.2.2.2
  have nIn : (nI n).toInt = (n : Int) := nI_toInt (by omega)
  have hfr : frC k rho f rho f := frC.rf
  have hkc : f (k (5 + 8 * i + 5)) = f (k (5 + 8 * i + 5)) := rfl
  have hn0_ := hst.2
  refine lv_aload_n hx hb dX3_fail_0 rfl (lv_at hl 0 rfl) ?_
  refine lv_iload_n hx hb dX3_fail_1 rfl (lv_at hl 1 rfl) ?_
  obtain ⟨lb_1, dn_1, gf_1, th_1, ta_1, sr_1, nx_1, F_1, s1_1, s2_1⟩ : okRun k st i (f (k (5 + 8 * i))) := hI.run (i := i) (c := 0) hi (by decide)
  have s3_1 := s2_1 hst.1
  subst s3_1
  refine m_put (ci := 3) (v := .int a) (C := RX3) (T := TX3) (N := 11) hx hb hC hH hts in_X3_fail_X3 tyX3 tyX3_ok nmX3 hown F_1 rfl 4 (by decide) (hts (.fieldLink RX3 52 "LazyState$Run" "thrown" "I") (by decide +kernel)) rfl rfl rfl (Nat.le_of_ble_eq_true rfl) dX3_fail_2 (fun H locs hH => ?_)
  have hH : mH G s (va_up f (k (5 + 8 * i)) (some (.inr (3, [.ref (k (5 + 8 * i + 1)), .int lb_1, .int dn_1, .long gf_1, .int a, .int ta_1, .ref (k 1), .ref (k (5 + 8 * i + 5)), .ref (k (5 + 8 * i + 6)), .ref (k (5 + 8 * i + 7)), .int nx_1])))) H locs := hH
  obtain ⟨f_2, ef_2⟩ : ∃ zz_ : mF, zz_ = va_up f (k (5 + 8 * i)) (some (.inr (3, [.ref (k (5 + 8 * i + 1)), .int lb_1, .int dn_1, .long gf_1, .int a, .int ta_1, .ref (k 1), .ref (k (5 + 8 * i + 5)), .ref (k (5 + 8 * i + 6)), .ref (k (5 + 8 * i + 7)), .int nx_1]))) := ⟨_, rfl⟩
  rw [← ef_2] at hH
  have hkc := (upn ef_2 (neC hj (i := (5 + 8 * i + 5)) (j := (5 + 8 * i + 0)) (by omega) (by omega) (by omega))).trans hkc
  have F_3 : f_2 (k (5 + 8 * i)) = some (.inr (3, [.ref (k (5 + 8 * i + 1)), .int lb_1, .int dn_1, .long gf_1, .int a, .int ta_1, .ref (k 1), .ref (k (5 + 8 * i + 5)), .ref (k (5 + 8 * i + 6)), .ref (k (5 + 8 * i + 7)), .int nx_1])) := by rw [ef_2]; exact va_up_self _ _ _
  have hI : IC G k rho n T z st f_2 := hI.setRun hi F_1 ef_2 rfl ⟨_, _, _, _, _, some (k 1), _, rfl, Or.inr rfl, fun _ => rfl⟩
  have hfr := hfr.upK (j := (5 + 8 * i + 0)) (by omega) ef_2
  refine lv_aload_n hx hb dX3_fail_5 rfl (lv_at hl 0 rfl) ?_
  refine lv_iload_n hx hb dX3_fail_6 rfl (lv_at hl 2 rfl) ?_
  refine m_put (ci := 3) (v := .int b) (C := RX3) (T := TX3) (N := 11) hx hb hC hH hts in_X3_fail_X3 tyX3 tyX3_ok nmX3 hown F_3 rfl 5 (by decide) (hts (.fieldLink RX3 18 "LazyState$Run" "thrownAt" "I") (by decide +kernel)) rfl rfl rfl (Nat.le_of_ble_eq_true rfl) dX3_fail_7 (fun H locs hH => ?_)
  have hH : mH G s (va_up f_2 (k (5 + 8 * i)) (some (.inr (3, [.ref (k (5 + 8 * i + 1)), .int lb_1, .int dn_1, .long gf_1, .int a, .int b, .ref (k 1), .ref (k (5 + 8 * i + 5)), .ref (k (5 + 8 * i + 6)), .ref (k (5 + 8 * i + 7)), .int nx_1])))) H locs := hH
  obtain ⟨f_4, ef_4⟩ : ∃ zz_ : mF, zz_ = va_up f_2 (k (5 + 8 * i)) (some (.inr (3, [.ref (k (5 + 8 * i + 1)), .int lb_1, .int dn_1, .long gf_1, .int a, .int b, .ref (k 1), .ref (k (5 + 8 * i + 5)), .ref (k (5 + 8 * i + 6)), .ref (k (5 + 8 * i + 7)), .int nx_1]))) := ⟨_, rfl⟩
  rw [← ef_4] at hH
  have hkc := (upn ef_4 (neC hj (i := (5 + 8 * i + 5)) (j := (5 + 8 * i + 0)) (by omega) (by omega) (by omega))).trans hkc
  have F_5 : f_4 (k (5 + 8 * i)) = some (.inr (3, [.ref (k (5 + 8 * i + 1)), .int lb_1, .int dn_1, .long gf_1, .int a, .int b, .ref (k 1), .ref (k (5 + 8 * i + 5)), .ref (k (5 + 8 * i + 6)), .ref (k (5 + 8 * i + 7)), .int nx_1])) := by rw [ef_4]; exact va_up_self _ _ _
  have hI : IC G k rho n T z st f_4 := hI.setRun hi F_3 ef_4 rfl ⟨_, _, _, _, _, some (k 1), _, rfl, Or.inr rfl, fun _ => rfl⟩
  have hfr := hfr.upK (j := (5 + 8 * i + 0)) (by omega) ef_4
  exact m_vret hx hb hr hlk hC hH rho ⟨rfl, hI, hfr, hkc⟩ (Nat.le_of_ble_eq_true rfl) (Nat.le_of_ble_eq_true rfl) dX3_fail_10
set_option maxHeartbeats 4000000 in
set_option maxRecDepth 100000 in
theorem c_X3_bodyOf (l : Launch) (G : mG) (k : Nat → Nat) (rho : tR) (n : Nat) (T z : Nat → Nat) (st : Nat → Bool) (f : mF) (hI : IC G k rho n T z st f) (i : Nat) (hi : i < 3) (hst : st i = true ∧ 0 < n) (o : Int32) (ho : 0 ≤ o.toInt ∧ o.toInt < n) : Met l yX3_bodyOf wsX3_bodyOf ({ frames := 1, cells := 0, slots := 0, locals := 21 }) (va_Pc [.ref (k (5 + 8 * i)), .int o] (mW G f)) (va_Qq (fun (r : Option Nat) (u : mS) => u.2 = f ∧ ∃ b, r = some b ∧ rho b = (1, T o.toNatClampNeg)) (fun (u : mS) t => mW G u.2 t) (mA G)) 0 0 (mA G) := by
  refine mMet [.ref (k (5 + 8 * i)), .int o] (cc := cX3_bodyOf) (maxL := 2) (ret := (some (.object "LazyState$Body"))) (by decide) rfl (Nat.le_of_ble_eq_true rfl) ?_
  intro p e s m below meth c ls hx hb hr hml hts hown hlk hnm hC hH hl
  have hl : lv_has ls 2 [(0, .ref (k (5 + 8 * i))), (1, .int o)] := hl
  have hj := hI.2.2.2.2.1
  have hn24 := hI.2.2.2.2.2.2.1
  have hT3 := hI.2.2.2.2.2.2.2.1
  have hz32 := hI.2.2.2.2.2.2.2.2
  have nIn : (nI n).toInt = (n : Int) := nI_toInt (by omega)
  have hfr : frC k rho f rho f := frC.rf
  have hkc : f (k (5 + 8 * i + 5)) = f (k (5 + 8 * i + 5)) := rfl
  have hn0_ := hst.2
  refine lv_aload_n hx hb dX3_bodyOf_0 rfl (lv_at hl 0 rfl) ?_
  obtain ⟨lb_1, dn_1, gf_1, th_1, ta_1, sr_1, nx_1, F_1, s1_1, s2_1⟩ : okRun k st i (f (k (5 + 8 * i))) := hI.run (i := i) (c := 0) hi (by decide)
  have s3_1 := s2_1 hst.1
  subst s3_1
  refine m_get (ci := 3) (v := .int lb_1) (C := RX3) (T := TX3) (N := 11) hx hb hC hH hts in_X3_bodyOf_X3 hown F_1 rfl 1 (by decide) (hts (.fieldLink RX3 42 "LazyState$Run" "loadedBits" "I") (by decide +kernel)) rfl dX3_bodyOf_1 ?_
  refine lv_iload_n hx hb dX3_bodyOf_4 rfl (lv_at hl 1 rfl) ?_
  refine m_goi hH (va_runSN (As := [.int lb_1, .int o]) (rest := []) ⟨hx, hb, hml, hown, hts⟩ (c_X5_bitOf l G f lb_1 o) ⟨va_cnB 2 hts gX3_bodyOf_X5_bitOf_n97 rfl rfl rfl hC.2.1.2.2.2.2.1 (hts (.initialized RX5) (by decide +kernel)) (by decide +kernel) ⟨Nat.le_of_ble_eq_true rfl, Nat.le_of_ble_eq_true rfl⟩, (hts (.static yX5_bitOf) (by decide +kernel)), trivial⟩ (m_preS hC hH) rfl rfl hl.1 rfl (lv_room (Nat.le_of_ble_eq_true rfl)) dX3_bodyOf_5 ⟨Nat.le_of_ble_eq_true rfl, Nat.le_of_ble_eq_true rfl⟩) (fun r_2 rho_4 f_3 H locs hw hH => ?_)
  obtain ⟨hu, hr_2⟩ := hw
  have hu : f_3 = f := hu
  rw [hu] at hH
  have br_2 : r_2.toInt = 0 ∨ r_2.toInt = 1 := by rw [hr_2]; exact ic_and1 _
  refine lv_iconst (v := 1) hx hb dX3_bodyOf_8 (by decide) ?_
  refine lv_icmp_ne (tgt := 21) hx hb dX3_bodyOf_9 (by decide) (fun c_5 => ?_) (fun c_5 => ?_)
  · skip
    have ic_5 : (r_2.toInt : Int) ≠ 1 := ic_ne rfl kI_1 c_5
    refine lv_aload_n hx hb dX3_bodyOf_21 rfl (lv_at hl 0 rfl) ?_
    refine m_get (ci := 3) (v := .ref (k 1)) (C := RX3) (T := TX3) (N := 11) hx hb hC hH hts in_X3_bodyOf_X3 hown F_1 rfl 6 (by decide) (hts (.fieldLink RX3 36 "LazyState$Run" "state" "[LLazyState$Body;") (by decide +kernel)) rfl dX3_bodyOf_22 ?_
    refine lv_iload_n hx hb dX3_bodyOf_25 rfl (lv_at hl 1 rfl) ?_
    obtain ⟨g_6, hg_6, hp_6⟩ : okQ G 3 24 (fun g => ∀ o, o < n → ∃ b, g o = some b ∧ rho b = (1, T o)) (f (k 1)) := hI.objs
    refine m_aald hx hb hC hH 3 rfl hg_6 (vp_in_iff.mpr ⟨by omega, by omega⟩) dX3_bodyOf_26 ?_
    obtain ⟨o_7, h1o_7, h2o_7⟩ := hp_6 (o.toNatClampNeg) (ic_cl rfl (by omega) (by omega))
    rw [h1o_7]
    exact m_aret (v := some o_7) hx hb hr hlk hC hH rho ⟨rfl, _, rfl, h2o_7⟩ (Nat.le_of_ble_eq_true rfl) (Nat.le_of_ble_eq_true rfl) dX3_bodyOf_27
  · skip
    have ic_5 : (r_2.toInt : Int) = 1 := ic_eq rfl kI_1 c_5
    have ib_ : r_2.toInt = 1 := by omega
    refine lv_aload_n hx hb dX3_bodyOf_12 rfl (lv_at hl 0 rfl) ?_
    refine m_get (ci := 3) (v := .ref (k (5 + 8 * i + 5))) (C := RX3) (T := TX3) (N := 11) hx hb hC hH hts in_X3_bodyOf_X3 hown F_1 rfl 7 (by decide) (hts (.fieldLink RX3 24 "LazyState$Run" "copies" "[LLazyState$Body;") (by decide +kernel)) rfl dX3_bodyOf_13 ?_
    refine lv_iload_n hx hb dX3_bodyOf_16 rfl (lv_at hl 1 rfl) ?_
    obtain ⟨g_8, hg_8, hp_8⟩ : okQ G 3 24 (pCp rho n T) (f (k (5 + 8 * i + 5))) := hI.run (i := i) (c := 5) hi (by decide)
    refine m_aald hx hb hC hH 3 rfl hg_8 (vp_in_iff.mpr ⟨by omega, by omega⟩) dX3_bodyOf_17 ?_
    have nn_ := hI.2.2.1 i hi _ _ _ F_1 rfl hg_8 (o.toNatClampNeg) (ic_cl rfl (by omega) (by omega)) (by unfold btC; rw [show nI o.toNatClampNeg = o from (ic_inj (ic_clN rfl (by omega)).symm (by have := ic_clN (rfl : o.toInt = _) (by omega); omega)).symm]; have hq_ := hr_2; rw [hq_] at ib_; exact Int32.toInt_inj.mp (by rw [ib_]; rfl))
    obtain ⟨_, cb_, c1_, c2_⟩ := (hp_8 (o.toNatClampNeg) (ic_cl rfl (by omega) (by omega))).resolve_left nn_
    rw [c1_]
    refine lv_goto (tgt := 27) hx hb dX3_bodyOf_18 (by decide) ?_
    exact m_aret (v := some cb_) hx hb hr hlk hC hH rho ⟨rfl, _, rfl, c2_⟩ (Nat.le_of_ble_eq_true rfl) (Nat.le_of_ble_eq_true rfl) dX3_bodyOf_27
set_option maxHeartbeats 4000000 in
set_option maxRecDepth 100000 in
theorem c_X3_endsLike (l : Launch) (G : mG) (k : Nat → Nat) (rho : tR) (n : Nat) (T z : Nat → Nat) (st : Nat → Bool) (f : mF) (hI : IC G k rho n T z st f) (i i2 : Nat) (hi : i < 3) (hi2 : i2 < 3) (hst : st i = true ∧ 0 < n) (hst2 : st i2 = true ∧ 0 < n) : Met l yX3_endsLike wsX3_endsLike ({ frames := 1, cells := 0, slots := 0, locals := 22 }) (va_Pc [.ref (k (5 + 8 * i)), .ref (k (5 + 8 * i2))] (mW G f)) (va_Qi (fun (r : Int32) (u : mS) => u.2 = f ∧ (r.toInt = 0 ∨ r.toInt = 1)) (fun (u : mS) t => mW G u.2 t) (mA G)) 0 0 (mA G) := by
  refine mMet [.ref (k (5 + 8 * i)), .ref (k (5 + 8 * i2))] (cc := cX3_endsLike) (maxL := 2) (ret := (some .boolean)) (by decide) rfl (Nat.le_of_ble_eq_true rfl) ?_
  intro p e s m below meth c ls hx hb hr hml hts hown hlk hnm hC hH hl
  have hl : lv_has ls 2 [(0, .ref (k (5 + 8 * i))), (1, .ref (k (5 + 8 * i2)))] := hl
  have hj := hI.2.2.2.2.1
  have hn24 := hI.2.2.2.2.2.2.1
  have hT3 := hI.2.2.2.2.2.2.2.1
  have hz32 := hI.2.2.2.2.2.2.2.2
  have nIn : (nI n).toInt = (n : Int) := nI_toInt (by omega)
  have hfr : frC k rho f rho f := frC.rf
  have hn0_ := hst.2
  refine lv_aload_n hx hb dX3_endsLike_0 rfl (lv_at hl 0 rfl) ?_
  obtain ⟨lb_1, dn_1, gf_1, th_1, ta_1, sr_1, nx_1, F_1, s1_1, s2_1⟩ : okRun k st i (f (k (5 + 8 * i))) := hI.run (i := i) (c := 0) hi (by decide)
  have s3_1 := s2_1 hst.1
  subst s3_1
  refine m_get (ci := 3) (v := .int th_1) (C := RX3) (T := TX3) (N := 11) hx hb hC hH hts in_X3_endsLike_X3 hown F_1 rfl 4 (by decide) (hts (.fieldLink RX3 52 "LazyState$Run" "thrown" "I") (by decide +kernel)) rfl dX3_endsLike_1 ?_
  refine lv_aload_n hx hb dX3_endsLike_4 rfl (lv_at hl 1 rfl) ?_
  obtain ⟨lb_2, dn_2, gf_2, th_2, ta_2, sr_2, nx_2, F_2, s1_2, s2_2⟩ : okRun k st i2 (f (k (5 + 8 * i2))) := hI.run (i := i2) (c := 0) hi2 (by decide)
  have s3_2 := s2_2 hst2.1
  subst s3_2
  refine m_get (ci := 3) (v := .int th_2) (C := RX3) (T := TX3) (N := 11) hx hb hC hH hts in_X3_endsLike_X3 hown F_2 rfl 4 (by decide) (hts (.fieldLink RX3 52 "LazyState$Run" "thrown" "I") (by decide +kernel)) rfl dX3_endsLike_5 ?_
  refine lv_icmp_ne (tgt := 52) hx hb dX3_endsLike_8 (by decide) (fun c_3 => ?_) (fun c_3 => ?_)
  · skip
    have ic_3 : (th_1.toInt : Int) ≠ th_2.toInt := ic_ne rfl rfl c_3
    refine lv_iconst (v := 0) hx hb dX3_endsLike_52 (by decide) ?_
    exact m_zret (v := 0) hx hb hr (by rfl) hlk hC hH rho ⟨rfl, by have := kI_0; omega⟩ (Nat.le_of_ble_eq_true rfl) (Nat.le_of_ble_eq_true rfl) dX3_endsLike_53
  · skip
    have ic_3 : (th_1.toInt : Int) = th_2.toInt := ic_eq rfl rfl c_3
    refine lv_aload_n hx hb dX3_endsLike_11 rfl (lv_at hl 0 rfl) ?_
    refine m_get (ci := 3) (v := .int ta_1) (C := RX3) (T := TX3) (N := 11) hx hb hC hH hts in_X3_endsLike_X3 hown F_1 rfl 5 (by decide) (hts (.fieldLink RX3 18 "LazyState$Run" "thrownAt" "I") (by decide +kernel)) rfl dX3_endsLike_12 ?_
    refine lv_aload_n hx hb dX3_endsLike_15 rfl (lv_at hl 1 rfl) ?_
    refine m_get (ci := 3) (v := .int ta_2) (C := RX3) (T := TX3) (N := 11) hx hb hC hH hts in_X3_endsLike_X3 hown F_2 rfl 5 (by decide) (hts (.fieldLink RX3 18 "LazyState$Run" "thrownAt" "I") (by decide +kernel)) rfl dX3_endsLike_16 ?_
    refine lv_icmp_ne (tgt := 52) hx hb dX3_endsLike_19 (by decide) (fun c_4 => ?_) (fun c_4 => ?_)
    · skip
      have ic_4 : (ta_1.toInt : Int) ≠ ta_2.toInt := ic_ne rfl rfl c_4
      refine lv_iconst (v := 0) hx hb dX3_endsLike_52 (by decide) ?_
      exact m_zret (v := 0) hx hb hr (by rfl) hlk hC hH rho ⟨rfl, by have := kI_0; omega⟩ (Nat.le_of_ble_eq_true rfl) (Nat.le_of_ble_eq_true rfl) dX3_endsLike_53
    · skip
      have ic_4 : (ta_1.toInt : Int) = ta_2.toInt := ic_eq rfl rfl c_4
      refine lv_aload_n hx hb dX3_endsLike_22 rfl (lv_at hl 0 rfl) ?_
      refine m_get (ci := 3) (v := .long gf_1) (C := RX3) (T := TX3) (N := 11) hx hb hC hH hts in_X3_endsLike_X3 hown F_1 rfl 3 (by decide) (hts (.fieldLink RX3 48 "LazyState$Run" "gift" "J") (by decide +kernel)) rfl dX3_endsLike_23 ?_
      refine lv_aload_n hx hb dX3_endsLike_26 rfl (lv_at hl 1 rfl) ?_
      refine m_get (ci := 3) (v := .long gf_2) (C := RX3) (T := TX3) (N := 11) hx hb hC hH hts in_X3_endsLike_X3 hown F_2 rfl 3 (by decide) (hts (.fieldLink RX3 48 "LazyState$Run" "gift" "J") (by decide +kernel)) rfl dX3_endsLike_27 ?_
      refine W.lcmp hx hb dX3_endsLike_30 ?_
      refine lv_if_ne (tgt := 52) hx hb dX3_endsLike_31 (by decide) (fun c_5 => ?_) (fun c_5 => ?_)
      · skip
        have ic_5 : (gf_1.toInt : Int) ≠ gf_2.toInt := lc_ne rfl rfl (fun q_ => c_5 ((lg_cmp_eq _ _).mpr q_))
        refine lv_iconst (v := 0) hx hb dX3_endsLike_52 (by decide) ?_
        exact m_zret (v := 0) hx hb hr (by rfl) hlk hC hH rho ⟨rfl, by have := kI_0; omega⟩ (Nat.le_of_ble_eq_true rfl) (Nat.le_of_ble_eq_true rfl) dX3_endsLike_53
      · skip
        have ic_5 : (gf_1.toInt : Int) = gf_2.toInt := lc_eq rfl rfl ((lg_cmp_eq _ _).mp c_5)
        refine lv_aload_n hx hb dX3_endsLike_34 rfl (lv_at hl 0 rfl) ?_
        refine m_get (ci := 3) (v := .ref (k (5 + 8 * i + 1))) (C := RX3) (T := TX3) (N := 11) hx hb hC hH hts in_X3_endsLike_X3 hown F_1 rfl 0 (by decide) (hts (.fieldLink RX3 12 "LazyState$Run" "trace" "LLazyState$Trace;") (by decide +kernel)) rfl dX3_endsLike_35 ?_
        refine lv_aload_n hx hb dX3_endsLike_38 rfl (lv_at hl 1 rfl) ?_
        refine m_get (ci := 3) (v := .ref (k (5 + 8 * i2 + 1))) (C := RX3) (T := TX3) (N := 11) hx hb hC hH hts in_X3_endsLike_X3 hown F_2 rfl 0 (by decide) (hts (.fieldLink RX3 12 "LazyState$Run" "trace" "LLazyState$Trace;") (by decide +kernel)) rfl dX3_endsLike_39 ?_
        obtain ⟨ct_9, cg_9, F_9, b1_9, b2_9⟩ : okTr k i (f (k (5 + 8 * i + 1))) := hI.run (i := i) (c := 1) hi (by decide)
        refine m_goi hH (va_runV (As := [.ref (k (5 + 8 * i2 + 1))]) (rest := []) ⟨hx, hb, hml, hown, hts⟩ (c_X4_isSameAs l G k rho n T z st f hI i i2 hi hi2) (cwV 1 hts gX3_endsLike_X4_isSameAs rfl rfl rfl (by decide +kernel) ⟨Nat.le_of_ble_eq_true rfl, Nat.le_of_ble_eq_true rfl⟩) (m_preV (ci := 4) hC hH F_9 rfl) rfl rfl hl.1 rfl (lv_room (Nat.le_of_ble_eq_true rfl)) dX3_endsLike_42 ⟨Nat.le_of_ble_eq_true rfl, Nat.le_of_ble_eq_true rfl⟩) (fun r_6 rho_8 f_7 H locs hw hH => ?_)
        obtain ⟨hu, hr_6⟩ := hw
        have hu : f_7 = f := hu
        rw [hu] at hH
        refine lv_if_eq (tgt := 52) hx hb dX3_endsLike_45 (by decide) (fun c_10 => ?_) (fun c_10 => ?_)
        · skip
          have ic_10 : (r_6.toInt : Int) = 0 := ic_eq rfl kI_0 c_10
          refine lv_iconst (v := 0) hx hb dX3_endsLike_52 (by decide) ?_
          exact m_zret (v := 0) hx hb hr (by rfl) hlk hC hH rho ⟨rfl, by have := kI_0; omega⟩ (Nat.le_of_ble_eq_true rfl) (Nat.le_of_ble_eq_true rfl) dX3_endsLike_53
        · skip
          have ic_10 : (r_6.toInt : Int) ≠ 0 := ic_ne rfl kI_0 c_10
          refine lv_iconst (v := 1) hx hb dX3_endsLike_48 (by decide) ?_
          refine lv_goto (tgt := 53) hx hb dX3_endsLike_49 (by decide) ?_
          exact m_zret (v := 1) hx hb hr (by rfl) hlk hC hH rho ⟨rfl, by have := kI_1; omega⟩ (Nat.le_of_ble_eq_true rfl) (Nat.le_of_ble_eq_true rfl) dX3_endsLike_53
set_option maxHeartbeats 4000000 in
set_option maxRecDepth 100000 in
theorem c_X3_changesLike (l : Launch) (G : mG) (k : Nat → Nat) (rho : tR) (n : Nat) (T z : Nat → Nat) (st : Nat → Bool) (f : mF) (hI : IC G k rho n T z st f) (i i2 : Nat) (hi : i < 3) (hi2 : i2 < 3) (hst : st i = true ∧ 0 < n) (hst2 : st i2 = true ∧ 0 < n) (m_ : Int32) (hm : m_.toInt ≤ n) : Met l yX3_changesLike wsX3_changesLike ({ frames := 3, cells := 0, slots := 0, locals := 66 }) (va_Pc [.ref (k (5 + 8 * i)), .ref (k (5 + 8 * i2)), .int m_] (mW G f)) (va_Qi (fun (r : Int32) (u : mS) => u.2 = f ∧ (r.toInt = 0 ∨ r.toInt = 1)) (fun (u : mS) t => mW G u.2 t) (mA G)) 0 0 (mA G) := by
  refine mMet [.ref (k (5 + 8 * i)), .ref (k (5 + 8 * i2)), .int m_] (cc := cX3_changesLike) (maxL := 5) (ret := (some .boolean)) (by decide) rfl (Nat.le_of_ble_eq_true rfl) ?_
  intro p e s m below meth c ls hx hb hr hml hts hown hlk hnm hC hH hl
  have hl : lv_has ls 5 [(0, .ref (k (5 + 8 * i))), (1, .ref (k (5 + 8 * i2))), (2, .int m_)] := hl
  have hj := hI.2.2.2.2.1
  have hn24 := hI.2.2.2.2.2.2.1
  have hT3 := hI.2.2.2.2.2.2.2.1
  have hz32 := hI.2.2.2.2.2.2.2.2
  have nIn : (nI n).toInt = (n : Int) := nI_toInt (by omega)
  have hfr : frC k rho f rho f := frC.rf
  have hn0_ := hst.2
  refine lv_aload_n hx hb dX3_changesLike_0 rfl (lv_at hl 0 rfl) ?_
  obtain ⟨lb_1, dn_1, gf_1, th_1, ta_1, sr_1, nx_1, F_1, s1_1, s2_1⟩ : okRun k st i (f (k (5 + 8 * i))) := hI.run (i := i) (c := 0) hi (by decide)
  have s3_1 := s2_1 hst.1
  subst s3_1
  refine m_get (ci := 3) (v := .int th_1) (C := RX3) (T := TX3) (N := 11) hx hb hC hH hts in_X3_changesLike_X3 hown F_1 rfl 4 (by decide) (hts (.fieldLink RX3 52 "LazyState$Run" "thrown" "I") (by decide +kernel)) rfl dX3_changesLike_1 ?_
  refine lv_if_eq (tgt := 9) hx hb dX3_changesLike_4 (by decide) (fun c_2 => ?_) (fun c_2 => ?_)
  · skip
    have ic_2 : (th_1.toInt : Int) = 0 := ic_eq rfl kI_0 c_2
    refine lv_iconst (v := 0) hx hb dX3_changesLike_9 (by decide) ?_
    refine lv_istore_n (lv' := [(3, .int 0), (0, .ref (k (5 + 8 * i))), (1, .ref (k (5 + 8 * i2))), (2, .int m_)]) hx hb dX3_changesLike_10 rfl hl (by decide) rfl (fun ls hl => ?_)
    have loop_11 : ∀ (fuel_ : Nat) (k3 : Int32) (h0_ : 0 ≤ k3.toInt) (h1_ : k3.toInt ≤ 24) (_ : ((24 : Int) - k3.toInt).toNat < fuel_) (H : Heap) (locs : List Loc) (ls : Array Slot) (_ : mH G s f H locs) (_ : lv_has ls 5 [(0, .ref (k (5 + 8 * i))), (1, .ref (k (5 + 8 * i2))), (2, .int m_), (3, .int k3)]), W p l e ({ frames := 3, cells := 0, slots := 0, locals := 66 } : Room) s m ([.ref (k (5 + 8 * i)), .ref (k (5 + 8 * i2)), .int m_] : List Value).toArray below meth c H locs 0 0 (MQ below (va_Qi (fun (r : Int32) (u : mS) => u.2 = f ∧ (r.toInt = 0 ∨ r.toInt = 1)) (fun (u : mS) t => mW G u.2 t) (mA G)) ([.ref (k (5 + 8 * i)), .ref (k (5 + 8 * i2)), .int m_] : List Value).toArray s 0 0 (mA G)) (F0 m 11 ls []) := by
      intro N_11
      induction N_11 with
      | zero => intro k3 h0_ h1_ hN; omega
      | succ N_11 ih_11 =>
        intro k3 h0_ h1_ hN_11 H locs ls hH hl
        refine lv_iload_n hx hb dX3_changesLike_11 rfl (lv_at hl 3 rfl) ?_
        refine lv_iload_n hx hb dX3_changesLike_12 rfl (lv_at hl 2 rfl) ?_
        refine lv_icmp_ge (tgt := 58) hx hb dX3_changesLike_13 (by decide) (fun c_3 => ?_) (fun c_3 => ?_)
        · skip
          have ic_3 : (m_.toInt : Int) ≤ k3.toInt := ic_le rfl rfl c_3
          refine lv_iconst (v := 1) hx hb dX3_changesLike_58 (by decide) ?_
          exact m_zret (v := 1) hx hb hr (by rfl) hlk hC hH rho ⟨rfl, by have := kI_1; omega⟩ (Nat.le_of_ble_eq_true rfl) (Nat.le_of_ble_eq_true rfl) dX3_changesLike_59
        · skip
          have ic_3 : (m_.toInt : Int) > k3.toInt := ic_nle rfl rfl c_3
          refine lv_iconst (v := 0) hx hb dX3_changesLike_16 (by decide) ?_
          refine lv_istore (lv' := [(4, .int 0), (0, .ref (k (5 + 8 * i))), (1, .ref (k (5 + 8 * i2))), (2, .int m_), (3, .int k3)]) hx hb dX3_changesLike_17 hl (by decide) rfl (fun ls hl => ?_)
          have loop_19 : ∀ (fuel_ : Nat) (k4 : Int32) (h0_ : 0 ≤ k4.toInt) (h1_ : k4.toInt ≤ 8) (_ : ((8 : Int) - k4.toInt).toNat < fuel_) (H : Heap) (locs : List Loc) (ls : Array Slot) (_ : mH G s f H locs) (_ : lv_has ls 5 [(0, .ref (k (5 + 8 * i))), (1, .ref (k (5 + 8 * i2))), (2, .int m_), (3, .int k3), (4, .int k4)]), W p l e ({ frames := 3, cells := 0, slots := 0, locals := 66 } : Room) s m ([.ref (k (5 + 8 * i)), .ref (k (5 + 8 * i2)), .int m_] : List Value).toArray below meth c H locs 0 0 (MQ below (va_Qi (fun (r : Int32) (u : mS) => u.2 = f ∧ (r.toInt = 0 ∨ r.toInt = 1)) (fun (u : mS) t => mW G u.2 t) (mA G)) ([.ref (k (5 + 8 * i)), .ref (k (5 + 8 * i2)), .int m_] : List Value).toArray s 0 0 (mA G)) (F0 m 19 ls []) := by
            intro N_19
            induction N_19 with
            | zero => intro k4 h0_ h1_ hN; omega
            | succ N_19 ih_19 =>
              intro k4 h0_ h1_ hN_19 H locs ls hH hl
              refine lv_iload hx hb dX3_changesLike_19 (lv_at hl 4 rfl) ?_
              refine lv_bipush (v := 8) hx hb dX3_changesLike_21 (by decide) ?_
              refine lv_icmp_ge (tgt := 52) hx hb dX3_changesLike_23 (by decide) (fun c_4 => ?_) (fun c_4 => ?_)
              · skip
                have ic_4 : (8 : Int) ≤ k4.toInt := ic_le kI_8 rfl c_4
                obtain ⟨x_5, ex_5⟩ : ∃ y : Int32, y = k3 + 1 := ⟨_, rfl⟩
                have ix_5 : x_5.toInt = k3.toInt + 1 := ic_add ex_5 rfl kI_1 (by omega) (by omega)
                refine lv_iinc (v := x_5) (lv' := [(3, .int x_5), (0, .ref (k (5 + 8 * i))), (1, .ref (k (5 + 8 * i2))), (2, .int m_), (4, .int k4)]) hx hb dX3_changesLike_52 hl (k := 3) rfl (by rw [ex_5]; rfl) (by decide) rfl (fun ls hl => ?_)
                refine lv_goto (tgt := 11) hx hb dX3_changesLike_55 (by decide) ?_
                exact ih_11 x_5 (by omega) (by omega) (by omega) _ _ _ hH (lv_sub hl [1, 2, 3, 0] rfl)
              · skip
                have ic_4 : (8 : Int) > k4.toInt := ic_nle kI_8 rfl c_4
                refine lv_aload_n hx hb dX3_changesLike_26 rfl (lv_at hl 0 rfl) ?_
                refine lv_iload_n hx hb dX3_changesLike_27 rfl (lv_at hl 3 rfl) ?_
                refine m_goq hH (va_runV (As := [.int k3]) (rest := []) ⟨hx, hb, hml, hown, hts⟩ (c_X3_bodyOf l G k rho n T z st f hI i hi hst k3 (by omega)) (cwV 1 hts gX3_changesLike_X3_bodyOf rfl rfl rfl (by decide +kernel) ⟨Nat.le_of_ble_eq_true rfl, Nat.le_of_ble_eq_true rfl⟩) (m_preV (ci := 3) hC hH F_1 rfl) rfl rfl hl.1 rfl (lv_room (Nat.le_of_ble_eq_true rfl)) dX3_changesLike_28 ⟨Nat.le_of_ble_eq_true rfl, Nat.le_of_ble_eq_true rfl⟩) (fun r_6 rho_8 f_7 H locs hw hH => ?_)
                obtain ⟨hu, hr_6⟩ := hw
                have hu : f_7 = f := hu
                rw [hu] at hH
                obtain ⟨bb_r_6, h1_r_6, h2_r_6⟩ := hr_6
                rw [h1_r_6]
                refine lv_aload_n hx hb dX3_changesLike_31 rfl (lv_at hl 1 rfl) ?_
                refine lv_iload_n hx hb dX3_changesLike_32 rfl (lv_at hl 3 rfl) ?_
                obtain ⟨lb_12, dn_12, gf_12, th_12, ta_12, sr_12, nx_12, F_12, s1_12, s2_12⟩ : okRun k st i2 (f (k (5 + 8 * i2))) := hI.run (i := i2) (c := 0) hi2 (by decide)
                have s3_12 := s2_12 hst2.1
                subst s3_12
                refine m_goq hH (va_runV (As := [.int k3]) (rest := [.ref bb_r_6]) ⟨hx, hb, hml, hown, hts⟩ (c_X3_bodyOf l G k rho n T z st f hI i2 hi2 hst2 k3 (by omega)) (cwV 1 hts gX3_changesLike_X3_bodyOf rfl rfl rfl (by decide +kernel) ⟨Nat.le_of_ble_eq_true rfl, Nat.le_of_ble_eq_true rfl⟩) (m_preV (ci := 3) hC hH F_12 rfl) rfl rfl hl.1 rfl (lv_room (Nat.le_of_ble_eq_true rfl)) dX3_changesLike_33 ⟨Nat.le_of_ble_eq_true rfl, Nat.le_of_ble_eq_true rfl⟩) (fun r_9 rho_11 f_10 H locs hw hH => ?_)
                obtain ⟨hu, hr_9⟩ := hw
                have hu : f_10 = f := hu
                rw [hu] at hH
                obtain ⟨bb_r_9, h1_r_9, h2_r_9⟩ := hr_9
                rw [h1_r_9]
                refine lv_iload hx hb dX3_changesLike_36 (lv_at hl 4 rfl) ?_
                obtain ⟨ca_16, ia_16, si_16, bf_16, F_16, hca_16, hia_16, hbf_16⟩ : okB rho (T (k3.toNatClampNeg)) bb_r_6 (f bb_r_6) := hI.pool h2_r_6
                have tI_16 : (nI (T (k3.toNatClampNeg))).toInt = (T (k3.toNatClampNeg) : Int) := nI_toInt (by have := hT3 (k3.toNatClampNeg); omega)
                refine m_goi hH (va_runV (As := [.ref bb_r_9, .int k4]) (rest := []) ⟨hx, hb, hml, hown, hts⟩ (c_X2_hasSameField l G k rho n T z st f hI bb_r_6 (T (k3.toNatClampNeg)) h2_r_6 (hT3 _) bb_r_9 h2_r_9 k4 (by omega)) (cwV 2 hts gX3_changesLike_X2_hasSameField rfl rfl rfl (by decide +kernel) ⟨Nat.le_of_ble_eq_true rfl, Nat.le_of_ble_eq_true rfl⟩) (m_preV (ci := 2) hC hH F_16 rfl) rfl rfl hl.1 rfl (lv_room (Nat.le_of_ble_eq_true rfl)) dX3_changesLike_38 ⟨Nat.le_of_ble_eq_true rfl, Nat.le_of_ble_eq_true rfl⟩) (fun r_13 rho_15 f_14 H locs hw hH => ?_)
                obtain ⟨hu, hr_13⟩ := hw
                have hu : f_14 = f := hu
                rw [hu] at hH
                refine lv_if_ne (tgt := 46) hx hb dX3_changesLike_41 (by decide) (fun c_17 => ?_) (fun c_17 => ?_)
                · skip
                  have ic_17 : (r_13.toInt : Int) ≠ 0 := ic_ne rfl kI_0 c_17
                  obtain ⟨x_18, ex_18⟩ : ∃ y : Int32, y = k4 + 1 := ⟨_, rfl⟩
                  have ix_18 : x_18.toInt = k4.toInt + 1 := ic_add ex_18 rfl kI_1 (by omega) (by omega)
                  refine lv_iinc (v := x_18) (lv' := [(4, .int x_18), (0, .ref (k (5 + 8 * i))), (1, .ref (k (5 + 8 * i2))), (2, .int m_), (3, .int k3)]) hx hb dX3_changesLike_46 hl (k := 4) rfl (by rw [ex_18]; rfl) (by decide) rfl (fun ls hl => ?_)
                  refine lv_goto (tgt := 19) hx hb dX3_changesLike_49 (by decide) ?_
                  exact ih_19 x_18 (by omega) (by omega) (by omega) _ _ _ hH (lv_sub hl [1, 2, 3, 4, 0] rfl)
                · skip
                  have ic_17 : (r_13.toInt : Int) = 0 := ic_eq rfl kI_0 c_17
                  refine lv_iconst (v := 0) hx hb dX3_changesLike_44 (by decide) ?_
                  exact m_zret (v := 0) hx hb hr (by rfl) hlk hC hH rho ⟨rfl, by have := kI_0; omega⟩ (Nat.le_of_ble_eq_true rfl) (Nat.le_of_ble_eq_true rfl) dX3_changesLike_45
          exact loop_19 (((8 : Int) - 0).toNat + 1) 0 (by have := kI_0; omega) (by have := kI_0; omega) (by have := kI_0; omega) _ _ _ hH (lv_sub hl [1, 2, 3, 4, 0] rfl)
    exact loop_11 (((24 : Int) - 0).toNat + 1) 0 (by have := kI_0; omega) (by have := kI_0; omega) (by have := kI_0; omega) _ _ _ hH (lv_sub hl [1, 2, 3, 0] rfl)
  · skip
    have ic_2 : (th_1.toInt : Int) ≠ 0 := ic_ne rfl kI_0 c_2
    refine lv_iconst (v := 1) hx hb dX3_changesLike_7 (by decide) ?_
    exact m_zret (v := 1) hx hb hr (by rfl) hlk hC hH rho ⟨rfl, by have := kI_1; omega⟩ (Nat.le_of_ble_eq_true rfl) (Nat.le_of_ble_eq_true rfl) dX3_changesLike_8
set_option maxHeartbeats 4000000 in
set_option maxRecDepth 100000 in
theorem c_X3_itemRefusal (l : Launch) (G : mG) (k : Nat → Nat) (rho : tR) (n : Nat) (T z : Nat → Nat) (st : Nat → Bool) (f : mF) (hI : IC G k rho n T z st f) (q t : Nat) (hq : rho q = (1, t)) (ht : t < 3) (j : Int32) (v : Int64) (hjj : 0 ≤ j.toInt ∧ j.toInt < 8) (hs3 : sortF (8 * t + j.toNatClampNeg) = 3) : Met l yX3_itemRefusal wsX3_itemRefusal ({ frames := 1, cells := 0, slots := 0, locals := 23 }) (va_Pc [.ref q, .int j, .long v] (mW G f)) (va_Qi (fun (r : Int32) (u : mS) => u.2 = f ∧ (r.toInt ≠ 0 ∨ (r.toInt = 0 ∧ 0 ≤ v.toInt ∧ v.toInt < 8))) (fun (u : mS) t => mW G u.2 t) (mA G)) 0 0 (mA G) := by
  refine mMet [.ref q, .int j, .long v] (cc := cX3_itemRefusal) (maxL := 4) (ret := (some .int)) (by decide) rfl (Nat.le_of_ble_eq_true rfl) ?_
  intro p e s m below meth c ls hx hb hr hml hts hown hlk hnm hC hH hl
  have hl : lv_has ls 4 [(0, .ref q), (1, .int j), (2, .long v)] := hl
  have hj := hI.2.2.2.2.1
  have hn24 := hI.2.2.2.2.2.2.1
  have hT3 := hI.2.2.2.2.2.2.2.1
  have hz32 := hI.2.2.2.2.2.2.2.2
  have nIn : (nI n).toInt = (n : Int) := nI_toInt (by omega)
  have hfr : frC k rho f rho f := frC.rf
  refine lv_aload_n hx hb dX3_itemRefusal_0 rfl (lv_at hl 0 rfl) ?_
  obtain ⟨ca_1, ia_1, si_1, bf_1, F_1, hca_1, hia_1, hbf_1⟩ : okB rho t q (f q) := hI.pool hq
  have tI_1 : (nI t).toInt = (t : Int) := nI_toInt (by have := ht; omega)
  refine m_get (ci := 2) (v := .ref ca_1) (C := RX2) (T := TX2) (N := 5) hx hb hC hH hts in_X3_itemRefusal_X2 hown F_1 rfl 1 (by decide) (hts (.fieldLink RX3 184 "LazyState$Body" "cells" "[J") (by decide +kernel)) rfl dX3_itemRefusal_1 ?_
  refine lv_iload_n hx hb dX3_itemRefusal_4 rfl (lv_at hl 1 rfl) ?_
  obtain ⟨g_2, hg_2, hp_2⟩ : okJ G 8 (pCl n t) (f ca_1) := hI.pool hca_1
  refine m_lald hx hb hC hH hg_2 (vp_in_iff.mpr ⟨by omega, by omega⟩) dX3_itemRefusal_5 ?_
  refine lv_topl (fun y_3 ey_3 => ?_)
  refine lv_ldc2 (v := (-3)) hx hb hown (hts (.constantLong RX3 200 (-3)) (by decide +kernel)) dX3_itemRefusal_6 ?_
  refine W.lcmp hx hb dX3_itemRefusal_9 ?_
  refine lv_if_ne (tgt := 15) hx hb dX3_itemRefusal_10 (by decide) (fun c_4 => ?_) (fun c_4 => ?_)
  · skip
    have ic_4 : (y_3.toInt : Int) ≠ (-3) := lc_ne rfl kJ_m3 (fun q_ => c_4 ((lg_cmp_eq _ _).mpr q_))
    refine lv_aload_n hx hb dX3_itemRefusal_15 rfl (lv_at hl 0 rfl) ?_
    refine lv_iload_n hx hb dX3_itemRefusal_16 rfl (lv_at hl 1 rfl) ?_
    refine lv_lload_n hx hb dX3_itemRefusal_17 rfl (lv_at hl 2 rfl) ?_
    refine m_goi hH (va_runV (As := [.int j, .long v]) (rest := []) ⟨hx, hb, hml, hown, hts⟩ (c_X2_hasItem l G k rho n T z st f hI q t hq ht j v (by omega)) (cwV 2 hts gX3_itemRefusal_X2_hasItem rfl rfl rfl (by decide +kernel) ⟨Nat.le_of_ble_eq_true rfl, Nat.le_of_ble_eq_true rfl⟩) (m_preV (ci := 2) hC hH F_1 rfl) rfl rfl hl.1 rfl (lv_room (Nat.le_of_ble_eq_true rfl)) dX3_itemRefusal_18 ⟨Nat.le_of_ble_eq_true rfl, Nat.le_of_ble_eq_true rfl⟩) (fun r_5 rho_7 f_6 H locs hw hH => ?_)
    obtain ⟨hu, hr_5⟩ := hw
    have hu : f_6 = f := hu
    rw [hu] at hH
    refine lv_if_eq (tgt := 28) hx hb dX3_itemRefusal_21 (by decide) (fun c_8 => ?_) (fun c_8 => ?_)
    · skip
      have ic_8 : (r_5.toInt : Int) = 0 := ic_eq rfl kI_0 c_8
      refine lv_iconst (v := 3) hx hb dX3_itemRefusal_28 (by decide) ?_
      exact m_iret (v := 3) hx hb hr hlk hC hH rho ⟨rfl, Or.inl (by have := kI_3; omega)⟩ (Nat.le_of_ble_eq_true rfl) (Nat.le_of_ble_eq_true rfl) dX3_itemRefusal_29
    · skip
      have ic_8 : (r_5.toInt : Int) ≠ 0 := ic_ne rfl kI_0 c_8
      refine lv_iconst (v := 0) hx hb dX3_itemRefusal_24 (by decide) ?_
      refine lv_goto (tgt := 29) hx hb dX3_itemRefusal_25 (by decide) ?_
      exact m_iret (v := 0) hx hb hr hlk hC hH rho ⟨rfl, Or.inr ⟨kI_0, (hr_5.resolve_right (fun q => by omega)).2.1, (hr_5.resolve_right (fun q => by omega)).2.2 hs3⟩⟩ (Nat.le_of_ble_eq_true rfl) (Nat.le_of_ble_eq_true rfl) dX3_itemRefusal_29
  · skip
    have ic_4 : (y_3.toInt : Int) = (-3) := lc_eq rfl kJ_m3 ((lg_cmp_eq _ _).mp c_4)
    refine lv_iconst (v := 1) hx hb dX3_itemRefusal_13 (by decide) ?_
    exact m_iret (v := 1) hx hb hr hlk hC hH rho ⟨rfl, Or.inl (by have := kI_1; omega)⟩ (Nat.le_of_ble_eq_true rfl) (Nat.le_of_ble_eq_true rfl) dX3_itemRefusal_14
set_option maxHeartbeats 4000000 in
set_option maxRecDepth 100000 in
theorem c_X3_read (l : Launch) (G : mG) (k : Nat → Nat) (rho : tR) (n : Nat) (T z : Nat → Nat) (st : Nat → Bool) (f : mF) (hI : IC G k rho n T z st f) (i : Nat) (hi : i < 3) (hst : st i = true ∧ 0 < n) (hd ff : Int32) (hh4 : 0 ≤ hd.toInt ∧ hd.toInt < 4) (hff : 0 ≤ ff.toInt ∧ ff.toInt < 8) (o : Nat) (hask : askd k i n hd.toNatClampNeg f o) : Met l yX3_read wsX3_read ({ frames := 1, cells := 0, slots := 0, locals := 22 }) (va_Pc [.ref (k (5 + 8 * i)), .int hd, .int ff] (mW G f)) (va_Qq (fun (r : Option Nat) (u : mS) => u.1 = rho ∧ IC G k rho n T z st u.2 ∧ frC k rho f rho u.2 ∧ kpT k i f u.2 ∧ ∃ b, r = some b ∧ rho b = (1, T o) ∧ cpF k i u.2 o = some b) (fun (u : mS) t => mW G u.2 t) (mA G)) 0 0 (mA G) := by
  refine mMet [.ref (k (5 + 8 * i)), .int hd, .int ff] (cc := cX3_read) (maxL := 3) (ret := (some (.object "LazyState$Body"))) (by decide) rfl (Nat.le_of_ble_eq_true rfl) ?_
  intro p e s m below meth c ls hx hb hr hml hts hown hlk hnm hC hH hl
  have hl : lv_has ls 3 [(0, .ref (k (5 + 8 * i))), (1, .int hd), (2, .int ff)] := hl
  have hj := hI.2.2.2.2.1
  have hn24 := hI.2.2.2.2.2.2.1
  have hT3 := hI.2.2.2.2.2.2.2.1
  have hz32 := hI.2.2.2.2.2.2.2.2
  have nIn : (nI n).toInt = (n : Int) := nI_toInt (by omega)
  have hfr : frC k rho f rho f := frC.rf
  have hon := hask.1
  have hn0_ := hst.2
  refine lv_aload_n hx hb dX3_read_0 rfl (lv_at hl 0 rfl) ?_
  obtain ⟨lb_1, dn_1, gf_1, th_1, ta_1, sr_1, nx_1, F_1, s1_1, s2_1⟩ : okRun k st i (f (k (5 + 8 * i))) := hI.run (i := i) (c := 0) hi (by decide)
  have s3_1 := s2_1 hst.1
  subst s3_1
  refine m_get (ci := 3) (v := .ref (k (5 + 8 * i + 1))) (C := RX3) (T := TX3) (N := 11) hx hb hC hH hts in_X3_read_X3 hown F_1 rfl 0 (by decide) (hts (.fieldLink RX3 12 "LazyState$Run" "trace" "LLazyState$Trace;") (by decide +kernel)) rfl dX3_read_1 ?_
  refine lv_aload_n hx hb dX3_read_4 rfl (lv_at hl 0 rfl) ?_
  refine m_get (ci := 3) (v := .ref (k (5 + 8 * i + 6))) (C := RX3) (T := TX3) (N := 11) hx hb hC hH hts in_X3_read_X3 hown F_1 rfl 8 (by decide) (hts (.fieldLink RX3 28 "LazyState$Run" "handles" "[I") (by decide +kernel)) rfl dX3_read_5 ?_
  refine lv_iload_n hx hb dX3_read_8 rfl (lv_at hl 1 rfl) ?_
  obtain ⟨g_2, hg_2, hp_2⟩ : okI G 0 4 (pHa n) (f (k (5 + 8 * i + 6))) := hI.run (i := i) (c := 6) hi (by decide)
  refine m_iald hx hb hC hH hg_2 (vp_in_iff.mpr ⟨by omega, by omega⟩) dX3_read_9 ?_
  refine lv_topi (fun x_3 ex_3 => ?_)
  have qo_x_3 : x_3 = nI o := by rw [ex_3, ← haF_eq hg_2]; exact hask.2.1
  have io_x_3 : x_3.toInt = (o : Int) := ic_nI qo_x_3 (by have := hask.1; omega)
  refine lv_iload_n hx hb dX3_read_10 rfl (lv_at hl 2 rfl) ?_
  obtain ⟨ct_7, cg_7, F_7, b1_7, b2_7⟩ : okTr k i (f (k (5 + 8 * i + 1))) := hI.run (i := i) (c := 1) hi (by decide)
  refine m_gov hH (va_runV (As := [.int x_3, .int ff]) (rest := []) ⟨hx, hb, hml, hown, hts⟩ (c_X4_noteRead l G k rho n T z st f hI i hi x_3 ff (by omega) (by omega)) (cwV 2 hts gX3_read_X4_noteRead rfl rfl rfl (by decide +kernel) ⟨Nat.le_of_ble_eq_true rfl, Nat.le_of_ble_eq_true rfl⟩) (m_preV (ci := 4) hC hH F_7 rfl) rfl rfl hl.1 rfl (lv_room (Nat.le_of_ble_eq_true rfl)) dX3_read_11 ⟨Nat.le_of_ble_eq_true rfl, Nat.le_of_ble_eq_true rfl⟩) (fun rho_6 f_5 H locs hw hH => ?_)
  obtain ⟨hu, hI, hfr1, hkt⟩ := hw
  have hI : IC G k rho n T z st f_5 := hI
  have hfr1 : frC k rho f rho f_5 := hfr1
  have hfr := hfr.trans hfr1
  have hkt : kpT k i f f_5 := hkt
  have askc_ : cpF k i f_5 o ≠ none := by rw [cpF_c (hkt 5 (by decide) (by decide))]; exact hask.2.2
  have askh_ : haF k i f_5 hd.toNatClampNeg = nI o := by rw [haF_c (hkt 6 (by decide) (by decide))]; exact hask.2.1
  refine lv_aload_n hx hb dX3_read_14 rfl (lv_at hl 0 rfl) ?_
  obtain ⟨lb_8, dn_8, gf_8, th_8, ta_8, sr_8, nx_8, F_8, s1_8, s2_8⟩ : okRun k st i (f_5 (k (5 + 8 * i))) := hI.run (i := i) (c := 0) hi (by decide)
  have s3_8 := s2_8 hst.1
  subst s3_8
  refine m_get (ci := 3) (v := .ref (k (5 + 8 * i + 5))) (C := RX3) (T := TX3) (N := 11) hx hb hC hH hts in_X3_read_X3 hown F_8 rfl 7 (by decide) (hts (.fieldLink RX3 24 "LazyState$Run" "copies" "[LLazyState$Body;") (by decide +kernel)) rfl dX3_read_15 ?_
  refine lv_aload_n hx hb dX3_read_18 rfl (lv_at hl 0 rfl) ?_
  refine m_get (ci := 3) (v := .ref (k (5 + 8 * i + 6))) (C := RX3) (T := TX3) (N := 11) hx hb hC hH hts in_X3_read_X3 hown F_8 rfl 8 (by decide) (hts (.fieldLink RX3 28 "LazyState$Run" "handles" "[I") (by decide +kernel)) rfl dX3_read_19 ?_
  refine lv_iload_n hx hb dX3_read_22 rfl (lv_at hl 1 rfl) ?_
  obtain ⟨g_9, hg_9, hp_9⟩ : okI G 0 4 (pHa n) (f_5 (k (5 + 8 * i + 6))) := hI.run (i := i) (c := 6) hi (by decide)
  refine m_iald hx hb hC hH hg_9 (vp_in_iff.mpr ⟨by omega, by omega⟩) dX3_read_23 ?_
  refine lv_topi (fun x_10 ex_10 => ?_)
  have qo_x_10 : x_10 = nI o := by rw [ex_10, ← haF_eq hg_9]; exact askh_
  have io_x_10 : x_10.toInt = (o : Int) := ic_nI qo_x_10 (by have := hask.1; omega)
  obtain ⟨g_11, hg_11, hp_11⟩ : okQ G 3 24 (pCp rho n T) (f_5 (k (5 + 8 * i + 5))) := hI.run (i := i) (c := 5) hi (by decide)
  refine m_aald hx hb hC hH 3 rfl hg_11 (vp_in_iff.mpr ⟨by omega, by omega⟩) dX3_read_24 ?_
  have on_ : (x_10.toNatClampNeg) = o := by have := ic_clN (rfl : x_10.toInt = _) (by omega); omega
  have nn_ : g_11 (x_10.toNatClampNeg) ≠ none := by rw [on_, ← cpF_eq hg_11]; exact askc_
  obtain ⟨_, cb_, c1_, c2_⟩ := (hp_11 (x_10.toNatClampNeg) (ic_cl rfl (by omega) (by omega))).resolve_left nn_
  rw [c1_]
  have c3_ : cpF k i f_5 o = some cb_ := by rw [cpF_eq hg_11, ← on_]; exact c1_
  rw [on_] at c2_
  exact m_aret (v := some cb_) hx hb hr hlk hC hH rho ⟨rfl, hI, hfr, hkt, _, rfl, c2_, c3_⟩ (Nat.le_of_ble_eq_true rfl) (Nat.le_of_ble_eq_true rfl) dX3_read_25
set_option maxHeartbeats 4000000 in
set_option maxRecDepth 100000 in
theorem c_X3_change (l : Launch) (G : mG) (k : Nat → Nat) (rho : tR) (n : Nat) (T z : Nat → Nat) (st : Nat → Bool) (f : mF) (hI : IC G k rho n T z st f) (i : Nat) (hi : i < 3) (hst : st i = true ∧ 0 < n) (hd ff : Int32) (hh4 : 0 ≤ hd.toInt ∧ hd.toInt < 4) (hff : 0 ≤ ff.toInt ∧ ff.toInt < 8) (o : Nat) (hask : askd k i n hd.toNatClampNeg f o) : Met l yX3_change wsX3_change ({ frames := 1, cells := 0, slots := 0, locals := 22 }) (va_Pc [.ref (k (5 + 8 * i)), .int hd, .int ff] (mW G f)) (va_Qq (fun (r : Option Nat) (u : mS) => u.1 = rho ∧ IC G k rho n T z st u.2 ∧ frC k rho f rho u.2 ∧ kpT k i f u.2 ∧ ∃ b, r = some b ∧ rho b = (1, T o) ∧ cpF k i u.2 o = some b) (fun (u : mS) t => mW G u.2 t) (mA G)) 0 0 (mA G) := by
  refine mMet [.ref (k (5 + 8 * i)), .int hd, .int ff] (cc := cX3_change) (maxL := 3) (ret := (some (.object "LazyState$Body"))) (by decide) rfl (Nat.le_of_ble_eq_true rfl) ?_
  intro p e s m below meth c ls hx hb hr hml hts hown hlk hnm hC hH hl
  have hl : lv_has ls 3 [(0, .ref (k (5 + 8 * i))), (1, .int hd), (2, .int ff)] := hl
  have hj := hI.2.2.2.2.1
  have hn24 := hI.2.2.2.2.2.2.1
  have hT3 := hI.2.2.2.2.2.2.2.1
  have hz32 := hI.2.2.2.2.2.2.2.2
  have nIn : (nI n).toInt = (n : Int) := nI_toInt (by omega)
  have hfr : frC k rho f rho f := frC.rf
  have hon := hask.1
  have hn0_ := hst.2
  refine lv_aload_n hx hb dX3_change_0 rfl (lv_at hl 0 rfl) ?_
  obtain ⟨lb_1, dn_1, gf_1, th_1, ta_1, sr_1, nx_1, F_1, s1_1, s2_1⟩ : okRun k st i (f (k (5 + 8 * i))) := hI.run (i := i) (c := 0) hi (by decide)
  have s3_1 := s2_1 hst.1
  subst s3_1
  refine m_get (ci := 3) (v := .ref (k (5 + 8 * i + 1))) (C := RX3) (T := TX3) (N := 11) hx hb hC hH hts in_X3_change_X3 hown F_1 rfl 0 (by decide) (hts (.fieldLink RX3 12 "LazyState$Run" "trace" "LLazyState$Trace;") (by decide +kernel)) rfl dX3_change_1 ?_
  refine lv_aload_n hx hb dX3_change_4 rfl (lv_at hl 0 rfl) ?_
  refine m_get (ci := 3) (v := .ref (k (5 + 8 * i + 6))) (C := RX3) (T := TX3) (N := 11) hx hb hC hH hts in_X3_change_X3 hown F_1 rfl 8 (by decide) (hts (.fieldLink RX3 28 "LazyState$Run" "handles" "[I") (by decide +kernel)) rfl dX3_change_5 ?_
  refine lv_iload_n hx hb dX3_change_8 rfl (lv_at hl 1 rfl) ?_
  obtain ⟨g_2, hg_2, hp_2⟩ : okI G 0 4 (pHa n) (f (k (5 + 8 * i + 6))) := hI.run (i := i) (c := 6) hi (by decide)
  refine m_iald hx hb hC hH hg_2 (vp_in_iff.mpr ⟨by omega, by omega⟩) dX3_change_9 ?_
  refine lv_topi (fun x_3 ex_3 => ?_)
  have qo_x_3 : x_3 = nI o := by rw [ex_3, ← haF_eq hg_2]; exact hask.2.1
  have io_x_3 : x_3.toInt = (o : Int) := ic_nI qo_x_3 (by have := hask.1; omega)
  refine lv_iload_n hx hb dX3_change_10 rfl (lv_at hl 2 rfl) ?_
  obtain ⟨ct_7, cg_7, F_7, b1_7, b2_7⟩ : okTr k i (f (k (5 + 8 * i + 1))) := hI.run (i := i) (c := 1) hi (by decide)
  refine m_gov hH (va_runV (As := [.int x_3, .int ff]) (rest := []) ⟨hx, hb, hml, hown, hts⟩ (c_X4_noteChanged l G k rho n T z st f hI i hi x_3 ff (by omega) (by omega)) (cwV 2 hts gX3_change_X4_noteChanged rfl rfl rfl (by decide +kernel) ⟨Nat.le_of_ble_eq_true rfl, Nat.le_of_ble_eq_true rfl⟩) (m_preV (ci := 4) hC hH F_7 rfl) rfl rfl hl.1 rfl (lv_room (Nat.le_of_ble_eq_true rfl)) dX3_change_11 ⟨Nat.le_of_ble_eq_true rfl, Nat.le_of_ble_eq_true rfl⟩) (fun rho_6 f_5 H locs hw hH => ?_)
  obtain ⟨hu, hI, hfr1, hkt⟩ := hw
  have hI : IC G k rho n T z st f_5 := hI
  have hfr1 : frC k rho f rho f_5 := hfr1
  have hfr := hfr.trans hfr1
  have hkt : kpT k i f f_5 := hkt
  have askc_ : cpF k i f_5 o ≠ none := by rw [cpF_c (hkt 5 (by decide) (by decide))]; exact hask.2.2
  have askh_ : haF k i f_5 hd.toNatClampNeg = nI o := by rw [haF_c (hkt 6 (by decide) (by decide))]; exact hask.2.1
  refine lv_aload_n hx hb dX3_change_14 rfl (lv_at hl 0 rfl) ?_
  obtain ⟨lb_8, dn_8, gf_8, th_8, ta_8, sr_8, nx_8, F_8, s1_8, s2_8⟩ : okRun k st i (f_5 (k (5 + 8 * i))) := hI.run (i := i) (c := 0) hi (by decide)
  have s3_8 := s2_8 hst.1
  subst s3_8
  refine m_get (ci := 3) (v := .ref (k (5 + 8 * i + 5))) (C := RX3) (T := TX3) (N := 11) hx hb hC hH hts in_X3_change_X3 hown F_8 rfl 7 (by decide) (hts (.fieldLink RX3 24 "LazyState$Run" "copies" "[LLazyState$Body;") (by decide +kernel)) rfl dX3_change_15 ?_
  refine lv_aload_n hx hb dX3_change_18 rfl (lv_at hl 0 rfl) ?_
  refine m_get (ci := 3) (v := .ref (k (5 + 8 * i + 6))) (C := RX3) (T := TX3) (N := 11) hx hb hC hH hts in_X3_change_X3 hown F_8 rfl 8 (by decide) (hts (.fieldLink RX3 28 "LazyState$Run" "handles" "[I") (by decide +kernel)) rfl dX3_change_19 ?_
  refine lv_iload_n hx hb dX3_change_22 rfl (lv_at hl 1 rfl) ?_
  obtain ⟨g_9, hg_9, hp_9⟩ : okI G 0 4 (pHa n) (f_5 (k (5 + 8 * i + 6))) := hI.run (i := i) (c := 6) hi (by decide)
  refine m_iald hx hb hC hH hg_9 (vp_in_iff.mpr ⟨by omega, by omega⟩) dX3_change_23 ?_
  refine lv_topi (fun x_10 ex_10 => ?_)
  have qo_x_10 : x_10 = nI o := by rw [ex_10, ← haF_eq hg_9]; exact askh_
  have io_x_10 : x_10.toInt = (o : Int) := ic_nI qo_x_10 (by have := hask.1; omega)
  obtain ⟨g_11, hg_11, hp_11⟩ : okQ G 3 24 (pCp rho n T) (f_5 (k (5 + 8 * i + 5))) := hI.run (i := i) (c := 5) hi (by decide)
  refine m_aald hx hb hC hH 3 rfl hg_11 (vp_in_iff.mpr ⟨by omega, by omega⟩) dX3_change_24 ?_
  have on_ : (x_10.toNatClampNeg) = o := by have := ic_clN (rfl : x_10.toInt = _) (by omega); omega
  have nn_ : g_11 (x_10.toNatClampNeg) ≠ none := by rw [on_, ← cpF_eq hg_11]; exact askc_
  obtain ⟨_, cb_, c1_, c2_⟩ := (hp_11 (x_10.toNatClampNeg) (ic_cl rfl (by omega) (by omega))).resolve_left nn_
  rw [c1_]
  have c3_ : cpF k i f_5 o = some cb_ := by rw [cpF_eq hg_11, ← on_]; exact c1_
  rw [on_] at c2_
  exact m_aret (v := some cb_) hx hb hr hlk hC hH rho ⟨rfl, hI, hfr, hkt, _, rfl, c2_, c3_⟩ (Nat.le_of_ble_eq_true rfl) (Nat.le_of_ble_eq_true rfl) dX3_change_25
