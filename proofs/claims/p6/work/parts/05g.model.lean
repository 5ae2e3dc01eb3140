set_option maxHeartbeats 4000000 in
set_option maxRecDepth 100000 in
theorem c_X6_begin (l : Launch) (G : mG) (h : Nat → Nat) (n : Nat) (T : Nat → Int32) (z : Nat → Nat) (A : Nat → tA) (f : mF) (hI : IM G h n T z A f) (o : Int32) (v : Int64) (ho : 0 ≤ o.toInt ∧ o.toInt < n) : Met l yX6_begin wsX6_begin ({ frames := 2, cells := 0, slots := 0, locals := 49 }) (va_Pc [.ref (h 0), .int o, .long v] (mW G f)) (va_Qv (fun (u : mS) => IM G h n T z A u.2 ∧ frM h f u.2 ∧ fldV u.2 (h 0) 22 = .int 0 ∧ fldV u.2 (h 0) 25 = .int 0 ∧ fldV u.2 (h 0) 2 = fldV f (h 0) 2) (fun (u : mS) t => mW G u.2 t) (mA G)) 0 0 (mA G) := by
  refine mMet [.ref (h 0), .int o, .long v] (cc := cX6_begin) (maxL := 5) (ret := none) (by decide) rfl (Nat.le_of_ble_eq_true rfl) ?_
  intro p e s m below meth c ls hx hb hr hml hts hown hlk hnm hC hH hl
  have hl : lv_has ls 5 [(0, .ref (h 0)), (1, .int o), (2, .long v)] := hl
  have hj := hI.2.2.1
  have hn24 := hI.2.2.2.1
  have nIn : (nI n).toInt = (n : Int) := nI_toInt (by omega)
  have hfr : frM h f f := frM.rf
  have hkp : kpM h f f := kpM.rf
  obtain ⟨he_1, fe_1, ca_1, ga_1, wh_1, tm_1, wm_1, ac_1, th_1, st_1, F_1, b1_1, b2_1, b3_1, b4_1, b5_1, b6_1, b7_1, b8_1⟩ : okM0 h n (f (h 0)) := hI.1 0 (by decide)
  have kin : fldV f (h 0) 2 = .int he_1 := fldV_eq F_1 2
  refine lv_aload_n hx hb dX6_begin_0 rfl (lv_at hl 0 rfl) ?_
  refine lv_lconst (v := 0) hx hb dX6_begin_1 (by decide) ?_
  refine m_put (ci := 6) (v := .long 0) (C := RX6) (T := TX6) (N := 30) hx hb hC hH hts in_X6_begin_X6 tyX6 tyX6_ok nmX6 hown F_1 rfl 17 (by decide) (hts (.fieldLink RX6 186 "LazyStateModel" "gave" "J") (by decide +kernel)) rfl rfl rfl (Nat.le_of_ble_eq_true rfl) dX6_begin_2 (fun H locs hH => ?_)
  have hH : mH G s (va_up f (h 0) (some (.inr (6, [.int (nI n), .ref (h 1), .int he_1, .ref (h 3), .ref (h 4), .ref (h 5), .ref (h 6), .int fe_1, .ref (h 8), .ref (h 9), .ref (h 10), .ref (h 11), .ref (h 12), .ref (h 13), .ref (h 14), .ref (h 15), .int ca_1, .long 0, .int wh_1, .int tm_1, .ref (h 20), .ref (h 21), .int wm_1, .ref (h 23), .ref (h 24), .int ac_1, .ref (h 26), .ref (h 27), .int th_1, .int st_1])))) H locs := hH
  obtain ⟨f_2, ef_2⟩ : ∃ zz_ : mF, zz_ = va_up f (h 0) (some (.inr (6, [.int (nI n), .ref (h 1), .int he_1, .ref (h 3), .ref (h 4), .ref (h 5), .ref (h 6), .int fe_1, .ref (h 8), .ref (h 9), .ref (h 10), .ref (h 11), .ref (h 12), .ref (h 13), .ref (h 14), .ref (h 15), .int ca_1, .long 0, .int wh_1, .int tm_1, .ref (h 20), .ref (h 21), .int wm_1, .ref (h 23), .ref (h 24), .int ac_1, .ref (h 26), .ref (h 27), .int th_1, .int st_1]))) := ⟨_, rfl⟩
  rw [← ef_2] at hH
  have F_3 : f_2 (h 0) = some (.inr (6, [.int (nI n), .ref (h 1), .int he_1, .ref (h 3), .ref (h 4), .ref (h 5), .ref (h 6), .int fe_1, .ref (h 8), .ref (h 9), .ref (h 10), .ref (h 11), .ref (h 12), .ref (h 13), .ref (h 14), .ref (h 15), .int ca_1, .long 0, .int wh_1, .int tm_1, .ref (h 20), .ref (h 21), .int wm_1, .ref (h 23), .ref (h 24), .int ac_1, .ref (h 26), .ref (h 27), .int th_1, .int st_1])) := by rw [ef_2]; exact va_up_self _ _ _
  have hI : IM G h n T z A f_2 := hI.obj F_1 ef_2 rfl ⟨_, _, _, _, _, _, _, _, _, _, rfl, by have := True.intro; have := True.intro; have := True.intro; have := True.intro; omega, by have := True.intro; have := True.intro; have := True.intro; have := True.intro; omega, by have := True.intro; have := True.intro; have := True.intro; have := True.intro; omega, by have := True.intro; have := True.intro; have := True.intro; have := True.intro; omega, by have := True.intro; have := True.intro; have := True.intro; have := True.intro; omega, by have := True.intro; have := True.intro; have := True.intro; have := True.intro; omega, by have := True.intro; have := True.intro; have := True.intro; have := True.intro; omega, by have := True.intro; have := True.intro; have := True.intro; have := True.intro; omega⟩
  have hfr := hfr.up 0 (by decide) ef_2
  have hkp := hkp.obj F_1 F_3 rfl rfl rfl
  refine lv_aload_n hx hb dX6_begin_5 rfl (lv_at hl 0 rfl) ?_
  refine lv_bipush (v := (-3)) hx hb dX6_begin_6 (by decide) ?_
  refine m_put (ci := 6) (v := .int (-3)) (C := RX6) (T := TX6) (N := 30) hx hb hC hH hts in_X6_begin_X6 tyX6 tyX6_ok nmX6 hown F_3 rfl 18 (by decide) (hts (.fieldLink RX6 52 "LazyStateModel" "where" "I") (by decide +kernel)) rfl rfl rfl (Nat.le_of_ble_eq_true rfl) dX6_begin_8 (fun H locs hH => ?_)
  have hH : mH G s (va_up f_2 (h 0) (some (.inr (6, [.int (nI n), .ref (h 1), .int he_1, .ref (h 3), .ref (h 4), .ref (h 5), .ref (h 6), .int fe_1, .ref (h 8), .ref (h 9), .ref (h 10), .ref (h 11), .ref (h 12), .ref (h 13), .ref (h 14), .ref (h 15), .int ca_1, .long 0, .int (-3), .int tm_1, .ref (h 20), .ref (h 21), .int wm_1, .ref (h 23), .ref (h 24), .int ac_1, .ref (h 26), .ref (h 27), .int th_1, .int st_1])))) H locs := hH
  obtain ⟨f_4, ef_4⟩ : ∃ zz_ : mF, zz_ = va_up f_2 (h 0) (some (.inr (6, [.int (nI n), .ref (h 1), .int he_1, .ref (h 3), .ref (h 4), .ref (h 5), .ref (h 6), .int fe_1, .ref (h 8), .ref (h 9), .ref (h 10), .ref (h 11), .ref (h 12), .ref (h 13), .ref (h 14), .ref (h 15), .int ca_1, .long 0, .int (-3), .int tm_1, .ref (h 20), .ref (h 21), .int wm_1, .ref (h 23), .ref (h 24), .int ac_1, .ref (h 26), .ref (h 27), .int th_1, .int st_1]))) := ⟨_, rfl⟩
  rw [← ef_4] at hH
  have F_5 : f_4 (h 0) = some (.inr (6, [.int (nI n), .ref (h 1), .int he_1, .ref (h 3), .ref (h 4), .ref (h 5), .ref (h 6), .int fe_1, .ref (h 8), .ref (h 9), .ref (h 10), .ref (h 11), .ref (h 12), .ref (h 13), .ref (h 14), .ref (h 15), .int ca_1, .long 0, .int (-3), .int tm_1, .ref (h 20), .ref (h 21), .int wm_1, .ref (h 23), .ref (h 24), .int ac_1, .ref (h 26), .ref (h 27), .int th_1, .int st_1])) := by rw [ef_4]; exact va_up_self _ _ _
  have hI : IM G h n T z A f_4 := hI.obj F_3 ef_4 rfl ⟨_, _, _, _, _, _, _, _, _, _, rfl, by have := True.intro; have := True.intro; have := True.intro; have := True.intro; omega, by have := True.intro; have := True.intro; have := True.intro; have := True.intro; omega, by have := True.intro; have := True.intro; have := True.intro; have := True.intro; omega, by have := True.intro; have := True.intro; have := True.intro; have := True.intro; omega, by have := True.intro; have := True.intro; have := True.intro; have := True.intro; omega, by have := True.intro; have := True.intro; have := True.intro; have := True.intro; omega, by have := True.intro; have := True.intro; have := True.intro; have := True.intro; omega, by have := True.intro; have := True.intro; have := True.intro; have := True.intro; omega⟩
  have hfr := hfr.up 0 (by decide) ef_4
  have hkp := hkp.obj F_3 F_5 rfl rfl rfl
  refine lv_aload_n hx hb dX6_begin_11 rfl (lv_at hl 0 rfl) ?_
  refine lv_iconst (v := 0) hx hb dX6_begin_12 (by decide) ?_
  refine m_put (ci := 6) (v := .int 0) (C := RX6) (T := TX6) (N := 30) hx hb hC hH hts in_X6_begin_X6 tyX6 tyX6_ok nmX6 hown F_5 rfl 19 (by decide) (hts (.fieldLink RX6 152 "LazyStateModel" "touchedMany" "I") (by decide +kernel)) rfl rfl rfl (Nat.le_of_ble_eq_true rfl) dX6_begin_13 (fun H locs hH => ?_)
  have hH : mH G s (va_up f_4 (h 0) (some (.inr (6, [.int (nI n), .ref (h 1), .int he_1, .ref (h 3), .ref (h 4), .ref (h 5), .ref (h 6), .int fe_1, .ref (h 8), .ref (h 9), .ref (h 10), .ref (h 11), .ref (h 12), .ref (h 13), .ref (h 14), .ref (h 15), .int ca_1, .long 0, .int (-3), .int 0, .ref (h 20), .ref (h 21), .int wm_1, .ref (h 23), .ref (h 24), .int ac_1, .ref (h 26), .ref (h 27), .int th_1, .int st_1])))) H locs := hH
  obtain ⟨f_6, ef_6⟩ : ∃ zz_ : mF, zz_ = va_up f_4 (h 0) (some (.inr (6, [.int (nI n), .ref (h 1), .int he_1, .ref (h 3), .ref (h 4), .ref (h 5), .ref (h 6), .int fe_1, .ref (h 8), .ref (h 9), .ref (h 10), .ref (h 11), .ref (h 12), .ref (h 13), .ref (h 14), .ref (h 15), .int ca_1, .long 0, .int (-3), .int 0, .ref (h 20), .ref (h 21), .int wm_1, .ref (h 23), .ref (h 24), .int ac_1, .ref (h 26), .ref (h 27), .int th_1, .int st_1]))) := ⟨_, rfl⟩
  rw [← ef_6] at hH
  have F_7 : f_6 (h 0) = some (.inr (6, [.int (nI n), .ref (h 1), .int he_1, .ref (h 3), .ref (h 4), .ref (h 5), .ref (h 6), .int fe_1, .ref (h 8), .ref (h 9), .ref (h 10), .ref (h 11), .ref (h 12), .ref (h 13), .ref (h 14), .ref (h 15), .int ca_1, .long 0, .int (-3), .int 0, .ref (h 20), .ref (h 21), .int wm_1, .ref (h 23), .ref (h 24), .int ac_1, .ref (h 26), .ref (h 27), .int th_1, .int st_1])) := by rw [ef_6]; exact va_up_self _ _ _
  have hI : IM G h n T z A f_6 := hI.set 0 (by decide) (show okM0 h n _ from ⟨_, _, _, _, _, _, _, _, _, _, rfl, by omega, by omega, by have := kI_0; omega, by have := kI_0; omega, by omega, by omega, by omega, by omega⟩) (xTch_0 (ef_6 ▸ F_7) rfl) ef_6
  have hfr := hfr.up 0 (by decide) ef_6
  have hkp := hkp.obj F_5 F_7 rfl rfl rfl
  refine lv_aload_n hx hb dX6_begin_16 rfl (lv_at hl 0 rfl) ?_
  refine lv_iconst (v := 0) hx hb dX6_begin_17 (by decide) ?_
  refine m_put (ci := 6) (v := .int 0) (C := RX6) (T := TX6) (N := 30) hx hb hC hH hts in_X6_begin_X6 tyX6 tyX6_ok nmX6 hown F_7 rfl 22 (by decide) (hts (.fieldLink RX6 196 "LazyStateModel" "writtenMany" "I") (by decide +kernel)) rfl rfl rfl (Nat.le_of_ble_eq_true rfl) dX6_begin_18 (fun H locs hH => ?_)
  have hH : mH G s (va_up f_6 (h 0) (some (.inr (6, [.int (nI n), .ref (h 1), .int he_1, .ref (h 3), .ref (h 4), .ref (h 5), .ref (h 6), .int fe_1, .ref (h 8), .ref (h 9), .ref (h 10), .ref (h 11), .ref (h 12), .ref (h 13), .ref (h 14), .ref (h 15), .int ca_1, .long 0, .int (-3), .int 0, .ref (h 20), .ref (h 21), .int 0, .ref (h 23), .ref (h 24), .int ac_1, .ref (h 26), .ref (h 27), .int th_1, .int st_1])))) H locs := hH
  obtain ⟨f_8, ef_8⟩ : ∃ zz_ : mF, zz_ = va_up f_6 (h 0) (some (.inr (6, [.int (nI n), .ref (h 1), .int he_1, .ref (h 3), .ref (h 4), .ref (h 5), .ref (h 6), .int fe_1, .ref (h 8), .ref (h 9), .ref (h 10), .ref (h 11), .ref (h 12), .ref (h 13), .ref (h 14), .ref (h 15), .int ca_1, .long 0, .int (-3), .int 0, .ref (h 20), .ref (h 21), .int 0, .ref (h 23), .ref (h 24), .int ac_1, .ref (h 26), .ref (h 27), .int th_1, .int st_1]))) := ⟨_, rfl⟩
  rw [← ef_8] at hH
  have F_9 : f_8 (h 0) = some (.inr (6, [.int (nI n), .ref (h 1), .int he_1, .ref (h 3), .ref (h 4), .ref (h 5), .ref (h 6), .int fe_1, .ref (h 8), .ref (h 9), .ref (h 10), .ref (h 11), .ref (h 12), .ref (h 13), .ref (h 14), .ref (h 15), .int ca_1, .long 0, .int (-3), .int 0, .ref (h 20), .ref (h 21), .int 0, .ref (h 23), .ref (h 24), .int ac_1, .ref (h 26), .ref (h 27), .int th_1, .int st_1])) := by rw [ef_8]; exact va_up_self _ _ _
  have hI : IM G h n T z A f_8 := hI.obj F_7 ef_8 rfl ⟨_, _, _, _, _, _, _, _, _, _, rfl, by have := True.intro; have := kI_0; have := kI_0; have := True.intro; omega, by have := True.intro; have := kI_0; have := kI_0; have := True.intro; omega, by have := True.intro; have := kI_0; have := kI_0; have := True.intro; omega, by have := True.intro; have := kI_0; have := kI_0; have := True.intro; omega, by have := True.intro; have := kI_0; have := kI_0; have := True.intro; omega, by have := True.intro; have := kI_0; have := kI_0; have := True.intro; omega, by have := True.intro; have := kI_0; have := kI_0; have := True.intro; omega, by have := True.intro; have := kI_0; have := kI_0; have := True.intro; omega⟩
  have hfr := hfr.up 0 (by decide) ef_8
  have hkp : kpM h f_8 f_8 := kpM.rf
  refine lv_aload_n hx hb dX6_begin_21 rfl (lv_at hl 0 rfl) ?_
  refine lv_iconst (v := 0) hx hb dX6_begin_22 (by decide) ?_
  refine m_put (ci := 6) (v := .int 0) (C := RX6) (T := TX6) (N := 30) hx hb hC hH hts in_X6_begin_X6 tyX6 tyX6_ok nmX6 hown F_9 rfl 25 (by decide) (hts (.fieldLink RX6 199 "LazyStateModel" "acts" "I") (by decide +kernel)) rfl rfl rfl (Nat.le_of_ble_eq_true rfl) dX6_begin_23 (fun H locs hH => ?_)
  have hH : mH G s (va_up f_8 (h 0) (some (.inr (6, [.int (nI n), .ref (h 1), .int he_1, .ref (h 3), .ref (h 4), .ref (h 5), .ref (h 6), .int fe_1, .ref (h 8), .ref (h 9), .ref (h 10), .ref (h 11), .ref (h 12), .ref (h 13), .ref (h 14), .ref (h 15), .int ca_1, .long 0, .int (-3), .int 0, .ref (h 20), .ref (h 21), .int 0, .ref (h 23), .ref (h 24), .int 0, .ref (h 26), .ref (h 27), .int th_1, .int st_1])))) H locs := hH
  obtain ⟨f_10, ef_10⟩ : ∃ zz_ : mF, zz_ = va_up f_8 (h 0) (some (.inr (6, [.int (nI n), .ref (h 1), .int he_1, .ref (h 3), .ref (h 4), .ref (h 5), .ref (h 6), .int fe_1, .ref (h 8), .ref (h 9), .ref (h 10), .ref (h 11), .ref (h 12), .ref (h 13), .ref (h 14), .ref (h 15), .int ca_1, .long 0, .int (-3), .int 0, .ref (h 20), .ref (h 21), .int 0, .ref (h 23), .ref (h 24), .int 0, .ref (h 26), .ref (h 27), .int th_1, .int st_1]))) := ⟨_, rfl⟩
  rw [← ef_10] at hH
  have F_11 : f_10 (h 0) = some (.inr (6, [.int (nI n), .ref (h 1), .int he_1, .ref (h 3), .ref (h 4), .ref (h 5), .ref (h 6), .int fe_1, .ref (h 8), .ref (h 9), .ref (h 10), .ref (h 11), .ref (h 12), .ref (h 13), .ref (h 14), .ref (h 15), .int ca_1, .long 0, .int (-3), .int 0, .ref (h 20), .ref (h 21), .int 0, .ref (h 23), .ref (h 24), .int 0, .ref (h 26), .ref (h 27), .int th_1, .int st_1])) := by rw [ef_10]; exact va_up_self _ _ _
  have hI : IM G h n T z A f_10 := hI.obj F_9 ef_10 rfl ⟨_, _, _, _, _, _, _, _, _, _, rfl, by have := True.intro; have := kI_0; have := kI_0; have := kI_0; omega, by have := True.intro; have := kI_0; have := kI_0; have := kI_0; omega, by have := True.intro; have := kI_0; have := kI_0; have := kI_0; omega, by have := True.intro; have := kI_0; have := kI_0; have := kI_0; omega, by have := True.intro; have := kI_0; have := kI_0; have := kI_0; omega, by have := True.intro; have := kI_0; have := kI_0; have := kI_0; omega, by have := True.intro; have := kI_0; have := kI_0; have := kI_0; omega, by have := True.intro; have := kI_0; have := kI_0; have := kI_0; omega⟩
  have hfr := hfr.up 0 (by decide) ef_10
  have hkp : kpM h f_10 f_10 := kpM.rf
  refine lv_aload_n hx hb dX6_begin_26 rfl (lv_at hl 0 rfl) ?_
  refine lv_iconst (v := 0) hx hb dX6_begin_27 (by decide) ?_
  refine m_put (ci := 6) (v := .int 0) (C := RX6) (T := TX6) (N := 30) hx hb hC hH hts in_X6_begin_X6 tyX6 tyX6_ok nmX6 hown F_11 rfl 28 (by decide) (hts (.fieldLink RX6 155 "LazyStateModel" "threw" "I") (by decide +kernel)) rfl rfl rfl (Nat.le_of_ble_eq_true rfl) dX6_begin_28 (fun H locs hH => ?_)
  have hH : mH G s (va_up f_10 (h 0) (some (.inr (6, [.int (nI n), .ref (h 1), .int he_1, .ref (h 3), .ref (h 4), .ref (h 5), .ref (h 6), .int fe_1, .ref (h 8), .ref (h 9), .ref (h 10), .ref (h 11), .ref (h 12), .ref (h 13), .ref (h 14), .ref (h 15), .int ca_1, .long 0, .int (-3), .int 0, .ref (h 20), .ref (h 21), .int 0, .ref (h 23), .ref (h 24), .int 0, .ref (h 26), .ref (h 27), .int 0, .int st_1])))) H locs := hH
  obtain ⟨f_12, ef_12⟩ : ∃ zz_ : mF, zz_ = va_up f_10 (h 0) (some (.inr (6, [.int (nI n), .ref (h 1), .int he_1, .ref (h 3), .ref (h 4), .ref (h 5), .ref (h 6), .int fe_1, .ref (h 8), .ref (h 9), .ref (h 10), .ref (h 11), .ref (h 12), .ref (h 13), .ref (h 14), .ref (h 15), .int ca_1, .long 0, .int (-3), .int 0, .ref (h 20), .ref (h 21), .int 0, .ref (h 23), .ref (h 24), .int 0, .ref (h 26), .ref (h 27), .int 0, .int st_1]))) := ⟨_, rfl⟩
  rw [← ef_12] at hH
  have F_13 : f_12 (h 0) = some (.inr (6, [.int (nI n), .ref (h 1), .int he_1, .ref (h 3), .ref (h 4), .ref (h 5), .ref (h 6), .int fe_1, .ref (h 8), .ref (h 9), .ref (h 10), .ref (h 11), .ref (h 12), .ref (h 13), .ref (h 14), .ref (h 15), .int ca_1, .long 0, .int (-3), .int 0, .ref (h 20), .ref (h 21), .int 0, .ref (h 23), .ref (h 24), .int 0, .ref (h 26), .ref (h 27), .int 0, .int st_1])) := by rw [ef_12]; exact va_up_self _ _ _
  have hI : IM G h n T z A f_12 := hI.obj F_11 ef_12 rfl ⟨_, _, _, _, _, _, _, _, _, _, rfl, by have := True.intro; have := kI_0; have := kI_0; have := kI_0; omega, by have := True.intro; have := kI_0; have := kI_0; have := kI_0; omega, by have := True.intro; have := kI_0; have := kI_0; have := kI_0; omega, by have := True.intro; have := kI_0; have := kI_0; have := kI_0; omega, by have := True.intro; have := kI_0; have := kI_0; have := kI_0; omega, by have := True.intro; have := kI_0; have := kI_0; have := kI_0; omega, by have := True.intro; have := kI_0; have := kI_0; have := kI_0; omega, by have := True.intro; have := kI_0; have := kI_0; have := kI_0; omega⟩
  have hfr := hfr.up 0 (by decide) ef_12
  have hkp := hkp.obj F_11 F_13 rfl rfl rfl
  have k22 := fldV_eq F_13 22
  have k25 := fldV_eq F_13 25
  have k2 : fldV f_12 (h 0) 2 = .int he_1 := fldV_eq F_13 2
  have hkp : kpM h f_12 f_12 := kpM.rf
  refine lv_iconst (v := 0) hx hb dX6_begin_31 (by decide) ?_
  refine lv_istore (lv' := [(4, .int 0), (0, .ref (h 0)), (1, .int o), (2, .long v)]) hx hb dX6_begin_32 hl (by decide) rfl (fun ls hl => ?_)
  have loop_34 : ∀ (fuel_ : Nat) (k4 : Int32) (fL : mF) (h0_ : 0 ≤ k4.toInt) (h1_ : k4.toInt ≤ 24) (hI : IM G h n T z A fL) (hfr : frM h f fL) (hkp : kpM h f_12 fL) (_ : ((24 : Int) - k4.toInt).toNat < fuel_) (H : Heap) (locs : List Loc) (ls : Array Slot) (_ : mH G s fL H locs) (_ : lv_has ls 5 [(0, .ref (h 0)), (1, .int o), (2, .long v), (4, .int k4)]), W p l e ({ frames := 2, cells := 0, slots := 0, locals := 49 } : Room) s m ([.ref (h 0), .int o, .long v] : List Value).toArray below meth c H locs 0 0 (MQ below (va_Qv (fun (u : mS) => IM G h n T z A u.2 ∧ frM h f u.2 ∧ fldV u.2 (h 0) 22 = .int 0 ∧ fldV u.2 (h 0) 25 = .int 0 ∧ fldV u.2 (h 0) 2 = fldV f (h 0) 2) (fun (u : mS) t => mW G u.2 t) (mA G)) ([.ref (h 0), .int o, .long v] : List Value).toArray s 0 0 (mA G)) (F0 m 34 ls []) := by
    intro N_34
    induction N_34 with
    | zero => intro k4 fL h0_ h1_ hI hfr hkp hN; omega
    | succ N_34 ih_34 =>
      intro k4 fL h0_ h1_ hI hfr hkp hN_34 H locs ls hH hl
      refine lv_iload hx hb dX6_begin_34 (lv_at hl 3 rfl) ?_
      refine lv_bipush (v := 24) hx hb dX6_begin_36 (by decide) ?_
      refine lv_icmp_ge (tgt := 55) hx hb dX6_begin_38 (by decide) (fun c_14 => ?_) (fun c_14 => ?_)
      · skip
        have ic_14 : (24 : Int) ≤ k4.toInt := ic_le kI_24 rfl c_14
        refine lv_iconst (v := 0) hx hb dX6_begin_55 (by decide) ?_
        refine lv_istore (lv' := [(4, .int 0), (0, .ref (h 0)), (1, .int o), (2, .long v)]) hx hb dX6_begin_56 hl (by decide) rfl (fun ls hl => ?_)
        have loop_58 : ∀ (fuel_ : Nat) (k4 : Int32) (fL : mF) (h0_ : 0 ≤ k4.toInt) (h1_ : k4.toInt ≤ 4) (hI : IM G h n T z A fL) (hfr : frM h f fL) (hkp : kpM h f_12 fL) (_ : ((4 : Int) - k4.toInt).toNat < fuel_) (H : Heap) (locs : List Loc) (ls : Array Slot) (_ : mH G s fL H locs) (_ : lv_has ls 5 [(0, .ref (h 0)), (1, .int o), (2, .long v), (4, .int k4)]), W p l e ({ frames := 2, cells := 0, slots := 0, locals := 49 } : Room) s m ([.ref (h 0), .int o, .long v] : List Value).toArray below meth c H locs 0 0 (MQ below (va_Qv (fun (u : mS) => IM G h n T z A u.2 ∧ frM h f u.2 ∧ fldV u.2 (h 0) 22 = .int 0 ∧ fldV u.2 (h 0) 25 = .int 0 ∧ fldV u.2 (h 0) 2 = fldV f (h 0) 2) (fun (u : mS) t => mW G u.2 t) (mA G)) ([.ref (h 0), .int o, .long v] : List Value).toArray s 0 0 (mA G)) (F0 m 58 ls []) := by
          intro N_58
          induction N_58 with
          | zero => intro k4 fL h0_ h1_ hI hfr hkp hN; omega
          | succ N_58 ih_58 =>
            intro k4 fL h0_ h1_ hI hfr hkp hN_58 H locs ls hH hl
            refine lv_iload hx hb dX6_begin_58 (lv_at hl 3 rfl) ?_
            refine lv_iconst (v := 4) hx hb dX6_begin_60 (by decide) ?_
            refine lv_icmp_ge (tgt := 87) hx hb dX6_begin_61 (by decide) (fun c_15 => ?_) (fun c_15 => ?_)
            · skip
              have ic_15 : (4 : Int) ≤ k4.toInt := ic_le kI_4 rfl c_15
              refine lv_aload_n hx hb dX6_begin_87 rfl (lv_at hl 0 rfl) ?_
              obtain ⟨he_16, fe_16, ca_16, ga_16, wh_16, tm_16, wm_16, ac_16, th_16, st_16, F_16, b1_16, b2_16, b3_16, b4_16, b5_16, b6_16, b7_16, b8_16⟩ : okM0 h n (fL (h 0)) := hI.1 0 (by decide)
              refine m_get (ci := 6) (v := .ref (h 26)) (C := RX6) (T := TX6) (N := 30) hx hb hC hH hts in_X6_begin_X6 hown F_16 rfl 26 (by decide) (hts (.fieldLink RX6 68 "LazyStateModel" "handles" "[I") (by decide +kernel)) rfl dX6_begin_88 ?_
              refine lv_iconst (v := 0) hx hb dX6_begin_91 (by decide) ?_
              refine lv_iload_n hx hb dX6_begin_92 rfl (lv_at hl 1 rfl) ?_
              obtain ⟨g_17, hg_17, hp_17⟩ : okI G 0 4 (fun g => ∀ i, i < 4 → -3 ≤ (g i).toInt ∧ ((g i).toInt < n ∨ (n = 0 ∧ (g i).toInt = 0))) (fL (h 26)) := hI.1 26 (by decide)
              refine m_iast hx hb hC hH hg_17 (vp_in_iff.mpr (by rw [kI_0]; exact ⟨by omega, by omega⟩)) dX6_begin_93 (fun H locs hH => ?_)
              obtain ⟨f_18, ef_18⟩ : ∃ zz_ : mF, zz_ = va_up fL (h 26) (some (.inl (gk G 0, 4, .inl (upd g_17 ((0 : Int32).toNatClampNeg) o)))) := ⟨_, rfl⟩
              rw [← ef_18] at hH
              have F_19 := upk F_16 ef_18 (neM hj (by decide) (by decide) (by decide))
              have hI : IM G h n T z A f_18 := hI.arr 26 (by decide) (by decide) (by decide) (by decide) (show okI G 0 4 (fun g => ∀ i, i < 4 → -3 ≤ (g i).toInt ∧ ((g i).toInt < n ∨ (n = 0 ∧ (g i).toInt = 0))) _ from ⟨_, rfl, upd_all (P := fun x : Int32 => -3 ≤ x.toInt ∧ (x.toInt < n ∨ (n = 0 ∧ x.toInt = 0))) hp_17 (by exact ⟨by omega, by omega⟩)⟩) ef_18
              have hfr := hfr.up 26 (by decide) ef_18
              have hkp := hkp.up 26 hj (by decide) (by decide) ef_18
              refine lv_aload_n hx hb dX6_begin_94 rfl (lv_at hl 0 rfl) ?_
              refine m_get (ci := 6) (v := .ref (h 27)) (C := RX6) (T := TX6) (N := 30) hx hb hC hH hts in_X6_begin_X6 hown F_19 rfl 27 (by decide) (hts (.fieldLink RX6 71 "LazyStateModel" "values" "[J") (by decide +kernel)) rfl dX6_begin_95 ?_
              refine lv_iconst (v := 0) hx hb dX6_begin_98 (by decide) ?_
              refine lv_lload_n hx hb dX6_begin_99 rfl (lv_at hl 2 rfl) ?_
              obtain ⟨g_20, hg_20, hp_20⟩ : okJ G 4 (fun _ => True) (f_18 (h 27)) := hI.1 27 (by decide)
              refine m_last hx hb hC hH hg_20 (vp_in_iff.mpr (by rw [kI_0]; exact ⟨by omega, by omega⟩)) dX6_begin_100 (fun H locs hH => ?_)
              obtain ⟨f_21, ef_21⟩ : ∃ zz_ : mF, zz_ = va_up f_18 (h 27) (some (.inl (gk G 1, 4, .inr (.inl (vp_updL g_20 ((0 : Int32).toNatClampNeg) v))))) := ⟨_, rfl⟩
              rw [← ef_21] at hH
              have F_22 := upk F_19 ef_21 (neM hj (by decide) (by decide) (by decide))
              have hI : IM G h n T z A f_21 := hI.arr 27 (by decide) (by decide) (by decide) (by decide) (show okJ G 4 (fun _ => True) _ from ⟨_, rfl, trivial⟩) ef_21
              have hfr := hfr.up 27 (by decide) ef_21
              have hkp := hkp.up 27 hj (by decide) (by decide) ef_21
              refine lv_aload_n hx hb dX6_begin_101 rfl (lv_at hl 0 rfl) ?_
              refine lv_aload_n hx hb dX6_begin_102 rfl (lv_at hl 0 rfl) ?_
              refine m_get (ci := 6) (v := .int he_16) (C := RX6) (T := TX6) (N := 30) hx hb hC hH hts in_X6_begin_X6 hown F_22 rfl 2 (by decide) (hts (.fieldLink RX6 104 "LazyStateModel" "height" "I") (by decide +kernel)) rfl dX6_begin_103 ?_
              refine lv_bipush (v := 41) hx hb dX6_begin_106 (by decide) ?_
              refine m_gov hH (va_runV (As := [.int he_16, .int 41]) (rest := []) ⟨hx, hb, hml, hown, hts⟩ (c_X6_copyAll l G h n T z A f_21 hI he_16 41 (by have := kI_41; omega) (by have := kI_41; omega)) (cwV 2 hts gX6_begin_X6_copyAll rfl rfl rfl (by decide +kernel) ⟨Nat.le_of_ble_eq_true rfl, Nat.le_of_ble_eq_true rfl⟩) (m_preV (ci := 6) hC hH F_22 rfl) rfl rfl hl.1 rfl (lv_room (Nat.le_of_ble_eq_true rfl)) dX6_begin_108 ⟨Nat.le_of_ble_eq_true rfl, Nat.le_of_ble_eq_true rfl⟩) (fun rho_25 f_24 H locs hw hH => ?_)
              obtain ⟨hI, hfr1, hkp1⟩ := hw
              have hI : IM G h n T z A f_24 := hI
              have hfr1 : frM h f_21 f_24 := hfr1
              have hkp1 : kpM h f_21 f_24 := hkp1
              have hfr := hfr.trans hfr1
              have hkp := hkp.trans hkp1
              obtain ⟨he_26, fe_26, ca_26, ga_26, wh_26, tm_26, wm_26, ac_26, th_26, st_26, F_26, b1_26, b2_26, b3_26, b4_26, b5_26, b6_26, b7_26, b8_26⟩ : okM0 h n (f_24 (h 0)) := hI.1 0 (by decide)
              have kk_wm_26 : wm_26.toInt = wm_16.toInt := (congrArg Int32.toInt (show wm_26 = wm_16 from Value.int.inj (by have q := hkp1.1; rw [fldV_eq F_26, fldV_eq F_22] at q; exact q))).trans rfl
              have kk_ac_26 : ac_26.toInt = ac_16.toInt := (congrArg Int32.toInt (show ac_26 = ac_16 from Value.int.inj (by have q := hkp1.2.1; rw [fldV_eq F_26, fldV_eq F_22] at q; exact q))).trans rfl
              have kk_he_26 : he_26.toInt = he_16.toInt := (congrArg Int32.toInt (show he_26 = he_16 from Value.int.inj (by have q := hkp1.2.2; rw [fldV_eq F_26, fldV_eq F_22] at q; exact q))).trans rfl
              exact m_vret hx hb hr hlk hC hH (fun _ => (0, 0)) ⟨hI, hfr, by rw [hkp.1]; exact k22, by rw [hkp.2.1]; exact k25, hkp.2.2.trans (k2.trans kin.symm)⟩ (Nat.le_of_ble_eq_true rfl) (Nat.le_of_ble_eq_true rfl) dX6_begin_111
            · skip
              have ic_15 : (4 : Int) > k4.toInt := ic_nle kI_4 rfl c_15
              refine lv_aload_n hx hb dX6_begin_64 rfl (lv_at hl 0 rfl) ?_
              obtain ⟨he_27, fe_27, ca_27, ga_27, wh_27, tm_27, wm_27, ac_27, th_27, st_27, F_27, b1_27, b2_27, b3_27, b4_27, b5_27, b6_27, b7_27, b8_27⟩ : okM0 h n (fL (h 0)) := hI.1 0 (by decide)
              refine m_get (ci := 6) (v := .ref (h 26)) (C := RX6) (T := TX6) (N := 30) hx hb hC hH hts in_X6_begin_X6 hown F_27 rfl 26 (by decide) (hts (.fieldLink RX6 68 "LazyStateModel" "handles" "[I") (by decide +kernel)) rfl dX6_begin_65 ?_
              refine lv_iload hx hb dX6_begin_68 (lv_at hl 3 rfl) ?_
              refine lv_bipush (v := (-3)) hx hb dX6_begin_70 (by decide) ?_
              obtain ⟨g_28, hg_28, hp_28⟩ : okI G 0 4 (fun g => ∀ i, i < 4 → -3 ≤ (g i).toInt ∧ ((g i).toInt < n ∨ (n = 0 ∧ (g i).toInt = 0))) (fL (h 26)) := hI.1 26 (by decide)
              refine m_iast hx hb hC hH hg_28 (vp_in_iff.mpr ⟨by omega, by omega⟩) dX6_begin_72 (fun H locs hH => ?_)
              obtain ⟨f_29, ef_29⟩ : ∃ zz_ : mF, zz_ = va_up fL (h 26) (some (.inl (gk G 0, 4, .inl (upd g_28 k4.toNatClampNeg (-3))))) := ⟨_, rfl⟩
              rw [← ef_29] at hH
              have F_30 := upk F_27 ef_29 (neM hj (by decide) (by decide) (by decide))
              have hI : IM G h n T z A f_29 := hI.arr 26 (by decide) (by decide) (by decide) (by decide) (show okI G 0 4 (fun g => ∀ i, i < 4 → -3 ≤ (g i).toInt ∧ ((g i).toInt < n ∨ (n = 0 ∧ (g i).toInt = 0))) _ from ⟨_, rfl, upd_all (P := fun x : Int32 => -3 ≤ x.toInt ∧ (x.toInt < n ∨ (n = 0 ∧ x.toInt = 0))) hp_28 (by have := kI_m3; exact ⟨by omega, by omega⟩)⟩) ef_29
              have hfr := hfr.up 26 (by decide) ef_29
              have hkp := hkp.up 26 hj (by decide) (by decide) ef_29
              refine lv_aload_n hx hb dX6_begin_73 rfl (lv_at hl 0 rfl) ?_
              refine m_get (ci := 6) (v := .ref (h 27)) (C := RX6) (T := TX6) (N := 30) hx hb hC hH hts in_X6_begin_X6 hown F_30 rfl 27 (by decide) (hts (.fieldLink RX6 71 "LazyStateModel" "values" "[J") (by decide +kernel)) rfl dX6_begin_74 ?_
              refine lv_iload hx hb dX6_begin_77 (lv_at hl 3 rfl) ?_
              refine lv_lconst (v := 0) hx hb dX6_begin_79 (by decide) ?_
              obtain ⟨g_31, hg_31, hp_31⟩ : okJ G 4 (fun _ => True) (f_29 (h 27)) := hI.1 27 (by decide)
              refine m_last hx hb hC hH hg_31 (vp_in_iff.mpr ⟨by omega, by omega⟩) dX6_begin_80 (fun H locs hH => ?_)
              obtain ⟨f_32, ef_32⟩ : ∃ zz_ : mF, zz_ = va_up f_29 (h 27) (some (.inl (gk G 1, 4, .inr (.inl (vp_updL g_31 k4.toNatClampNeg 0))))) := ⟨_, rfl⟩
              rw [← ef_32] at hH
              have F_33 := upk F_30 ef_32 (neM hj (by decide) (by decide) (by decide))
              have hI : IM G h n T z A f_32 := hI.arr 27 (by decide) (by decide) (by decide) (by decide) (show okJ G 4 (fun _ => True) _ from ⟨_, rfl, trivial⟩) ef_32
              have hfr := hfr.up 27 (by decide) ef_32
              have hkp := hkp.up 27 hj (by decide) (by decide) ef_32
              obtain ⟨x_34, ex_34⟩ : ∃ y : Int32, y = k4 + 1 := ⟨_, rfl⟩
              have ix_34 : x_34.toInt = k4.toInt + 1 := ic_add ex_34 rfl kI_1 (by omega) (by omega)
              refine lv_iinc (v := x_34) (lv' := [(4, .int x_34), (0, .ref (h 0)), (1, .int o), (2, .long v)]) hx hb dX6_begin_81 hl (k := 3) rfl (by rw [ex_34]; rfl) (by decide) rfl (fun ls hl => ?_)
              refine lv_goto (tgt := 58) hx hb dX6_begin_84 (by decide) ?_
              exact ih_58 x_34 f_32 (by omega) (by omega) hI hfr hkp (by omega) _ _ _ hH (lv_sub hl [1, 2, 3, 0] rfl)
        exact loop_58 (((4 : Int) - 0).toNat + 1) 0 fL (by have := kI_0; omega) (by have := kI_0; omega) hI hfr hkp (by have := kI_0; omega) _ _ _ hH (lv_sub hl [1, 2, 3, 0] rfl)
      · skip
        have ic_14 : (24 : Int) > k4.toInt := ic_nle kI_24 rfl c_14
        refine lv_aload_n hx hb dX6_begin_41 rfl (lv_at hl 0 rfl) ?_
        obtain ⟨he_35, fe_35, ca_35, ga_35, wh_35, tm_35, wm_35, ac_35, th_35, st_35, F_35, b1_35, b2_35, b3_35, b4_35, b5_35, b6_35, b7_35, b8_35⟩ : okM0 h n (fL (h 0)) := hI.1 0 (by decide)
        refine m_get (ci := 6) (v := .ref (h 24)) (C := RX6) (T := TX6) (N := 30) hx hb hC hH hts in_X6_begin_X6 hown F_35 rfl 24 (by decide) (hts (.fieldLink RX6 65 "LazyStateModel" "isLoaded" "[Z") (by decide +kernel)) rfl dX6_begin_42 ?_
        refine lv_iload hx hb dX6_begin_45 (lv_at hl 3 rfl) ?_
        refine lv_iconst (v := 0) hx hb dX6_begin_47 (by decide) ?_
        obtain ⟨g_36, hg_36, hp_36⟩ : okI G 2 24 (fun _ => True) (fL (h 24)) := hI.1 24 (by decide)
        refine m_zast hx hb hC hH hg_36 (vp_in_iff.mpr ⟨by omega, by omega⟩) dX6_begin_48 (fun H locs hH => ?_)
        obtain ⟨f_37, ef_37⟩ : ∃ zz_ : mF, zz_ = va_up fL (h 24) (some (.inl (gk G 2, 24, .inl (upd g_36 k4.toNatClampNeg (vp_nar .boolean 0))))) := ⟨_, rfl⟩
        rw [← ef_37] at hH
        have F_38 := upk F_35 ef_37 (neM hj (by decide) (by decide) (by decide))
        have hI : IM G h n T z A f_37 := hI.arr 24 (by decide) (by decide) (by decide) (by decide) (show okI G 2 24 (fun _ => True) _ from ⟨_, rfl, trivial⟩) ef_37
        have hfr := hfr.up 24 (by decide) ef_37
        have hkp := hkp.up 24 hj (by decide) (by decide) ef_37
        obtain ⟨x_39, ex_39⟩ : ∃ y : Int32, y = k4 + 1 := ⟨_, rfl⟩
        have ix_39 : x_39.toInt = k4.toInt + 1 := ic_add ex_39 rfl kI_1 (by omega) (by omega)
        refine lv_iinc (v := x_39) (lv' := [(4, .int x_39), (0, .ref (h 0)), (1, .int o), (2, .long v)]) hx hb dX6_begin_49 hl (k := 3) rfl (by rw [ex_39]; rfl) (by decide) rfl (fun ls hl => ?_)
        refine lv_goto (tgt := 34) hx hb dX6_begin_52 (by decide) ?_
        exact ih_34 x_39 f_37 (by omega) (by omega) hI hfr hkp (by omega) _ _ _ hH (lv_sub hl [1, 2, 3, 0] rfl)
  exact loop_34 (((24 : Int) - 0).toNat + 1) 0 f_12 (by have := kI_0; omega) (by have := kI_0; omega) hI hfr hkp (by have := kI_0; omega) _ _ _ hH (lv_sub hl [1, 2, 3, 0] rfl)
set_option maxHeartbeats 4000000 in
set_option maxRecDepth 100000 in
theorem c_X6_call (l : Launch) (G : mG) (h : Nat → Nat) (n : Nat) (T : Nat → Int32) (z : Nat → Nat) (A : Nat → tA) (f : mF) (hI : IM G h n T z A f) (o b : Int32) (v : Int64) : Met l yX6_call wsX6_call ({ frames := 6, cells := 0, slots := 0, locals := 155 }) (va_Pc [.ref (h 0), .int o, .int b, .long v] (mW G f)) (va_Qi (fun (r : Int32) (u : mS) => IM G h n T z A u.2 ∧ frM h f u.2) (fun (u : mS) t => mW G u.2 t) (mA G)) 0 0 (mA G) := by
  refine mMet [.ref (h 0), .int o, .int b, .long v] (cc := cX6_call) (maxL := 7) (ret := (some .int)) (by decide) rfl (Nat.le_of_ble_eq_true rfl) ?_
  intro p e s m below meth c ls hx hb hr hml hts hown hlk hnm hC hH hl
  have hl : lv_has ls 7 [(0, .ref (h 0)), (1, .int o), (2, .int b), (3, .long v)] := hl
  have hj := hI.2.2.1
  have hn24 := hI.2.2.2.1
  have nIn : (nI n).toInt = (n : Int) := nI_toInt (by omega)
  have hfr : frM h f f := frM.rf
  have hkp : kpM h f f := kpM.rf
  refine lv_aload_n hx hb dX6_call_0 rfl (lv_at hl 0 rfl) ?_
  refine lv_iload_n hx hb dX6_call_1 rfl (lv_at hl 1 rfl) ?_
  obtain ⟨he_4, fe_4, ca_4, ga_4, wh_4, tm_4, wm_4, ac_4, th_4, st_4, F_4, b1_4, b2_4, b3_4, b4_4, b5_4, b6_4, b7_4, b8_4⟩ : okM0 h n (f (h 0)) := hI.1 0 (by decide)
  refine m_goi hH (va_runV (As := [.int o]) (rest := []) ⟨hx, hb, hml, hown, hts⟩ (c_X6_isObject l G h n T z A f hI o) (cwV 1 hts gX6_call_X6_isObject rfl rfl rfl (by decide +kernel) ⟨Nat.le_of_ble_eq_true rfl, Nat.le_of_ble_eq_true rfl⟩) (m_preV (ci := 6) hC hH F_4 rfl) rfl rfl hl.1 rfl (lv_room (Nat.le_of_ble_eq_true rfl)) dX6_call_2 ⟨Nat.le_of_ble_eq_true rfl, Nat.le_of_ble_eq_true rfl⟩) (fun r_1 rho_3 f_2 H locs hw hH => ?_)
  obtain ⟨hu, hr_1⟩ := hw
  have hu : f_2 = f := hu
  rw [hu] at hH
  refine lv_if_eq (tgt := 20) hx hb dX6_call_5 (by decide) (fun c_5 => ?_) (fun c_5 => ?_)
  · skip
    have ic_5 : (r_1.toInt : Int) = 0 := ic_eq rfl kI_0 c_5
    refine lv_iconst (v := (-1)) hx hb dX6_call_20 (by decide) ?_
    exact m_iret (v := (-1)) hx hb hr hlk hC hH (fun _ => (0, 0)) ⟨hI, hfr⟩ (Nat.le_of_ble_eq_true rfl) (Nat.le_of_ble_eq_true rfl) dX6_call_21
  · skip
    have ic_5 : (r_1.toInt : Int) ≠ 0 := ic_ne rfl kI_0 c_5
    refine lv_iload_n hx hb dX6_call_8 rfl (lv_at hl 2 rfl) ?_
    refine lv_i2l hx hb dX6_call_9 rfl ?_
    refine lv_topl (fun y_6 ey_6 => ?_)
    have iy_6 : y_6.toInt = b.toInt := lc_i2l ey_6 rfl
    have gy_6 := ic_rng b
    refine lv_lconst (v := 0) hx hb dX6_call_10 (by decide) ?_
    refine lv_ldc2 (v := 5) hx hb hown (hts (.constantLong RX6 143 (5)) (by decide +kernel)) dX6_call_11 ?_
    refine m_goi hH (va_runS (As := [.long y_6, .long 0, .long 5]) (rest := []) ⟨hx, hb, hml, hown, hts⟩ (c_X6_in l G f y_6 0 5) (va_cwS 3 hts gX6_call_X6_in rfl rfl rfl (by decide +kernel) ⟨Nat.le_of_ble_eq_true rfl, Nat.le_of_ble_eq_true rfl⟩) (m_preS hC hH) rfl rfl hl.1 rfl (lv_room (Nat.le_of_ble_eq_true rfl)) dX6_call_14 ⟨Nat.le_of_ble_eq_true rfl, Nat.le_of_ble_eq_true rfl⟩) (fun r_7 rho_9 f_8 H locs hw hH => ?_)
    obtain ⟨hu, hr_7⟩ := hw
    have hu : f_8 = f := hu
    rw [hu] at hH
    have hr_7 : (r_7.toInt = 1 ∧ 0 ≤ y_6.toInt ∧ y_6.toInt ≤ 5) ∨ (r_7.toInt = 0 ∧ (y_6.toInt < 0 ∨ 5 < y_6.toInt)) := by have q0 := (rfl : y_6.toInt = _); have q1 := kJ_0; have q2 := kJ_5; omega
    refine lv_if_ne (tgt := 22) hx hb dX6_call_17 (by decide) (fun c_10 => ?_) (fun c_10 => ?_)
    · skip
      have ic_10 : (r_7.toInt : Int) ≠ 0 := ic_ne rfl kI_0 c_10
      refine lv_aload_n hx hb dX6_call_22 rfl (lv_at hl 0 rfl) ?_
      refine m_get (ci := 6) (v := .int he_4) (C := RX6) (T := TX6) (N := 30) hx hb hC hH hts in_X6_call_X6 hown F_4 rfl 2 (by decide) (hts (.fieldLink RX6 104 "LazyStateModel" "height" "I") (by decide +kernel)) rfl dX6_call_23 ?_
      refine lv_bipush (v := 40) hx hb dX6_call_26 (by decide) ?_
      refine lv_icmp_ne (tgt := 34) hx hb dX6_call_28 (by decide) (fun c_11 => ?_) (fun c_11 => ?_)
      · skip
        have ic_11 : (he_4.toInt : Int) ≠ 40 := ic_ne rfl kI_40 c_11
        refine lv_aload_n hx hb dX6_call_34 rfl (lv_at hl 0 rfl) ?_
        refine lv_dup hx hb dX6_call_35 rfl ?_
        refine m_get (ci := 6) (v := .int ca_4) (C := RX6) (T := TX6) (N := 30) hx hb hC hH hts in_X6_call_X6 hown F_4 rfl 16 (by decide) (hts (.fieldLink RX6 202 "LazyStateModel" "calls" "I") (by decide +kernel)) rfl dX6_call_36 ?_
        refine lv_iconst (v := 1) hx hb dX6_call_39 (by decide) ?_
        refine lv_iadd hx hb dX6_call_40 ?_
        refine lv_topi (fun x_12 ex_12 => ?_)
        refine m_put (ci := 6) (v := .int x_12) (C := RX6) (T := TX6) (N := 30) hx hb hC hH hts in_X6_call_X6 tyX6 tyX6_ok nmX6 hown F_4 rfl 16 (by decide) (hts (.fieldLink RX6 202 "LazyStateModel" "calls" "I") (by decide +kernel)) rfl rfl rfl (Nat.le_of_ble_eq_true rfl) dX6_call_41 (fun H locs hH => ?_)
        have hH : mH G s (va_up f (h 0) (some (.inr (6, [.int (nI n), .ref (h 1), .int he_4, .ref (h 3), .ref (h 4), .ref (h 5), .ref (h 6), .int fe_4, .ref (h 8), .ref (h 9), .ref (h 10), .ref (h 11), .ref (h 12), .ref (h 13), .ref (h 14), .ref (h 15), .int x_12, .long ga_4, .int wh_4, .int tm_4, .ref (h 20), .ref (h 21), .int wm_4, .ref (h 23), .ref (h 24), .int ac_4, .ref (h 26), .ref (h 27), .int th_4, .int st_4])))) H locs := hH
        obtain ⟨f_13, ef_13⟩ : ∃ zz_ : mF, zz_ = va_up f (h 0) (some (.inr (6, [.int (nI n), .ref (h 1), .int he_4, .ref (h 3), .ref (h 4), .ref (h 5), .ref (h 6), .int fe_4, .ref (h 8), .ref (h 9), .ref (h 10), .ref (h 11), .ref (h 12), .ref (h 13), .ref (h 14), .ref (h 15), .int x_12, .long ga_4, .int wh_4, .int tm_4, .ref (h 20), .ref (h 21), .int wm_4, .ref (h 23), .ref (h 24), .int ac_4, .ref (h 26), .ref (h 27), .int th_4, .int st_4]))) := ⟨_, rfl⟩
        rw [← ef_13] at hH
        have F_14 : f_13 (h 0) = some (.inr (6, [.int (nI n), .ref (h 1), .int he_4, .ref (h 3), .ref (h 4), .ref (h 5), .ref (h 6), .int fe_4, .ref (h 8), .ref (h 9), .ref (h 10), .ref (h 11), .ref (h 12), .ref (h 13), .ref (h 14), .ref (h 15), .int x_12, .long ga_4, .int wh_4, .int tm_4, .ref (h 20), .ref (h 21), .int wm_4, .ref (h 23), .ref (h 24), .int ac_4, .ref (h 26), .ref (h 27), .int th_4, .int st_4])) := by rw [ef_13]; exact va_up_self _ _ _
        have hI : IM G h n T z A f_13 := hI.obj F_4 ef_13 rfl ⟨_, _, _, _, _, _, _, _, _, _, rfl, by omega, by omega, by omega, by omega, by omega, by omega, by omega, by omega⟩
        have hfr := hfr.up 0 (by decide) ef_13
        have hkp := hkp.obj F_4 F_14 rfl rfl rfl
        refine lv_aload_n hx hb dX6_call_44 rfl (lv_at hl 0 rfl) ?_
        refine lv_iload_n hx hb dX6_call_45 rfl (lv_at hl 1 rfl) ?_
        refine lv_lload_n hx hb dX6_call_46 rfl (lv_at hl 3 rfl) ?_
        refine m_gov hH (va_runV (As := [.int o, .long v]) (rest := []) ⟨hx, hb, hml, hown, hts⟩ (c_X6_begin l G h n T z A f_13 hI o v (by omega)) (cwV 2 hts gX6_call_X6_begin rfl rfl rfl (by decide +kernel) ⟨Nat.le_of_ble_eq_true rfl, Nat.le_of_ble_eq_true rfl⟩) (m_preV (ci := 6) hC hH F_14 rfl) rfl rfl hl.1 rfl (lv_room (Nat.le_of_ble_eq_true rfl)) dX6_call_47 ⟨Nat.le_of_ble_eq_true rfl, Nat.le_of_ble_eq_true rfl⟩) (fun rho_17 f_16 H locs hw hH => ?_)
        obtain ⟨hI, hfr1, k22, k25, k2⟩ := hw
        have hI : IM G h n T z A f_16 := hI
        have hfr := hfr.trans hfr1
        have hkp : kpM h f_16 f_16 := kpM.rf
        obtain ⟨he_18, fe_18, ca_18, ga_18, wh_18, tm_18, wm_18, ac_18, th_18, st_18, F_18, b1_18, b2_18, b3_18, b4_18, b5_18, b6_18, b7_18, b8_18⟩ : okM0 h n (f_16 (h 0)) := hI.1 0 (by decide)
        have j2 : he_18.toInt = he_4.toInt := (congrArg Int32.toInt (show he_18 = he_4 from Value.int.inj (by have q := k2; rw [fldV_eq F_18, fldV_eq F_14] at q; exact q)))
        have j22 : wm_18.toInt = 0 := by (have q := k22; rw [fldV_eq F_18] at q; cases q; rfl)
        have j25 : ac_18.toInt = 0 := by (have q := k25; rw [fldV_eq F_18] at q; cases q; rfl)
        refine lv_iconst (v := 0) hx hb dX6_call_50 (by decide) ?_
        refine lv_istore (lv' := [(5, .int 0), (0, .ref (h 0)), (1, .int o), (2, .int b), (3, .long v)]) hx hb dX6_call_51 hl (by decide) rfl (fun ls hl => ?_)
        have loop_53 : ∀ (fuel_ : Nat) (p5 : Int32) (fC : mF) (he_C : Int32) (fe_C : Int32) (ca_C : Int32) (ga_C : Int64) (wh_C : Int32) (tm_C : Int32) (wm_C : Int32) (ac_C : Int32) (th_C : Int32) (st_C : Int32) (wC : Nat) (h0_ : 0 ≤ p5.toInt) (h1_ : p5.toInt ≤ 32) (hI : IM G h n T z A fC) (hfr : frM h f fC) (hw1 : wC ≤ 1) (hw0 : th_C.toInt = 0 → wC = 1) (hhe : he_C.toInt ≤ 39) (hwm : wm_C.toInt = 0) (FC : fC (h 0) = some (.inr (6, [.int (nI n), .ref (h 1), .int he_C, .ref (h 3), .ref (h 4), .ref (h 5), .ref (h 6), .int fe_C, .ref (h 8), .ref (h 9), .ref (h 10), .ref (h 11), .ref (h 12), .ref (h 13), .ref (h 14), .ref (h 15), .int ca_C, .long ga_C, .int wh_C, .int tm_C, .ref (h 20), .ref (h 21), .int wm_C, .ref (h 23), .ref (h 24), .int ac_C, .ref (h 26), .ref (h 27), .int th_C, .int st_C]))) (_ : (200 - ac_C.toInt).toNat + wC < fuel_) (H : Heap) (locs : List Loc) (ls : Array Slot) (_ : mH G s fC H locs) (_ : lv_has ls 7 [(0, .ref (h 0)), (1, .int o), (2, .int b), (3, .long v), (5, .int p5)]), W p l e ({ frames := 6, cells := 0, slots := 0, locals := 155 } : Room) s m ([.ref (h 0), .int o, .int b, .long v] : List Value).toArray below meth c H locs (0 + 0 + 0 + 0) (0 + 0 + 0 + 0) (MQ below (va_Qi (fun (r : Int32) (u : mS) => IM G h n T z A u.2 ∧ frM h f u.2) (fun (u : mS) t => mW G u.2 t) (mA G)) ([.ref (h 0), .int o, .int b, .long v] : List Value).toArray s 0 0 (mA G)) (F0 m 53 ls []) := by
          intro N_53
          induction N_53 with
          | zero => intro p5 fC he_C fe_C ca_C ga_C wh_C tm_C wm_C ac_C th_C st_C wC h0_ h1_ hI hfr hw1 hw0 hhe hwm FC hN; omega
          | succ N_53 ih_53 =>
            intro p5 fC he_C fe_C ca_C ga_C wh_C tm_C wm_C ac_C th_C st_C wC h0_ h1_ hI hfr hw1 hw0 hhe hwm FC hN_53 H locs ls hH hl
            have hkp : kpM h fC fC := kpM.rf
            have bC_ := okM0_b (hI.1 0 (by decide)) FC
            refine lv_iload hx hb dX6_call_53 (lv_at hl 4 rfl) ?_
            refine lv_aload_n hx hb dX6_call_55 rfl (lv_at hl 0 rfl) ?_
            refine m_get (ci := 6) (v := .ref (h 9)) (C := RX6) (T := TX6) (N := 30) hx hb hC hH hts in_X6_call_X6 hown FC rfl 9 (by decide) (hts (.fieldLink RX6 31 "LazyStateModel" "many" "[I") (by decide +kernel)) rfl dX6_call_56 ?_
            refine lv_iload_n hx hb dX6_call_59 rfl (lv_at hl 2 rfl) ?_
            obtain ⟨g_19, hg_19, hp_19⟩ : okI G 0 6 (fun g => ∀ b, b < 6 → g b = nI (z b)) (fC (h 9)) := hI.1 9 (by decide)
            refine m_iald hx hb hC hH hg_19 (vp_in_iff.mpr ⟨by omega, by omega⟩) dX6_call_60 ?_
            refine lv_topi (fun x_20 ex_20 => ?_)
            have qx_20 := hI.2.2.2.2.1 b.toNatClampNeg
            have ix_20 : x_20.toInt = (z b.toNatClampNeg : Int) := ic_nI (by rw [ex_20]; exact hp_19 (b.toNatClampNeg) (ic_cl rfl (by omega) (by omega))) (by omega)
            refine lv_icmp_ge (tgt := 140) hx hb dX6_call_61 (by decide) (fun c_21 => ?_) (fun c_21 => ?_)
            · skip
              have ic_21 : (x_20.toInt : Int) ≤ p5.toInt := ic_le rfl rfl c_21
              refine lv_aload_n hx hb dX6_call_140 rfl (lv_at hl 0 rfl) ?_
              refine m_get (ci := 6) (v := .int th_C) (C := RX6) (T := TX6) (N := 30) hx hb hC hH hts in_X6_call_X6 hown FC rfl 28 (by decide) (hts (.fieldLink RX6 155 "LazyStateModel" "threw" "I") (by decide +kernel)) rfl dX6_call_141 ?_
              refine lv_if_le (tgt := 157) hx hb dX6_call_144 (by decide) (fun c_22 => ?_) (fun c_22 => ?_)
              · skip
                have ic_22 : (th_C.toInt : Int) ≤ 0 := ic_le rfl kI_0 c_22
                refine lv_iconst (v := 0) hx hb dX6_call_157 (by decide) ?_
                refine lv_istore (lv' := [(6, .int 0), (0, .ref (h 0)), (1, .int o), (2, .int b), (3, .long v), (5, .int p5)]) hx hb dX6_call_158 hl (by decide) rfl (fun ls hl => ?_)
                have loop_160 : ∀ (fuel_ : Nat) (l6 : Int32) (fD : mF) (he_D : Int32) (fe_D : Int32) (ca_D : Int32) (ga_D : Int64) (wh_D : Int32) (tm_D : Int32) (wm_D : Int32) (ac_D : Int32) (th_D : Int32) (st_D : Int32) (h0_ : 0 ≤ l6.toInt) (h1_ : l6.toInt ≤ 192) (hI : IM G h n T z A fD) (hfr : frM h f fD) (hhe : he_D.toInt ≤ 39) (hwm : wm_D.toInt ≤ l6.toInt) (FD : fD (h 0) = some (.inr (6, [.int (nI n), .ref (h 1), .int he_D, .ref (h 3), .ref (h 4), .ref (h 5), .ref (h 6), .int fe_D, .ref (h 8), .ref (h 9), .ref (h 10), .ref (h 11), .ref (h 12), .ref (h 13), .ref (h 14), .ref (h 15), .int ca_D, .long ga_D, .int wh_D, .int tm_D, .ref (h 20), .ref (h 21), .int wm_D, .ref (h 23), .ref (h 24), .int ac_D, .ref (h 26), .ref (h 27), .int th_D, .int st_D]))) (_ : ((192 : Int) - l6.toInt).toNat < fuel_) (H : Heap) (locs : List Loc) (ls : Array Slot) (_ : mH G s fD H locs) (_ : lv_has ls 7 [(0, .ref (h 0)), (1, .int o), (2, .int b), (3, .long v), (6, .int l6)]), W p l e ({ frames := 6, cells := 0, slots := 0, locals := 155 } : Room) s m ([.ref (h 0), .int o, .int b, .long v] : List Value).toArray below meth c H locs (0 + 0 + 0 + 0) (0 + 0 + 0 + 0) (MQ below (va_Qi (fun (r : Int32) (u : mS) => IM G h n T z A u.2 ∧ frM h f u.2) (fun (u : mS) t => mW G u.2 t) (mA G)) ([.ref (h 0), .int o, .int b, .long v] : List Value).toArray s 0 0 (mA G)) (F0 m 160 ls []) := by
                  intro N_160
                  induction N_160 with
                  | zero => intro l6 fD he_D fe_D ca_D ga_D wh_D tm_D wm_D ac_D th_D st_D h0_ h1_ hI hfr hhe hwm FD hN; omega
                  | succ N_160 ih_160 =>
                    intro l6 fD he_D fe_D ca_D ga_D wh_D tm_D wm_D ac_D th_D st_D h0_ h1_ hI hfr hhe hwm FD hN_160 H locs ls hH hl
                    have hkp : kpM h fD fD := kpM.rf
                    have bD_ := okM0_b (hI.1 0 (by decide)) FD
                    refine lv_iload hx hb dX6_call_160 (lv_at hl 4 rfl) ?_
                    refine lv_sipush (v := 192) hx hb dX6_call_162 (by decide) ?_
                    refine lv_icmp_ge (tgt := 229) hx hb dX6_call_165 (by decide) (fun c_23 => ?_) (fun c_23 => ?_)
                    · skip
                      have ic_23 : (192 : Int) ≤ l6.toInt := ic_le kI_192 rfl c_23
                      refine lv_aload_n hx hb dX6_call_229 rfl (lv_at hl 0 rfl) ?_
                      refine m_get (ci := 6) (v := .int wm_D) (C := RX6) (T := TX6) (N := 30) hx hb hC hH hts in_X6_call_X6 hown FD rfl 22 (by decide) (hts (.fieldLink RX6 196 "LazyStateModel" "writtenMany" "I") (by decide +kernel)) rfl dX6_call_230 ?_
                      refine lv_if_le (tgt := 240) hx hb dX6_call_233 (by decide) (fun c_24 => ?_) (fun c_24 => ?_)
                      · skip
                        have ic_24 : (wm_D.toInt : Int) ≤ 0 := ic_le rfl kI_0 c_24
                        refine lv_iconst (v := 0) hx hb dX6_call_240 (by decide) ?_
                        exact m_iret (v := 0) hx hb hr hlk hC hH (fun _ => (0, 0)) ⟨hI, hfr⟩ (Nat.le_of_ble_eq_true rfl) (Nat.le_of_ble_eq_true rfl) dX6_call_241
                      · skip
                        have ic_24 : (wm_D.toInt : Int) > 0 := ic_nle rfl kI_0 c_24
                        refine lv_aload_n hx hb dX6_call_236 rfl (lv_at hl 0 rfl) ?_
                        refine m_gov hH (va_runV (As := []) (rest := []) ⟨hx, hb, hml, hown, hts⟩ (c_X6_rises l G h n T z A fD hI ⟨_, fldV_eq FD 2, by omega⟩ ) (cwV 0 hts gX6_call_X6_rises rfl rfl rfl (by decide +kernel) ⟨Nat.le_of_ble_eq_true rfl, Nat.le_of_ble_eq_true rfl⟩) (m_preV (ci := 6) hC hH FD rfl) rfl rfl hl.1 rfl (lv_room (Nat.le_of_ble_eq_true rfl)) dX6_call_237 ⟨Nat.le_of_ble_eq_true rfl, Nat.le_of_ble_eq_true rfl⟩) (fun rho_27 f_26 H locs hw hH => ?_)
                        obtain ⟨hI, hfr1⟩ := hw
                        have hI : IM G h n T z A f_26 := hI
                        have hfr1 : frM h fD f_26 := hfr1
                        have hfr := hfr.trans hfr1
                        have hkp : kpM h f_26 f_26 := kpM.rf
                        refine lv_iconst (v := 0) hx hb dX6_call_240 (by decide) ?_
                        exact m_iret (v := 0) hx hb hr hlk hC hH (fun _ => (0, 0)) ⟨hI, hfr⟩ (Nat.le_of_ble_eq_true rfl) (Nat.le_of_ble_eq_true rfl) dX6_call_241
                    · skip
                      have ic_23 : (192 : Int) > l6.toInt := ic_nle kI_192 rfl c_23
                      refine lv_aload_n hx hb dX6_call_168 rfl (lv_at hl 0 rfl) ?_
                      refine lv_iload hx hb dX6_call_169 (lv_at hl 4 rfl) ?_
                      refine m_goi hH (va_runS (As := [.int l6]) (rest := [.ref (h 0)]) ⟨hx, hb, hml, hown, hts⟩ (c_X6_at l G fD l6 (by exact ⟨by omega, by omega⟩)) (va_cwS 1 hts gX6_call_X6_at rfl rfl rfl (by decide +kernel) ⟨Nat.le_of_ble_eq_true rfl, Nat.le_of_ble_eq_true rfl⟩) (m_preS hC hH) rfl rfl hl.1 rfl (lv_room (Nat.le_of_ble_eq_true rfl)) dX6_call_171 ⟨Nat.le_of_ble_eq_true rfl, Nat.le_of_ble_eq_true rfl⟩) (fun r_28 rho_30 f_29 H locs hw hH => ?_)
                      obtain ⟨hu, hr_28⟩ := hw
                      have hu : f_29 = fD := hu
                      rw [hu] at hH
                      refine lv_sipush (v := 192) hx hb dX6_call_174 (by decide) ?_
                      refine lv_aload_n hx hb dX6_call_177 rfl (lv_at hl 0 rfl) ?_
                      refine m_get (ci := 6) (v := .int he_D) (C := RX6) (T := TX6) (N := 30) hx hb hC hH hts in_X6_call_X6 hown FD rfl 2 (by decide) (hts (.fieldLink RX6 104 "LazyStateModel" "height" "I") (by decide +kernel)) rfl dX6_call_178 ?_
                      refine lv_imul hx hb dX6_call_181 ?_
                      refine lv_topi (fun x_31 ex_31 => ?_)
                      have ix_31 : x_31.toInt = 192 * he_D.toInt := ic_mul ex_31 kI_192 rfl (by omega) (by omega)
                      refine lv_iload hx hb dX6_call_182 (lv_at hl 4 rfl) ?_
                      refine lv_iadd hx hb dX6_call_184 ?_
                      refine lv_topi (fun x_32 ex_32 => ?_)
                      have ix_32 : x_32.toInt = x_31.toInt + l6.toInt := ic_add ex_32 rfl rfl (by omega) (by omega)
                      refine m_goi hH (va_runV (As := [.int r_28, .int x_32]) (rest := []) ⟨hx, hb, hml, hown, hts⟩ (c_X6_areAlike l G h n T z A fD hI r_28 x_32 (by omega) (by omega)) (cwV 2 hts gX6_call_X6_areAlike rfl rfl rfl (by decide +kernel) ⟨Nat.le_of_ble_eq_true rfl, Nat.le_of_ble_eq_true rfl⟩) (m_preV (ci := 6) hC hH FD rfl) rfl rfl hl.1 rfl (lv_room (Nat.le_of_ble_eq_true rfl)) dX6_call_185 ⟨Nat.le_of_ble_eq_true rfl, Nat.le_of_ble_eq_true rfl⟩) (fun r_33 rho_35 f_34 H locs hw hH => ?_)
                      obtain ⟨hu, hr_33⟩ := hw
                      have hu : f_34 = fD := hu
                      rw [hu] at hH
                      refine lv_if_ne (tgt := 223) hx hb dX6_call_188 (by decide) (fun c_36 => ?_) (fun c_36 => ?_)
                      · skip
                        have ic_36 : (r_33.toInt : Int) ≠ 0 := ic_ne rfl kI_0 c_36
                        obtain ⟨x_37, ex_37⟩ : ∃ y : Int32, y = l6 + 1 := ⟨_, rfl⟩
                        have ix_37 : x_37.toInt = l6.toInt + 1 := ic_add ex_37 rfl kI_1 (by omega) (by omega)
                        refine lv_iinc (v := x_37) (lv' := [(6, .int x_37), (0, .ref (h 0)), (1, .int o), (2, .int b), (3, .long v)]) hx hb dX6_call_223 hl (k := 4) rfl (by rw [ex_37]; rfl) (by decide) rfl (fun ls hl => ?_)
                        refine lv_goto (tgt := 160) hx hb dX6_call_226 (by decide) ?_
                        exact ih_160 x_37 fD he_D fe_D ca_D ga_D wh_D tm_D wm_D ac_D th_D st_D (by omega) (by omega) hI hfr (by omega) (by omega) FD (by omega) _ _ _ hH (lv_sub hl [1, 2, 3, 4, 0] rfl)
                      · skip
                        have ic_36 : (r_33.toInt : Int) = 0 := ic_eq rfl kI_0 c_36
                        refine lv_aload_n hx hb dX6_call_191 rfl (lv_at hl 0 rfl) ?_
                        refine m_get (ci := 6) (v := .ref (h 23)) (C := RX6) (T := TX6) (N := 30) hx hb hC hH hts in_X6_call_X6 hown FD rfl 23 (by decide) (hts (.fieldLink RX6 62 "LazyStateModel" "written" "[I") (by decide +kernel)) rfl dX6_call_192 ?_
                        refine lv_aload_n hx hb dX6_call_195 rfl (lv_at hl 0 rfl) ?_
                        refine m_get (ci := 6) (v := .int wm_D) (C := RX6) (T := TX6) (N := 30) hx hb hC hH hts in_X6_call_X6 hown FD rfl 22 (by decide) (hts (.fieldLink RX6 196 "LazyStateModel" "writtenMany" "I") (by decide +kernel)) rfl dX6_call_196 ?_
                        refine lv_iload hx hb dX6_call_199 (lv_at hl 4 rfl) ?_
                        obtain ⟨g_38, hg_38, hp_38⟩ : okI G 0 192 (fun _ => True) (fD (h 23)) := hI.1 23 (by decide)
                        refine m_iast hx hb hC hH hg_38 (vp_in_iff.mpr ⟨by omega, by omega⟩) dX6_call_201 (fun H locs hH => ?_)
                        obtain ⟨f_39, ef_39⟩ : ∃ zz_ : mF, zz_ = va_up fD (h 23) (some (.inl (gk G 0, 192, .inl (upd g_38 wm_D.toNatClampNeg l6)))) := ⟨_, rfl⟩
                        rw [← ef_39] at hH
                        have F_40 := upk FD ef_39 (neM hj (by decide) (by decide) (by decide))
                        have hI : IM G h n T z A f_39 := hI.arr 23 (by decide) (by decide) (by decide) (by decide) (show okI G 0 192 (fun _ => True) _ from ⟨_, rfl, trivial⟩) ef_39
                        have hfr := hfr.up 23 (by decide) ef_39
                        have hkp := hkp.up 23 hj (by decide) (by decide) ef_39
                        refine lv_aload_n hx hb dX6_call_202 rfl (lv_at hl 0 rfl) ?_
                        refine lv_dup hx hb dX6_call_203 rfl ?_
                        refine m_get (ci := 6) (v := .int wm_D) (C := RX6) (T := TX6) (N := 30) hx hb hC hH hts in_X6_call_X6 hown F_40 rfl 22 (by decide) (hts (.fieldLink RX6 196 "LazyStateModel" "writtenMany" "I") (by decide +kernel)) rfl dX6_call_204 ?_
                        refine lv_iconst (v := 1) hx hb dX6_call_207 (by decide) ?_
                        refine lv_iadd hx hb dX6_call_208 ?_
                        refine lv_topi (fun x_41 ex_41 => ?_)
                        have ix_41 : x_41.toInt = wm_D.toInt + 1 := ic_add ex_41 rfl kI_1 (by omega) (by omega)
                        refine m_put (ci := 6) (v := .int x_41) (C := RX6) (T := TX6) (N := 30) hx hb hC hH hts in_X6_call_X6 tyX6 tyX6_ok nmX6 hown F_40 rfl 22 (by decide) (hts (.fieldLink RX6 196 "LazyStateModel" "writtenMany" "I") (by decide +kernel)) rfl rfl rfl (Nat.le_of_ble_eq_true rfl) dX6_call_209 (fun H locs hH => ?_)
                        have hH : mH G s (va_up f_39 (h 0) (some (.inr (6, [.int (nI n), .ref (h 1), .int he_D, .ref (h 3), .ref (h 4), .ref (h 5), .ref (h 6), .int fe_D, .ref (h 8), .ref (h 9), .ref (h 10), .ref (h 11), .ref (h 12), .ref (h 13), .ref (h 14), .ref (h 15), .int ca_D, .long ga_D, .int wh_D, .int tm_D, .ref (h 20), .ref (h 21), .int x_41, .ref (h 23), .ref (h 24), .int ac_D, .ref (h 26), .ref (h 27), .int th_D, .int st_D])))) H locs := hH
                        obtain ⟨f_42, ef_42⟩ : ∃ zz_ : mF, zz_ = va_up f_39 (h 0) (some (.inr (6, [.int (nI n), .ref (h 1), .int he_D, .ref (h 3), .ref (h 4), .ref (h 5), .ref (h 6), .int fe_D, .ref (h 8), .ref (h 9), .ref (h 10), .ref (h 11), .ref (h 12), .ref (h 13), .ref (h 14), .ref (h 15), .int ca_D, .long ga_D, .int wh_D, .int tm_D, .ref (h 20), .ref (h 21), .int x_41, .ref (h 23), .ref (h 24), .int ac_D, .ref (h 26), .ref (h 27), .int th_D, .int st_D]))) := ⟨_, rfl⟩
                        rw [← ef_42] at hH
                        have F_43 : f_42 (h 0) = some (.inr (6, [.int (nI n), .ref (h 1), .int he_D, .ref (h 3), .ref (h 4), .ref (h 5), .ref (h 6), .int fe_D, .ref (h 8), .ref (h 9), .ref (h 10), .ref (h 11), .ref (h 12), .ref (h 13), .ref (h 14), .ref (h 15), .int ca_D, .long ga_D, .int wh_D, .int tm_D, .ref (h 20), .ref (h 21), .int x_41, .ref (h 23), .ref (h 24), .int ac_D, .ref (h 26), .ref (h 27), .int th_D, .int st_D])) := by rw [ef_42]; exact va_up_self _ _ _
                        have hI : IM G h n T z A f_42 := hI.obj F_40 ef_42 rfl ⟨_, _, _, _, _, _, _, _, _, _, rfl, by omega, by omega, by omega, by omega, by omega, by omega, by omega, by omega⟩
                        have hfr := hfr.up 0 (by decide) ef_42
                        have hkp : kpM h f_42 f_42 := kpM.rf
                        refine lv_aload_n hx hb dX6_call_212 rfl (lv_at hl 0 rfl) ?_
                        refine m_get (ci := 6) (v := .ref (h 8)) (C := RX6) (T := TX6) (N := 30) hx hb hC hH hts in_X6_call_X6 hown F_43 rfl 8 (by decide) (hts (.fieldLink RX6 28 "LazyStateModel" "times" "[I") (by decide +kernel)) rfl dX6_call_213 ?_
                        refine lv_iload hx hb dX6_call_216 (lv_at hl 4 rfl) ?_
                        refine lv_dup2_11 hx hb dX6_call_218 rfl rfl ?_
                        obtain ⟨g_44, hg_44, hp_44⟩ : okI G 0 192 (fun _ => True) (f_42 (h 8)) := hI.1 8 (by decide)
                        refine m_iald hx hb hC hH hg_44 (vp_in_iff.mpr ⟨by omega, by omega⟩) dX6_call_219 ?_
                        refine lv_topi (fun x_45 ex_45 => ?_)
                        refine lv_iconst (v := 1) hx hb dX6_call_220 (by decide) ?_
                        refine lv_iadd hx hb dX6_call_221 ?_
                        refine lv_topi (fun x_46 ex_46 => ?_)
                        refine m_iast hx hb hC hH hg_44 (vp_in_iff.mpr ⟨by omega, by omega⟩) dX6_call_222 (fun H locs hH => ?_)
                        obtain ⟨f_47, ef_47⟩ : ∃ zz_ : mF, zz_ = va_up f_42 (h 8) (some (.inl (gk G 0, 192, .inl (upd g_44 l6.toNatClampNeg x_46)))) := ⟨_, rfl⟩
                        rw [← ef_47] at hH
                        have F_48 := upk F_43 ef_47 (neM hj (by decide) (by decide) (by decide))
                        have hI : IM G h n T z A f_47 := hI.arr 8 (by decide) (by decide) (by decide) (by decide) (show okI G 0 192 (fun _ => True) _ from ⟨_, rfl, trivial⟩) ef_47
                        have hfr := hfr.up 8 (by decide) ef_47
                        have hkp := hkp.up 8 hj (by decide) (by decide) ef_47
                        obtain ⟨x_49, ex_49⟩ : ∃ y : Int32, y = l6 + 1 := ⟨_, rfl⟩
                        have ix_49 : x_49.toInt = l6.toInt + 1 := ic_add ex_49 rfl kI_1 (by omega) (by omega)
                        refine lv_iinc (v := x_49) (lv' := [(6, .int x_49), (0, .ref (h 0)), (1, .int o), (2, .int b), (3, .long v)]) hx hb dX6_call_223 hl (k := 4) rfl (by rw [ex_49]; rfl) (by decide) rfl (fun ls hl => ?_)
                        refine lv_goto (tgt := 160) hx hb dX6_call_226 (by decide) ?_
                        exact ih_160 x_49 f_47 he_D fe_D ca_D ga_D wh_D tm_D x_41 ac_D th_D st_D (by omega) (by omega) hI hfr (by omega) (by omega) F_48 (by omega) _ _ _ hH (lv_sub hl [1, 2, 3, 4, 0] rfl)
                exact loop_160 (((192 : Int) - 0).toNat + 1) 0 fC he_C fe_C ca_C ga_C wh_C tm_C wm_C ac_C th_C st_C (by have := kI_0; omega) (by have := kI_0; omega) hI hfr (by have := kI_0; omega) (by have := kI_0; omega) FC (by have := kI_0; omega) _ _ _ hH (lv_sub hl [1, 2, 3, 4, 0] rfl)
              · skip
                have ic_22 : (th_C.toInt : Int) > 0 := ic_nle rfl kI_0 c_22
                refine lv_aload_n hx hb dX6_call_147 rfl (lv_at hl 0 rfl) ?_
                refine lv_lconst (v := 0) hx hb dX6_call_148 (by decide) ?_
                refine m_put (ci := 6) (v := .long 0) (C := RX6) (T := TX6) (N := 30) hx hb hC hH hts in_X6_call_X6 tyX6 tyX6_ok nmX6 hown FC rfl 17 (by decide) (hts (.fieldLink RX6 186 "LazyStateModel" "gave" "J") (by decide +kernel)) rfl rfl rfl (Nat.le_of_ble_eq_true rfl) dX6_call_149 (fun H locs hH => ?_)
                have hH : mH G s (va_up fC (h 0) (some (.inr (6, [.int (nI n), .ref (h 1), .int he_C, .ref (h 3), .ref (h 4), .ref (h 5), .ref (h 6), .int fe_C, .ref (h 8), .ref (h 9), .ref (h 10), .ref (h 11), .ref (h 12), .ref (h 13), .ref (h 14), .ref (h 15), .int ca_C, .long 0, .int wh_C, .int tm_C, .ref (h 20), .ref (h 21), .int wm_C, .ref (h 23), .ref (h 24), .int ac_C, .ref (h 26), .ref (h 27), .int th_C, .int st_C])))) H locs := hH
                obtain ⟨f_50, ef_50⟩ : ∃ zz_ : mF, zz_ = va_up fC (h 0) (some (.inr (6, [.int (nI n), .ref (h 1), .int he_C, .ref (h 3), .ref (h 4), .ref (h 5), .ref (h 6), .int fe_C, .ref (h 8), .ref (h 9), .ref (h 10), .ref (h 11), .ref (h 12), .ref (h 13), .ref (h 14), .ref (h 15), .int ca_C, .long 0, .int wh_C, .int tm_C, .ref (h 20), .ref (h 21), .int wm_C, .ref (h 23), .ref (h 24), .int ac_C, .ref (h 26), .ref (h 27), .int th_C, .int st_C]))) := ⟨_, rfl⟩
                rw [← ef_50] at hH
                have F_51 : f_50 (h 0) = some (.inr (6, [.int (nI n), .ref (h 1), .int he_C, .ref (h 3), .ref (h 4), .ref (h 5), .ref (h 6), .int fe_C, .ref (h 8), .ref (h 9), .ref (h 10), .ref (h 11), .ref (h 12), .ref (h 13), .ref (h 14), .ref (h 15), .int ca_C, .long 0, .int wh_C, .int tm_C, .ref (h 20), .ref (h 21), .int wm_C, .ref (h 23), .ref (h 24), .int ac_C, .ref (h 26), .ref (h 27), .int th_C, .int st_C])) := by rw [ef_50]; exact va_up_self _ _ _
                have hI : IM G h n T z A f_50 := hI.obj FC ef_50 rfl ⟨_, _, _, _, _, _, _, _, _, _, rfl, by have := True.intro; have := True.intro; have := True.intro; have := True.intro; omega, by have := True.intro; have := True.intro; have := True.intro; have := True.intro; omega, by have := True.intro; have := True.intro; have := True.intro; have := True.intro; omega, by have := True.intro; have := True.intro; have := True.intro; have := True.intro; omega, by have := True.intro; have := True.intro; have := True.intro; have := True.intro; omega, by have := True.intro; have := True.intro; have := True.intro; have := True.intro; omega, by have := True.intro; have := True.intro; have := True.intro; have := True.intro; omega, by have := True.intro; have := True.intro; have := True.intro; have := True.intro; omega⟩
                have hfr := hfr.up 0 (by decide) ef_50
                have hkp := hkp.obj FC F_51 rfl rfl rfl
                have hg_52 := upk hg_19 ef_50 (neM hj (by decide) (by decide) (by decide))
                refine lv_aload_n hx hb dX6_call_152 rfl (lv_at hl 0 rfl) ?_
                refine m_get (ci := 6) (v := .int th_C) (C := RX6) (T := TX6) (N := 30) hx hb hC hH hts in_X6_call_X6 hown F_51 rfl 28 (by decide) (hts (.fieldLink RX6 155 "LazyStateModel" "threw" "I") (by decide +kernel)) rfl dX6_call_153 ?_
                exact m_iret (v := th_C) hx hb hr hlk hC hH (fun _ => (0, 0)) ⟨hI, hfr⟩ (Nat.le_of_ble_eq_true rfl) (Nat.le_of_ble_eq_true rfl) dX6_call_156
            · skip
              have ic_21 : (x_20.toInt : Int) > p5.toInt := ic_nle rfl rfl c_21
              refine lv_aload_n hx hb dX6_call_64 rfl (lv_at hl 0 rfl) ?_
              refine m_get (ci := 6) (v := .int th_C) (C := RX6) (T := TX6) (N := 30) hx hb hC hH hts in_X6_call_X6 hown FC rfl 28 (by decide) (hts (.fieldLink RX6 155 "LazyStateModel" "threw" "I") (by decide +kernel)) rfl dX6_call_65 ?_
              refine lv_if_ne (tgt := 140) hx hb dX6_call_68 (by decide) (fun c_53 => ?_) (fun c_53 => ?_)
              · skip
                have ic_53 : (th_C.toInt : Int) ≠ 0 := ic_ne rfl kI_0 c_53
                refine lv_aload_n hx hb dX6_call_140 rfl (lv_at hl 0 rfl) ?_
                refine m_get (ci := 6) (v := .int th_C) (C := RX6) (T := TX6) (N := 30) hx hb hC hH hts in_X6_call_X6 hown FC rfl 28 (by decide) (hts (.fieldLink RX6 155 "LazyStateModel" "threw" "I") (by decide +kernel)) rfl dX6_call_141 ?_
                refine lv_if_le (tgt := 157) hx hb dX6_call_144 (by decide) (fun c_54 => ?_) (fun c_54 => ?_)
                · skip
                  have ic_54 : (th_C.toInt : Int) ≤ 0 := ic_le rfl kI_0 c_54
                  refine lv_iconst (v := 0) hx hb dX6_call_157 (by decide) ?_
                  refine lv_istore (lv' := [(6, .int 0), (0, .ref (h 0)), (1, .int o), (2, .int b), (3, .long v), (5, .int p5)]) hx hb dX6_call_158 hl (by decide) rfl (fun ls hl => ?_)
                  have loop_160 : ∀ (fuel_ : Nat) (l6 : Int32) (fD : mF) (he_D : Int32) (fe_D : Int32) (ca_D : Int32) (ga_D : Int64) (wh_D : Int32) (tm_D : Int32) (wm_D : Int32) (ac_D : Int32) (th_D : Int32) (st_D : Int32) (h0_ : 0 ≤ l6.toInt) (h1_ : l6.toInt ≤ 192) (hI : IM G h n T z A fD) (hfr : frM h f fD) (hhe : he_D.toInt ≤ 39) (hwm : wm_D.toInt ≤ l6.toInt) (FD : fD (h 0) = some (.inr (6, [.int (nI n), .ref (h 1), .int he_D, .ref (h 3), .ref (h 4), .ref (h 5), .ref (h 6), .int fe_D, .ref (h 8), .ref (h 9), .ref (h 10), .ref (h 11), .ref (h 12), .ref (h 13), .ref (h 14), .ref (h 15), .int ca_D, .long ga_D, .int wh_D, .int tm_D, .ref (h 20), .ref (h 21), .int wm_D, .ref (h 23), .ref (h 24), .int ac_D, .ref (h 26), .ref (h 27), .int th_D, .int st_D]))) (_ : ((192 : Int) - l6.toInt).toNat < fuel_) (H : Heap) (locs : List Loc) (ls : Array Slot) (_ : mH G s fD H locs) (_ : lv_has ls 7 [(0, .ref (h 0)), (1, .int o), (2, .int b), (3, .long v), (6, .int l6)]), W p l e ({ frames := 6, cells := 0, slots := 0, locals := 155 } : Room) s m ([.ref (h 0), .int o, .int b, .long v] : List Value).toArray below meth c H locs (0 + 0 + 0 + 0) (0 + 0 + 0 + 0) (MQ below (va_Qi (fun (r : Int32) (u : mS) => IM G h n T z A u.2 ∧ frM h f u.2) (fun (u : mS) t => mW G u.2 t) (mA G)) ([.ref (h 0), .int o, .int b, .long v] : List Value).toArray s 0 0 (mA G)) (F0 m 160 ls []) := by
                    intro N_160
                    induction N_160 with
                    | zero => intro l6 fD he_D fe_D ca_D ga_D wh_D tm_D wm_D ac_D th_D st_D h0_ h1_ hI hfr hhe hwm FD hN; omega
                    | succ N_160 ih_160 =>
                      intro l6 fD he_D fe_D ca_D ga_D wh_D tm_D wm_D ac_D th_D st_D h0_ h1_ hI hfr hhe hwm FD hN_160 H locs ls hH hl
                      have hkp : kpM h fD fD := kpM.rf
                      have bD_ := okM0_b (hI.1 0 (by decide)) FD
                      refine lv_iload hx hb dX6_call_160 (lv_at hl 4 rfl) ?_
                      refine lv_sipush (v := 192) hx hb dX6_call_162 (by decide) ?_
                      refine lv_icmp_ge (tgt := 229) hx hb dX6_call_165 (by decide) (fun c_55 => ?_) (fun c_55 => ?_)
                      · skip
                        have ic_55 : (192 : Int) ≤ l6.toInt := ic_le kI_192 rfl c_55
                        refine lv_aload_n hx hb dX6_call_229 rfl (lv_at hl 0 rfl) ?_
                        refine m_get (ci := 6) (v := .int wm_D) (C := RX6) (T := TX6) (N := 30) hx hb hC hH hts in_X6_call_X6 hown FD rfl 22 (by decide) (hts (.fieldLink RX6 196 "LazyStateModel" "writtenMany" "I") (by decide +kernel)) rfl dX6_call_230 ?_
                        refine lv_if_le (tgt := 240) hx hb dX6_call_233 (by decide) (fun c_56 => ?_) (fun c_56 => ?_)
                        · skip
                          have ic_56 : (wm_D.toInt : Int) ≤ 0 := ic_le rfl kI_0 c_56
                          refine lv_iconst (v := 0) hx hb dX6_call_240 (by decide) ?_
                          exact m_iret (v := 0) hx hb hr hlk hC hH (fun _ => (0, 0)) ⟨hI, hfr⟩ (Nat.le_of_ble_eq_true rfl) (Nat.le_of_ble_eq_true rfl) dX6_call_241
                        · skip
                          have ic_56 : (wm_D.toInt : Int) > 0 := ic_nle rfl kI_0 c_56
                          refine lv_aload_n hx hb dX6_call_236 rfl (lv_at hl 0 rfl) ?_
                          refine m_gov hH (va_runV (As := []) (rest := []) ⟨hx, hb, hml, hown, hts⟩ (c_X6_rises l G h n T z A fD hI ⟨_, fldV_eq FD 2, by omega⟩ ) (cwV 0 hts gX6_call_X6_rises rfl rfl rfl (by decide +kernel) ⟨Nat.le_of_ble_eq_true rfl, Nat.le_of_ble_eq_true rfl⟩) (m_preV (ci := 6) hC hH FD rfl) rfl rfl hl.1 rfl (lv_room (Nat.le_of_ble_eq_true rfl)) dX6_call_237 ⟨Nat.le_of_ble_eq_true rfl, Nat.le_of_ble_eq_true rfl⟩) (fun rho_59 f_58 H locs hw hH => ?_)
                          obtain ⟨hI, hfr1⟩ := hw
                          have hI : IM G h n T z A f_58 := hI
                          have hfr1 : frM h fD f_58 := hfr1
                          have hfr := hfr.trans hfr1
                          have hkp : kpM h f_58 f_58 := kpM.rf
                          refine lv_iconst (v := 0) hx hb dX6_call_240 (by decide) ?_
                          exact m_iret (v := 0) hx hb hr hlk hC hH (fun _ => (0, 0)) ⟨hI, hfr⟩ (Nat.le_of_ble_eq_true rfl) (Nat.le_of_ble_eq_true rfl) dX6_call_241
                      · skip
                        have ic_55 : (192 : Int) > l6.toInt := ic_nle kI_192 rfl c_55
                        refine lv_aload_n hx hb dX6_call_168 rfl (lv_at hl 0 rfl) ?_
                        refine lv_iload hx hb dX6_call_169 (lv_at hl 4 rfl) ?_
                        refine m_goi hH (va_runS (As := [.int l6]) (rest := [.ref (h 0)]) ⟨hx, hb, hml, hown, hts⟩ (c_X6_at l G fD l6 (by exact ⟨by omega, by omega⟩)) (va_cwS 1 hts gX6_call_X6_at rfl rfl rfl (by decide +kernel) ⟨Nat.le_of_ble_eq_true rfl, Nat.le_of_ble_eq_true rfl⟩) (m_preS hC hH) rfl rfl hl.1 rfl (lv_room (Nat.le_of_ble_eq_true rfl)) dX6_call_171 ⟨Nat.le_of_ble_eq_true rfl, Nat.le_of_ble_eq_true rfl⟩) (fun r_60 rho_62 f_61 H locs hw hH => ?_)
                        obtain ⟨hu, hr_60⟩ := hw
                        have hu : f_61 = fD := hu
                        rw [hu] at hH
                        refine lv_sipush (v := 192) hx hb dX6_call_174 (by decide) ?_
                        refine lv_aload_n hx hb dX6_call_177 rfl (lv_at hl 0 rfl) ?_
                        refine m_get (ci := 6) (v := .int he_D) (C := RX6) (T := TX6) (N := 30) hx hb hC hH hts in_X6_call_X6 hown FD rfl 2 (by decide) (hts (.fieldLink RX6 104 "LazyStateModel" "height" "I") (by decide +kernel)) rfl dX6_call_178 ?_
                        refine lv_imul hx hb dX6_call_181 ?_
                        refine lv_topi (fun x_63 ex_63 => ?_)
                        have ix_63 : x_63.toInt = 192 * he_D.toInt := ic_mul ex_63 kI_192 rfl (by omega) (by omega)
                        refine lv_iload hx hb dX6_call_182 (lv_at hl 4 rfl) ?_
                        refine lv_iadd hx hb dX6_call_184 ?_
                        refine lv_topi (fun x_64 ex_64 => ?_)
                        have ix_64 : x_64.toInt = x_63.toInt + l6.toInt := ic_add ex_64 rfl rfl (by omega) (by omega)
                        refine m_goi hH (va_runV (As := [.int r_60, .int x_64]) (rest := []) ⟨hx, hb, hml, hown, hts⟩ (c_X6_areAlike l G h n T z A fD hI r_60 x_64 (by omega) (by omega)) (cwV 2 hts gX6_call_X6_areAlike rfl rfl rfl (by decide +kernel) ⟨Nat.le_of_ble_eq_true rfl, Nat.le_of_ble_eq_true rfl⟩) (m_preV (ci := 6) hC hH FD rfl) rfl rfl hl.1 rfl (lv_room (Nat.le_of_ble_eq_true rfl)) dX6_call_185 ⟨Nat.le_of_ble_eq_true rfl, Nat.le_of_ble_eq_true rfl⟩) (fun r_65 rho_67 f_66 H locs hw hH => ?_)
                        obtain ⟨hu, hr_65⟩ := hw
                        have hu : f_66 = fD := hu
                        rw [hu] at hH
                        refine lv_if_ne (tgt := 223) hx hb dX6_call_188 (by decide) (fun c_68 => ?_) (fun c_68 => ?_)
                        · skip
                          have ic_68 : (r_65.toInt : Int) ≠ 0 := ic_ne rfl kI_0 c_68
                          obtain ⟨x_69, ex_69⟩ : ∃ y : Int32, y = l6 + 1 := ⟨_, rfl⟩
                          have ix_69 : x_69.toInt = l6.toInt + 1 := ic_add ex_69 rfl kI_1 (by omega) (by omega)
                          refine lv_iinc (v := x_69) (lv' := [(6, .int x_69), (0, .ref (h 0)), (1, .int o), (2, .int b), (3, .long v)]) hx hb dX6_call_223 hl (k := 4) rfl (by rw [ex_69]; rfl) (by decide) rfl (fun ls hl => ?_)
                          refine lv_goto (tgt := 160) hx hb dX6_call_226 (by decide) ?_
                          exact ih_160 x_69 fD he_D fe_D ca_D ga_D wh_D tm_D wm_D ac_D th_D st_D (by omega) (by omega) hI hfr (by omega) (by omega) FD (by omega) _ _ _ hH (lv_sub hl [1, 2, 3, 4, 0] rfl)
                        · skip
                          have ic_68 : (r_65.toInt : Int) = 0 := ic_eq rfl kI_0 c_68
                          refine lv_aload_n hx hb dX6_call_191 rfl (lv_at hl 0 rfl) ?_
                          refine m_get (ci := 6) (v := .ref (h 23)) (C := RX6) (T := TX6) (N := 30) hx hb hC hH hts in_X6_call_X6 hown FD rfl 23 (by decide) (hts (.fieldLink RX6 62 "LazyStateModel" "written" "[I") (by decide +kernel)) rfl dX6_call_192 ?_
                          refine lv_aload_n hx hb dX6_call_195 rfl (lv_at hl 0 rfl) ?_
                          refine m_get (ci := 6) (v := .int wm_D) (C := RX6) (T := TX6) (N := 30) hx hb hC hH hts in_X6_call_X6 hown FD rfl 22 (by decide) (hts (.fieldLink RX6 196 "LazyStateModel" "writtenMany" "I") (by decide +kernel)) rfl dX6_call_196 ?_
                          refine lv_iload hx hb dX6_call_199 (lv_at hl 4 rfl) ?_
                          obtain ⟨g_70, hg_70, hp_70⟩ : okI G 0 192 (fun _ => True) (fD (h 23)) := hI.1 23 (by decide)
                          refine m_iast hx hb hC hH hg_70 (vp_in_iff.mpr ⟨by omega, by omega⟩) dX6_call_201 (fun H locs hH => ?_)
                          obtain ⟨f_71, ef_71⟩ : ∃ zz_ : mF, zz_ = va_up fD (h 23) (some (.inl (gk G 0, 192, .inl (upd g_70 wm_D.toNatClampNeg l6)))) := ⟨_, rfl⟩
                          rw [← ef_71] at hH
                          have F_72 := upk FD ef_71 (neM hj (by decide) (by decide) (by decide))
                          have hI : IM G h n T z A f_71 := hI.arr 23 (by decide) (by decide) (by decide) (by decide) (show okI G 0 192 (fun _ => True) _ from ⟨_, rfl, trivial⟩) ef_71
                          have hfr := hfr.up 23 (by decide) ef_71
                          have hkp := hkp.up 23 hj (by decide) (by decide) ef_71
                          refine lv_aload_n hx hb dX6_call_202 rfl (lv_at hl 0 rfl) ?_
                          refine lv_dup hx hb dX6_call_203 rfl ?_
                          refine m_get (ci := 6) (v := .int wm_D) (C := RX6) (T := TX6) (N := 30) hx hb hC hH hts in_X6_call_X6 hown F_72 rfl 22 (by decide) (hts (.fieldLink RX6 196 "LazyStateModel" "writtenMany" "I") (by decide +kernel)) rfl dX6_call_204 ?_
                          refine lv_iconst (v := 1) hx hb dX6_call_207 (by decide) ?_
                          refine lv_iadd hx hb dX6_call_208 ?_
                          refine lv_topi (fun x_73 ex_73 => ?_)
                          have ix_73 : x_73.toInt = wm_D.toInt + 1 := ic_add ex_73 rfl kI_1 (by omega) (by omega)
                          refine m_put (ci := 6) (v := .int x_73) (C := RX6) (T := TX6) (N := 30) hx hb hC hH hts in_X6_call_X6 tyX6 tyX6_ok nmX6 hown F_72 rfl 22 (by decide) (hts (.fieldLink RX6 196 "LazyStateModel" "writtenMany" "I") (by decide +kernel)) rfl rfl rfl (Nat.le_of_ble_eq_true rfl) dX6_call_209 (fun H locs hH => ?_)
                          have hH : mH G s (va_up f_71 (h 0) (some (.inr (6, [.int (nI n), .ref (h 1), .int he_D, .ref (h 3), .ref (h 4), .ref (h 5), .ref (h 6), .int fe_D, .ref (h 8), .ref (h 9), .ref (h 10), .ref (h 11), .ref (h 12), .ref (h 13), .ref (h 14), .ref (h 15), .int ca_D, .long ga_D, .int wh_D, .int tm_D, .ref (h 20), .ref (h 21), .int x_73, .ref (h 23), .ref (h 24), .int ac_D, .ref (h 26), .ref (h 27), .int th_D, .int st_D])))) H locs := hH
                          obtain ⟨f_74, ef_74⟩ : ∃ zz_ : mF, zz_ = va_up f_71 (h 0) (some (.inr (6, [.int (nI n), .ref (h 1), .int he_D, .ref (h 3), .ref (h 4), .ref (h 5), .ref (h 6), .int fe_D, .ref (h 8), .ref (h 9), .ref (h 10), .ref (h 11), .ref (h 12), .ref (h 13), .ref (h 14), .ref (h 15), .int ca_D, .long ga_D, .int wh_D, .int tm_D, .ref (h 20), .ref (h 21), .int x_73, .ref (h 23), .ref (h 24), .int ac_D, .ref (h 26), .ref (h 27), .int th_D, .int st_D]))) := ⟨_, rfl⟩
                          rw [← ef_74] at hH
                          have F_75 : f_74 (h 0) = some (.inr (6, [.int (nI n), .ref (h 1), .int he_D, .ref (h 3), .ref (h 4), .ref (h 5), .ref (h 6), .int fe_D, .ref (h 8), .ref (h 9), .ref (h 10), .ref (h 11), .ref (h 12), .ref (h 13), .ref (h 14), .ref (h 15), .int ca_D, .long ga_D, .int wh_D, .int tm_D, .ref (h 20), .ref (h 21), .int x_73, .ref (h 23), .ref (h 24), .int ac_D, .ref (h 26), .ref (h 27), .int th_D, .int st_D])) := by rw [ef_74]; exact va_up_self _ _ _
                          have hI : IM G h n T z A f_74 := hI.obj F_72 ef_74 rfl ⟨_, _, _, _, _, _, _, _, _, _, rfl, by omega, by omega, by omega, by omega, by omega, by omega, by omega, by omega⟩
                          have hfr := hfr.up 0 (by decide) ef_74
                          have hkp : kpM h f_74 f_74 := kpM.rf
                          refine lv_aload_n hx hb dX6_call_212 rfl (lv_at hl 0 rfl) ?_
                          refine m_get (ci := 6) (v := .ref (h 8)) (C := RX6) (T := TX6) (N := 30) hx hb hC hH hts in_X6_call_X6 hown F_75 rfl 8 (by decide) (hts (.fieldLink RX6 28 "LazyStateModel" "times" "[I") (by decide +kernel)) rfl dX6_call_213 ?_
                          refine lv_iload hx hb dX6_call_216 (lv_at hl 4 rfl) ?_
                          refine lv_dup2_11 hx hb dX6_call_218 rfl rfl ?_
                          obtain ⟨g_76, hg_76, hp_76⟩ : okI G 0 192 (fun _ => True) (f_74 (h 8)) := hI.1 8 (by decide)
                          refine m_iald hx hb hC hH hg_76 (vp_in_iff.mpr ⟨by omega, by omega⟩) dX6_call_219 ?_
                          refine lv_topi (fun x_77 ex_77 => ?_)
                          refine lv_iconst (v := 1) hx hb dX6_call_220 (by decide) ?_
                          refine lv_iadd hx hb dX6_call_221 ?_
                          refine lv_topi (fun x_78 ex_78 => ?_)
                          refine m_iast hx hb hC hH hg_76 (vp_in_iff.mpr ⟨by omega, by omega⟩) dX6_call_222 (fun H locs hH => ?_)
                          obtain ⟨f_79, ef_79⟩ : ∃ zz_ : mF, zz_ = va_up f_74 (h 8) (some (.inl (gk G 0, 192, .inl (upd g_76 l6.toNatClampNeg x_78)))) := ⟨_, rfl⟩
                          rw [← ef_79] at hH
                          have F_80 := upk F_75 ef_79 (neM hj (by decide) (by decide) (by decide))
                          have hI : IM G h n T z A f_79 := hI.arr 8 (by decide) (by decide) (by decide) (by decide) (show okI G 0 192 (fun _ => True) _ from ⟨_, rfl, trivial⟩) ef_79
                          have hfr := hfr.up 8 (by decide) ef_79
                          have hkp := hkp.up 8 hj (by decide) (by decide) ef_79
                          obtain ⟨x_81, ex_81⟩ : ∃ y : Int32, y = l6 + 1 := ⟨_, rfl⟩
                          have ix_81 : x_81.toInt = l6.toInt + 1 := ic_add ex_81 rfl kI_1 (by omega) (by omega)
                          refine lv_iinc (v := x_81) (lv' := [(6, .int x_81), (0, .ref (h 0)), (1, .int o), (2, .int b), (3, .long v)]) hx hb dX6_call_223 hl (k := 4) rfl (by rw [ex_81]; rfl) (by decide) rfl (fun ls hl => ?_)
                          refine lv_goto (tgt := 160) hx hb dX6_call_226 (by decide) ?_
                          exact ih_160 x_81 f_79 he_D fe_D ca_D ga_D wh_D tm_D x_73 ac_D th_D st_D (by omega) (by omega) hI hfr (by omega) (by omega) F_80 (by omega) _ _ _ hH (lv_sub hl [1, 2, 3, 4, 0] rfl)
                  exact loop_160 (((192 : Int) - 0).toNat + 1) 0 fC he_C fe_C ca_C ga_C wh_C tm_C wm_C ac_C th_C st_C (by have := kI_0; omega) (by have := kI_0; omega) hI hfr (by have := kI_0; omega) (by have := kI_0; omega) FC (by have := kI_0; omega) _ _ _ hH (lv_sub hl [1, 2, 3, 4, 0] rfl)
                · skip
                  have ic_54 : (th_C.toInt : Int) > 0 := ic_nle rfl kI_0 c_54
                  refine lv_aload_n hx hb dX6_call_147 rfl (lv_at hl 0 rfl) ?_
                  refine lv_lconst (v := 0) hx hb dX6_call_148 (by decide) ?_
                  refine m_put (ci := 6) (v := .long 0) (C := RX6) (T := TX6) (N := 30) hx hb hC hH hts in_X6_call_X6 tyX6 tyX6_ok nmX6 hown FC rfl 17 (by decide) (hts (.fieldLink RX6 186 "LazyStateModel" "gave" "J") (by decide +kernel)) rfl rfl rfl (Nat.le_of_ble_eq_true rfl) dX6_call_149 (fun H locs hH => ?_)
                  have hH : mH G s (va_up fC (h 0) (some (.inr (6, [.int (nI n), .ref (h 1), .int he_C, .ref (h 3), .ref (h 4), .ref (h 5), .ref (h 6), .int fe_C, .ref (h 8), .ref (h 9), .ref (h 10), .ref (h 11), .ref (h 12), .ref (h 13), .ref (h 14), .ref (h 15), .int ca_C, .long 0, .int wh_C, .int tm_C, .ref (h 20), .ref (h 21), .int wm_C, .ref (h 23), .ref (h 24), .int ac_C, .ref (h 26), .ref (h 27), .int th_C, .int st_C])))) H locs := hH
                  obtain ⟨f_82, ef_82⟩ : ∃ zz_ : mF, zz_ = va_up fC (h 0) (some (.inr (6, [.int (nI n), .ref (h 1), .int he_C, .ref (h 3), .ref (h 4), .ref (h 5), .ref (h 6), .int fe_C, .ref (h 8), .ref (h 9), .ref (h 10), .ref (h 11), .ref (h 12), .ref (h 13), .ref (h 14), .ref (h 15), .int ca_C, .long 0, .int wh_C, .int tm_C, .ref (h 20), .ref (h 21), .int wm_C, .ref (h 23), .ref (h 24), .int ac_C, .ref (h 26), .ref (h 27), .int th_C, .int st_C]))) := ⟨_, rfl⟩
                  rw [← ef_82] at hH
                  have F_83 : f_82 (h 0) = some (.inr (6, [.int (nI n), .ref (h 1), .int he_C, .ref (h 3), .ref (h 4), .ref (h 5), .ref (h 6), .int fe_C, .ref (h 8), .ref (h 9), .ref (h 10), .ref (h 11), .ref (h 12), .ref (h 13), .ref (h 14), .ref (h 15), .int ca_C, .long 0, .int wh_C, .int tm_C, .ref (h 20), .ref (h 21), .int wm_C, .ref (h 23), .ref (h 24), .int ac_C, .ref (h 26), .ref (h 27), .int th_C, .int st_C])) := by rw [ef_82]; exact va_up_self _ _ _
                  have hI : IM G h n T z A f_82 := hI.obj FC ef_82 rfl ⟨_, _, _, _, _, _, _, _, _, _, rfl, by have := True.intro; have := True.intro; have := True.intro; have := True.intro; omega, by have := True.intro; have := True.intro; have := True.intro; have := True.intro; omega, by have := True.intro; have := True.intro; have := True.intro; have := True.intro; omega, by have := True.intro; have := True.intro; have := True.intro; have := True.intro; omega, by have := True.intro; have := True.intro; have := True.intro; have := True.intro; omega, by have := True.intro; have := True.intro; have := True.intro; have := True.intro; omega, by have := True.intro; have := True.intro; have := True.intro; have := True.intro; omega, by have := True.intro; have := True.intro; have := True.intro; have := True.intro; omega⟩
                  have hfr := hfr.up 0 (by decide) ef_82
                  have hkp := hkp.obj FC F_83 rfl rfl rfl
                  have hg_84 := upk hg_19 ef_82 (neM hj (by decide) (by decide) (by decide))
                  refine lv_aload_n hx hb dX6_call_152 rfl (lv_at hl 0 rfl) ?_
                  refine m_get (ci := 6) (v := .int th_C) (C := RX6) (T := TX6) (N := 30) hx hb hC hH hts in_X6_call_X6 hown F_83 rfl 28 (by decide) (hts (.fieldLink RX6 155 "LazyStateModel" "threw" "I") (by decide +kernel)) rfl dX6_call_153 ?_
                  exact m_iret (v := th_C) hx hb hr hlk hC hH (fun _ => (0, 0)) ⟨hI, hfr⟩ (Nat.le_of_ble_eq_true rfl) (Nat.le_of_ble_eq_true rfl) dX6_call_156
              · skip
                have ic_53 : (th_C.toInt : Int) = 0 := ic_eq rfl kI_0 c_53
                refine lv_iload hx hb dX6_call_71 (lv_at hl 4 rfl) ?_
                refine lv_istore (lv' := [(6, .int p5), (0, .ref (h 0)), (1, .int o), (2, .int b), (3, .long v), (5, .int p5)]) hx hb dX6_call_73 hl (by decide) rfl (fun ls hl => ?_)
                refine lv_aload_n hx hb dX6_call_75 rfl (lv_at hl 1 rfl) ?_
                refine m_get (ci := 6) (v := .int ac_C) (C := RX6) (T := TX6) (N := 30) hx hb hC hH hts in_X6_call_X6 hown FC rfl 25 (by decide) (hts (.fieldLink RX6 199 "LazyStateModel" "acts" "I") (by decide +kernel)) rfl dX6_call_76 ?_
                refine lv_sipush (v := 200) hx hb dX6_call_79 (by decide) ?_
                refine lv_icmp_ne (tgt := 94) hx hb dX6_call_82 (by decide) (fun c_85 => ?_) (fun c_85 => ?_)
                · skip
                  have ic_85 : (ac_C.toInt : Int) ≠ 200 := ic_ne rfl kI_200 c_85
                  refine lv_aload_n hx hb dX6_call_94 rfl (lv_at hl 1 rfl) ?_
                  refine lv_dup hx hb dX6_call_95 rfl ?_
                  refine m_get (ci := 6) (v := .int ac_C) (C := RX6) (T := TX6) (N := 30) hx hb hC hH hts in_X6_call_X6 hown FC rfl 25 (by decide) (hts (.fieldLink RX6 199 "LazyStateModel" "acts" "I") (by decide +kernel)) rfl dX6_call_96 ?_
                  refine lv_iconst (v := 1) hx hb dX6_call_99 (by decide) ?_
                  refine lv_iadd hx hb dX6_call_100 ?_
                  refine lv_topi (fun x_86 ex_86 => ?_)
                  have ix_86 : x_86.toInt = ac_C.toInt + 1 := ic_add ex_86 rfl kI_1 (by omega) (by omega)
                  refine m_put (ci := 6) (v := .int x_86) (C := RX6) (T := TX6) (N := 30) hx hb hC hH hts in_X6_call_X6 tyX6 tyX6_ok nmX6 hown FC rfl 25 (by decide) (hts (.fieldLink RX6 199 "LazyStateModel" "acts" "I") (by decide +kernel)) rfl rfl rfl (Nat.le_of_ble_eq_true rfl) dX6_call_101 (fun H locs hH => ?_)
                  have hH : mH G s (va_up fC (h 0) (some (.inr (6, [.int (nI n), .ref (h 1), .int he_C, .ref (h 3), .ref (h 4), .ref (h 5), .ref (h 6), .int fe_C, .ref (h 8), .ref (h 9), .ref (h 10), .ref (h 11), .ref (h 12), .ref (h 13), .ref (h 14), .ref (h 15), .int ca_C, .long ga_C, .int wh_C, .int tm_C, .ref (h 20), .ref (h 21), .int wm_C, .ref (h 23), .ref (h 24), .int x_86, .ref (h 26), .ref (h 27), .int th_C, .int st_C])))) H locs := hH
                  obtain ⟨f_87, ef_87⟩ : ∃ zz_ : mF, zz_ = va_up fC (h 0) (some (.inr (6, [.int (nI n), .ref (h 1), .int he_C, .ref (h 3), .ref (h 4), .ref (h 5), .ref (h 6), .int fe_C, .ref (h 8), .ref (h 9), .ref (h 10), .ref (h 11), .ref (h 12), .ref (h 13), .ref (h 14), .ref (h 15), .int ca_C, .long ga_C, .int wh_C, .int tm_C, .ref (h 20), .ref (h 21), .int wm_C, .ref (h 23), .ref (h 24), .int x_86, .ref (h 26), .ref (h 27), .int th_C, .int st_C]))) := ⟨_, rfl⟩
                  rw [← ef_87] at hH
                  have F_88 : f_87 (h 0) = some (.inr (6, [.int (nI n), .ref (h 1), .int he_C, .ref (h 3), .ref (h 4), .ref (h 5), .ref (h 6), .int fe_C, .ref (h 8), .ref (h 9), .ref (h 10), .ref (h 11), .ref (h 12), .ref (h 13), .ref (h 14), .ref (h 15), .int ca_C, .long ga_C, .int wh_C, .int tm_C, .ref (h 20), .ref (h 21), .int wm_C, .ref (h 23), .ref (h 24), .int x_86, .ref (h 26), .ref (h 27), .int th_C, .int st_C])) := by rw [ef_87]; exact va_up_self _ _ _
                  have hI : IM G h n T z A f_87 := hI.obj FC ef_87 rfl ⟨_, _, _, _, _, _, _, _, _, _, rfl, by omega, by omega, by omega, by omega, by omega, by omega, by omega, by omega⟩
                  have hfr := hfr.up 0 (by decide) ef_87
                  have hkp : kpM h f_87 f_87 := kpM.rf
                  have hg_89 := upk hg_19 ef_87 (neM hj (by decide) (by decide) (by decide))
                  refine lv_aload_n hx hb dX6_call_104 rfl (lv_at hl 1 rfl) ?_
                  refine lv_bipush (v := 32) hx hb dX6_call_105 (by decide) ?_
                  refine lv_iload_n hx hb dX6_call_107 rfl (lv_at hl 3 rfl) ?_
                  refine lv_imul hx hb dX6_call_108 ?_
                  refine lv_topi (fun x_90 ex_90 => ?_)
                  have ix_90 : x_90.toInt = 32 * b.toInt := ic_mul ex_90 kI_32 rfl (by omega) (by omega)
                  refine lv_iload hx hb dX6_call_109 (lv_at hl 5 rfl) ?_
                  refine lv_iadd hx hb dX6_call_111 ?_
                  refine lv_topi (fun x_91 ex_91 => ?_)
                  have ix_91 : x_91.toInt = x_90.toInt + p5.toInt := ic_add ex_91 rfl rfl (by omega) (by omega)
                  refine lv_iload hx hb dX6_call_112 (lv_at hl 5 rfl) ?_
                  refine m_goi hH (va_runV (As := [.int x_91, .int p5]) (rest := []) ⟨hx, hb, hml, hown, hts⟩ (c_X6_does l G h n T z A f_87 hI (by omega) x_91 (32 * b.toNatClampNeg + p5.toNatClampNeg) (by have := ic_clN (rfl : b.toInt = _) (by omega); have := ic_clN (rfl : p5.toInt = _) (by omega); exact vld_mk (by omega) (by omega) (hI.2.2.2.2.1 _)) (by have := ic_clN (rfl : b.toInt = _) (by omega); have := ic_clN (rfl : p5.toInt = _) (by omega); omega) p5 (by omega) ) (cwV 2 hts gX6_call_X6_does rfl rfl rfl (by decide +kernel) ⟨Nat.le_of_ble_eq_true rfl, Nat.le_of_ble_eq_true rfl⟩) (m_preV (ci := 6) hC hH F_88 rfl) rfl rfl hl.1 rfl (lv_room (Nat.le_of_ble_eq_true rfl)) dX6_call_114 ⟨Nat.le_of_ble_eq_true rfl, Nat.le_of_ble_eq_true rfl⟩) (fun r_92 rho_94 f_93 H locs hw hH => ?_)
                  obtain ⟨hI, hfr1, hkp1, hr_92⟩ := hw
                  have hI : IM G h n T z A f_93 := hI
                  have hfr1 : frM h f_87 f_93 := hfr1
                  have hkp1 : kpM h f_87 f_93 := hkp1
                  try dsimp only at hr_92
                  have hfr := hfr.trans hfr1
                  have hkp := hkp.trans hkp1
                  obtain ⟨he_95, fe_95, ca_95, ga_95, wh_95, tm_95, wm_95, ac_95, th_95, st_95, F_95, b1_95, b2_95, b3_95, b4_95, b5_95, b6_95, b7_95, b8_95⟩ : okM0 h n (f_93 (h 0)) := hI.1 0 (by decide)
                  have kk_wm_95 : wm_95.toInt = wm_C.toInt := (congrArg Int32.toInt (show wm_95 = wm_C from Value.int.inj (by have q := hkp1.1; rw [fldV_eq F_95, fldV_eq F_88] at q; exact q))).trans rfl
                  have kk_ac_95 : ac_95.toInt = x_86.toInt := (congrArg Int32.toInt (show ac_95 = x_86 from Value.int.inj (by have q := hkp1.2.1; rw [fldV_eq F_95, fldV_eq F_88] at q; exact q))).trans rfl
                  have kk_he_95 : he_95.toInt = he_C.toInt := (congrArg Int32.toInt (show he_95 = he_C from Value.int.inj (by have q := hkp1.2.2; rw [fldV_eq F_95, fldV_eq F_88] at q; exact q))).trans rfl
                  refine lv_istore (lv' := [(5, .int r_92), (6, .int p5), (0, .ref (h 0)), (1, .int o), (2, .int b), (3, .long v)]) hx hb dX6_call_117 hl (by decide) rfl (fun ls hl => ?_)
                  refine lv_aload_n hx hb dX6_call_119 rfl (lv_at hl 2 rfl) ?_
                  refine lv_aload_n hx hb dX6_call_120 rfl (lv_at hl 2 rfl) ?_
                  refine m_get (ci := 6) (v := .int th_95) (C := RX6) (T := TX6) (N := 30) hx hb hC hH hts in_X6_call_X6 hown F_95 rfl 28 (by decide) (hts (.fieldLink RX6 155 "LazyStateModel" "threw" "I") (by decide +kernel)) rfl dX6_call_121 ?_
                  refine lv_if_le (tgt := 132) hx hb dX6_call_124 (by decide) (fun c_96 => ?_) (fun c_96 => ?_)
                  · skip
                    have ic_96 : (th_95.toInt : Int) ≤ 0 := ic_le rfl kI_0 c_96
                    refine lv_bipush (v := (-3)) hx hb dX6_call_132 (by decide) ?_
                    refine m_put (ci := 6) (v := .int (-3)) (C := RX6) (T := TX6) (N := 30) hx hb hC hH hts in_X6_call_X6 tyX6 tyX6_ok nmX6 hown F_95 rfl 18 (by decide) (hts (.fieldLink RX6 52 "LazyStateModel" "where" "I") (by decide +kernel)) rfl rfl rfl (Nat.le_of_ble_eq_true rfl) dX6_call_134 (fun H locs hH => ?_)
                    have hH : mH G s (va_up f_93 (h 0) (some (.inr (6, [.int (nI n), .ref (h 1), .int he_95, .ref (h 3), .ref (h 4), .ref (h 5), .ref (h 6), .int fe_95, .ref (h 8), .ref (h 9), .ref (h 10), .ref (h 11), .ref (h 12), .ref (h 13), .ref (h 14), .ref (h 15), .int ca_95, .long ga_95, .int (-3), .int tm_95, .ref (h 20), .ref (h 21), .int wm_95, .ref (h 23), .ref (h 24), .int ac_95, .ref (h 26), .ref (h 27), .int th_95, .int st_95])))) H locs := hH
                    obtain ⟨f_97, ef_97⟩ : ∃ zz_ : mF, zz_ = va_up f_93 (h 0) (some (.inr (6, [.int (nI n), .ref (h 1), .int he_95, .ref (h 3), .ref (h 4), .ref (h 5), .ref (h 6), .int fe_95, .ref (h 8), .ref (h 9), .ref (h 10), .ref (h 11), .ref (h 12), .ref (h 13), .ref (h 14), .ref (h 15), .int ca_95, .long ga_95, .int (-3), .int tm_95, .ref (h 20), .ref (h 21), .int wm_95, .ref (h 23), .ref (h 24), .int ac_95, .ref (h 26), .ref (h 27), .int th_95, .int st_95]))) := ⟨_, rfl⟩
                    rw [← ef_97] at hH
                    have F_98 : f_97 (h 0) = some (.inr (6, [.int (nI n), .ref (h 1), .int he_95, .ref (h 3), .ref (h 4), .ref (h 5), .ref (h 6), .int fe_95, .ref (h 8), .ref (h 9), .ref (h 10), .ref (h 11), .ref (h 12), .ref (h 13), .ref (h 14), .ref (h 15), .int ca_95, .long ga_95, .int (-3), .int tm_95, .ref (h 20), .ref (h 21), .int wm_95, .ref (h 23), .ref (h 24), .int ac_95, .ref (h 26), .ref (h 27), .int th_95, .int st_95])) := by rw [ef_97]; exact va_up_self _ _ _
                    have hI : IM G h n T z A f_97 := hI.obj F_95 ef_97 rfl ⟨_, _, _, _, _, _, _, _, _, _, rfl, by have := True.intro; have := True.intro; have := True.intro; have := True.intro; omega, by have := True.intro; have := True.intro; have := True.intro; have := True.intro; omega, by have := True.intro; have := True.intro; have := True.intro; have := True.intro; omega, by have := True.intro; have := True.intro; have := True.intro; have := True.intro; omega, by have := True.intro; have := True.intro; have := True.intro; have := True.intro; omega, by have := True.intro; have := True.intro; have := True.intro; have := True.intro; omega, by have := True.intro; have := True.intro; have := True.intro; have := True.intro; omega, by have := True.intro; have := True.intro; have := True.intro; have := True.intro; omega⟩
                    have hfr := hfr.up 0 (by decide) ef_97
                    have hkp := hkp.obj F_95 F_98 rfl rfl rfl
                    refine lv_goto (tgt := 53) hx hb dX6_call_137 (by decide) ?_
                    exact ih_53 r_92 f_97 he_95 fe_95 ca_95 ga_95 (-3) tm_95 wm_95 ac_95 th_95 st_95 1 (by omega) (by omega) hI hfr (by omega) (fun q_ => by have := kI_m3; omega) (by omega) (by omega) F_98 (by omega) _ _ _ hH (lv_sub hl [2, 3, 4, 5, 0] rfl)
                  · skip
                    have ic_96 : (th_95.toInt : Int) > 0 := ic_nle rfl kI_0 c_96
                    refine lv_iload hx hb dX6_call_127 (lv_at hl 1 rfl) ?_
                    refine lv_goto (tgt := 134) hx hb dX6_call_129 (by decide) ?_
                    refine m_put (ci := 6) (v := .int p5) (C := RX6) (T := TX6) (N := 30) hx hb hC hH hts in_X6_call_X6 tyX6 tyX6_ok nmX6 hown F_95 rfl 18 (by decide) (hts (.fieldLink RX6 52 "LazyStateModel" "where" "I") (by decide +kernel)) rfl rfl rfl (Nat.le_of_ble_eq_true rfl) dX6_call_134 (fun H locs hH => ?_)
                    have hH : mH G s (va_up f_93 (h 0) (some (.inr (6, [.int (nI n), .ref (h 1), .int he_95, .ref (h 3), .ref (h 4), .ref (h 5), .ref (h 6), .int fe_95, .ref (h 8), .ref (h 9), .ref (h 10), .ref (h 11), .ref (h 12), .ref (h 13), .ref (h 14), .ref (h 15), .int ca_95, .long ga_95, .int p5, .int tm_95, .ref (h 20), .ref (h 21), .int wm_95, .ref (h 23), .ref (h 24), .int ac_95, .ref (h 26), .ref (h 27), .int th_95, .int st_95])))) H locs := hH
                    obtain ⟨f_99, ef_99⟩ : ∃ zz_ : mF, zz_ = va_up f_93 (h 0) (some (.inr (6, [.int (nI n), .ref (h 1), .int he_95, .ref (h 3), .ref (h 4), .ref (h 5), .ref (h 6), .int fe_95, .ref (h 8), .ref (h 9), .ref (h 10), .ref (h 11), .ref (h 12), .ref (h 13), .ref (h 14), .ref (h 15), .int ca_95, .long ga_95, .int p5, .int tm_95, .ref (h 20), .ref (h 21), .int wm_95, .ref (h 23), .ref (h 24), .int ac_95, .ref (h 26), .ref (h 27), .int th_95, .int st_95]))) := ⟨_, rfl⟩
                    rw [← ef_99] at hH
                    have F_100 : f_99 (h 0) = some (.inr (6, [.int (nI n), .ref (h 1), .int he_95, .ref (h 3), .ref (h 4), .ref (h 5), .ref (h 6), .int fe_95, .ref (h 8), .ref (h 9), .ref (h 10), .ref (h 11), .ref (h 12), .ref (h 13), .ref (h 14), .ref (h 15), .int ca_95, .long ga_95, .int p5, .int tm_95, .ref (h 20), .ref (h 21), .int wm_95, .ref (h 23), .ref (h 24), .int ac_95, .ref (h 26), .ref (h 27), .int th_95, .int st_95])) := by rw [ef_99]; exact va_up_self _ _ _
                    have hI : IM G h n T z A f_99 := hI.obj F_95 ef_99 rfl ⟨_, _, _, _, _, _, _, _, _, _, rfl, by omega, by omega, by omega, by omega, by omega, by omega, by omega, by omega⟩
                    have hfr := hfr.up 0 (by decide) ef_99
                    have hkp := hkp.obj F_95 F_100 rfl rfl rfl
                    refine lv_goto (tgt := 53) hx hb dX6_call_137 (by decide) ?_
                    exact ih_53 r_92 f_99 he_95 fe_95 ca_95 ga_95 p5 tm_95 wm_95 ac_95 th_95 st_95 1 (by omega) (by omega) hI hfr (by omega) (fun q_ => by omega) (by omega) (by omega) F_100 (by omega) _ _ _ hH (lv_sub hl [2, 3, 4, 5, 0] rfl)
                · skip
                  have ic_85 : (ac_C.toInt : Int) = 200 := ic_eq rfl kI_200 c_85
                  refine lv_aload_n hx hb dX6_call_85 rfl (lv_at hl 1 rfl) ?_
                  refine lv_bipush (v := 7) hx hb dX6_call_86 (by decide) ?_
                  refine m_put (ci := 6) (v := .int 7) (C := RX6) (T := TX6) (N := 30) hx hb hC hH hts in_X6_call_X6 tyX6 tyX6_ok nmX6 hown FC rfl 28 (by decide) (hts (.fieldLink RX6 155 "LazyStateModel" "threw" "I") (by decide +kernel)) rfl rfl rfl (Nat.le_of_ble_eq_true rfl) dX6_call_88 (fun H locs hH => ?_)
                  have hH : mH G s (va_up fC (h 0) (some (.inr (6, [.int (nI n), .ref (h 1), .int he_C, .ref (h 3), .ref (h 4), .ref (h 5), .ref (h 6), .int fe_C, .ref (h 8), .ref (h 9), .ref (h 10), .ref (h 11), .ref (h 12), .ref (h 13), .ref (h 14), .ref (h 15), .int ca_C, .long ga_C, .int wh_C, .int tm_C, .ref (h 20), .ref (h 21), .int wm_C, .ref (h 23), .ref (h 24), .int ac_C, .ref (h 26), .ref (h 27), .int 7, .int st_C])))) H locs := hH
                  obtain ⟨f_101, ef_101⟩ : ∃ zz_ : mF, zz_ = va_up fC (h 0) (some (.inr (6, [.int (nI n), .ref (h 1), .int he_C, .ref (h 3), .ref (h 4), .ref (h 5), .ref (h 6), .int fe_C, .ref (h 8), .ref (h 9), .ref (h 10), .ref (h 11), .ref (h 12), .ref (h 13), .ref (h 14), .ref (h 15), .int ca_C, .long ga_C, .int wh_C, .int tm_C, .ref (h 20), .ref (h 21), .int wm_C, .ref (h 23), .ref (h 24), .int ac_C, .ref (h 26), .ref (h 27), .int 7, .int st_C]))) := ⟨_, rfl⟩
                  rw [← ef_101] at hH
                  have F_102 : f_101 (h 0) = some (.inr (6, [.int (nI n), .ref (h 1), .int he_C, .ref (h 3), .ref (h 4), .ref (h 5), .ref (h 6), .int fe_C, .ref (h 8), .ref (h 9), .ref (h 10), .ref (h 11), .ref (h 12), .ref (h 13), .ref (h 14), .ref (h 15), .int ca_C, .long ga_C, .int wh_C, .int tm_C, .ref (h 20), .ref (h 21), .int wm_C, .ref (h 23), .ref (h 24), .int ac_C, .ref (h 26), .ref (h 27), .int 7, .int st_C])) := by rw [ef_101]; exact va_up_self _ _ _
                  have hI : IM G h n T z A f_101 := hI.obj FC ef_101 rfl ⟨_, _, _, _, _, _, _, _, _, _, rfl, by have := True.intro; have := True.intro; have := True.intro; have := True.intro; omega, by have := True.intro; have := True.intro; have := True.intro; have := True.intro; omega, by have := True.intro; have := True.intro; have := True.intro; have := True.intro; omega, by have := True.intro; have := True.intro; have := True.intro; have := True.intro; omega, by have := True.intro; have := True.intro; have := True.intro; have := True.intro; omega, by have := True.intro; have := True.intro; have := True.intro; have := True.intro; omega, by have := True.intro; have := True.intro; have := True.intro; have := True.intro; omega, by have := True.intro; have := True.intro; have := True.intro; have := True.intro; omega⟩
                  have hfr := hfr.up 0 (by decide) ef_101
                  have hkp := hkp.obj FC F_102 rfl rfl rfl
                  have hg_103 := upk hg_19 ef_101 (neM hj (by decide) (by decide) (by decide))
                  refine lv_goto (tgt := 119) hx hb dX6_call_91 (by decide) ?_
                  refine lv_aload_n hx hb dX6_call_119 rfl (lv_at hl 1 rfl) ?_
                  refine lv_aload_n hx hb dX6_call_120 rfl (lv_at hl 1 rfl) ?_
                  refine m_get (ci := 6) (v := .int 7) (C := RX6) (T := TX6) (N := 30) hx hb hC hH hts in_X6_call_X6 hown F_102 rfl 28 (by decide) (hts (.fieldLink RX6 155 "LazyStateModel" "threw" "I") (by decide +kernel)) rfl dX6_call_121 ?_
                  refine lv_if_le (tgt := 132) hx hb dX6_call_124 (by decide) (fun c_104 => ?_) (fun c_104 => ?_)
                  · skip
                    have ic_104 : (7 : Int) ≤ 0 := ic_le kI_7 kI_0 c_104
                    omega
                  · skip
                    have ic_104 : (7 : Int) > 0 := ic_nle kI_7 kI_0 c_104
                    refine lv_iload hx hb dX6_call_127 (lv_at hl 0 rfl) ?_
                    refine lv_goto (tgt := 134) hx hb dX6_call_129 (by decide) ?_
                    refine m_put (ci := 6) (v := .int p5) (C := RX6) (T := TX6) (N := 30) hx hb hC hH hts in_X6_call_X6 tyX6 tyX6_ok nmX6 hown F_102 rfl 18 (by decide) (hts (.fieldLink RX6 52 "LazyStateModel" "where" "I") (by decide +kernel)) rfl rfl rfl (Nat.le_of_ble_eq_true rfl) dX6_call_134 (fun H locs hH => ?_)
                    have hH : mH G s (va_up f_101 (h 0) (some (.inr (6, [.int (nI n), .ref (h 1), .int he_C, .ref (h 3), .ref (h 4), .ref (h 5), .ref (h 6), .int fe_C, .ref (h 8), .ref (h 9), .ref (h 10), .ref (h 11), .ref (h 12), .ref (h 13), .ref (h 14), .ref (h 15), .int ca_C, .long ga_C, .int p5, .int tm_C, .ref (h 20), .ref (h 21), .int wm_C, .ref (h 23), .ref (h 24), .int ac_C, .ref (h 26), .ref (h 27), .int 7, .int st_C])))) H locs := hH
                    obtain ⟨f_105, ef_105⟩ : ∃ zz_ : mF, zz_ = va_up f_101 (h 0) (some (.inr (6, [.int (nI n), .ref (h 1), .int he_C, .ref (h 3), .ref (h 4), .ref (h 5), .ref (h 6), .int fe_C, .ref (h 8), .ref (h 9), .ref (h 10), .ref (h 11), .ref (h 12), .ref (h 13), .ref (h 14), .ref (h 15), .int ca_C, .long ga_C, .int p5, .int tm_C, .ref (h 20), .ref (h 21), .int wm_C, .ref (h 23), .ref (h 24), .int ac_C, .ref (h 26), .ref (h 27), .int 7, .int st_C]))) := ⟨_, rfl⟩
                    rw [← ef_105] at hH
                    have F_106 : f_105 (h 0) = some (.inr (6, [.int (nI n), .ref (h 1), .int he_C, .ref (h 3), .ref (h 4), .ref (h 5), .ref (h 6), .int fe_C, .ref (h 8), .ref (h 9), .ref (h 10), .ref (h 11), .ref (h 12), .ref (h 13), .ref (h 14), .ref (h 15), .int ca_C, .long ga_C, .int p5, .int tm_C, .ref (h 20), .ref (h 21), .int wm_C, .ref (h 23), .ref (h 24), .int ac_C, .ref (h 26), .ref (h 27), .int 7, .int st_C])) := by rw [ef_105]; exact va_up_self _ _ _
                    have hI : IM G h n T z A f_105 := hI.obj F_102 ef_105 rfl ⟨_, _, _, _, _, _, _, _, _, _, rfl, by have := True.intro; have := True.intro; have := True.intro; have := True.intro; omega, by have := True.intro; have := True.intro; have := True.intro; have := True.intro; omega, by have := True.intro; have := True.intro; have := True.intro; have := True.intro; omega, by have := True.intro; have := True.intro; have := True.intro; have := True.intro; omega, by have := True.intro; have := True.intro; have := True.intro; have := True.intro; omega, by have := True.intro; have := True.intro; have := True.intro; have := True.intro; omega, by have := True.intro; have := True.intro; have := True.intro; have := True.intro; omega, by have := True.intro; have := True.intro; have := True.intro; have := True.intro; omega⟩
                    have hfr := hfr.up 0 (by decide) ef_105
                    have hkp := hkp.obj F_102 F_106 rfl rfl rfl
                    have hg_107 := upk hg_103 ef_105 (neM hj (by decide) (by decide) (by decide))
                    refine lv_goto (tgt := 53) hx hb dX6_call_137 (by decide) ?_
                    exact ih_53 p5 f_105 he_C fe_C ca_C ga_C p5 tm_C wm_C ac_C 7 st_C 0 (by omega) (by omega) hI hfr (by omega) (fun q_ => by have := kI_7; omega) (by omega) (by omega) F_106 (by omega) _ _ _ hH (lv_sub hl [1, 2, 3, 4, 5] rfl)
        exact loop_53 ((200 - ac_18.toInt).toNat + 1 + 1) 0 f_16 he_18 fe_18 ca_18 ga_18 wh_18 tm_18 wm_18 ac_18 th_18 st_18 1 (by have := kI_0; omega) (by have := kI_0; omega) hI hfr (by have := kI_0; omega) (fun q_ => by omega) (by have := kI_0; omega) (by have := kI_0; omega) F_18 (by have := kI_0; omega) _ _ _ hH (lv_sub hl [1, 2, 3, 4, 0] rfl)
      · skip
        have ic_11 : (he_4.toInt : Int) = 40 := ic_eq rfl kI_40 c_11
        refine lv_bipush (v := (-2)) hx hb dX6_call_31 (by decide) ?_
        exact m_iret (v := (-2)) hx hb hr hlk hC hH (fun _ => (0, 0)) ⟨hI, hfr⟩ (Nat.le_of_ble_eq_true rfl) (Nat.le_of_ble_eq_true rfl) dX6_call_33
    · skip
      have ic_10 : (r_7.toInt : Int) = 0 := ic_eq rfl kI_0 c_10
      refine lv_iconst (v := (-1)) hx hb dX6_call_20 (by decide) ?_
      exact m_iret (v := (-1)) hx hb hr hlk hC hH (fun _ => (0, 0)) ⟨hI, hfr⟩ (Nat.le_of_ble_eq_true rfl) (Nat.le_of_ble_eq_true rfl) dX6_call_21
