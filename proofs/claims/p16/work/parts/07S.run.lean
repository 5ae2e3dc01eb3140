set_option maxHeartbeats 4000000 in
set_option maxRecDepth 100000 in
theorem c_X3_start (l : Launch) (G : mG) (k : Nat → Nat) (own : tR) (n : Nat) (T z : Nat → Nat) (i : Nat) (hi : i < 3) (D : tD) (f : mF) (hM : CM G k own n z D f) (hbs : bsC n T) (hwf : wfC i n T D) (bd : Nat → tB) (hob : ∀ q, q < n → obO T D q (bd q)) (hbd : ∀ q, q < n → okBd n (T q) (bd q)) (l0 : List Nat) (hT0 : TRC l0 (eD D i) (ID D (5 + 8 * i + 2)) (ID D (5 + 8 * i + 3)) (ID D (5 + 8 * i + 4))) (o : Int32) (v : Int64) (ho : okHa n o) : Met l yX3_start wsX3_start ({ frames := 2, cells := 0, slots := 0, locals := 43 }) (va_Pc [.ref (k (5 + 8 * i)), .ref (k 1), .int o, .long v] (mW G f)) (va_Qv (fun (u : mS) => (∃ nx2, RN G k u.1 n T z i D 0 0 (-3) nx2 (s0C bd o v) u.2) ∧ frD own f u.1 u.2) (fun (u : mS) t => mW G u.2 t) (mA G)) 0 0 (mA G) := by
  refine mMet [.ref (k (5 + 8 * i)), .ref (k 1), .int o, .long v] (cc := cX3_start) (maxL := 5) (ret := none) (by decide) rfl (Nat.le_of_ble_eq_true rfl) ?_
  intro p e s m below meth c ls hx hb hr hml hts hown hlk hnm hC hH hl
  have hl : lv_has ls 5 [(0, .ref (k (5 + 8 * i))), (1, .ref (k 1)), (2, .int o), (3, .long v)] := hl
  have hK : KP i D D := KP.rf
  have hfr : frD own f own f := frD.rf
  have hBe : BD D = BD D := rfl
  have hQe : QD D = QD D := rfl
  obtain ⟨⟨lb_, dn_, gf_, th_, ta_, st_, nx_⟩, hqr⟩ : ∃ q_ : tQ, rD D i = q_ := ⟨_, rfl⟩
  refine lv_aload_n hx hb dX3_start_0 rfl (lv_at hl 0 rfl) ?_
  refine lv_aload_n hx hb dX3_start_1 rfl (lv_at hl 1 rfl) ?_
  have F_1 : f (k (5 + 8 * i)) = some (.inr (3, [.ref (k (5 + 8 * i + 1)), .int lb_, .int dn_, .long gf_, .int th_, .int ta_, va_rf st_, .ref (k (5 + 8 * i + 5)), .ref (k (5 + 8 * i + 6)), .ref (k (5 + 8 * i + 7)), .int nx_])) := by have w_ := hM.r0 i hi; rw [hqr] at w_; exact w_
  refine m_put (ci := 3) (v := .ref (k 1)) (C := RX3) (T := TX3) (N := 11) hx hb hC hH hts in_X3_start_X3 tyX3 tyX3_ok nmX3 hown F_1 rfl 6 (by decide) (hts (.fieldLink RX3 36 "LazyState$Run" "state" "[LLazyState$Body;") (by decide +kernel)) rfl rfl rfl (Nat.le_of_ble_eq_true rfl) dX3_start_2 (fun H locs hH => ?_)
  have hH : mH G s (va_up f (k (5 + 8 * i)) (some (.inr (3, [.ref (k (5 + 8 * i + 1)), .int lb_, .int dn_, .long gf_, .int th_, .int ta_, .ref (k 1), .ref (k (5 + 8 * i + 5)), .ref (k (5 + 8 * i + 6)), .ref (k (5 + 8 * i + 7)), .int nx_])))) H locs := hH
  obtain ⟨f_2, ef_2⟩ : ∃ zz_ : mF, zz_ = va_up f (k (5 + 8 * i)) (some (.inr (3, [.ref (k (5 + 8 * i + 1)), .int lb_, .int dn_, .long gf_, .int th_, .int ta_, .ref (k 1), .ref (k (5 + 8 * i + 5)), .ref (k (5 + 8 * i + 6)), .ref (k (5 + 8 * i + 7)), .int nx_]))) := ⟨_, rfl⟩
  rw [← ef_2] at hH
  have hM := hM.setR (i0 := i) hi (q := (lb_, dn_, gf_, th_, ta_, some (k 1), nx_)) ef_2
  have hfr := hfr.up (by rw [hM.ok (5 + 8 * i) (by omega)]; exact (by decide : (1 : Nat) ≠ 0)) ef_2
  obtain ⟨D_3, eD_3⟩ : ∃ d_ : tD, d_ = dR D i (lb_, dn_, gf_, th_, ta_, some (k 1), nx_) := ⟨_, rfl⟩
  have hM : CM G k own n z D_3 f_2 := by rw [eD_3]; exact hM
  have hK : KP i D D_3 := by rw [eD_3]; exact hK.R
  have hBe : BD D_3 = BD D := by rw [eD_3]; exact hBe
  have hQe : QD D_3 = QD D := by rw [eD_3]; exact hQe
  have hqr : rD D_3 i = (lb_, dn_, gf_, th_, ta_, some (k 1), nx_) := by rw [eD_3]; exact va_up_self _ _ _
  have hT0 : TRC l0 (eD D_3 i) (ID D_3 (5 + 8 * i + 2)) (ID D_3 (5 + 8 * i + 3)) (ID D_3 (5 + 8 * i + 4)) := by rw [eD_3]; exact hT0
  refine lv_aload_n hx hb dX3_start_5 rfl (lv_at hl 0 rfl) ?_
  have F_4 : f_2 (k (5 + 8 * i)) = some (.inr (3, [.ref (k (5 + 8 * i + 1)), .int lb_, .int dn_, .long gf_, .int th_, .int ta_, va_rf (some (k 1)), .ref (k (5 + 8 * i + 5)), .ref (k (5 + 8 * i + 6)), .ref (k (5 + 8 * i + 7)), .int nx_])) := by have w_ := hM.r0 i hi; rw [hqr] at w_; exact w_
  refine m_get (ci := 3) (v := .ref (k (5 + 8 * i + 1))) (C := RX3) (T := TX3) (N := 11) hx hb hC hH hts in_X3_start_X3 hown F_4 rfl 0 (by decide) (hts (.fieldLink RX3 12 "LazyState$Run" "trace" "LLazyState$Trace;") (by decide +kernel)) rfl dX3_start_6 ?_
  have F_8 := hM.r1 i hi
  refine m_gov hH (va_runV (As := []) (rest := []) ⟨hx, hb, hml, hown, hts⟩ (c_X4_restart l G k f_2 i hi hM.kne l0 ⟨_, _, _, _, hM.r1 i hi, hM.r2 i hi, hM.r3 i hi, hM.r4 i hi, hT0⟩) (cwV 0 hts gX3_start_X4_restart rfl rfl rfl (by decide +kernel) ⟨Nat.le_of_ble_eq_true rfl, Nat.le_of_ble_eq_true rfl⟩) (m_preV (ci := 4) hC hH F_8 rfl) rfl rfl hl.1 rfl (lv_room (Nat.le_of_ble_eq_true rfl)) dX3_start_9 ⟨Nat.le_of_ble_eq_true rfl, Nat.le_of_ble_eq_true rfl⟩) (fun rho_7 f_6 H locs hw hH => ?_)
  obtain ⟨hT2_, hf2_⟩ := hw
  have hT2_ : TQ G k i [] f_6 := hT2_
  have hf2_ : ∀ a, (∀ c, 1 ≤ c → c ≤ 4 → a ≠ k (5 + 8 * i + c)) → f_6 a = f_2 a := hf2_
  have hfr := hfr.trans (frD.tq hM hi hT2_ hf2_)
  obtain ⟨D_9, hM, t2_, t3_, t4_, t5_, t6_, t7_, t8_, t9_, hT⟩ := hM.trc hi hT2_ hf2_
  have hK := hK.trans (show KP i D_3 D_9 from ⟨fun a b hb _ => by rw [t2_]; exact hb, t3_, t4_, fun q_ hq_ => ⟨by rw [t5_], t6_ q_ hq_⟩, fun j hj => ⟨t9_ j (by omega) (by omega) (by omega), by rw [t7_], by rw [t8_]⟩, fun o_ a_ ho_ => by rw [t8_]; exact ho_⟩)
  have hBe : BD D_9 = BD D := t2_.trans hBe
  have hQe : QD D_9 = QD D := t8_.trans hQe
  rw [← t5_] at hqr
  refine lv_aload_n hx hb dX3_start_12 rfl (lv_at hl 0 rfl) ?_
  refine lv_iconst (v := 0) hx hb dX3_start_13 (by decide) ?_
  have F_10 : f_6 (k (5 + 8 * i)) = some (.inr (3, [.ref (k (5 + 8 * i + 1)), .int lb_, .int dn_, .long gf_, .int th_, .int ta_, va_rf (some (k 1)), .ref (k (5 + 8 * i + 5)), .ref (k (5 + 8 * i + 6)), .ref (k (5 + 8 * i + 7)), .int nx_])) := by have w_ := hM.r0 i hi; rw [hqr] at w_; exact w_
  refine m_put (ci := 3) (v := .int 0) (C := RX3) (T := TX3) (N := 11) hx hb hC hH hts in_X3_start_X3 tyX3 tyX3_ok nmX3 hown F_10 rfl 1 (by decide) (hts (.fieldLink RX3 42 "LazyState$Run" "loadedBits" "I") (by decide +kernel)) rfl rfl rfl (Nat.le_of_ble_eq_true rfl) dX3_start_14 (fun H locs hH => ?_)
  have hH : mH G s (va_up f_6 (k (5 + 8 * i)) (some (.inr (3, [.ref (k (5 + 8 * i + 1)), .int 0, .int dn_, .long gf_, .int th_, .int ta_, va_rf (some (k 1)), .ref (k (5 + 8 * i + 5)), .ref (k (5 + 8 * i + 6)), .ref (k (5 + 8 * i + 7)), .int nx_])))) H locs := hH
  obtain ⟨f_11, ef_11⟩ : ∃ zz_ : mF, zz_ = va_up f_6 (k (5 + 8 * i)) (some (.inr (3, [.ref (k (5 + 8 * i + 1)), .int 0, .int dn_, .long gf_, .int th_, .int ta_, va_rf (some (k 1)), .ref (k (5 + 8 * i + 5)), .ref (k (5 + 8 * i + 6)), .ref (k (5 + 8 * i + 7)), .int nx_]))) := ⟨_, rfl⟩
  rw [← ef_11] at hH
  have hM := hM.setR (i0 := i) hi (q := (0, dn_, gf_, th_, ta_, some (k 1), nx_)) ef_11
  have hfr := hfr.up (by rw [hM.ok (5 + 8 * i) (by omega)]; exact (by decide : (1 : Nat) ≠ 0)) ef_11
  obtain ⟨D_12, eD_12⟩ : ∃ d_ : tD, d_ = dR D_9 i (0, dn_, gf_, th_, ta_, some (k 1), nx_) := ⟨_, rfl⟩
  have hM : CM G k own n z D_12 f_11 := by rw [eD_12]; exact hM
  have hK : KP i D D_12 := by rw [eD_12]; exact hK.R
  have hBe : BD D_12 = BD D := by rw [eD_12]; exact hBe
  have hQe : QD D_12 = QD D := by rw [eD_12]; exact hQe
  have hqr : rD D_12 i = (0, dn_, gf_, th_, ta_, some (k 1), nx_) := by rw [eD_12]; exact va_up_self _ _ _
  have hT : TRC [] (eD D_12 i) (ID D_12 (5 + 8 * i + 2)) (ID D_12 (5 + 8 * i + 3)) (ID D_12 (5 + 8 * i + 4)) := by rw [eD_12]; exact hT
  refine lv_aload_n hx hb dX3_start_17 rfl (lv_at hl 0 rfl) ?_
  refine lv_iconst (v := 0) hx hb dX3_start_18 (by decide) ?_
  have F_13 : f_11 (k (5 + 8 * i)) = some (.inr (3, [.ref (k (5 + 8 * i + 1)), .int 0, .int dn_, .long gf_, .int th_, .int ta_, va_rf (some (k 1)), .ref (k (5 + 8 * i + 5)), .ref (k (5 + 8 * i + 6)), .ref (k (5 + 8 * i + 7)), .int nx_])) := by have w_ := hM.r0 i hi; rw [hqr] at w_; exact w_
  refine m_put (ci := 3) (v := .int 0) (C := RX3) (T := TX3) (N := 11) hx hb hC hH hts in_X3_start_X3 tyX3 tyX3_ok nmX3 hown F_13 rfl 2 (by decide) (hts (.fieldLink RX3 45 "LazyState$Run" "done" "I") (by decide +kernel)) rfl rfl rfl (Nat.le_of_ble_eq_true rfl) dX3_start_19 (fun H locs hH => ?_)
  have hH : mH G s (va_up f_11 (k (5 + 8 * i)) (some (.inr (3, [.ref (k (5 + 8 * i + 1)), .int 0, .int 0, .long gf_, .int th_, .int ta_, va_rf (some (k 1)), .ref (k (5 + 8 * i + 5)), .ref (k (5 + 8 * i + 6)), .ref (k (5 + 8 * i + 7)), .int nx_])))) H locs := hH
  obtain ⟨f_14, ef_14⟩ : ∃ zz_ : mF, zz_ = va_up f_11 (k (5 + 8 * i)) (some (.inr (3, [.ref (k (5 + 8 * i + 1)), .int 0, .int 0, .long gf_, .int th_, .int ta_, va_rf (some (k 1)), .ref (k (5 + 8 * i + 5)), .ref (k (5 + 8 * i + 6)), .ref (k (5 + 8 * i + 7)), .int nx_]))) := ⟨_, rfl⟩
  rw [← ef_14] at hH
  have hM := hM.setR (i0 := i) hi (q := (0, 0, gf_, th_, ta_, some (k 1), nx_)) ef_14
  have hfr := hfr.up (by rw [hM.ok (5 + 8 * i) (by omega)]; exact (by decide : (1 : Nat) ≠ 0)) ef_14
  obtain ⟨D_15, eD_15⟩ : ∃ d_ : tD, d_ = dR D_12 i (0, 0, gf_, th_, ta_, some (k 1), nx_) := ⟨_, rfl⟩
  have hM : CM G k own n z D_15 f_14 := by rw [eD_15]; exact hM
  have hK : KP i D D_15 := by rw [eD_15]; exact hK.R
  have hBe : BD D_15 = BD D := by rw [eD_15]; exact hBe
  have hQe : QD D_15 = QD D := by rw [eD_15]; exact hQe
  have hqr : rD D_15 i = (0, 0, gf_, th_, ta_, some (k 1), nx_) := by rw [eD_15]; exact va_up_self _ _ _
  have hT : TRC [] (eD D_15 i) (ID D_15 (5 + 8 * i + 2)) (ID D_15 (5 + 8 * i + 3)) (ID D_15 (5 + 8 * i + 4)) := by rw [eD_15]; exact hT
  refine lv_aload_n hx hb dX3_start_22 rfl (lv_at hl 0 rfl) ?_
  refine lv_lconst (v := 0) hx hb dX3_start_23 (by decide) ?_
  have F_16 : f_14 (k (5 + 8 * i)) = some (.inr (3, [.ref (k (5 + 8 * i + 1)), .int 0, .int 0, .long gf_, .int th_, .int ta_, va_rf (some (k 1)), .ref (k (5 + 8 * i + 5)), .ref (k (5 + 8 * i + 6)), .ref (k (5 + 8 * i + 7)), .int nx_])) := by have w_ := hM.r0 i hi; rw [hqr] at w_; exact w_
  refine m_put (ci := 3) (v := .long 0) (C := RX3) (T := TX3) (N := 11) hx hb hC hH hts in_X3_start_X3 tyX3 tyX3_ok nmX3 hown F_16 rfl 3 (by decide) (hts (.fieldLink RX3 48 "LazyState$Run" "gift" "J") (by decide +kernel)) rfl rfl rfl (Nat.le_of_ble_eq_true rfl) dX3_start_24 (fun H locs hH => ?_)
  have hH : mH G s (va_up f_14 (k (5 + 8 * i)) (some (.inr (3, [.ref (k (5 + 8 * i + 1)), .int 0, .int 0, .long 0, .int th_, .int ta_, va_rf (some (k 1)), .ref (k (5 + 8 * i + 5)), .ref (k (5 + 8 * i + 6)), .ref (k (5 + 8 * i + 7)), .int nx_])))) H locs := hH
  obtain ⟨f_17, ef_17⟩ : ∃ zz_ : mF, zz_ = va_up f_14 (k (5 + 8 * i)) (some (.inr (3, [.ref (k (5 + 8 * i + 1)), .int 0, .int 0, .long 0, .int th_, .int ta_, va_rf (some (k 1)), .ref (k (5 + 8 * i + 5)), .ref (k (5 + 8 * i + 6)), .ref (k (5 + 8 * i + 7)), .int nx_]))) := ⟨_, rfl⟩
  rw [← ef_17] at hH
  have hM := hM.setR (i0 := i) hi (q := (0, 0, 0, th_, ta_, some (k 1), nx_)) ef_17
  have hfr := hfr.up (by rw [hM.ok (5 + 8 * i) (by omega)]; exact (by decide : (1 : Nat) ≠ 0)) ef_17
  obtain ⟨D_18, eD_18⟩ : ∃ d_ : tD, d_ = dR D_15 i (0, 0, 0, th_, ta_, some (k 1), nx_) := ⟨_, rfl⟩
  have hM : CM G k own n z D_18 f_17 := by rw [eD_18]; exact hM
  have hK : KP i D D_18 := by rw [eD_18]; exact hK.R
  have hBe : BD D_18 = BD D := by rw [eD_18]; exact hBe
  have hQe : QD D_18 = QD D := by rw [eD_18]; exact hQe
  have hqr : rD D_18 i = (0, 0, 0, th_, ta_, some (k 1), nx_) := by rw [eD_18]; exact va_up_self _ _ _
  have hT : TRC [] (eD D_18 i) (ID D_18 (5 + 8 * i + 2)) (ID D_18 (5 + 8 * i + 3)) (ID D_18 (5 + 8 * i + 4)) := by rw [eD_18]; exact hT
  refine lv_aload_n hx hb dX3_start_27 rfl (lv_at hl 0 rfl) ?_
  refine lv_iconst (v := 0) hx hb dX3_start_28 (by decide) ?_
  have F_19 : f_17 (k (5 + 8 * i)) = some (.inr (3, [.ref (k (5 + 8 * i + 1)), .int 0, .int 0, .long 0, .int th_, .int ta_, va_rf (some (k 1)), .ref (k (5 + 8 * i + 5)), .ref (k (5 + 8 * i + 6)), .ref (k (5 + 8 * i + 7)), .int nx_])) := by have w_ := hM.r0 i hi; rw [hqr] at w_; exact w_
  refine m_put (ci := 3) (v := .int 0) (C := RX3) (T := TX3) (N := 11) hx hb hC hH hts in_X3_start_X3 tyX3 tyX3_ok nmX3 hown F_19 rfl 4 (by decide) (hts (.fieldLink RX3 52 "LazyState$Run" "thrown" "I") (by decide +kernel)) rfl rfl rfl (Nat.le_of_ble_eq_true rfl) dX3_start_29 (fun H locs hH => ?_)
  have hH : mH G s (va_up f_17 (k (5 + 8 * i)) (some (.inr (3, [.ref (k (5 + 8 * i + 1)), .int 0, .int 0, .long 0, .int 0, .int ta_, va_rf (some (k 1)), .ref (k (5 + 8 * i + 5)), .ref (k (5 + 8 * i + 6)), .ref (k (5 + 8 * i + 7)), .int nx_])))) H locs := hH
  obtain ⟨f_20, ef_20⟩ : ∃ zz_ : mF, zz_ = va_up f_17 (k (5 + 8 * i)) (some (.inr (3, [.ref (k (5 + 8 * i + 1)), .int 0, .int 0, .long 0, .int 0, .int ta_, va_rf (some (k 1)), .ref (k (5 + 8 * i + 5)), .ref (k (5 + 8 * i + 6)), .ref (k (5 + 8 * i + 7)), .int nx_]))) := ⟨_, rfl⟩
  rw [← ef_20] at hH
  have hM := hM.setR (i0 := i) hi (q := (0, 0, 0, 0, ta_, some (k 1), nx_)) ef_20
  have hfr := hfr.up (by rw [hM.ok (5 + 8 * i) (by omega)]; exact (by decide : (1 : Nat) ≠ 0)) ef_20
  obtain ⟨D_21, eD_21⟩ : ∃ d_ : tD, d_ = dR D_18 i (0, 0, 0, 0, ta_, some (k 1), nx_) := ⟨_, rfl⟩
  have hM : CM G k own n z D_21 f_20 := by rw [eD_21]; exact hM
  have hK : KP i D D_21 := by rw [eD_21]; exact hK.R
  have hBe : BD D_21 = BD D := by rw [eD_21]; exact hBe
  have hQe : QD D_21 = QD D := by rw [eD_21]; exact hQe
  have hqr : rD D_21 i = (0, 0, 0, 0, ta_, some (k 1), nx_) := by rw [eD_21]; exact va_up_self _ _ _
  have hT : TRC [] (eD D_21 i) (ID D_21 (5 + 8 * i + 2)) (ID D_21 (5 + 8 * i + 3)) (ID D_21 (5 + 8 * i + 4)) := by rw [eD_21]; exact hT
  refine lv_aload_n hx hb dX3_start_32 rfl (lv_at hl 0 rfl) ?_
  refine lv_bipush (v := (-3)) hx hb dX3_start_33 (by decide) ?_
  have F_22 : f_20 (k (5 + 8 * i)) = some (.inr (3, [.ref (k (5 + 8 * i + 1)), .int 0, .int 0, .long 0, .int 0, .int ta_, va_rf (some (k 1)), .ref (k (5 + 8 * i + 5)), .ref (k (5 + 8 * i + 6)), .ref (k (5 + 8 * i + 7)), .int nx_])) := by have w_ := hM.r0 i hi; rw [hqr] at w_; exact w_
  refine m_put (ci := 3) (v := .int (-3)) (C := RX3) (T := TX3) (N := 11) hx hb hC hH hts in_X3_start_X3 tyX3 tyX3_ok nmX3 hown F_22 rfl 5 (by decide) (hts (.fieldLink RX3 18 "LazyState$Run" "thrownAt" "I") (by decide +kernel)) rfl rfl rfl (Nat.le_of_ble_eq_true rfl) dX3_start_35 (fun H locs hH => ?_)
  have hH : mH G s (va_up f_20 (k (5 + 8 * i)) (some (.inr (3, [.ref (k (5 + 8 * i + 1)), .int 0, .int 0, .long 0, .int 0, .int (-3), va_rf (some (k 1)), .ref (k (5 + 8 * i + 5)), .ref (k (5 + 8 * i + 6)), .ref (k (5 + 8 * i + 7)), .int nx_])))) H locs := hH
  obtain ⟨f_23, ef_23⟩ : ∃ zz_ : mF, zz_ = va_up f_20 (k (5 + 8 * i)) (some (.inr (3, [.ref (k (5 + 8 * i + 1)), .int 0, .int 0, .long 0, .int 0, .int (-3), va_rf (some (k 1)), .ref (k (5 + 8 * i + 5)), .ref (k (5 + 8 * i + 6)), .ref (k (5 + 8 * i + 7)), .int nx_]))) := ⟨_, rfl⟩
  rw [← ef_23] at hH
  have hM := hM.setR (i0 := i) hi (q := (0, 0, 0, 0, (-3), some (k 1), nx_)) ef_23
  have hfr := hfr.up (by rw [hM.ok (5 + 8 * i) (by omega)]; exact (by decide : (1 : Nat) ≠ 0)) ef_23
  obtain ⟨D_24, eD_24⟩ : ∃ d_ : tD, d_ = dR D_21 i (0, 0, 0, 0, (-3), some (k 1), nx_) := ⟨_, rfl⟩
  have hM : CM G k own n z D_24 f_23 := by rw [eD_24]; exact hM
  have hK : KP i D D_24 := by rw [eD_24]; exact hK.R
  have hBe : BD D_24 = BD D := by rw [eD_24]; exact hBe
  have hQe : QD D_24 = QD D := by rw [eD_24]; exact hQe
  have hqr : rD D_24 i = (0, 0, 0, 0, (-3), some (k 1), nx_) := by rw [eD_24]; exact va_up_self _ _ _
  have hT : TRC [] (eD D_24 i) (ID D_24 (5 + 8 * i + 2)) (ID D_24 (5 + 8 * i + 3)) (ID D_24 (5 + 8 * i + 4)) := by rw [eD_24]; exact hT
  refine lv_aload_n hx hb dX3_start_38 rfl (lv_at hl 0 rfl) ?_
  have F_25 : f_23 (k (5 + 8 * i)) = some (.inr (3, [.ref (k (5 + 8 * i + 1)), .int 0, .int 0, .long 0, .int 0, .int (-3), va_rf (some (k 1)), .ref (k (5 + 8 * i + 5)), .ref (k (5 + 8 * i + 6)), .ref (k (5 + 8 * i + 7)), .int nx_])) := by have w_ := hM.r0 i hi; rw [hqr] at w_; exact w_
  refine m_get (ci := 3) (v := .ref (k (5 + 8 * i + 6))) (C := RX3) (T := TX3) (N := 11) hx hb hC hH hts in_X3_start_X3 hown F_25 rfl 8 (by decide) (hts (.fieldLink RX3 28 "LazyState$Run" "handles" "[I") (by decide +kernel)) rfl dX3_start_39 ?_
  refine lv_bipush (v := (-3)) hx hb dX3_start_42 (by decide) ?_
  refine m_gov hH (va_runS (As := [.ref (k (5 + 8 * i + 6)), .int (-3)]) (rest := []) ⟨hx, hb, hml, hown, hts⟩ (c_J7_fill_53178 l G f_23 (k (5 + 8 * i + 6)) 4 (by decide) (ID D_24 (5 + 8 * i + 6)) (hM.r6 i hi) (-3)) (va_cwS 2 hts gX3_start_J7_fill_53178 rfl rfl rfl (by decide +kernel) ⟨Nat.le_of_ble_eq_true rfl, Nat.le_of_ble_eq_true rfl⟩) (m_preS hC hH) rfl rfl hl.1 rfl (lv_room (Nat.le_of_ble_eq_true rfl)) dX3_start_44 ⟨Nat.le_of_ble_eq_true rfl, Nat.le_of_ble_eq_true rfl⟩) (fun rho_28 f_27 H locs hw hH => ?_)
  obtain ⟨gz_, ef_27, hz_⟩ := hw
  have ef_27 : f_27 = va_up f_23 (k (5 + 8 * i + 6)) _ := ef_27
  have hM := hM.setI6 (i0 := i) hi ef_27
  have hfr := hfr.up (by rw [hM.ok (5 + 8 * i + 6) (by omega)]; exact (by decide : (1 : Nat) ≠ 0)) ef_27
  obtain ⟨D_29, eD_29⟩ : ∃ d_ : tD, d_ = dI D_24 (5 + 8 * i + 6) gz_ := ⟨_, rfl⟩
  have hM : CM G k own n z D_29 f_27 := by rw [eD_29]; exact hM
  have hK : KP i D D_29 := by rw [eD_29]; exact hK.I (c := 6) (by decide)
  have hBe : BD D_29 = BD D := by rw [eD_29]; exact hBe
  have hQe : QD D_29 = QD D := by rw [eD_29]; exact hQe
  have hqr : rD D_29 i = (0, 0, 0, 0, (-3), some (k 1), nx_) := by rw [eD_29]; exact hqr
  have hT : TRC [] (eD D_29 i) (ID D_29 (5 + 8 * i + 2)) (ID D_29 (5 + 8 * i + 3)) (ID D_29 (5 + 8 * i + 4)) := by rw [eD_29]; rw [ID_n (by omega), ID_n (by omega), ID_n (by omega)]; exact hT
  have h6 : ∀ x, x < 4 → ID D_29 (5 + 8 * i + 6) x = -3 := fun x hx => by rw [eD_29, ID_s]; exact hz_ x hx
  refine lv_aload_n hx hb dX3_start_47 rfl (lv_at hl 0 rfl) ?_
  have F_30 : f_27 (k (5 + 8 * i)) = some (.inr (3, [.ref (k (5 + 8 * i + 1)), .int 0, .int 0, .long 0, .int 0, .int (-3), va_rf (some (k 1)), .ref (k (5 + 8 * i + 5)), .ref (k (5 + 8 * i + 6)), .ref (k (5 + 8 * i + 7)), .int nx_])) := by have w_ := hM.r0 i hi; rw [hqr] at w_; exact w_
  refine m_get (ci := 3) (v := .ref (k (5 + 8 * i + 6))) (C := RX3) (T := TX3) (N := 11) hx hb hC hH hts in_X3_start_X3 hown F_30 rfl 8 (by decide) (hts (.fieldLink RX3 28 "LazyState$Run" "handles" "[I") (by decide +kernel)) rfl dX3_start_48 ?_
  refine lv_iconst (v := 0) hx hb dX3_start_51 (by decide) ?_
  refine lv_iload_n hx hb dX3_start_52 rfl (lv_at hl 2 rfl) ?_
  have hg_31 := hM.r6 i hi
  refine m_iast hx hb hC hH hg_31 (vp_in_iff.mpr (by rw [kI_0]; exact ⟨by omega, by omega⟩)) dX3_start_53 (fun H locs hH => ?_)
  obtain ⟨f_32, ef_32⟩ : ∃ zz_ : mF, zz_ = va_up f_27 (k (5 + 8 * i + 6)) (some (.inl (gk G 0, 4, .inl (upd (ID D_29 (5 + 8 * i + 6)) ((0 : Int32).toNatClampNeg) o)))) := ⟨_, rfl⟩
  rw [← ef_32] at hH
  have hM := hM.setI6 (i0 := i) hi ef_32
  have hfr := hfr.up (by rw [hM.ok (5 + 8 * i + 6) (by omega)]; exact (by decide : (1 : Nat) ≠ 0)) ef_32
  obtain ⟨D_33, eD_33⟩ : ∃ d_ : tD, d_ = dI D_29 (5 + 8 * i + 6) (upd (ID D_29 (5 + 8 * i + 6)) (0 : Int32).toNatClampNeg o) := ⟨_, rfl⟩
  have hM : CM G k own n z D_33 f_32 := by rw [eD_33]; exact hM
  have hK : KP i D D_33 := by rw [eD_33]; exact hK.I (c := 6) (by decide)
  have hBe : BD D_33 = BD D := by rw [eD_33]; exact hBe
  have hQe : QD D_33 = QD D := by rw [eD_33]; exact hQe
  have hqr : rD D_33 i = (0, 0, 0, 0, (-3), some (k 1), nx_) := by rw [eD_33]; exact hqr
  have hT : TRC [] (eD D_33 i) (ID D_33 (5 + 8 * i + 2)) (ID D_33 (5 + 8 * i + 3)) (ID D_33 (5 + 8 * i + 4)) := by rw [eD_33]; rw [ID_n (by omega), ID_n (by omega), ID_n (by omega)]; exact hT
  have h6 : ∀ x, x < 4 → ID D_33 (5 + 8 * i + 6) x = if x = 0 then o else -3 := fun x hx => by rw [eD_33, ID_s]; unfold upd; rw [show (0 : Int32).toNatClampNeg = 0 from rfl]; split; rfl; exact h6 x hx
  refine lv_aload_n hx hb dX3_start_54 rfl (lv_at hl 0 rfl) ?_
  have F_34 : f_32 (k (5 + 8 * i)) = some (.inr (3, [.ref (k (5 + 8 * i + 1)), .int 0, .int 0, .long 0, .int 0, .int (-3), va_rf (some (k 1)), .ref (k (5 + 8 * i + 5)), .ref (k (5 + 8 * i + 6)), .ref (k (5 + 8 * i + 7)), .int nx_])) := by have w_ := hM.r0 i hi; rw [hqr] at w_; exact w_
  refine m_get (ci := 3) (v := .ref (k (5 + 8 * i + 7))) (C := RX3) (T := TX3) (N := 11) hx hb hC hH hts in_X3_start_X3 hown F_34 rfl 9 (by decide) (hts (.fieldLink RX3 32 "LazyState$Run" "values" "[J") (by decide +kernel)) rfl dX3_start_55 ?_
  refine lv_lconst (v := 0) hx hb dX3_start_58 (by decide) ?_
  refine m_gov hH (va_runS (As := [.ref (k (5 + 8 * i + 7)), .long 0]) (rest := []) ⟨hx, hb, hml, hown, hts⟩ (c_J7_fill_d0a16 l G f_32 (k (5 + 8 * i + 7)) 4 (by decide) (JD D_33 (5 + 8 * i + 7)) (hM.r7 i hi) 0) (va_cwS 2 hts gX3_start_J7_fill_d0a16 rfl rfl rfl (by decide +kernel) ⟨Nat.le_of_ble_eq_true rfl, Nat.le_of_ble_eq_true rfl⟩) (m_preS hC hH) rfl rfl hl.1 rfl (lv_room (Nat.le_of_ble_eq_true rfl)) dX3_start_59 ⟨Nat.le_of_ble_eq_true rfl, Nat.le_of_ble_eq_true rfl⟩) (fun rho_37 f_36 H locs hw hH => ?_)
  obtain ⟨gz_, ef_36, hz_⟩ := hw
  have ef_36 : f_36 = va_up f_32 (k (5 + 8 * i + 7)) _ := ef_36
  have hM := hM.setJ (i0 := i) hi ef_36
  have hfr := hfr.up (by rw [hM.ok (5 + 8 * i + 7) (by omega)]; exact (by decide : (1 : Nat) ≠ 0)) ef_36
  obtain ⟨D_38, eD_38⟩ : ∃ d_ : tD, d_ = dJ D_33 (5 + 8 * i + 7) gz_ := ⟨_, rfl⟩
  have hM : CM G k own n z D_38 f_36 := by rw [eD_38]; exact hM
  have hK : KP i D D_38 := by rw [eD_38]; exact hK.J (c := 7) (by decide)
  have hBe : BD D_38 = BD D := by rw [eD_38]; exact hBe
  have hQe : QD D_38 = QD D := by rw [eD_38]; exact hQe
  have hqr : rD D_38 i = (0, 0, 0, 0, (-3), some (k 1), nx_) := by rw [eD_38]; exact hqr
  have hT : TRC [] (eD D_38 i) (ID D_38 (5 + 8 * i + 2)) (ID D_38 (5 + 8 * i + 3)) (ID D_38 (5 + 8 * i + 4)) := by rw [eD_38]; exact hT
  have h6 : ∀ x, x < 4 → ID D_38 (5 + 8 * i + 6) x = if x = 0 then o else -3 := by rw [eD_38]; exact h6
  have h7 : ∀ x, x < 4 → JD D_38 (5 + 8 * i + 7) x = 0 := fun x hx => by rw [eD_38, JD_s]; exact hz_ x hx
  refine lv_aload_n hx hb dX3_start_62 rfl (lv_at hl 0 rfl) ?_
  have F_39 : f_36 (k (5 + 8 * i)) = some (.inr (3, [.ref (k (5 + 8 * i + 1)), .int 0, .int 0, .long 0, .int 0, .int (-3), va_rf (some (k 1)), .ref (k (5 + 8 * i + 5)), .ref (k (5 + 8 * i + 6)), .ref (k (5 + 8 * i + 7)), .int nx_])) := by have w_ := hM.r0 i hi; rw [hqr] at w_; exact w_
  refine m_get (ci := 3) (v := .ref (k (5 + 8 * i + 7))) (C := RX3) (T := TX3) (N := 11) hx hb hC hH hts in_X3_start_X3 hown F_39 rfl 9 (by decide) (hts (.fieldLink RX3 32 "LazyState$Run" "values" "[J") (by decide +kernel)) rfl dX3_start_63 ?_
  refine lv_iconst (v := 0) hx hb dX3_start_66 (by decide) ?_
  refine lv_lload_n hx hb dX3_start_67 rfl (lv_at hl 3 rfl) ?_
  have hg_40 := hM.r7 i hi
  refine m_last hx hb hC hH hg_40 (vp_in_iff.mpr (by rw [kI_0]; exact ⟨by omega, by omega⟩)) dX3_start_68 (fun H locs hH => ?_)
  obtain ⟨f_41, ef_41⟩ : ∃ zz_ : mF, zz_ = va_up f_36 (k (5 + 8 * i + 7)) (some (.inl (gk G 1, 4, .inr (.inl (vp_updL (JD D_38 (5 + 8 * i + 7)) ((0 : Int32).toNatClampNeg) v))))) := ⟨_, rfl⟩
  rw [← ef_41] at hH
  have hM := hM.setJ (i0 := i) hi ef_41
  have hfr := hfr.up (by rw [hM.ok (5 + 8 * i + 7) (by omega)]; exact (by decide : (1 : Nat) ≠ 0)) ef_41
  obtain ⟨D_42, eD_42⟩ : ∃ d_ : tD, d_ = dJ D_38 (5 + 8 * i + 7) (vp_updL (JD D_38 (5 + 8 * i + 7)) (0 : Int32).toNatClampNeg v) := ⟨_, rfl⟩
  have hM : CM G k own n z D_42 f_41 := by rw [eD_42]; exact hM
  have hK : KP i D D_42 := by rw [eD_42]; exact hK.J (c := 7) (by decide)
  have hBe : BD D_42 = BD D := by rw [eD_42]; exact hBe
  have hQe : QD D_42 = QD D := by rw [eD_42]; exact hQe
  have hqr : rD D_42 i = (0, 0, 0, 0, (-3), some (k 1), nx_) := by rw [eD_42]; exact hqr
  have hT : TRC [] (eD D_42 i) (ID D_42 (5 + 8 * i + 2)) (ID D_42 (5 + 8 * i + 3)) (ID D_42 (5 + 8 * i + 4)) := by rw [eD_42]; exact hT
  have h6 : ∀ x, x < 4 → ID D_42 (5 + 8 * i + 6) x = if x = 0 then o else -3 := by rw [eD_42]; exact h6
  have h7 : ∀ x, x < 4 → JD D_42 (5 + 8 * i + 7) x = if x = 0 then v else 0 := fun x hx => by rw [eD_42, JD_s]; unfold vp_updL; rw [show (0 : Int32).toNatClampNeg = 0 from rfl]; split; rfl; exact h7 x hx
  exact m_vret hx hb hr hlk hC hH own ⟨⟨nx_, _, hM, RP.start hbs hwf hob hbd ho hBe hQe hqr hT h6 h7, hK⟩, hfr⟩ (Nat.le_of_ble_eq_true rfl) (Nat.le_of_ble_eq_true rfl) dX3_start_69
