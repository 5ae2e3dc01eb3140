set_option maxHeartbeats 4000000 in
set_option maxRecDepth 100000 in
theorem c_X6_init (l : Launch) (G : mG) (f : mF) (q : Nat) (Fq : f q = some (.inr (6, [.int 0, .null, .int 0, .null, .null, .null, .null, .int 0, .null, .null, .null, .null, .null, .null, .null, .null, .int 0, .long 0, .int 0, .int 0, .null, .null, .int 0, .null, .null, .int 0, .null, .null, .int 0, .int 0]))) : Met l yX6_init wsX6_init ({ frames := 1, cells := 19, slots := 83062, locals := 20 }) (va_Pc [.ref q] (mW G f)) (va_Qv (fun (u : mS) => ∃ a0_ a1_ a2_ a3_ a4_ a5_ a6_ a7_ a8_ a9_ a10_ a11_ a12_ a13_ a14_ a15_ a16_ a17_ a18_ : Nat, u.2 q = some (.inr (6, [.int 0, .ref a0_, .int 0, .ref a1_, .ref a2_, .ref a3_, .ref a4_, .int 0, .ref a5_, .ref a6_, .ref a7_, .ref a8_, .ref a9_, .ref a10_, .ref a11_, .ref a12_, .int 0, .long 0, .int (-3), .int 0, .ref a13_, .ref a14_, .int 0, .ref a15_, .ref a16_, .int 0, .ref a17_, .ref a18_, .int 0, .int 0])) ∧ inL q f [(a18_, .inl (gk G 1, 4, .inr (.inl (fun _ => 0)))), (a17_, .inl (gk G 0, 4, .inl (fun _ => 0))), (a16_, .inl (gk G 2, 24, .inl (fun _ => 0))), (a15_, .inl (gk G 0, 192, .inl (fun _ => 0))), (a14_, .inl (gk G 0, 400, .inl (fun _ => 0))), (a13_, .inl (gk G 0, 400, .inl (fun _ => 0))), (a12_, .inl (gk G 0, 192, .inl (fun _ => 0))), (a11_, .inl (gk G 0, 192, .inl (fun _ => 0))), (a10_, .inl (gk G 0, 192, .inl (fun _ => 0))), (a9_, .inl (gk G 1, 192, .inr (.inl (fun _ => 0)))), (a8_, .inl (gk G 0, 192, .inl (fun _ => 0))), (a7_, .inl (gk G 0, 192, .inl (fun _ => 0))), (a6_, .inl (gk G 0, 6, .inl (fun _ => 0))), (a5_, .inl (gk G 0, 192, .inl (fun _ => 0))), (a4_, .inl (gk G 2, 24, .inl (fun _ => 0))), (a3_, .inl (gk G 0, 64512, .inl (fun _ => 0))), (a2_, .inl (gk G 0, 8064, .inl (fun _ => 0))), (a1_, .inl (gk G 1, 8064, .inr (.inl (fun _ => 0)))), (a0_, .inl (gk G 0, 24, .inl (fun _ => 0)))] u.2) (fun (u : mS) t => mW G u.2 t) (mA G)) 19 83062 (mA G) := by
  refine mMet [.ref q] (cc := cX6_init) (maxL := 1) (ret := none) (by decide) rfl (Nat.le_of_ble_eq_true rfl) ?_
  intro p e s m below meth c ls hx hb hr hml hts hown hlk hnm hC hH hl
  have hl : lv_has ls 1 [(0, .ref q)] := hl
  have hL : inL q f [] f := inL.nil
  refine lv_aload_n hx hb dX6_init_0 rfl (lv_at hl 0 rfl) ?_
  refine W.objInit hx hb hown (hts (.methodLink RX6 1 objectInit) (by decide +kernel)) (hts (.instanceMethod objectInit) (by decide +kernel)) (hts (.code objectInit ⟨#[0xb1]⟩ 1 none) (by decide +kernel)) rfl (hl.1.trans hml.symm) rfl dX6_init_1 (Nat.le_of_ble_eq_true rfl) (Nat.le_of_ble_eq_true rfl) ?_
  refine lv_aload_n hx hb dX6_init_4 rfl (lv_at hl 0 rfl) ?_
  refine lv_bipush (v := 24) hx hb dX6_init_5 (by decide) ?_
  refine m_newa (atype := .int) (cA := gk G 0) (N' := 24) (a0 := (24, .inl (fun _ => 0))) hx hb hC hH (hts (.arrayClass .int) (by decide +kernel)) (hC.2.1.1.2 0 _ rfl).2 rfl (by decide) (by decide) (by decide) (by show _ ≤ 19; omega) (by show _ ≤ 83062; omega) dX6_init_7 (fun q_1 H hlt_q_1 hge_q_1 hno_q_1 hH => ?_)
  obtain ⟨f_2, ef_2⟩ : ∃ zz_ : mF, zz_ = va_up f q_1 (some (.inl (gk G 0, 24, .inl (fun _ => 0)))) := ⟨_, rfl⟩
  rw [← ef_2] at hH
  have hL := hL.new Fq ef_2 hlt_q_1
  have F_3 := upk Fq ef_2 (Nat.ne_of_lt (hlt_q_1 _ _ Fq))
  refine m_putF (ci := 6) (v := .ref q_1) (C := RX6) (T := TX6) (N := 30) hx hb hC hH hts in_X6_init_X6 tyX6 tyX6_ok nmX6 hown F_3 rfl 1 (by decide) (hts (.fieldLink RX6 7 "LazyStateModel" "types" "[I") (by decide +kernel)) rfl hnm rfl rfl rfl (Nat.le_of_ble_eq_true rfl) dX6_init_9 (fun H locs hH => ?_)
  have hH : mH G s (va_up f_2 q (some (.inr (6, [.int 0, .ref q_1, .int 0, .null, .null, .null, .null, .int 0, .null, .null, .null, .null, .null, .null, .null, .null, .int 0, .long 0, .int 0, .int 0, .null, .null, .int 0, .null, .null, .int 0, .null, .null, .int 0, .int 0])))) H locs := hH
  obtain ⟨f_4, ef_4⟩ : ∃ zz_ : mF, zz_ = va_up f_2 q (some (.inr (6, [.int 0, .ref q_1, .int 0, .null, .null, .null, .null, .int 0, .null, .null, .null, .null, .null, .null, .null, .null, .int 0, .long 0, .int 0, .int 0, .null, .null, .int 0, .null, .null, .int 0, .null, .null, .int 0, .int 0]))) := ⟨_, rfl⟩
  rw [← ef_4] at hH
  have F_5 : f_4 q = some (.inr (6, [.int 0, .ref q_1, .int 0, .null, .null, .null, .null, .int 0, .null, .null, .null, .null, .null, .null, .null, .null, .int 0, .long 0, .int 0, .int 0, .null, .null, .int 0, .null, .null, .int 0, .null, .null, .int 0, .int 0])) := by rw [ef_4]; exact va_up_self _ _ _
  have hL := hL.put ef_4
  refine lv_aload_n hx hb dX6_init_12 rfl (lv_at hl 0 rfl) ?_
  refine lv_sipush (v := 8064) hx hb dX6_init_13 (by decide) ?_
  refine m_newa (atype := .long) (cA := gk G 1) (N' := 8064) (a0 := (8064, .inr (.inl (fun _ => 0)))) hx hb hC hH (hts (.arrayClass .long) (by decide +kernel)) (hC.2.1.1.2 1 _ rfl).2 rfl (by decide) (by decide) (by decide) (by show _ ≤ 19; omega) (by show _ ≤ 83062; omega) dX6_init_16 (fun q_6 H hlt_q_6 hge_q_6 hno_q_6 hH => ?_)
  obtain ⟨f_7, ef_7⟩ : ∃ zz_ : mF, zz_ = va_up f_4 q_6 (some (.inl (gk G 1, 8064, .inr (.inl (fun _ => 0))))) := ⟨_, rfl⟩
  rw [← ef_7] at hH
  have hL := hL.new F_5 ef_7 hlt_q_6
  have F_8 := upk F_5 ef_7 (Nat.ne_of_lt (hlt_q_6 _ _ F_5))
  refine m_putF (ci := 6) (v := .ref q_6) (C := RX6) (T := TX6) (N := 30) hx hb hC hH hts in_X6_init_X6 tyX6 tyX6_ok nmX6 hown F_8 rfl 3 (by decide) (hts (.fieldLink RX6 13 "LazyStateModel" "numbers" "[J") (by decide +kernel)) rfl hnm rfl rfl rfl (Nat.le_of_ble_eq_true rfl) dX6_init_18 (fun H locs hH => ?_)
  have hH : mH G s (va_up f_7 q (some (.inr (6, [.int 0, .ref q_1, .int 0, .ref q_6, .null, .null, .null, .int 0, .null, .null, .null, .null, .null, .null, .null, .null, .int 0, .long 0, .int 0, .int 0, .null, .null, .int 0, .null, .null, .int 0, .null, .null, .int 0, .int 0])))) H locs := hH
  obtain ⟨f_9, ef_9⟩ : ∃ zz_ : mF, zz_ = va_up f_7 q (some (.inr (6, [.int 0, .ref q_1, .int 0, .ref q_6, .null, .null, .null, .int 0, .null, .null, .null, .null, .null, .null, .null, .null, .int 0, .long 0, .int 0, .int 0, .null, .null, .int 0, .null, .null, .int 0, .null, .null, .int 0, .int 0]))) := ⟨_, rfl⟩
  rw [← ef_9] at hH
  have F_10 : f_9 q = some (.inr (6, [.int 0, .ref q_1, .int 0, .ref q_6, .null, .null, .null, .int 0, .null, .null, .null, .null, .null, .null, .null, .null, .int 0, .long 0, .int 0, .int 0, .null, .null, .int 0, .null, .null, .int 0, .null, .null, .int 0, .int 0])) := by rw [ef_9]; exact va_up_self _ _ _
  have hL := hL.put ef_9
  refine lv_aload_n hx hb dX6_init_21 rfl (lv_at hl 0 rfl) ?_
  refine lv_sipush (v := 8064) hx hb dX6_init_22 (by decide) ?_
  refine m_newa (atype := .int) (cA := gk G 0) (N' := 8064) (a0 := (8064, .inl (fun _ => 0))) hx hb hC hH (hts (.arrayClass .int) (by decide +kernel)) (hC.2.1.1.2 0 _ rfl).2 rfl (by decide) (by decide) (by decide) (by show _ ≤ 19; omega) (by show _ ≤ 83062; omega) dX6_init_25 (fun q_11 H hlt_q_11 hge_q_11 hno_q_11 hH => ?_)
  obtain ⟨f_12, ef_12⟩ : ∃ zz_ : mF, zz_ = va_up f_9 q_11 (some (.inl (gk G 0, 8064, .inl (fun _ => 0)))) := ⟨_, rfl⟩
  rw [← ef_12] at hH
  have hL := hL.new F_10 ef_12 hlt_q_11
  have F_13 := upk F_10 ef_12 (Nat.ne_of_lt (hlt_q_11 _ _ F_10))
  refine m_putF (ci := 6) (v := .ref q_11) (C := RX6) (T := TX6) (N := 30) hx hb hC hH hts in_X6_init_X6 tyX6 tyX6_ok nmX6 hown F_13 rfl 4 (by decide) (hts (.fieldLink RX6 17 "LazyStateModel" "sizes" "[I") (by decide +kernel)) rfl hnm rfl rfl rfl (Nat.le_of_ble_eq_true rfl) dX6_init_27 (fun H locs hH => ?_)
  have hH : mH G s (va_up f_12 q (some (.inr (6, [.int 0, .ref q_1, .int 0, .ref q_6, .ref q_11, .null, .null, .int 0, .null, .null, .null, .null, .null, .null, .null, .null, .int 0, .long 0, .int 0, .int 0, .null, .null, .int 0, .null, .null, .int 0, .null, .null, .int 0, .int 0])))) H locs := hH
  obtain ⟨f_14, ef_14⟩ : ∃ zz_ : mF, zz_ = va_up f_12 q (some (.inr (6, [.int 0, .ref q_1, .int 0, .ref q_6, .ref q_11, .null, .null, .int 0, .null, .null, .null, .null, .null, .null, .null, .null, .int 0, .long 0, .int 0, .int 0, .null, .null, .int 0, .null, .null, .int 0, .null, .null, .int 0, .int 0]))) := ⟨_, rfl⟩
  rw [← ef_14] at hH
  have F_15 : f_14 q = some (.inr (6, [.int 0, .ref q_1, .int 0, .ref q_6, .ref q_11, .null, .null, .int 0, .null, .null, .null, .null, .null, .null, .null, .null, .int 0, .long 0, .int 0, .int 0, .null, .null, .int 0, .null, .null, .int 0, .null, .null, .int 0, .int 0])) := by rw [ef_14]; exact va_up_self _ _ _
  have hL := hL.put ef_14
  refine lv_aload_n hx hb dX6_init_30 rfl (lv_at hl 0 rfl) ?_
  refine lv_ldc (v := 64512) hx hb hown (hts (.constant RX6 20 (64512)) (by decide +kernel)) dX6_init_31 ?_
  refine m_newa (atype := .int) (cA := gk G 0) (N' := 64512) (a0 := (64512, .inl (fun _ => 0))) hx hb hC hH (hts (.arrayClass .int) (by decide +kernel)) (hC.2.1.1.2 0 _ rfl).2 rfl (by decide) (by decide) (by decide) (by show _ ≤ 19; omega) (by show _ ≤ 83062; omega) dX6_init_33 (fun q_16 H hlt_q_16 hge_q_16 hno_q_16 hH => ?_)
  obtain ⟨f_17, ef_17⟩ : ∃ zz_ : mF, zz_ = va_up f_14 q_16 (some (.inl (gk G 0, 64512, .inl (fun _ => 0)))) := ⟨_, rfl⟩
  rw [← ef_17] at hH
  have hL := hL.new F_15 ef_17 hlt_q_16
  have F_18 := upk F_15 ef_17 (Nat.ne_of_lt (hlt_q_16 _ _ F_15))
  refine m_putF (ci := 6) (v := .ref q_16) (C := RX6) (T := TX6) (N := 30) hx hb hC hH hts in_X6_init_X6 tyX6 tyX6_ok nmX6 hown F_18 rfl 5 (by decide) (hts (.fieldLink RX6 21 "LazyStateModel" "items" "[I") (by decide +kernel)) rfl hnm rfl rfl rfl (Nat.le_of_ble_eq_true rfl) dX6_init_35 (fun H locs hH => ?_)
  have hH : mH G s (va_up f_17 q (some (.inr (6, [.int 0, .ref q_1, .int 0, .ref q_6, .ref q_11, .ref q_16, .null, .int 0, .null, .null, .null, .null, .null, .null, .null, .null, .int 0, .long 0, .int 0, .int 0, .null, .null, .int 0, .null, .null, .int 0, .null, .null, .int 0, .int 0])))) H locs := hH
  obtain ⟨f_19, ef_19⟩ : ∃ zz_ : mF, zz_ = va_up f_17 q (some (.inr (6, [.int 0, .ref q_1, .int 0, .ref q_6, .ref q_11, .ref q_16, .null, .int 0, .null, .null, .null, .null, .null, .null, .null, .null, .int 0, .long 0, .int 0, .int 0, .null, .null, .int 0, .null, .null, .int 0, .null, .null, .int 0, .int 0]))) := ⟨_, rfl⟩
  rw [← ef_19] at hH
  have F_20 : f_19 q = some (.inr (6, [.int 0, .ref q_1, .int 0, .ref q_6, .ref q_11, .ref q_16, .null, .int 0, .null, .null, .null, .null, .null, .null, .null, .null, .int 0, .long 0, .int 0, .int 0, .null, .null, .int 0, .null, .null, .int 0, .null, .null, .int 0, .int 0])) := by rw [ef_19]; exact va_up_self _ _ _
  have hL := hL.put ef_19
  refine lv_aload_n hx hb dX6_init_38 rfl (lv_at hl 0 rfl) ?_
  refine lv_bipush (v := 24) hx hb dX6_init_39 (by decide) ?_
  refine m_newa (atype := .boolean) (cA := gk G 2) (N' := 24) (a0 := (24, .inl (fun _ => 0))) hx hb hC hH (hts (.arrayClass .boolean) (by decide +kernel)) (hC.2.1.1.2 2 _ rfl).2 rfl (by decide) (by decide) (by decide) (by show _ ≤ 19; omega) (by show _ ≤ 83062; omega) dX6_init_41 (fun q_21 H hlt_q_21 hge_q_21 hno_q_21 hH => ?_)
  obtain ⟨f_22, ef_22⟩ : ∃ zz_ : mF, zz_ = va_up f_19 q_21 (some (.inl (gk G 2, 24, .inl (fun _ => 0)))) := ⟨_, rfl⟩
  rw [← ef_22] at hH
  have hL := hL.new F_20 ef_22 hlt_q_21
  have F_23 := upk F_20 ef_22 (Nat.ne_of_lt (hlt_q_21 _ _ F_20))
  refine m_putF (ci := 6) (v := .ref q_21) (C := RX6) (T := TX6) (N := 30) hx hb hC hH hts in_X6_init_X6 tyX6 tyX6_ok nmX6 hown F_23 rfl 6 (by decide) (hts (.fieldLink RX6 24 "LazyStateModel" "isCached" "[Z") (by decide +kernel)) rfl hnm rfl rfl rfl (Nat.le_of_ble_eq_true rfl) dX6_init_43 (fun H locs hH => ?_)
  have hH : mH G s (va_up f_22 q (some (.inr (6, [.int 0, .ref q_1, .int 0, .ref q_6, .ref q_11, .ref q_16, .ref q_21, .int 0, .null, .null, .null, .null, .null, .null, .null, .null, .int 0, .long 0, .int 0, .int 0, .null, .null, .int 0, .null, .null, .int 0, .null, .null, .int 0, .int 0])))) H locs := hH
  obtain ⟨f_24, ef_24⟩ : ∃ zz_ : mF, zz_ = va_up f_22 q (some (.inr (6, [.int 0, .ref q_1, .int 0, .ref q_6, .ref q_11, .ref q_16, .ref q_21, .int 0, .null, .null, .null, .null, .null, .null, .null, .null, .int 0, .long 0, .int 0, .int 0, .null, .null, .int 0, .null, .null, .int 0, .null, .null, .int 0, .int 0]))) := ⟨_, rfl⟩
  rw [← ef_24] at hH
  have F_25 : f_24 q = some (.inr (6, [.int 0, .ref q_1, .int 0, .ref q_6, .ref q_11, .ref q_16, .ref q_21, .int 0, .null, .null, .null, .null, .null, .null, .null, .null, .int 0, .long 0, .int 0, .int 0, .null, .null, .int 0, .null, .null, .int 0, .null, .null, .int 0, .int 0])) := by rw [ef_24]; exact va_up_self _ _ _
  have hL := hL.put ef_24
  refine lv_aload_n hx hb dX6_init_46 rfl (lv_at hl 0 rfl) ?_
  refine lv_sipush (v := 192) hx hb dX6_init_47 (by decide) ?_
  refine m_newa (atype := .int) (cA := gk G 0) (N' := 192) (a0 := (192, .inl (fun _ => 0))) hx hb hC hH (hts (.arrayClass .int) (by decide +kernel)) (hC.2.1.1.2 0 _ rfl).2 rfl (by decide) (by decide) (by decide) (by show _ ≤ 19; omega) (by show _ ≤ 83062; omega) dX6_init_50 (fun q_26 H hlt_q_26 hge_q_26 hno_q_26 hH => ?_)
  obtain ⟨f_27, ef_27⟩ : ∃ zz_ : mF, zz_ = va_up f_24 q_26 (some (.inl (gk G 0, 192, .inl (fun _ => 0)))) := ⟨_, rfl⟩
  rw [← ef_27] at hH
  have hL := hL.new F_25 ef_27 hlt_q_26
  have F_28 := upk F_25 ef_27 (Nat.ne_of_lt (hlt_q_26 _ _ F_25))
  refine m_putF (ci := 6) (v := .ref q_26) (C := RX6) (T := TX6) (N := 30) hx hb hC hH hts in_X6_init_X6 tyX6 tyX6_ok nmX6 hown F_28 rfl 8 (by decide) (hts (.fieldLink RX6 28 "LazyStateModel" "times" "[I") (by decide +kernel)) rfl hnm rfl rfl rfl (Nat.le_of_ble_eq_true rfl) dX6_init_52 (fun H locs hH => ?_)
  have hH : mH G s (va_up f_27 q (some (.inr (6, [.int 0, .ref q_1, .int 0, .ref q_6, .ref q_11, .ref q_16, .ref q_21, .int 0, .ref q_26, .null, .null, .null, .null, .null, .null, .null, .int 0, .long 0, .int 0, .int 0, .null, .null, .int 0, .null, .null, .int 0, .null, .null, .int 0, .int 0])))) H locs := hH
  obtain ⟨f_29, ef_29⟩ : ∃ zz_ : mF, zz_ = va_up f_27 q (some (.inr (6, [.int 0, .ref q_1, .int 0, .ref q_6, .ref q_11, .ref q_16, .ref q_21, .int 0, .ref q_26, .null, .null, .null, .null, .null, .null, .null, .int 0, .long 0, .int 0, .int 0, .null, .null, .int 0, .null, .null, .int 0, .null, .null, .int 0, .int 0]))) := ⟨_, rfl⟩
  rw [← ef_29] at hH
  have F_30 : f_29 q = some (.inr (6, [.int 0, .ref q_1, .int 0, .ref q_6, .ref q_11, .ref q_16, .ref q_21, .int 0, .ref q_26, .null, .null, .null, .null, .null, .null, .null, .int 0, .long 0, .int 0, .int 0, .null, .null, .int 0, .null, .null, .int 0, .null, .null, .int 0, .int 0])) := by rw [ef_29]; exact va_up_self _ _ _
  have hL := hL.put ef_29
  refine lv_aload_n hx hb dX6_init_55 rfl (lv_at hl 0 rfl) ?_
  refine lv_bipush (v := 6) hx hb dX6_init_56 (by decide) ?_
  refine m_newa (atype := .int) (cA := gk G 0) (N' := 6) (a0 := (6, .inl (fun _ => 0))) hx hb hC hH (hts (.arrayClass .int) (by decide +kernel)) (hC.2.1.1.2 0 _ rfl).2 rfl (by decide) (by decide) (by decide) (by show _ ≤ 19; omega) (by show _ ≤ 83062; omega) dX6_init_58 (fun q_31 H hlt_q_31 hge_q_31 hno_q_31 hH => ?_)
  obtain ⟨f_32, ef_32⟩ : ∃ zz_ : mF, zz_ = va_up f_29 q_31 (some (.inl (gk G 0, 6, .inl (fun _ => 0)))) := ⟨_, rfl⟩
  rw [← ef_32] at hH
  have hL := hL.new F_30 ef_32 hlt_q_31
  have F_33 := upk F_30 ef_32 (Nat.ne_of_lt (hlt_q_31 _ _ F_30))
  refine m_putF (ci := 6) (v := .ref q_31) (C := RX6) (T := TX6) (N := 30) hx hb hC hH hts in_X6_init_X6 tyX6 tyX6_ok nmX6 hown F_33 rfl 9 (by decide) (hts (.fieldLink RX6 31 "LazyStateModel" "many" "[I") (by decide +kernel)) rfl hnm rfl rfl rfl (Nat.le_of_ble_eq_true rfl) dX6_init_60 (fun H locs hH => ?_)
  have hH : mH G s (va_up f_32 q (some (.inr (6, [.int 0, .ref q_1, .int 0, .ref q_6, .ref q_11, .ref q_16, .ref q_21, .int 0, .ref q_26, .ref q_31, .null, .null, .null, .null, .null, .null, .int 0, .long 0, .int 0, .int 0, .null, .null, .int 0, .null, .null, .int 0, .null, .null, .int 0, .int 0])))) H locs := hH
  obtain ⟨f_34, ef_34⟩ : ∃ zz_ : mF, zz_ = va_up f_32 q (some (.inr (6, [.int 0, .ref q_1, .int 0, .ref q_6, .ref q_11, .ref q_16, .ref q_21, .int 0, .ref q_26, .ref q_31, .null, .null, .null, .null, .null, .null, .int 0, .long 0, .int 0, .int 0, .null, .null, .int 0, .null, .null, .int 0, .null, .null, .int 0, .int 0]))) := ⟨_, rfl⟩
  rw [← ef_34] at hH
  have F_35 : f_34 q = some (.inr (6, [.int 0, .ref q_1, .int 0, .ref q_6, .ref q_11, .ref q_16, .ref q_21, .int 0, .ref q_26, .ref q_31, .null, .null, .null, .null, .null, .null, .int 0, .long 0, .int 0, .int 0, .null, .null, .int 0, .null, .null, .int 0, .null, .null, .int 0, .int 0])) := by rw [ef_34]; exact va_up_self _ _ _
  have hL := hL.put ef_34
  refine lv_aload_n hx hb dX6_init_63 rfl (lv_at hl 0 rfl) ?_
  refine lv_sipush (v := 192) hx hb dX6_init_64 (by decide) ?_
  refine m_newa (atype := .int) (cA := gk G 0) (N' := 192) (a0 := (192, .inl (fun _ => 0))) hx hb hC hH (hts (.arrayClass .int) (by decide +kernel)) (hC.2.1.1.2 0 _ rfl).2 rfl (by decide) (by decide) (by decide) (by show _ ≤ 19; omega) (by show _ ≤ 83062; omega) dX6_init_67 (fun q_36 H hlt_q_36 hge_q_36 hno_q_36 hH => ?_)
  obtain ⟨f_37, ef_37⟩ : ∃ zz_ : mF, zz_ = va_up f_34 q_36 (some (.inl (gk G 0, 192, .inl (fun _ => 0)))) := ⟨_, rfl⟩
  rw [← ef_37] at hH
  have hL := hL.new F_35 ef_37 hlt_q_36
  have F_38 := upk F_35 ef_37 (Nat.ne_of_lt (hlt_q_36 _ _ F_35))
  refine m_putF (ci := 6) (v := .ref q_36) (C := RX6) (T := TX6) (N := 30) hx hb hC hH hts in_X6_init_X6 tyX6 tyX6_ok nmX6 hown F_38 rfl 10 (by decide) (hts (.fieldLink RX6 34 "LazyStateModel" "kinds" "[I") (by decide +kernel)) rfl hnm rfl rfl rfl (Nat.le_of_ble_eq_true rfl) dX6_init_69 (fun H locs hH => ?_)
  have hH : mH G s (va_up f_37 q (some (.inr (6, [.int 0, .ref q_1, .int 0, .ref q_6, .ref q_11, .ref q_16, .ref q_21, .int 0, .ref q_26, .ref q_31, .ref q_36, .null, .null, .null, .null, .null, .int 0, .long 0, .int 0, .int 0, .null, .null, .int 0, .null, .null, .int 0, .null, .null, .int 0, .int 0])))) H locs := hH
  obtain ⟨f_39, ef_39⟩ : ∃ zz_ : mF, zz_ = va_up f_37 q (some (.inr (6, [.int 0, .ref q_1, .int 0, .ref q_6, .ref q_11, .ref q_16, .ref q_21, .int 0, .ref q_26, .ref q_31, .ref q_36, .null, .null, .null, .null, .null, .int 0, .long 0, .int 0, .int 0, .null, .null, .int 0, .null, .null, .int 0, .null, .null, .int 0, .int 0]))) := ⟨_, rfl⟩
  rw [← ef_39] at hH
  have F_40 : f_39 q = some (.inr (6, [.int 0, .ref q_1, .int 0, .ref q_6, .ref q_11, .ref q_16, .ref q_21, .int 0, .ref q_26, .ref q_31, .ref q_36, .null, .null, .null, .null, .null, .int 0, .long 0, .int 0, .int 0, .null, .null, .int 0, .null, .null, .int 0, .null, .null, .int 0, .int 0])) := by rw [ef_39]; exact va_up_self _ _ _
  have hL := hL.put ef_39
  refine lv_aload_n hx hb dX6_init_72 rfl (lv_at hl 0 rfl) ?_
  refine lv_sipush (v := 192) hx hb dX6_init_73 (by decide) ?_
  refine m_newa (atype := .int) (cA := gk G 0) (N' := 192) (a0 := (192, .inl (fun _ => 0))) hx hb hC hH (hts (.arrayClass .int) (by decide +kernel)) (hC.2.1.1.2 0 _ rfl).2 rfl (by decide) (by decide) (by decide) (by show _ ≤ 19; omega) (by show _ ≤ 83062; omega) dX6_init_76 (fun q_41 H hlt_q_41 hge_q_41 hno_q_41 hH => ?_)
  obtain ⟨f_42, ef_42⟩ : ∃ zz_ : mF, zz_ = va_up f_39 q_41 (some (.inl (gk G 0, 192, .inl (fun _ => 0)))) := ⟨_, rfl⟩
  rw [← ef_42] at hH
  have hL := hL.new F_40 ef_42 hlt_q_41
  have F_43 := upk F_40 ef_42 (Nat.ne_of_lt (hlt_q_41 _ _ F_40))
  refine m_putF (ci := 6) (v := .ref q_41) (C := RX6) (T := TX6) (N := 30) hx hb hC hH hts in_X6_init_X6 tyX6 tyX6_ok nmX6 hown F_43 rfl 11 (by decide) (hts (.fieldLink RX6 37 "LazyStateModel" "as" "[I") (by decide +kernel)) rfl hnm rfl rfl rfl (Nat.le_of_ble_eq_true rfl) dX6_init_78 (fun H locs hH => ?_)
  have hH : mH G s (va_up f_42 q (some (.inr (6, [.int 0, .ref q_1, .int 0, .ref q_6, .ref q_11, .ref q_16, .ref q_21, .int 0, .ref q_26, .ref q_31, .ref q_36, .ref q_41, .null, .null, .null, .null, .int 0, .long 0, .int 0, .int 0, .null, .null, .int 0, .null, .null, .int 0, .null, .null, .int 0, .int 0])))) H locs := hH
  obtain ⟨f_44, ef_44⟩ : ∃ zz_ : mF, zz_ = va_up f_42 q (some (.inr (6, [.int 0, .ref q_1, .int 0, .ref q_6, .ref q_11, .ref q_16, .ref q_21, .int 0, .ref q_26, .ref q_31, .ref q_36, .ref q_41, .null, .null, .null, .null, .int 0, .long 0, .int 0, .int 0, .null, .null, .int 0, .null, .null, .int 0, .null, .null, .int 0, .int 0]))) := ⟨_, rfl⟩
  rw [← ef_44] at hH
  have F_45 : f_44 q = some (.inr (6, [.int 0, .ref q_1, .int 0, .ref q_6, .ref q_11, .ref q_16, .ref q_21, .int 0, .ref q_26, .ref q_31, .ref q_36, .ref q_41, .null, .null, .null, .null, .int 0, .long 0, .int 0, .int 0, .null, .null, .int 0, .null, .null, .int 0, .null, .null, .int 0, .int 0])) := by rw [ef_44]; exact va_up_self _ _ _
  have hL := hL.put ef_44
  refine lv_aload_n hx hb dX6_init_81 rfl (lv_at hl 0 rfl) ?_
  refine lv_sipush (v := 192) hx hb dX6_init_82 (by decide) ?_
  refine m_newa (atype := .long) (cA := gk G 1) (N' := 192) (a0 := (192, .inr (.inl (fun _ => 0)))) hx hb hC hH (hts (.arrayClass .long) (by decide +kernel)) (hC.2.1.1.2 1 _ rfl).2 rfl (by decide) (by decide) (by decide) (by show _ ≤ 19; omega) (by show _ ≤ 83062; omega) dX6_init_85 (fun q_46 H hlt_q_46 hge_q_46 hno_q_46 hH => ?_)
  obtain ⟨f_47, ef_47⟩ : ∃ zz_ : mF, zz_ = va_up f_44 q_46 (some (.inl (gk G 1, 192, .inr (.inl (fun _ => 0))))) := ⟨_, rfl⟩
  rw [← ef_47] at hH
  have hL := hL.new F_45 ef_47 hlt_q_46
  have F_48 := upk F_45 ef_47 (Nat.ne_of_lt (hlt_q_46 _ _ F_45))
  refine m_putF (ci := 6) (v := .ref q_46) (C := RX6) (T := TX6) (N := 30) hx hb hC hH hts in_X6_init_X6 tyX6 tyX6_ok nmX6 hown F_48 rfl 12 (by decide) (hts (.fieldLink RX6 40 "LazyStateModel" "bs" "[J") (by decide +kernel)) rfl hnm rfl rfl rfl (Nat.le_of_ble_eq_true rfl) dX6_init_87 (fun H locs hH => ?_)
  have hH : mH G s (va_up f_47 q (some (.inr (6, [.int 0, .ref q_1, .int 0, .ref q_6, .ref q_11, .ref q_16, .ref q_21, .int 0, .ref q_26, .ref q_31, .ref q_36, .ref q_41, .ref q_46, .null, .null, .null, .int 0, .long 0, .int 0, .int 0, .null, .null, .int 0, .null, .null, .int 0, .null, .null, .int 0, .int 0])))) H locs := hH
  obtain ⟨f_49, ef_49⟩ : ∃ zz_ : mF, zz_ = va_up f_47 q (some (.inr (6, [.int 0, .ref q_1, .int 0, .ref q_6, .ref q_11, .ref q_16, .ref q_21, .int 0, .ref q_26, .ref q_31, .ref q_36, .ref q_41, .ref q_46, .null, .null, .null, .int 0, .long 0, .int 0, .int 0, .null, .null, .int 0, .null, .null, .int 0, .null, .null, .int 0, .int 0]))) := ⟨_, rfl⟩
  rw [← ef_49] at hH
  have F_50 : f_49 q = some (.inr (6, [.int 0, .ref q_1, .int 0, .ref q_6, .ref q_11, .ref q_16, .ref q_21, .int 0, .ref q_26, .ref q_31, .ref q_36, .ref q_41, .ref q_46, .null, .null, .null, .int 0, .long 0, .int 0, .int 0, .null, .null, .int 0, .null, .null, .int 0, .null, .null, .int 0, .int 0])) := by rw [ef_49]; exact va_up_self _ _ _
  have hL := hL.put ef_49
  refine lv_aload_n hx hb dX6_init_90 rfl (lv_at hl 0 rfl) ?_
  refine lv_sipush (v := 192) hx hb dX6_init_91 (by decide) ?_
  refine m_newa (atype := .int) (cA := gk G 0) (N' := 192) (a0 := (192, .inl (fun _ => 0))) hx hb hC hH (hts (.arrayClass .int) (by decide +kernel)) (hC.2.1.1.2 0 _ rfl).2 rfl (by decide) (by decide) (by decide) (by show _ ≤ 19; omega) (by show _ ≤ 83062; omega) dX6_init_94 (fun q_51 H hlt_q_51 hge_q_51 hno_q_51 hH => ?_)
  obtain ⟨f_52, ef_52⟩ : ∃ zz_ : mF, zz_ = va_up f_49 q_51 (some (.inl (gk G 0, 192, .inl (fun _ => 0)))) := ⟨_, rfl⟩
  rw [← ef_52] at hH
  have hL := hL.new F_50 ef_52 hlt_q_51
  have F_53 := upk F_50 ef_52 (Nat.ne_of_lt (hlt_q_51 _ _ F_50))
  refine m_putF (ci := 6) (v := .ref q_51) (C := RX6) (T := TX6) (N := 30) hx hb hC hH hts in_X6_init_X6 tyX6 tyX6_ok nmX6 hown F_53 rfl 13 (by decide) (hts (.fieldLink RX6 43 "LazyStateModel" "cs" "[I") (by decide +kernel)) rfl hnm rfl rfl rfl (Nat.le_of_ble_eq_true rfl) dX6_init_96 (fun H locs hH => ?_)
  have hH : mH G s (va_up f_52 q (some (.inr (6, [.int 0, .ref q_1, .int 0, .ref q_6, .ref q_11, .ref q_16, .ref q_21, .int 0, .ref q_26, .ref q_31, .ref q_36, .ref q_41, .ref q_46, .ref q_51, .null, .null, .int 0, .long 0, .int 0, .int 0, .null, .null, .int 0, .null, .null, .int 0, .null, .null, .int 0, .int 0])))) H locs := hH
  obtain ⟨f_54, ef_54⟩ : ∃ zz_ : mF, zz_ = va_up f_52 q (some (.inr (6, [.int 0, .ref q_1, .int 0, .ref q_6, .ref q_11, .ref q_16, .ref q_21, .int 0, .ref q_26, .ref q_31, .ref q_36, .ref q_41, .ref q_46, .ref q_51, .null, .null, .int 0, .long 0, .int 0, .int 0, .null, .null, .int 0, .null, .null, .int 0, .null, .null, .int 0, .int 0]))) := ⟨_, rfl⟩
  rw [← ef_54] at hH
  have F_55 : f_54 q = some (.inr (6, [.int 0, .ref q_1, .int 0, .ref q_6, .ref q_11, .ref q_16, .ref q_21, .int 0, .ref q_26, .ref q_31, .ref q_36, .ref q_41, .ref q_46, .ref q_51, .null, .null, .int 0, .long 0, .int 0, .int 0, .null, .null, .int 0, .null, .null, .int 0, .null, .null, .int 0, .int 0])) := by rw [ef_54]; exact va_up_self _ _ _
  have hL := hL.put ef_54
  refine lv_aload_n hx hb dX6_init_99 rfl (lv_at hl 0 rfl) ?_
  refine lv_sipush (v := 192) hx hb dX6_init_100 (by decide) ?_
  refine m_newa (atype := .int) (cA := gk G 0) (N' := 192) (a0 := (192, .inl (fun _ => 0))) hx hb hC hH (hts (.arrayClass .int) (by decide +kernel)) (hC.2.1.1.2 0 _ rfl).2 rfl (by decide) (by decide) (by decide) (by show _ ≤ 19; omega) (by show _ ≤ 83062; omega) dX6_init_103 (fun q_56 H hlt_q_56 hge_q_56 hno_q_56 hH => ?_)
  obtain ⟨f_57, ef_57⟩ : ∃ zz_ : mF, zz_ = va_up f_54 q_56 (some (.inl (gk G 0, 192, .inl (fun _ => 0)))) := ⟨_, rfl⟩
  rw [← ef_57] at hH
  have hL := hL.new F_55 ef_57 hlt_q_56
  have F_58 := upk F_55 ef_57 (Nat.ne_of_lt (hlt_q_56 _ _ F_55))
  refine m_putF (ci := 6) (v := .ref q_56) (C := RX6) (T := TX6) (N := 30) hx hb hC hH hts in_X6_init_X6 tyX6 tyX6_ok nmX6 hown F_58 rfl 14 (by decide) (hts (.fieldLink RX6 46 "LazyStateModel" "ds" "[I") (by decide +kernel)) rfl hnm rfl rfl rfl (Nat.le_of_ble_eq_true rfl) dX6_init_105 (fun H locs hH => ?_)
  have hH : mH G s (va_up f_57 q (some (.inr (6, [.int 0, .ref q_1, .int 0, .ref q_6, .ref q_11, .ref q_16, .ref q_21, .int 0, .ref q_26, .ref q_31, .ref q_36, .ref q_41, .ref q_46, .ref q_51, .ref q_56, .null, .int 0, .long 0, .int 0, .int 0, .null, .null, .int 0, .null, .null, .int 0, .null, .null, .int 0, .int 0])))) H locs := hH
  obtain ⟨f_59, ef_59⟩ : ∃ zz_ : mF, zz_ = va_up f_57 q (some (.inr (6, [.int 0, .ref q_1, .int 0, .ref q_6, .ref q_11, .ref q_16, .ref q_21, .int 0, .ref q_26, .ref q_31, .ref q_36, .ref q_41, .ref q_46, .ref q_51, .ref q_56, .null, .int 0, .long 0, .int 0, .int 0, .null, .null, .int 0, .null, .null, .int 0, .null, .null, .int 0, .int 0]))) := ⟨_, rfl⟩
  rw [← ef_59] at hH
  have F_60 : f_59 q = some (.inr (6, [.int 0, .ref q_1, .int 0, .ref q_6, .ref q_11, .ref q_16, .ref q_21, .int 0, .ref q_26, .ref q_31, .ref q_36, .ref q_41, .ref q_46, .ref q_51, .ref q_56, .null, .int 0, .long 0, .int 0, .int 0, .null, .null, .int 0, .null, .null, .int 0, .null, .null, .int 0, .int 0])) := by rw [ef_59]; exact va_up_self _ _ _
  have hL := hL.put ef_59
  refine lv_aload_n hx hb dX6_init_108 rfl (lv_at hl 0 rfl) ?_
  refine lv_sipush (v := 192) hx hb dX6_init_109 (by decide) ?_
  refine m_newa (atype := .int) (cA := gk G 0) (N' := 192) (a0 := (192, .inl (fun _ => 0))) hx hb hC hH (hts (.arrayClass .int) (by decide +kernel)) (hC.2.1.1.2 0 _ rfl).2 rfl (by decide) (by decide) (by decide) (by show _ ≤ 19; omega) (by show _ ≤ 83062; omega) dX6_init_112 (fun q_61 H hlt_q_61 hge_q_61 hno_q_61 hH => ?_)
  obtain ⟨f_62, ef_62⟩ : ∃ zz_ : mF, zz_ = va_up f_59 q_61 (some (.inl (gk G 0, 192, .inl (fun _ => 0)))) := ⟨_, rfl⟩
  rw [← ef_62] at hH
  have hL := hL.new F_60 ef_62 hlt_q_61
  have F_63 := upk F_60 ef_62 (Nat.ne_of_lt (hlt_q_61 _ _ F_60))
  refine m_putF (ci := 6) (v := .ref q_61) (C := RX6) (T := TX6) (N := 30) hx hb hC hH hts in_X6_init_X6 tyX6 tyX6_ok nmX6 hown F_63 rfl 15 (by decide) (hts (.fieldLink RX6 49 "LazyStateModel" "es" "[I") (by decide +kernel)) rfl hnm rfl rfl rfl (Nat.le_of_ble_eq_true rfl) dX6_init_114 (fun H locs hH => ?_)
  have hH : mH G s (va_up f_62 q (some (.inr (6, [.int 0, .ref q_1, .int 0, .ref q_6, .ref q_11, .ref q_16, .ref q_21, .int 0, .ref q_26, .ref q_31, .ref q_36, .ref q_41, .ref q_46, .ref q_51, .ref q_56, .ref q_61, .int 0, .long 0, .int 0, .int 0, .null, .null, .int 0, .null, .null, .int 0, .null, .null, .int 0, .int 0])))) H locs := hH
  obtain ⟨f_64, ef_64⟩ : ∃ zz_ : mF, zz_ = va_up f_62 q (some (.inr (6, [.int 0, .ref q_1, .int 0, .ref q_6, .ref q_11, .ref q_16, .ref q_21, .int 0, .ref q_26, .ref q_31, .ref q_36, .ref q_41, .ref q_46, .ref q_51, .ref q_56, .ref q_61, .int 0, .long 0, .int 0, .int 0, .null, .null, .int 0, .null, .null, .int 0, .null, .null, .int 0, .int 0]))) := ⟨_, rfl⟩
  rw [← ef_64] at hH
  have F_65 : f_64 q = some (.inr (6, [.int 0, .ref q_1, .int 0, .ref q_6, .ref q_11, .ref q_16, .ref q_21, .int 0, .ref q_26, .ref q_31, .ref q_36, .ref q_41, .ref q_46, .ref q_51, .ref q_56, .ref q_61, .int 0, .long 0, .int 0, .int 0, .null, .null, .int 0, .null, .null, .int 0, .null, .null, .int 0, .int 0])) := by rw [ef_64]; exact va_up_self _ _ _
  have hL := hL.put ef_64
  refine lv_aload_n hx hb dX6_init_117 rfl (lv_at hl 0 rfl) ?_
  refine lv_bipush (v := (-3)) hx hb dX6_init_118 (by decide) ?_
  refine m_put (ci := 6) (v := .int (-3)) (C := RX6) (T := TX6) (N := 30) hx hb hC hH hts in_X6_init_X6 tyX6 tyX6_ok nmX6 hown F_65 rfl 18 (by decide) (hts (.fieldLink RX6 52 "LazyStateModel" "where" "I") (by decide +kernel)) rfl rfl rfl (Nat.le_of_ble_eq_true rfl) dX6_init_120 (fun H locs hH => ?_)
  have hH : mH G s (va_up f_64 q (some (.inr (6, [.int 0, .ref q_1, .int 0, .ref q_6, .ref q_11, .ref q_16, .ref q_21, .int 0, .ref q_26, .ref q_31, .ref q_36, .ref q_41, .ref q_46, .ref q_51, .ref q_56, .ref q_61, .int 0, .long 0, .int (-3), .int 0, .null, .null, .int 0, .null, .null, .int 0, .null, .null, .int 0, .int 0])))) H locs := hH
  obtain ⟨f_66, ef_66⟩ : ∃ zz_ : mF, zz_ = va_up f_64 q (some (.inr (6, [.int 0, .ref q_1, .int 0, .ref q_6, .ref q_11, .ref q_16, .ref q_21, .int 0, .ref q_26, .ref q_31, .ref q_36, .ref q_41, .ref q_46, .ref q_51, .ref q_56, .ref q_61, .int 0, .long 0, .int (-3), .int 0, .null, .null, .int 0, .null, .null, .int 0, .null, .null, .int 0, .int 0]))) := ⟨_, rfl⟩
  rw [← ef_66] at hH
  have F_67 : f_66 q = some (.inr (6, [.int 0, .ref q_1, .int 0, .ref q_6, .ref q_11, .ref q_16, .ref q_21, .int 0, .ref q_26, .ref q_31, .ref q_36, .ref q_41, .ref q_46, .ref q_51, .ref q_56, .ref q_61, .int 0, .long 0, .int (-3), .int 0, .null, .null, .int 0, .null, .null, .int 0, .null, .null, .int 0, .int 0])) := by rw [ef_66]; exact va_up_self _ _ _
  have hL := hL.put ef_66
  refine lv_aload_n hx hb dX6_init_123 rfl (lv_at hl 0 rfl) ?_
  refine lv_sipush (v := 400) hx hb dX6_init_124 (by decide) ?_
  refine m_newa (atype := .int) (cA := gk G 0) (N' := 400) (a0 := (400, .inl (fun _ => 0))) hx hb hC hH (hts (.arrayClass .int) (by decide +kernel)) (hC.2.1.1.2 0 _ rfl).2 rfl (by decide) (by decide) (by decide) (by show _ ≤ 19; omega) (by show _ ≤ 83062; omega) dX6_init_127 (fun q_68 H hlt_q_68 hge_q_68 hno_q_68 hH => ?_)
  obtain ⟨f_69, ef_69⟩ : ∃ zz_ : mF, zz_ = va_up f_66 q_68 (some (.inl (gk G 0, 400, .inl (fun _ => 0)))) := ⟨_, rfl⟩
  rw [← ef_69] at hH
  have hL := hL.new F_67 ef_69 hlt_q_68
  have F_70 := upk F_67 ef_69 (Nat.ne_of_lt (hlt_q_68 _ _ F_67))
  refine m_putF (ci := 6) (v := .ref q_68) (C := RX6) (T := TX6) (N := 30) hx hb hC hH hts in_X6_init_X6 tyX6 tyX6_ok nmX6 hown F_70 rfl 20 (by decide) (hts (.fieldLink RX6 56 "LazyStateModel" "touchedLeaf" "[I") (by decide +kernel)) rfl hnm rfl rfl rfl (Nat.le_of_ble_eq_true rfl) dX6_init_129 (fun H locs hH => ?_)
  have hH : mH G s (va_up f_69 q (some (.inr (6, [.int 0, .ref q_1, .int 0, .ref q_6, .ref q_11, .ref q_16, .ref q_21, .int 0, .ref q_26, .ref q_31, .ref q_36, .ref q_41, .ref q_46, .ref q_51, .ref q_56, .ref q_61, .int 0, .long 0, .int (-3), .int 0, .ref q_68, .null, .int 0, .null, .null, .int 0, .null, .null, .int 0, .int 0])))) H locs := hH
  obtain ⟨f_71, ef_71⟩ : ∃ zz_ : mF, zz_ = va_up f_69 q (some (.inr (6, [.int 0, .ref q_1, .int 0, .ref q_6, .ref q_11, .ref q_16, .ref q_21, .int 0, .ref q_26, .ref q_31, .ref q_36, .ref q_41, .ref q_46, .ref q_51, .ref q_56, .ref q_61, .int 0, .long 0, .int (-3), .int 0, .ref q_68, .null, .int 0, .null, .null, .int 0, .null, .null, .int 0, .int 0]))) := ⟨_, rfl⟩
  rw [← ef_71] at hH
  have F_72 : f_71 q = some (.inr (6, [.int 0, .ref q_1, .int 0, .ref q_6, .ref q_11, .ref q_16, .ref q_21, .int 0, .ref q_26, .ref q_31, .ref q_36, .ref q_41, .ref q_46, .ref q_51, .ref q_56, .ref q_61, .int 0, .long 0, .int (-3), .int 0, .ref q_68, .null, .int 0, .null, .null, .int 0, .null, .null, .int 0, .int 0])) := by rw [ef_71]; exact va_up_self _ _ _
  have hL := hL.put ef_71
  refine lv_aload_n hx hb dX6_init_132 rfl (lv_at hl 0 rfl) ?_
  refine lv_sipush (v := 400) hx hb dX6_init_133 (by decide) ?_
  refine m_newa (atype := .int) (cA := gk G 0) (N' := 400) (a0 := (400, .inl (fun _ => 0))) hx hb hC hH (hts (.arrayClass .int) (by decide +kernel)) (hC.2.1.1.2 0 _ rfl).2 rfl (by decide) (by decide) (by decide) (by show _ ≤ 19; omega) (by show _ ≤ 83062; omega) dX6_init_136 (fun q_73 H hlt_q_73 hge_q_73 hno_q_73 hH => ?_)
  obtain ⟨f_74, ef_74⟩ : ∃ zz_ : mF, zz_ = va_up f_71 q_73 (some (.inl (gk G 0, 400, .inl (fun _ => 0)))) := ⟨_, rfl⟩
  rw [← ef_74] at hH
  have hL := hL.new F_72 ef_74 hlt_q_73
  have F_75 := upk F_72 ef_74 (Nat.ne_of_lt (hlt_q_73 _ _ F_72))
  refine m_putF (ci := 6) (v := .ref q_73) (C := RX6) (T := TX6) (N := 30) hx hb hC hH hts in_X6_init_X6 tyX6 tyX6_ok nmX6 hown F_75 rfl 21 (by decide) (hts (.fieldLink RX6 59 "LazyStateModel" "touchedHow" "[I") (by decide +kernel)) rfl hnm rfl rfl rfl (Nat.le_of_ble_eq_true rfl) dX6_init_138 (fun H locs hH => ?_)
  have hH : mH G s (va_up f_74 q (some (.inr (6, [.int 0, .ref q_1, .int 0, .ref q_6, .ref q_11, .ref q_16, .ref q_21, .int 0, .ref q_26, .ref q_31, .ref q_36, .ref q_41, .ref q_46, .ref q_51, .ref q_56, .ref q_61, .int 0, .long 0, .int (-3), .int 0, .ref q_68, .ref q_73, .int 0, .null, .null, .int 0, .null, .null, .int 0, .int 0])))) H locs := hH
  obtain ⟨f_76, ef_76⟩ : ∃ zz_ : mF, zz_ = va_up f_74 q (some (.inr (6, [.int 0, .ref q_1, .int 0, .ref q_6, .ref q_11, .ref q_16, .ref q_21, .int 0, .ref q_26, .ref q_31, .ref q_36, .ref q_41, .ref q_46, .ref q_51, .ref q_56, .ref q_61, .int 0, .long 0, .int (-3), .int 0, .ref q_68, .ref q_73, .int 0, .null, .null, .int 0, .null, .null, .int 0, .int 0]))) := ⟨_, rfl⟩
  rw [← ef_76] at hH
  have F_77 : f_76 q = some (.inr (6, [.int 0, .ref q_1, .int 0, .ref q_6, .ref q_11, .ref q_16, .ref q_21, .int 0, .ref q_26, .ref q_31, .ref q_36, .ref q_41, .ref q_46, .ref q_51, .ref q_56, .ref q_61, .int 0, .long 0, .int (-3), .int 0, .ref q_68, .ref q_73, .int 0, .null, .null, .int 0, .null, .null, .int 0, .int 0])) := by rw [ef_76]; exact va_up_self _ _ _
  have hL := hL.put ef_76
  refine lv_aload_n hx hb dX6_init_141 rfl (lv_at hl 0 rfl) ?_
  refine lv_sipush (v := 192) hx hb dX6_init_142 (by decide) ?_
  refine m_newa (atype := .int) (cA := gk G 0) (N' := 192) (a0 := (192, .inl (fun _ => 0))) hx hb hC hH (hts (.arrayClass .int) (by decide +kernel)) (hC.2.1.1.2 0 _ rfl).2 rfl (by decide) (by decide) (by decide) (by show _ ≤ 19; omega) (by show _ ≤ 83062; omega) dX6_init_145 (fun q_78 H hlt_q_78 hge_q_78 hno_q_78 hH => ?_)
  obtain ⟨f_79, ef_79⟩ : ∃ zz_ : mF, zz_ = va_up f_76 q_78 (some (.inl (gk G 0, 192, .inl (fun _ => 0)))) := ⟨_, rfl⟩
  rw [← ef_79] at hH
  have hL := hL.new F_77 ef_79 hlt_q_78
  have F_80 := upk F_77 ef_79 (Nat.ne_of_lt (hlt_q_78 _ _ F_77))
  refine m_putF (ci := 6) (v := .ref q_78) (C := RX6) (T := TX6) (N := 30) hx hb hC hH hts in_X6_init_X6 tyX6 tyX6_ok nmX6 hown F_80 rfl 23 (by decide) (hts (.fieldLink RX6 62 "LazyStateModel" "written" "[I") (by decide +kernel)) rfl hnm rfl rfl rfl (Nat.le_of_ble_eq_true rfl) dX6_init_147 (fun H locs hH => ?_)
  have hH : mH G s (va_up f_79 q (some (.inr (6, [.int 0, .ref q_1, .int 0, .ref q_6, .ref q_11, .ref q_16, .ref q_21, .int 0, .ref q_26, .ref q_31, .ref q_36, .ref q_41, .ref q_46, .ref q_51, .ref q_56, .ref q_61, .int 0, .long 0, .int (-3), .int 0, .ref q_68, .ref q_73, .int 0, .ref q_78, .null, .int 0, .null, .null, .int 0, .int 0])))) H locs := hH
  obtain ⟨f_81, ef_81⟩ : ∃ zz_ : mF, zz_ = va_up f_79 q (some (.inr (6, [.int 0, .ref q_1, .int 0, .ref q_6, .ref q_11, .ref q_16, .ref q_21, .int 0, .ref q_26, .ref q_31, .ref q_36, .ref q_41, .ref q_46, .ref q_51, .ref q_56, .ref q_61, .int 0, .long 0, .int (-3), .int 0, .ref q_68, .ref q_73, .int 0, .ref q_78, .null, .int 0, .null, .null, .int 0, .int 0]))) := ⟨_, rfl⟩
  rw [← ef_81] at hH
  have F_82 : f_81 q = some (.inr (6, [.int 0, .ref q_1, .int 0, .ref q_6, .ref q_11, .ref q_16, .ref q_21, .int 0, .ref q_26, .ref q_31, .ref q_36, .ref q_41, .ref q_46, .ref q_51, .ref q_56, .ref q_61, .int 0, .long 0, .int (-3), .int 0, .ref q_68, .ref q_73, .int 0, .ref q_78, .null, .int 0, .null, .null, .int 0, .int 0])) := by rw [ef_81]; exact va_up_self _ _ _
  have hL := hL.put ef_81
  refine lv_aload_n hx hb dX6_init_150 rfl (lv_at hl 0 rfl) ?_
  refine lv_bipush (v := 24) hx hb dX6_init_151 (by decide) ?_
  refine m_newa (atype := .boolean) (cA := gk G 2) (N' := 24) (a0 := (24, .inl (fun _ => 0))) hx hb hC hH (hts (.arrayClass .boolean) (by decide +kernel)) (hC.2.1.1.2 2 _ rfl).2 rfl (by decide) (by decide) (by decide) (by show _ ≤ 19; omega) (by show _ ≤ 83062; omega) dX6_init_153 (fun q_83 H hlt_q_83 hge_q_83 hno_q_83 hH => ?_)
  obtain ⟨f_84, ef_84⟩ : ∃ zz_ : mF, zz_ = va_up f_81 q_83 (some (.inl (gk G 2, 24, .inl (fun _ => 0)))) := ⟨_, rfl⟩
  rw [← ef_84] at hH
  have hL := hL.new F_82 ef_84 hlt_q_83
  have F_85 := upk F_82 ef_84 (Nat.ne_of_lt (hlt_q_83 _ _ F_82))
  refine m_putF (ci := 6) (v := .ref q_83) (C := RX6) (T := TX6) (N := 30) hx hb hC hH hts in_X6_init_X6 tyX6 tyX6_ok nmX6 hown F_85 rfl 24 (by decide) (hts (.fieldLink RX6 65 "LazyStateModel" "isLoaded" "[Z") (by decide +kernel)) rfl hnm rfl rfl rfl (Nat.le_of_ble_eq_true rfl) dX6_init_155 (fun H locs hH => ?_)
  have hH : mH G s (va_up f_84 q (some (.inr (6, [.int 0, .ref q_1, .int 0, .ref q_6, .ref q_11, .ref q_16, .ref q_21, .int 0, .ref q_26, .ref q_31, .ref q_36, .ref q_41, .ref q_46, .ref q_51, .ref q_56, .ref q_61, .int 0, .long 0, .int (-3), .int 0, .ref q_68, .ref q_73, .int 0, .ref q_78, .ref q_83, .int 0, .null, .null, .int 0, .int 0])))) H locs := hH
  obtain ⟨f_86, ef_86⟩ : ∃ zz_ : mF, zz_ = va_up f_84 q (some (.inr (6, [.int 0, .ref q_1, .int 0, .ref q_6, .ref q_11, .ref q_16, .ref q_21, .int 0, .ref q_26, .ref q_31, .ref q_36, .ref q_41, .ref q_46, .ref q_51, .ref q_56, .ref q_61, .int 0, .long 0, .int (-3), .int 0, .ref q_68, .ref q_73, .int 0, .ref q_78, .ref q_83, .int 0, .null, .null, .int 0, .int 0]))) := ⟨_, rfl⟩
  rw [← ef_86] at hH
  have F_87 : f_86 q = some (.inr (6, [.int 0, .ref q_1, .int 0, .ref q_6, .ref q_11, .ref q_16, .ref q_21, .int 0, .ref q_26, .ref q_31, .ref q_36, .ref q_41, .ref q_46, .ref q_51, .ref q_56, .ref q_61, .int 0, .long 0, .int (-3), .int 0, .ref q_68, .ref q_73, .int 0, .ref q_78, .ref q_83, .int 0, .null, .null, .int 0, .int 0])) := by rw [ef_86]; exact va_up_self _ _ _
  have hL := hL.put ef_86
  refine lv_aload_n hx hb dX6_init_158 rfl (lv_at hl 0 rfl) ?_
  refine lv_iconst (v := 4) hx hb dX6_init_159 (by decide) ?_
  refine m_newa (atype := .int) (cA := gk G 0) (N' := 4) (a0 := (4, .inl (fun _ => 0))) hx hb hC hH (hts (.arrayClass .int) (by decide +kernel)) (hC.2.1.1.2 0 _ rfl).2 rfl (by decide) (by decide) (by decide) (by show _ ≤ 19; omega) (by show _ ≤ 83062; omega) dX6_init_160 (fun q_88 H hlt_q_88 hge_q_88 hno_q_88 hH => ?_)
  obtain ⟨f_89, ef_89⟩ : ∃ zz_ : mF, zz_ = va_up f_86 q_88 (some (.inl (gk G 0, 4, .inl (fun _ => 0)))) := ⟨_, rfl⟩
  rw [← ef_89] at hH
  have hL := hL.new F_87 ef_89 hlt_q_88
  have F_90 := upk F_87 ef_89 (Nat.ne_of_lt (hlt_q_88 _ _ F_87))
  refine m_putF (ci := 6) (v := .ref q_88) (C := RX6) (T := TX6) (N := 30) hx hb hC hH hts in_X6_init_X6 tyX6 tyX6_ok nmX6 hown F_90 rfl 26 (by decide) (hts (.fieldLink RX6 68 "LazyStateModel" "handles" "[I") (by decide +kernel)) rfl hnm rfl rfl rfl (Nat.le_of_ble_eq_true rfl) dX6_init_162 (fun H locs hH => ?_)
  have hH : mH G s (va_up f_89 q (some (.inr (6, [.int 0, .ref q_1, .int 0, .ref q_6, .ref q_11, .ref q_16, .ref q_21, .int 0, .ref q_26, .ref q_31, .ref q_36, .ref q_41, .ref q_46, .ref q_51, .ref q_56, .ref q_61, .int 0, .long 0, .int (-3), .int 0, .ref q_68, .ref q_73, .int 0, .ref q_78, .ref q_83, .int 0, .ref q_88, .null, .int 0, .int 0])))) H locs := hH
  obtain ⟨f_91, ef_91⟩ : ∃ zz_ : mF, zz_ = va_up f_89 q (some (.inr (6, [.int 0, .ref q_1, .int 0, .ref q_6, .ref q_11, .ref q_16, .ref q_21, .int 0, .ref q_26, .ref q_31, .ref q_36, .ref q_41, .ref q_46, .ref q_51, .ref q_56, .ref q_61, .int 0, .long 0, .int (-3), .int 0, .ref q_68, .ref q_73, .int 0, .ref q_78, .ref q_83, .int 0, .ref q_88, .null, .int 0, .int 0]))) := ⟨_, rfl⟩
  rw [← ef_91] at hH
  have F_92 : f_91 q = some (.inr (6, [.int 0, .ref q_1, .int 0, .ref q_6, .ref q_11, .ref q_16, .ref q_21, .int 0, .ref q_26, .ref q_31, .ref q_36, .ref q_41, .ref q_46, .ref q_51, .ref q_56, .ref q_61, .int 0, .long 0, .int (-3), .int 0, .ref q_68, .ref q_73, .int 0, .ref q_78, .ref q_83, .int 0, .ref q_88, .null, .int 0, .int 0])) := by rw [ef_91]; exact va_up_self _ _ _
  have hL := hL.put ef_91
  refine lv_aload_n hx hb dX6_init_165 rfl (lv_at hl 0 rfl) ?_
  refine lv_iconst (v := 4) hx hb dX6_init_166 (by decide) ?_
  refine m_newa (atype := .long) (cA := gk G 1) (N' := 4) (a0 := (4, .inr (.inl (fun _ => 0)))) hx hb hC hH (hts (.arrayClass .long) (by decide +kernel)) (hC.2.1.1.2 1 _ rfl).2 rfl (by decide) (by decide) (by decide) (by show _ ≤ 19; omega) (by show _ ≤ 83062; omega) dX6_init_167 (fun q_93 H hlt_q_93 hge_q_93 hno_q_93 hH => ?_)
  obtain ⟨f_94, ef_94⟩ : ∃ zz_ : mF, zz_ = va_up f_91 q_93 (some (.inl (gk G 1, 4, .inr (.inl (fun _ => 0))))) := ⟨_, rfl⟩
  rw [← ef_94] at hH
  have hL := hL.new F_92 ef_94 hlt_q_93
  have F_95 := upk F_92 ef_94 (Nat.ne_of_lt (hlt_q_93 _ _ F_92))
  refine m_putF (ci := 6) (v := .ref q_93) (C := RX6) (T := TX6) (N := 30) hx hb hC hH hts in_X6_init_X6 tyX6 tyX6_ok nmX6 hown F_95 rfl 27 (by decide) (hts (.fieldLink RX6 71 "LazyStateModel" "values" "[J") (by decide +kernel)) rfl hnm rfl rfl rfl (Nat.le_of_ble_eq_true rfl) dX6_init_169 (fun H locs hH => ?_)
  have hH : mH G s (va_up f_94 q (some (.inr (6, [.int 0, .ref q_1, .int 0, .ref q_6, .ref q_11, .ref q_16, .ref q_21, .int 0, .ref q_26, .ref q_31, .ref q_36, .ref q_41, .ref q_46, .ref q_51, .ref q_56, .ref q_61, .int 0, .long 0, .int (-3), .int 0, .ref q_68, .ref q_73, .int 0, .ref q_78, .ref q_83, .int 0, .ref q_88, .ref q_93, .int 0, .int 0])))) H locs := hH
  obtain ⟨f_96, ef_96⟩ : ∃ zz_ : mF, zz_ = va_up f_94 q (some (.inr (6, [.int 0, .ref q_1, .int 0, .ref q_6, .ref q_11, .ref q_16, .ref q_21, .int 0, .ref q_26, .ref q_31, .ref q_36, .ref q_41, .ref q_46, .ref q_51, .ref q_56, .ref q_61, .int 0, .long 0, .int (-3), .int 0, .ref q_68, .ref q_73, .int 0, .ref q_78, .ref q_83, .int 0, .ref q_88, .ref q_93, .int 0, .int 0]))) := ⟨_, rfl⟩
  rw [← ef_96] at hH
  have F_97 : f_96 q = some (.inr (6, [.int 0, .ref q_1, .int 0, .ref q_6, .ref q_11, .ref q_16, .ref q_21, .int 0, .ref q_26, .ref q_31, .ref q_36, .ref q_41, .ref q_46, .ref q_51, .ref q_56, .ref q_61, .int 0, .long 0, .int (-3), .int 0, .ref q_68, .ref q_73, .int 0, .ref q_78, .ref q_83, .int 0, .ref q_88, .ref q_93, .int 0, .int 0])) := by rw [ef_96]; exact va_up_self _ _ _
  have hL := hL.put ef_96
  exact m_vret hx hb hr hlk hC hH (fun _ => (0, 0)) ⟨q_1, q_6, q_11, q_16, q_21, q_26, q_31, q_36, q_41, q_46, q_51, q_56, q_61, q_68, q_73, q_78, q_83, q_88, q_93, F_97, hL⟩ (by omega) (by omega) dX6_init_172
