set_option maxHeartbeats 4000000 in
set_option maxRecDepth 100000 in
theorem c_X1_init (l : Launch) (G : mG) (f : mF) (q : Nat) (Fq : f q = some (.inr (1, [.null, .int 0]))) : Met l yX1_init wsX1_init ({ frames := 1, cells := 1, slots := 32, locals := 20 }) (va_Pc [.ref q] (mW G f)) (va_Qv (fun (u : mS) => ∃ a0_ : Nat, u.2 q = some (.inr (1, [.ref a0_, .int 0])) ∧ inL q f [(a0_, .inl (gk G 5, 32, .inr (.inr (.inr (.inr (fun _ => none))))))] u.2) (fun (u : mS) t => mW G u.2 t) (mA G)) 1 32 (mA G) := by
  refine mMet [.ref q] (cc := cX1_init) (maxL := 1) (ret := none) (by decide) rfl (Nat.le_of_ble_eq_true rfl) ?_
  intro p e s m below meth c ls hx hb hr hml hts hown hlk hnm hC hH hl
  have hl : lv_has ls 1 [(0, .ref q)] := hl
  have hL : inL q f [] f := inL.nil
  refine lv_aload_n hx hb dX1_init_0 rfl (lv_at hl 0 rfl) ?_
  refine W.objInit hx hb hown (hts (.methodLink RX1 3 objectInit) (by decide +kernel)) (hts (.instanceMethod objectInit) (by decide +kernel)) (hts (.code objectInit ⟨#[0xb1]⟩ 1 none) (by decide +kernel)) rfl (hl.1.trans hml.symm) rfl dX1_init_1 (Nat.le_of_ble_eq_true rfl) (Nat.le_of_ble_eq_true rfl) ?_
  refine lv_aload_n hx hb dX1_init_4 rfl (lv_at hl 0 rfl) ?_
  refine lv_bipush (v := 32) hx hb dX1_init_5 (by decide) ?_
  refine m_newq (C := RX0) (cA := gk G 5) (N' := 32) hx hb hC hH hown (hts (.classLink RX1 9 RX0) (by decide +kernel)) hC.2.1.2.2.2.2.2.2.2 (va_nmO (hC.2.1.1.2 5 _ rfl).2 rfl) (by decide) (by decide) (by decide) (by show _ ≤ 1; omega) (by show _ ≤ 32; omega) dX1_init_7 (fun q_1 H hlt_q_1 hge_q_1 hno_q_1 hH => ?_)
  obtain ⟨f_2, ef_2⟩ : ∃ zz_ : mF, zz_ = va_up f q_1 (some (.inl (gk G 5, 32, .inr (.inr (.inr (.inr (fun _ => none))))))) := ⟨_, rfl⟩
  rw [← ef_2] at hH
  have hL := hL.new Fq ef_2 hlt_q_1
  have F_3 := upk Fq ef_2 (Nat.ne_of_lt (hlt_q_1 _ _ Fq))
  refine m_putF (ci := 1) (v := .ref q_1) (C := RX1) (T := TX1) (N := 2) hx hb hC hH hts in_X1_init_X1 tyX1 tyX1_ok nmX1 hown F_3 rfl 0 (by decide) (hts (.fieldLink RX1 11 "LazyState$Behaviour" "acts" "[LLazyState$Act;") (by decide +kernel)) rfl hnm rfl rfl rfl (Nat.le_of_ble_eq_true rfl) dX1_init_10 (fun H locs hH => ?_)
  have hH : mH G s (va_up f_2 q (some (.inr (1, [.ref q_1, .int 0])))) H locs := hH
  obtain ⟨f_4, ef_4⟩ : ∃ zz_ : mF, zz_ = va_up f_2 q (some (.inr (1, [.ref q_1, .int 0]))) := ⟨_, rfl⟩
  rw [← ef_4] at hH
  have F_5 : f_4 q = some (.inr (1, [.ref q_1, .int 0])) := by rw [ef_4]; exact va_up_self _ _ _
  have hL := hL.put ef_4
  exact m_vret hx hb hr hlk hC hH (fun _ => (0, 0)) ⟨q_1, F_5, hL⟩ (by omega) (by omega) dX1_init_13
set_option maxHeartbeats 4000000 in
set_option maxRecDepth 100000 in
theorem c_X4_init (l : Launch) (G : mG) (f : mF) (q : Nat) (Fq : f q = some (.inr (4, [.null, .int 0, .int 0, .null, .null]))) : Met l yX4_init wsX4_init ({ frames := 1, cells := 3, slots := 432, locals := 20 }) (va_Pc [.ref q] (mW G f)) (va_Qv (fun (u : mS) => ∃ a0_ a1_ a2_ : Nat, u.2 q = some (.inr (4, [.ref a0_, .int 0, .int 0, .ref a1_, .ref a2_])) ∧ inL q f [(a2_, .inl (gk G 0, 24, .inl (fun _ => 0))), (a1_, .inl (gk G 0, 24, .inl (fun _ => 0))), (a0_, .inl (gk G 0, 384, .inl (fun _ => 0)))] u.2) (fun (u : mS) t => mW G u.2 t) (mA G)) 3 432 (mA G) := by
  refine mMet [.ref q] (cc := cX4_init) (maxL := 1) (ret := none) (by decide) rfl (Nat.le_of_ble_eq_true rfl) ?_
  intro p e s m below meth c ls hx hb hr hml hts hown hlk hnm hC hH hl
  have hl : lv_has ls 1 [(0, .ref q)] := hl
  have hL : inL q f [] f := inL.nil
  refine lv_aload_n hx hb dX4_init_0 rfl (lv_at hl 0 rfl) ?_
  refine W.objInit hx hb hown (hts (.methodLink RX4 3 objectInit) (by decide +kernel)) (hts (.instanceMethod objectInit) (by decide +kernel)) (hts (.code objectInit ⟨#[0xb1]⟩ 1 none) (by decide +kernel)) rfl (hl.1.trans hml.symm) rfl dX4_init_1 (Nat.le_of_ble_eq_true rfl) (Nat.le_of_ble_eq_true rfl) ?_
  refine lv_aload_n hx hb dX4_init_4 rfl (lv_at hl 0 rfl) ?_
  refine lv_sipush (v := 384) hx hb dX4_init_5 (by decide) ?_
  refine m_newa (atype := .int) (cA := gk G 0) (N' := 384) (a0 := (384, .inl (fun _ => 0))) hx hb hC hH (hts (.arrayClass .int) (by decide +kernel)) (hC.2.1.1.2 0 _ rfl).2 rfl (by decide) (by decide) (by decide) (by show _ ≤ 3; omega) (by show _ ≤ 432; omega) dX4_init_8 (fun q_1 H hlt_q_1 hge_q_1 hno_q_1 hH => ?_)
  obtain ⟨f_2, ef_2⟩ : ∃ zz_ : mF, zz_ = va_up f q_1 (some (.inl (gk G 0, 384, .inl (fun _ => 0)))) := ⟨_, rfl⟩
  rw [← ef_2] at hH
  have hL := hL.new Fq ef_2 hlt_q_1
  have F_3 := upk Fq ef_2 (Nat.ne_of_lt (hlt_q_1 _ _ Fq))
  refine m_putF (ci := 4) (v := .ref q_1) (C := RX4) (T := TX4) (N := 5) hx hb hC hH hts in_X4_init_X4 tyX4 tyX4_ok nmX4 hown F_3 rfl 0 (by decide) (hts (.fieldLink RX4 9 "LazyState$Trace" "entries" "[I") (by decide +kernel)) rfl hnm rfl rfl rfl (Nat.le_of_ble_eq_true rfl) dX4_init_10 (fun H locs hH => ?_)
  have hH : mH G s (va_up f_2 q (some (.inr (4, [.ref q_1, .int 0, .int 0, .null, .null])))) H locs := hH
  obtain ⟨f_4, ef_4⟩ : ∃ zz_ : mF, zz_ = va_up f_2 q (some (.inr (4, [.ref q_1, .int 0, .int 0, .null, .null]))) := ⟨_, rfl⟩
  rw [← ef_4] at hH
  have F_5 : f_4 q = some (.inr (4, [.ref q_1, .int 0, .int 0, .null, .null])) := by rw [ef_4]; exact va_up_self _ _ _
  have hL := hL.put ef_4
  refine lv_aload_n hx hb dX4_init_13 rfl (lv_at hl 0 rfl) ?_
  refine lv_bipush (v := 24) hx hb dX4_init_14 (by decide) ?_
  refine m_newa (atype := .int) (cA := gk G 0) (N' := 24) (a0 := (24, .inl (fun _ => 0))) hx hb hC hH (hts (.arrayClass .int) (by decide +kernel)) (hC.2.1.1.2 0 _ rfl).2 rfl (by decide) (by decide) (by decide) (by show _ ≤ 3; omega) (by show _ ≤ 432; omega) dX4_init_16 (fun q_6 H hlt_q_6 hge_q_6 hno_q_6 hH => ?_)
  obtain ⟨f_7, ef_7⟩ : ∃ zz_ : mF, zz_ = va_up f_4 q_6 (some (.inl (gk G 0, 24, .inl (fun _ => 0)))) := ⟨_, rfl⟩
  rw [← ef_7] at hH
  have hL := hL.new F_5 ef_7 hlt_q_6
  have F_8 := upk F_5 ef_7 (Nat.ne_of_lt (hlt_q_6 _ _ F_5))
  refine m_putF (ci := 4) (v := .ref q_6) (C := RX4) (T := TX4) (N := 5) hx hb hC hH hts in_X4_init_X4 tyX4 tyX4_ok nmX4 hown F_8 rfl 3 (by decide) (hts (.fieldLink RX4 15 "LazyState$Trace" "readBits" "[I") (by decide +kernel)) rfl hnm rfl rfl rfl (Nat.le_of_ble_eq_true rfl) dX4_init_18 (fun H locs hH => ?_)
  have hH : mH G s (va_up f_7 q (some (.inr (4, [.ref q_1, .int 0, .int 0, .ref q_6, .null])))) H locs := hH
  obtain ⟨f_9, ef_9⟩ : ∃ zz_ : mF, zz_ = va_up f_7 q (some (.inr (4, [.ref q_1, .int 0, .int 0, .ref q_6, .null]))) := ⟨_, rfl⟩
  rw [← ef_9] at hH
  have F_10 : f_9 q = some (.inr (4, [.ref q_1, .int 0, .int 0, .ref q_6, .null])) := by rw [ef_9]; exact va_up_self _ _ _
  have hL := hL.put ef_9
  refine lv_aload_n hx hb dX4_init_21 rfl (lv_at hl 0 rfl) ?_
  refine lv_bipush (v := 24) hx hb dX4_init_22 (by decide) ?_
  refine m_newa (atype := .int) (cA := gk G 0) (N' := 24) (a0 := (24, .inl (fun _ => 0))) hx hb hC hH (hts (.arrayClass .int) (by decide +kernel)) (hC.2.1.1.2 0 _ rfl).2 rfl (by decide) (by decide) (by decide) (by show _ ≤ 3; omega) (by show _ ≤ 432; omega) dX4_init_24 (fun q_11 H hlt_q_11 hge_q_11 hno_q_11 hH => ?_)
  obtain ⟨f_12, ef_12⟩ : ∃ zz_ : mF, zz_ = va_up f_9 q_11 (some (.inl (gk G 0, 24, .inl (fun _ => 0)))) := ⟨_, rfl⟩
  rw [← ef_12] at hH
  have hL := hL.new F_10 ef_12 hlt_q_11
  have F_13 := upk F_10 ef_12 (Nat.ne_of_lt (hlt_q_11 _ _ F_10))
  refine m_putF (ci := 4) (v := .ref q_11) (C := RX4) (T := TX4) (N := 5) hx hb hC hH hts in_X4_init_X4 tyX4 tyX4_ok nmX4 hown F_13 rfl 4 (by decide) (hts (.fieldLink RX4 18 "LazyState$Trace" "changedBits" "[I") (by decide +kernel)) rfl hnm rfl rfl rfl (Nat.le_of_ble_eq_true rfl) dX4_init_26 (fun H locs hH => ?_)
  have hH : mH G s (va_up f_12 q (some (.inr (4, [.ref q_1, .int 0, .int 0, .ref q_6, .ref q_11])))) H locs := hH
  obtain ⟨f_14, ef_14⟩ : ∃ zz_ : mF, zz_ = va_up f_12 q (some (.inr (4, [.ref q_1, .int 0, .int 0, .ref q_6, .ref q_11]))) := ⟨_, rfl⟩
  rw [← ef_14] at hH
  have F_15 : f_14 q = some (.inr (4, [.ref q_1, .int 0, .int 0, .ref q_6, .ref q_11])) := by rw [ef_14]; exact va_up_self _ _ _
  have hL := hL.put ef_14
  exact m_vret hx hb hr hlk hC hH (fun _ => (0, 0)) ⟨q_1, q_6, q_11, F_15, hL⟩ (by omega) (by omega) dX4_init_29
set_option maxHeartbeats 4000000 in
set_option maxRecDepth 100000 in
theorem c_X3_init (l : Launch) (G : mG) (f : mF) (q : Nat) (Fq : f q = some (.inr (3, [.null, .int 0, .int 0, .long 0, .int 0, .int 0, .null, .null, .null, .null, .int 0]))) : Met l yX3_init wsX3_init ({ frames := 2, cells := 7, slots := 469, locals := 40 }) (va_Pc [.ref q] (mW G f)) (va_Qv (fun (u : mS) => ∃ a0_ a1_ a2_ a3_ a4_ a5_ a6_ : Nat, u.2 q = some (.inr (3, [.ref a0_, .int 0, .int 0, .long 0, .int 0, .int (-3), .null, .ref a4_, .ref a5_, .ref a6_, .int 0])) ∧ inL q f [(a6_, .inl (gk G 1, 4, .inr (.inl (fun _ => 0)))), (a5_, .inl (gk G 0, 4, .inl (fun _ => 0))), (a4_, .inl (gk G 3, 24, .inr (.inr (.inr (.inr (fun _ => none)))))), (a3_, .inl (gk G 0, 24, .inl (fun _ => 0))), (a2_, .inl (gk G 0, 24, .inl (fun _ => 0))), (a1_, .inl (gk G 0, 384, .inl (fun _ => 0))), (a0_, .inr (4, [.ref a1_, .int 0, .int 0, .ref a2_, .ref a3_]))] u.2) (fun (u : mS) t => mW G u.2 t) (mA G)) 7 469 (mA G) := by
  refine mMet [.ref q] (cc := cX3_init) (maxL := 1) (ret := none) (by decide) rfl (Nat.le_of_ble_eq_true rfl) ?_
  intro p e s m below meth c ls hx hb hr hml hts hown hlk hnm hC hH hl
  have hl : lv_has ls 1 [(0, .ref q)] := hl
  have hL : inL q f [] f := inL.nil
  refine lv_aload_n hx hb dX3_init_0 rfl (lv_at hl 0 rfl) ?_
  refine W.objInit hx hb hown (hts (.methodLink RX3 3 objectInit) (by decide +kernel)) (hts (.instanceMethod objectInit) (by decide +kernel)) (hts (.code objectInit ⟨#[0xb1]⟩ 1 none) (by decide +kernel)) rfl (hl.1.trans hml.symm) rfl dX3_init_1 (Nat.le_of_ble_eq_true rfl) (Nat.le_of_ble_eq_true rfl) ?_
  refine lv_aload_n hx hb dX3_init_4 rfl (lv_at hl 0 rfl) ?_
  refine m_new (ci := 4) (fs := [.null, .int 0, .int 0, .null, .null]) hx hb hC hH hts in_X3_init_X4 tyX4 tyX4_ok hown (hts (.classLink RX3 9 RX4) (by decide +kernel)) (hts (.instantiable RX4 5) (by decide +kernel)) (hts (.initialized RX4) (by decide +kernel)) rfl (by decide) (by show _ ≤ 7; omega) (by show _ ≤ 469; omega) dX3_init_5 (fun q_1 H hlt_q_1 hge_q_1 hno_q_1 hH => ?_)
  obtain ⟨f_2, ef_2⟩ : ∃ zz_ : mF, zz_ = va_up f q_1 (some (.inr (4, [.null, .int 0, .int 0, .null, .null]))) := ⟨_, rfl⟩
  rw [← ef_2] at hH
  have hL := hL.new Fq ef_2 hlt_q_1
  have F_3 := upk Fq ef_2 (Nat.ne_of_lt (hlt_q_1 _ _ Fq))
  refine lv_dup hx hb dX3_init_8 rfl ?_
  refine m_gov hH (va_runIN (As := []) (rest := [.ref q_1, .ref q]) ⟨hx, hb, hml, hown, hts⟩ (c_X4_init l G f_2 q_1 (hL.at 0 rfl)) ⟨va_cnB 0 hts gX3_init_X4_init_n11 rfl rfl rfl hC.2.1.2.2.2.1 (hts (.initialized RX4) (by decide +kernel)) (by decide +kernel) ⟨Nat.le_of_ble_eq_true rfl, Nat.le_of_ble_eq_true rfl⟩, rfl, (hts (.instanceMethod yX4_init) (by decide +kernel))⟩ (m_preS hC hH) rfl rfl hl.1 rfl (lv_room (Nat.le_of_ble_eq_true rfl)) dX3_init_9 ⟨by show _ ≤ 7; omega, by show _ ≤ 469; omega⟩) (fun rho_7 f_6 H locs hw hH => ?_)
  obtain ⟨u4_0, u4_1, u4_2, Fn_u4, hL1⟩ := hw
  have Fn_u4 : f_6 q_1 = some (.inr (4, [.ref u4_0, .int 0, .int 0, .ref u4_1, .ref u4_2])) := Fn_u4
  have hL1 : inL q_1 f_2 [(u4_2, .inl (gk G 0, 24, .inl (fun _ => 0))), (u4_1, .inl (gk G 0, 24, .inl (fun _ => 0))), (u4_0, .inl (gk G 0, 384, .inl (fun _ => 0)))] f_6 := hL1
  have F_8 := hL1.2.2.2.2 _ _ (Nat.ne_of_lt (hL.lt 0 rfl)) F_3
  have hL : inL q f [(u4_2, .inl (gk G 0, 24, .inl (fun _ => 0))), (u4_1, .inl (gk G 0, 24, .inl (fun _ => 0))), (u4_0, .inl (gk G 0, 384, .inl (fun _ => 0))), (q_1, .inr (4, [.ref u4_0, .int 0, .int 0, .ref u4_1, .ref u4_2]))] f_6 := hL.call hL1 Fn_u4
  refine m_putF (ci := 3) (v := .ref q_1) (C := RX3) (T := TX3) (N := 11) hx hb hC hH hts in_X3_init_X3 tyX3 tyX3_ok nmX3 hown F_8 rfl 0 (by decide) (hts (.fieldLink RX3 12 "LazyState$Run" "trace" "LLazyState$Trace;") (by decide +kernel)) rfl hnm rfl rfl rfl (Nat.le_of_ble_eq_true rfl) dX3_init_12 (fun H locs hH => ?_)
  have hH : mH G s (va_up f_6 q (some (.inr (3, [.ref q_1, .int 0, .int 0, .long 0, .int 0, .int 0, .null, .null, .null, .null, .int 0])))) H locs := hH
  obtain ⟨f_9, ef_9⟩ : ∃ zz_ : mF, zz_ = va_up f_6 q (some (.inr (3, [.ref q_1, .int 0, .int 0, .long 0, .int 0, .int 0, .null, .null, .null, .null, .int 0]))) := ⟨_, rfl⟩
  rw [← ef_9] at hH
  have F_10 : f_9 q = some (.inr (3, [.ref q_1, .int 0, .int 0, .long 0, .int 0, .int 0, .null, .null, .null, .null, .int 0])) := by rw [ef_9]; exact va_up_self _ _ _
  have hL := hL.put ef_9
  refine lv_aload_n hx hb dX3_init_15 rfl (lv_at hl 0 rfl) ?_
  refine lv_bipush (v := (-3)) hx hb dX3_init_16 (by decide) ?_
  refine m_put (ci := 3) (v := .int (-3)) (C := RX3) (T := TX3) (N := 11) hx hb hC hH hts in_X3_init_X3 tyX3 tyX3_ok nmX3 hown F_10 rfl 5 (by decide) (hts (.fieldLink RX3 18 "LazyState$Run" "thrownAt" "I") (by decide +kernel)) rfl rfl rfl (Nat.le_of_ble_eq_true rfl) dX3_init_18 (fun H locs hH => ?_)
  have hH : mH G s (va_up f_9 q (some (.inr (3, [.ref q_1, .int 0, .int 0, .long 0, .int 0, .int (-3), .null, .null, .null, .null, .int 0])))) H locs := hH
  obtain ⟨f_11, ef_11⟩ : ∃ zz_ : mF, zz_ = va_up f_9 q (some (.inr (3, [.ref q_1, .int 0, .int 0, .long 0, .int 0, .int (-3), .null, .null, .null, .null, .int 0]))) := ⟨_, rfl⟩
  rw [← ef_11] at hH
  have F_12 : f_11 q = some (.inr (3, [.ref q_1, .int 0, .int 0, .long 0, .int 0, .int (-3), .null, .null, .null, .null, .int 0])) := by rw [ef_11]; exact va_up_self _ _ _
  have hL := hL.put ef_11
  refine lv_aload_n hx hb dX3_init_21 rfl (lv_at hl 0 rfl) ?_
  refine lv_bipush (v := 24) hx hb dX3_init_22 (by decide) ?_
  refine m_newq (C := RX2) (cA := gk G 3) (N' := 24) hx hb hC hH hown (hts (.classLink RX3 22 RX2) (by decide +kernel)) hC.2.1.2.2.2.2.2.1 (va_nmO (hC.2.1.1.2 3 _ rfl).2 rfl) (by decide) (by decide) (by decide) (by show _ ≤ 7; omega) (by show _ ≤ 469; omega) dX3_init_24 (fun q_13 H hlt_q_13 hge_q_13 hno_q_13 hH => ?_)
  obtain ⟨f_14, ef_14⟩ : ∃ zz_ : mF, zz_ = va_up f_11 q_13 (some (.inl (gk G 3, 24, .inr (.inr (.inr (.inr (fun _ => none))))))) := ⟨_, rfl⟩
  rw [← ef_14] at hH
  have hL := hL.new F_12 ef_14 hlt_q_13
  have F_15 := upk F_12 ef_14 (Nat.ne_of_lt (hlt_q_13 _ _ F_12))
  refine m_putF (ci := 3) (v := .ref q_13) (C := RX3) (T := TX3) (N := 11) hx hb hC hH hts in_X3_init_X3 tyX3 tyX3_ok nmX3 hown F_15 rfl 7 (by decide) (hts (.fieldLink RX3 24 "LazyState$Run" "copies" "[LLazyState$Body;") (by decide +kernel)) rfl hnm rfl rfl rfl (Nat.le_of_ble_eq_true rfl) dX3_init_27 (fun H locs hH => ?_)
  have hH : mH G s (va_up f_14 q (some (.inr (3, [.ref q_1, .int 0, .int 0, .long 0, .int 0, .int (-3), .null, .ref q_13, .null, .null, .int 0])))) H locs := hH
  obtain ⟨f_16, ef_16⟩ : ∃ zz_ : mF, zz_ = va_up f_14 q (some (.inr (3, [.ref q_1, .int 0, .int 0, .long 0, .int 0, .int (-3), .null, .ref q_13, .null, .null, .int 0]))) := ⟨_, rfl⟩
  rw [← ef_16] at hH
  have F_17 : f_16 q = some (.inr (3, [.ref q_1, .int 0, .int 0, .long 0, .int 0, .int (-3), .null, .ref q_13, .null, .null, .int 0])) := by rw [ef_16]; exact va_up_self _ _ _
  have hL := hL.put ef_16
  refine lv_aload_n hx hb dX3_init_30 rfl (lv_at hl 0 rfl) ?_
  refine lv_iconst (v := 4) hx hb dX3_init_31 (by decide) ?_
  refine m_newa (atype := .int) (cA := gk G 0) (N' := 4) (a0 := (4, .inl (fun _ => 0))) hx hb hC hH (hts (.arrayClass .int) (by decide +kernel)) (hC.2.1.1.2 0 _ rfl).2 rfl (by decide) (by decide) (by decide) (by show _ ≤ 7; omega) (by show _ ≤ 469; omega) dX3_init_32 (fun q_18 H hlt_q_18 hge_q_18 hno_q_18 hH => ?_)
  obtain ⟨f_19, ef_19⟩ : ∃ zz_ : mF, zz_ = va_up f_16 q_18 (some (.inl (gk G 0, 4, .inl (fun _ => 0)))) := ⟨_, rfl⟩
  rw [← ef_19] at hH
  have hL := hL.new F_17 ef_19 hlt_q_18
  have F_20 := upk F_17 ef_19 (Nat.ne_of_lt (hlt_q_18 _ _ F_17))
  refine m_putF (ci := 3) (v := .ref q_18) (C := RX3) (T := TX3) (N := 11) hx hb hC hH hts in_X3_init_X3 tyX3 tyX3_ok nmX3 hown F_20 rfl 8 (by decide) (hts (.fieldLink RX3 28 "LazyState$Run" "handles" "[I") (by decide +kernel)) rfl hnm rfl rfl rfl (Nat.le_of_ble_eq_true rfl) dX3_init_34 (fun H locs hH => ?_)
  have hH : mH G s (va_up f_19 q (some (.inr (3, [.ref q_1, .int 0, .int 0, .long 0, .int 0, .int (-3), .null, .ref q_13, .ref q_18, .null, .int 0])))) H locs := hH
  obtain ⟨f_21, ef_21⟩ : ∃ zz_ : mF, zz_ = va_up f_19 q (some (.inr (3, [.ref q_1, .int 0, .int 0, .long 0, .int 0, .int (-3), .null, .ref q_13, .ref q_18, .null, .int 0]))) := ⟨_, rfl⟩
  rw [← ef_21] at hH
  have F_22 : f_21 q = some (.inr (3, [.ref q_1, .int 0, .int 0, .long 0, .int 0, .int (-3), .null, .ref q_13, .ref q_18, .null, .int 0])) := by rw [ef_21]; exact va_up_self _ _ _
  have hL := hL.put ef_21
  refine lv_aload_n hx hb dX3_init_37 rfl (lv_at hl 0 rfl) ?_
  refine lv_iconst (v := 4) hx hb dX3_init_38 (by decide) ?_
  refine m_newa (atype := .long) (cA := gk G 1) (N' := 4) (a0 := (4, .inr (.inl (fun _ => 0)))) hx hb hC hH (hts (.arrayClass .long) (by decide +kernel)) (hC.2.1.1.2 1 _ rfl).2 rfl (by decide) (by decide) (by decide) (by show _ ≤ 7; omega) (by show _ ≤ 469; omega) dX3_init_39 (fun q_23 H hlt_q_23 hge_q_23 hno_q_23 hH => ?_)
  obtain ⟨f_24, ef_24⟩ : ∃ zz_ : mF, zz_ = va_up f_21 q_23 (some (.inl (gk G 1, 4, .inr (.inl (fun _ => 0))))) := ⟨_, rfl⟩
  rw [← ef_24] at hH
  have hL := hL.new F_22 ef_24 hlt_q_23
  have F_25 := upk F_22 ef_24 (Nat.ne_of_lt (hlt_q_23 _ _ F_22))
  refine m_putF (ci := 3) (v := .ref q_23) (C := RX3) (T := TX3) (N := 11) hx hb hC hH hts in_X3_init_X3 tyX3 tyX3_ok nmX3 hown F_25 rfl 9 (by decide) (hts (.fieldLink RX3 32 "LazyState$Run" "values" "[J") (by decide +kernel)) rfl hnm rfl rfl rfl (Nat.le_of_ble_eq_true rfl) dX3_init_41 (fun H locs hH => ?_)
  have hH : mH G s (va_up f_24 q (some (.inr (3, [.ref q_1, .int 0, .int 0, .long 0, .int 0, .int (-3), .null, .ref q_13, .ref q_18, .ref q_23, .int 0])))) H locs := hH
  obtain ⟨f_26, ef_26⟩ : ∃ zz_ : mF, zz_ = va_up f_24 q (some (.inr (3, [.ref q_1, .int 0, .int 0, .long 0, .int 0, .int (-3), .null, .ref q_13, .ref q_18, .ref q_23, .int 0]))) := ⟨_, rfl⟩
  rw [← ef_26] at hH
  have F_27 : f_26 q = some (.inr (3, [.ref q_1, .int 0, .int 0, .long 0, .int 0, .int (-3), .null, .ref q_13, .ref q_18, .ref q_23, .int 0])) := by rw [ef_26]; exact va_up_self _ _ _
  have hL := hL.put ef_26
  exact m_vret hx hb hr hlk hC hH (fun _ => (0, 0)) ⟨q_1, u4_0, u4_1, u4_2, q_13, q_18, q_23, F_27, hL⟩ (by omega) (by omega) dX3_init_44
